import java.io.IOException;
import java.nio.file.Files;
import java.nio.file.Path;
import java.util.ArrayList;
import java.util.List;

/** The examples of README.md answer what they say there. */
final class ReadmeTest {
    private static final List<String> RUN = new ArrayList<>();

    public static void main(String[] args) throws IOException {
        Check check = new Check("README.md");
        sunAndSky();
        windowAndWall();
        List<String> told = answersTold();
        check.due("answers told", told.size(), RUN.size());
        for (int k = 0; k < told.size() && k < RUN.size(); k++) {
            check.due("example's line " + (k + 1), RUN.get(k), told.get(k));
        }
        String source = Files.readString(Path.of("src/test/java/ReadmeTest.java"));
        for (String line : codeTold()) {
            check.due("the line " + line + " is run here", source.contains(line), true);
        }
        check.end();
    }

    private static void sunAndSky() {
        SceneEasel easel = new SceneEasel();
        int sky = easel.node(0, 1, 9);
        easel.lengths(sky, 16.0, 12.0);
        int sun = easel.node(0, 2, 14);
        easel.lengths(sun, 2.0, 1.0);
        easel.place(sun, 0.0, 8.0);
        easel.key(sun, 0, 0.0, 0.0);
        easel.key(sun, 0, 10.0, 16.0);
        ran("easel.paint(5.0);", easel.paint(5.0));
        ran("easel.cell(8, 8);", easel.cell(8, 8));
        ran("easel.cell(0, 8);", easel.cell(0, 8));
        ran("easel.top(8.0, 8.0, 5.0);", easel.top(8.0, 8.0, 5.0));
        ran("easel.around(sun, 0, 5.0);", easel.around(sun, 0, 5.0));
    }

    private static void windowAndWall() {
        SceneEasel easel = new SceneEasel();
        int window = easel.node(0, 0, 1);
        easel.mode(window, 1, 1.0);
        easel.place(window, 8.0, 6.0);
        int pane = easel.node(window, 2, 1);
        easel.lengths(pane, 3.0, 1.0);
        int wall = easel.node(window, 0, 1);
        easel.mode(wall, 2, 2.0);
        int tile = easel.node(wall, 3, 7);
        easel.lengths(tile, 2.0, 1.0);
        easel.lay(wall, 1, 0);
        ran("easel.paint(0.0);", easel.paint(0.0));
        ran("easel.cell(7, 6);", easel.cell(7, 6));
        ran("easel.top(7.5, 6.5, 0.0);", easel.top(7.5, 6.5, 0.0));
        ran("easel.around(window, 2, 0.0);", easel.around(window, 2, 0.0));
        ran("easel.remove(wall);", easel.remove(wall));
        ran("easel.paint(0.0);", easel.paint(0.0));
    }

    private static void ran(String call, Object answer) {
        RUN.add(call + " answers " + answer);
    }

    private static List<String> answersTold() throws IOException {
        List<String> told = new ArrayList<>();
        for (String line : Files.readAllLines(Path.of("README.md"))) {
            int comment = line.indexOf("// answers ");
            if (comment >= 0) {
                told.add(line.substring(0, comment).trim() + " " + line.substring(comment + 3));
            }
        }
        return told;
    }

    /** The lines of the Java examples, without what is remarked behind them. */
    private static List<String> codeTold() throws IOException {
        List<String> told = new ArrayList<>();
        boolean inExample = false;
        for (String line : Files.readAllLines(Path.of("README.md"))) {
            if (line.startsWith("```")) {
                inExample = line.equals("```java");
            } else if (inExample) {
                told.add(line.split("//")[0].trim());
            }
        }
        return told;
    }
}
