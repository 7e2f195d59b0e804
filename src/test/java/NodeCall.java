/** Every call that takes a node's number, with other arguments that are right. */
enum NodeCall {
    NODE(true, false, (e, n) -> e.node(n, 1, 1)),
    LENGTHS(false, true, (e, n) -> e.lengths(n, 2.5, 3.5)),
    PLACE(false, false, (e, n) -> e.place(n, 2.5, 3.5)),
    LAY(false, false, (e, n) -> e.lay(n, 2, -1)),
    MODE(true, false, (e, n) -> e.mode(n, 2, 1.5)),
    HIDE(false, false, (e, n) -> e.hide(n, true)),
    KEY(false, false, (e, n) -> e.key(n, 0, 7.0, 2.5)),
    UNKEY(false, false, (e, n) -> {
        // What is there has to have a key frame first; what isn't there is refused here already.
        e.key(n, 1, 7.0, 2.5);
        e.unkey(n, 1);
    }),
    INTO(false, false, (e, n) -> e.into(n, 0)),
    INTO_IT(true, false, (e, n) -> e.into(7, n)),
    REMOVE(false, false, (e, n) -> e.remove(n)),
    AROUND(true, false, (e, n) -> e.around(n, 2, 1.0)),
    TOLD(true, false, (e, n) -> e.told(n, 2));

    /** The root may be given. */
    final boolean forRoot;
    /** Shapes alone may be given. */
    final boolean forShapes;
    private final Range.WholeCall deed;

    NodeCall(boolean forRoot, boolean forShapes, Range.WholeCall deed) {
        this.forRoot = forRoot;
        this.forShapes = forShapes;
        this.deed = deed;
    }

    /** Groups alone may be given. */
    boolean forGroups() {
        return this == NODE || this == MODE || this == INTO_IT;
    }

    void on(SceneEasel easel, int n) {
        deed.on(easel, n);
    }
}
