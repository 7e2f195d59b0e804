section
-- ===== PART A: goes FIRST, ahead of the names: the tables' words, and 'selects' of the private methods out of them =====
/-- a private method of a class that the tables say can be made, by its rows of tables_1 -/
def lw_okq (q : MethodName × Nat) : Prop := (q.1.cls ≠ "java/lang/invoke/MethodHandle" ∧ q.1.cls ≠ "java/lang/invoke/VarHandle") ∧ Cond.instantiable q.1.cls q.2 ∈ tables_1 ∧ Cond.privateMethod q.1 ∈ tables_1 ∧ Cond.instanceMethod q.1 ∈ tables_1
theorem lw_p0 : lw_okq (⟨"SceneEasel", "nodesThere", "()I"⟩, 4) := ⟨⟨by decide +kernel, by decide +kernel⟩, List.mem_of_getElem? (i := 22) (by decide +kernel), List.mem_of_getElem? (i := 202) (by decide +kernel), List.mem_of_getElem? (i := 203) (by decide +kernel)⟩
theorem lw_p1 : lw_okq (⟨"SceneEasel", "framesThere", "()I"⟩, 4) := ⟨⟨by decide +kernel, by decide +kernel⟩, List.mem_of_getElem? (i := 22) (by decide +kernel), List.mem_of_getElem? (i := 206) (by decide +kernel), List.mem_of_getElem? (i := 207) (by decide +kernel)⟩
theorem lw_p2 : lw_okq (⟨"SceneEasel$Node", "frames", "()I"⟩, 20) := ⟨⟨by decide +kernel, by decide +kernel⟩, List.mem_of_getElem? (i := 31) (by decide +kernel), List.mem_of_getElem? (i := 210) (by decide +kernel), List.mem_of_getElem? (i := 211) (by decide +kernel)⟩
theorem lw_p3 : lw_okq (⟨"SceneEasel", "deepestIn", "(LSceneEasel$Node;)I"⟩, 4) := ⟨⟨by decide +kernel, by decide +kernel⟩, List.mem_of_getElem? (i := 22) (by decide +kernel), List.mem_of_getElem? (i := 214) (by decide +kernel), List.mem_of_getElem? (i := 215) (by decide +kernel)⟩
theorem lw_p4 : lw_okq (⟨"SceneEasel$Node", "isIn", "(LSceneEasel$Node;)Z"⟩, 20) := ⟨⟨by decide +kernel, by decide +kernel⟩, List.mem_of_getElem? (i := 31) (by decide +kernel), List.mem_of_getElem? (i := 218) (by decide +kernel), List.mem_of_getElem? (i := 219) (by decide +kernel)⟩
theorem lw_p5 : lw_okq (⟨"SceneEasel$Node", "depth", "()I"⟩, 20) := ⟨⟨by decide +kernel, by decide +kernel⟩, List.mem_of_getElem? (i := 31) (by decide +kernel), List.mem_of_getElem? (i := 222) (by decide +kernel), List.mem_of_getElem? (i := 223) (by decide +kernel)⟩
theorem lw_p6 : lw_okq (⟨"SceneEasel", "requireGroup", "(I)LSceneEasel$Node;"⟩, 4) := ⟨⟨by decide +kernel, by decide +kernel⟩, List.mem_of_getElem? (i := 22) (by decide +kernel), List.mem_of_getElem? (i := 238) (by decide +kernel), List.mem_of_getElem? (i := 239) (by decide +kernel)⟩
theorem lw_p7 : lw_okq (⟨"SceneEasel", "requireNode", "(I)LSceneEasel$Node;"⟩, 4) := ⟨⟨by decide +kernel, by decide +kernel⟩, List.mem_of_getElem? (i := 22) (by decide +kernel), List.mem_of_getElem? (i := 242) (by decide +kernel), List.mem_of_getElem? (i := 243) (by decide +kernel)⟩
theorem lw_p8 : lw_okq (⟨"java/lang/Throwable", "fillInStackTrace", "(I)Ljava/lang/Throwable;"⟩, 6) := ⟨⟨by decide +kernel, by decide +kernel⟩, List.mem_of_getElem? (i := 284) (by decide +kernel), List.mem_of_getElem? (i := 282) (by decide +kernel), List.mem_of_getElem? (i := 283) (by decide +kernel)⟩
theorem lw_p9 : lw_okq (⟨"SceneEasel", "leastFreeNumber", "()I"⟩, 4) := ⟨⟨by decide +kernel, by decide +kernel⟩, List.mem_of_getElem? (i := 22) (by decide +kernel), List.mem_of_getElem? (i := 319) (by decide +kernel), List.mem_of_getElem? (i := 320) (by decide +kernel)⟩
theorem lw_p10 : lw_okq (⟨"SceneEasel$Node", "hangInto", "(LSceneEasel$Node;)V"⟩, 20) := ⟨⟨by decide +kernel, by decide +kernel⟩, List.mem_of_getElem? (i := 31) (by decide +kernel), List.mem_of_getElem? (i := 340) (by decide +kernel), List.mem_of_getElem? (i := 341) (by decide +kernel)⟩
theorem lw_p11 : lw_okq (⟨"java/util/ArrayList", "add", "(Ljava/lang/Object;[Ljava/lang/Object;I)V"⟩, 3) := ⟨⟨by decide +kernel, by decide +kernel⟩, List.mem_of_getElem? (i := 37) (by decide +kernel), List.mem_of_getElem? (i := 348) (by decide +kernel), List.mem_of_getElem? (i := 349) (by decide +kernel)⟩
theorem lw_p12 : lw_okq (⟨"java/util/ArrayList", "grow", "()[Ljava/lang/Object;"⟩, 3) := ⟨⟨by decide +kernel, by decide +kernel⟩, List.mem_of_getElem? (i := 37) (by decide +kernel), List.mem_of_getElem? (i := 352) (by decide +kernel), List.mem_of_getElem? (i := 353) (by decide +kernel)⟩
theorem lw_p13 : lw_okq (⟨"java/util/ArrayList", "grow", "(I)[Ljava/lang/Object;"⟩, 3) := ⟨⟨by decide +kernel, by decide +kernel⟩, List.mem_of_getElem? (i := 37) (by decide +kernel), List.mem_of_getElem? (i := 356) (by decide +kernel), List.mem_of_getElem? (i := 357) (by decide +kernel)⟩
theorem lw_p14 : lw_okq (⟨"SceneEasel", "requireShape", "(I)LSceneEasel$Node;"⟩, 4) := ⟨⟨by decide +kernel, by decide +kernel⟩, List.mem_of_getElem? (i := 22) (by decide +kernel), List.mem_of_getElem? (i := 405) (by decide +kernel), List.mem_of_getElem? (i := 406) (by decide +kernel)⟩
theorem lw_p15 : lw_okq (⟨"SceneEasel", "requireInner", "(I)LSceneEasel$Node;"⟩, 4) := ⟨⟨by decide +kernel, by decide +kernel⟩, List.mem_of_getElem? (i := 22) (by decide +kernel), List.mem_of_getElem? (i := 429) (by decide +kernel), List.mem_of_getElem? (i := 430) (by decide +kernel)⟩
def lw_privs_1 : List (MethodName × Nat) := [(⟨"SceneEasel", "nodesThere", "()I"⟩, 4), (⟨"SceneEasel", "framesThere", "()I"⟩, 4), (⟨"SceneEasel$Node", "frames", "()I"⟩, 20), (⟨"SceneEasel", "deepestIn", "(LSceneEasel$Node;)I"⟩, 4), (⟨"SceneEasel$Node", "isIn", "(LSceneEasel$Node;)Z"⟩, 20), (⟨"SceneEasel$Node", "depth", "()I"⟩, 20), (⟨"SceneEasel", "requireGroup", "(I)LSceneEasel$Node;"⟩, 4), (⟨"SceneEasel", "requireNode", "(I)LSceneEasel$Node;"⟩, 4), (⟨"java/lang/Throwable", "fillInStackTrace", "(I)Ljava/lang/Throwable;"⟩, 6), (⟨"SceneEasel", "leastFreeNumber", "()I"⟩, 4), (⟨"SceneEasel$Node", "hangInto", "(LSceneEasel$Node;)V"⟩, 20), (⟨"java/util/ArrayList", "add", "(Ljava/lang/Object;[Ljava/lang/Object;I)V"⟩, 3), (⟨"java/util/ArrayList", "grow", "()[Ljava/lang/Object;"⟩, 3), (⟨"java/util/ArrayList", "grow", "(I)[Ljava/lang/Object;"⟩, 3), (⟨"SceneEasel", "requireShape", "(I)LSceneEasel$Node;"⟩, 4), (⟨"SceneEasel", "requireInner", "(I)LSceneEasel$Node;"⟩, 4)]
theorem lw_r1 : ∀ q ∈ lw_privs_1, lw_okq q := List.forall_mem_cons.mpr ⟨lw_p0, List.forall_mem_cons.mpr ⟨lw_p1, List.forall_mem_cons.mpr ⟨lw_p2, List.forall_mem_cons.mpr ⟨lw_p3, List.forall_mem_cons.mpr ⟨lw_p4, List.forall_mem_cons.mpr ⟨lw_p5, List.forall_mem_cons.mpr ⟨lw_p6, List.forall_mem_cons.mpr ⟨lw_p7, List.forall_mem_cons.mpr ⟨lw_p8, List.forall_mem_cons.mpr ⟨lw_p9, List.forall_mem_cons.mpr ⟨lw_p10, List.forall_mem_cons.mpr ⟨lw_p11, List.forall_mem_cons.mpr ⟨lw_p12, List.forall_mem_cons.mpr ⟨lw_p13, List.forall_mem_cons.mpr ⟨lw_p14, List.forall_mem_cons.mpr ⟨lw_p15, fun _ h => absurd h List.not_mem_nil⟩⟩⟩⟩⟩⟩⟩⟩⟩⟩⟩⟩⟩⟩⟩⟩
theorem lw_p16 : lw_okq (⟨"SceneEasel$Track", "put", "(DD)Z"⟩, 3) := ⟨⟨by decide +kernel, by decide +kernel⟩, List.mem_of_getElem? (i := 89) (by decide +kernel), List.mem_of_getElem? (i := 477) (by decide +kernel), List.mem_of_getElem? (i := 478) (by decide +kernel)⟩
theorem lw_p17 : lw_okq (⟨"SceneEasel$Track", "makeRoom", "(I)V"⟩, 3) := ⟨⟨by decide +kernel, by decide +kernel⟩, List.mem_of_getElem? (i := 89) (by decide +kernel), List.mem_of_getElem? (i := 481) (by decide +kernel), List.mem_of_getElem? (i := 482) (by decide +kernel)⟩
theorem lw_p18 : lw_okq (⟨"SceneEasel", "levelsOf", "(LSceneEasel$Node;)I"⟩, 4) := ⟨⟨by decide +kernel, by decide +kernel⟩, List.mem_of_getElem? (i := 22) (by decide +kernel), List.mem_of_getElem? (i := 518) (by decide +kernel), List.mem_of_getElem? (i := 519) (by decide +kernel)⟩
theorem lw_p19 : lw_okq (⟨"SceneEasel$Node", "unhang", "()V"⟩, 20) := ⟨⟨by decide +kernel, by decide +kernel⟩, List.mem_of_getElem? (i := 31) (by decide +kernel), List.mem_of_getElem? (i := 522) (by decide +kernel), List.mem_of_getElem? (i := 523) (by decide +kernel)⟩
theorem lw_p20 : lw_okq (⟨"SceneEasel$Node", "rank", "()I"⟩, 20) := ⟨⟨by decide +kernel, by decide +kernel⟩, List.mem_of_getElem? (i := 31) (by decide +kernel), List.mem_of_getElem? (i := 526) (by decide +kernel), List.mem_of_getElem? (i := 527) (by decide +kernel)⟩
theorem lw_p21 : lw_okq (⟨"java/util/ArrayList", "fastRemove", "([Ljava/lang/Object;I)V"⟩, 3) := ⟨⟨by decide +kernel, by decide +kernel⟩, List.mem_of_getElem? (i := 37) (by decide +kernel), List.mem_of_getElem? (i := 552) (by decide +kernel), List.mem_of_getElem? (i := 553) (by decide +kernel)⟩
theorem lw_p22 : lw_okq (⟨"SceneEasel", "settle", "(D)V"⟩, 4) := ⟨⟨by decide +kernel, by decide +kernel⟩, List.mem_of_getElem? (i := 22) (by decide +kernel), List.mem_of_getElem? (i := 571) (by decide +kernel), List.mem_of_getElem? (i := 572) (by decide +kernel)⟩
theorem lw_p23 : lw_okq (⟨"SceneEasel$Node", "settleAt", "(D)V"⟩, 20) := ⟨⟨by decide +kernel, by decide +kernel⟩, List.mem_of_getElem? (i := 31) (by decide +kernel), List.mem_of_getElem? (i := 575) (by decide +kernel), List.mem_of_getElem? (i := 576) (by decide +kernel)⟩
theorem lw_p24 : lw_okq (⟨"SceneEasel$Track", "gliding", "(DD)D"⟩, 3) := ⟨⟨by decide +kernel, by decide +kernel⟩, List.mem_of_getElem? (i := 89) (by decide +kernel), List.mem_of_getElem? (i := 579) (by decide +kernel), List.mem_of_getElem? (i := 580) (by decide +kernel)⟩
theorem lw_p25 : lw_okq (⟨"SceneEasel$Track", "frameFor", "(D)I"⟩, 3) := ⟨⟨by decide +kernel, by decide +kernel⟩, List.mem_of_getElem? (i := 89) (by decide +kernel), List.mem_of_getElem? (i := 583) (by decide +kernel), List.mem_of_getElem? (i := 584) (by decide +kernel)⟩
theorem lw_p26 : lw_okq (⟨"SceneEasel$Track", "jumping", "(DD)D"⟩, 3) := ⟨⟨by decide +kernel, by decide +kernel⟩, List.mem_of_getElem? (i := 89) (by decide +kernel), List.mem_of_getElem? (i := 594) (by decide +kernel), List.mem_of_getElem? (i := 595) (by decide +kernel)⟩
theorem lw_p27 : lw_okq (⟨"SceneEasel$Node", "topInside", "(DD)LSceneEasel$Node;"⟩, 20) := ⟨⟨by decide +kernel, by decide +kernel⟩, List.mem_of_getElem? (i := 31) (by decide +kernel), List.mem_of_getElem? (i := 599) (by decide +kernel), List.mem_of_getElem? (i := 600) (by decide +kernel)⟩
theorem lw_p28 : lw_okq (⟨"SceneEasel$Node", "inTile", "(D)D"⟩, 20) := ⟨⟨by decide +kernel, by decide +kernel⟩, List.mem_of_getElem? (i := 31) (by decide +kernel), List.mem_of_getElem? (i := 603) (by decide +kernel), List.mem_of_getElem? (i := 604) (by decide +kernel)⟩
theorem lw_p29 : lw_okq (⟨"SceneEasel$Node", "firstHas", "(DD)Z"⟩, 20) := ⟨⟨by decide +kernel, by decide +kernel⟩, List.mem_of_getElem? (i := 31) (by decide +kernel), List.mem_of_getElem? (i := 608) (by decide +kernel), List.mem_of_getElem? (i := 609) (by decide +kernel)⟩
theorem lw_p30 : lw_okq (⟨"SceneEasel$Node", "topAt", "(DD)LSceneEasel$Node;"⟩, 20) := ⟨⟨by decide +kernel, by decide +kernel⟩, List.mem_of_getElem? (i := 31) (by decide +kernel), List.mem_of_getElem? (i := 617) (by decide +kernel), List.mem_of_getElem? (i := 618) (by decide +kernel)⟩
theorem lw_p31 : lw_okq (⟨"SceneEasel$Node", "covers", "(DD)Z"⟩, 20) := ⟨⟨by decide +kernel, by decide +kernel⟩, List.mem_of_getElem? (i := 31) (by decide +kernel), List.mem_of_getElem? (i := 625) (by decide +kernel), List.mem_of_getElem? (i := 626) (by decide +kernel)⟩
def lw_privs_2 : List (MethodName × Nat) := [(⟨"SceneEasel$Track", "put", "(DD)Z"⟩, 3), (⟨"SceneEasel$Track", "makeRoom", "(I)V"⟩, 3), (⟨"SceneEasel", "levelsOf", "(LSceneEasel$Node;)I"⟩, 4), (⟨"SceneEasel$Node", "unhang", "()V"⟩, 20), (⟨"SceneEasel$Node", "rank", "()I"⟩, 20), (⟨"java/util/ArrayList", "fastRemove", "([Ljava/lang/Object;I)V"⟩, 3), (⟨"SceneEasel", "settle", "(D)V"⟩, 4), (⟨"SceneEasel$Node", "settleAt", "(D)V"⟩, 20), (⟨"SceneEasel$Track", "gliding", "(DD)D"⟩, 3), (⟨"SceneEasel$Track", "frameFor", "(D)I"⟩, 3), (⟨"SceneEasel$Track", "jumping", "(DD)D"⟩, 3), (⟨"SceneEasel$Node", "topInside", "(DD)LSceneEasel$Node;"⟩, 20), (⟨"SceneEasel$Node", "inTile", "(D)D"⟩, 20), (⟨"SceneEasel$Node", "firstHas", "(DD)Z"⟩, 20), (⟨"SceneEasel$Node", "topAt", "(DD)LSceneEasel$Node;"⟩, 20), (⟨"SceneEasel$Node", "covers", "(DD)Z"⟩, 20)]
theorem lw_r2 : ∀ q ∈ lw_privs_2, lw_okq q := List.forall_mem_cons.mpr ⟨lw_p16, List.forall_mem_cons.mpr ⟨lw_p17, List.forall_mem_cons.mpr ⟨lw_p18, List.forall_mem_cons.mpr ⟨lw_p19, List.forall_mem_cons.mpr ⟨lw_p20, List.forall_mem_cons.mpr ⟨lw_p21, List.forall_mem_cons.mpr ⟨lw_p22, List.forall_mem_cons.mpr ⟨lw_p23, List.forall_mem_cons.mpr ⟨lw_p24, List.forall_mem_cons.mpr ⟨lw_p25, List.forall_mem_cons.mpr ⟨lw_p26, List.forall_mem_cons.mpr ⟨lw_p27, List.forall_mem_cons.mpr ⟨lw_p28, List.forall_mem_cons.mpr ⟨lw_p29, List.forall_mem_cons.mpr ⟨lw_p30, List.forall_mem_cons.mpr ⟨lw_p31, fun _ h => absurd h List.not_mem_nil⟩⟩⟩⟩⟩⟩⟩⟩⟩⟩⟩⟩⟩⟩⟩⟩
theorem lw_p32 : lw_okq (⟨"SceneEasel$Node", "measureInside", "()V"⟩, 20) := ⟨⟨by decide +kernel, by decide +kernel⟩, List.mem_of_getElem? (i := 31) (by decide +kernel), List.mem_of_getElem? (i := 652) (by decide +kernel), List.mem_of_getElem? (i := 653) (by decide +kernel)⟩
theorem lw_p33 : lw_okq (⟨"SceneEasel$Extent", "clear", "()V"⟩, 5) := ⟨⟨by decide +kernel, by decide +kernel⟩, List.mem_of_getElem? (i := 66) (by decide +kernel), List.mem_of_getElem? (i := 656) (by decide +kernel), List.mem_of_getElem? (i := 657) (by decide +kernel)⟩
theorem lw_p34 : lw_okq (⟨"SceneEasel$Node", "measure", "()V"⟩, 20) := ⟨⟨by decide +kernel, by decide +kernel⟩, List.mem_of_getElem? (i := 31) (by decide +kernel), List.mem_of_getElem? (i := 660) (by decide +kernel), List.mem_of_getElem? (i := 661) (by decide +kernel)⟩
theorem lw_p35 : lw_okq (⟨"SceneEasel$Extent", "span", "(DDDD)V"⟩, 5) := ⟨⟨by decide +kernel, by decide +kernel⟩, List.mem_of_getElem? (i := 66) (by decide +kernel), List.mem_of_getElem? (i := 665) (by decide +kernel), List.mem_of_getElem? (i := 666) (by decide +kernel)⟩
theorem lw_p36 : lw_okq (⟨"SceneEasel$Node", "layOutExtent", "()V"⟩, 20) := ⟨⟨by decide +kernel, by decide +kernel⟩, List.mem_of_getElem? (i := 31) (by decide +kernel), List.mem_of_getElem? (i := 669) (by decide +kernel), List.mem_of_getElem? (i := 670) (by decide +kernel)⟩
theorem lw_p37 : lw_okq (⟨"SceneEasel$Extent", "scale", "(D)V"⟩, 5) := ⟨⟨by decide +kernel, by decide +kernel⟩, List.mem_of_getElem? (i := 66) (by decide +kernel), List.mem_of_getElem? (i := 673) (by decide +kernel), List.mem_of_getElem? (i := 674) (by decide +kernel)⟩
theorem lw_p38 : lw_okq (⟨"SceneEasel$Extent", "turnOnce", "()V"⟩, 5) := ⟨⟨by decide +kernel, by decide +kernel⟩, List.mem_of_getElem? (i := 66) (by decide +kernel), List.mem_of_getElem? (i := 678) (by decide +kernel), List.mem_of_getElem? (i := 679) (by decide +kernel)⟩
theorem lw_p39 : lw_okq (⟨"SceneEasel$Extent", "shift", "(DD)V"⟩, 5) := ⟨⟨by decide +kernel, by decide +kernel⟩, List.mem_of_getElem? (i := 66) (by decide +kernel), List.mem_of_getElem? (i := 682) (by decide +kernel), List.mem_of_getElem? (i := 683) (by decide +kernel)⟩
theorem lw_p40 : lw_okq (⟨"SceneEasel$Extent", "join", "(LSceneEasel$Extent;)V"⟩, 5) := ⟨⟨by decide +kernel, by decide +kernel⟩, List.mem_of_getElem? (i := 66) (by decide +kernel), List.mem_of_getElem? (i := 686) (by decide +kernel), List.mem_of_getElem? (i := 687) (by decide +kernel)⟩
theorem lw_p41 : lw_okq (⟨"SceneEasel$Extent", "side", "(I)D"⟩, 5) := ⟨⟨by decide +kernel, by decide +kernel⟩, List.mem_of_getElem? (i := 66) (by decide +kernel), List.mem_of_getElem? (i := 692) (by decide +kernel), List.mem_of_getElem? (i := 693) (by decide +kernel)⟩
theorem lw_p42 : lw_okq (⟨"SceneEaselModel", "sortNodes", "()V"⟩, 28) := ⟨⟨by decide +kernel, by decide +kernel⟩, List.mem_of_getElem? (i := 705) (by decide +kernel), List.mem_of_getElem? (i := 711) (by decide +kernel), List.mem_of_getElem? (i := 712) (by decide +kernel)⟩
theorem lw_p43 : lw_okq (⟨"SceneEaselModel", "isGroup", "(I)Z"⟩, 28) := ⟨⟨by decide +kernel, by decide +kernel⟩, List.mem_of_getElem? (i := 705) (by decide +kernel), List.mem_of_getElem? (i := 809) (by decide +kernel), List.mem_of_getElem? (i := 810) (by decide +kernel)⟩
theorem lw_p44 : lw_okq (⟨"SceneEaselModel", "is", "(I)Z"⟩, 28) := ⟨⟨by decide +kernel, by decide +kernel⟩, List.mem_of_getElem? (i := 705) (by decide +kernel), List.mem_of_getElem? (i := 813) (by decide +kernel), List.mem_of_getElem? (i := 814) (by decide +kernel)⟩
theorem lw_p45 : lw_okq (⟨"SceneEaselModel", "bad", "(Z)Z"⟩, 28) := ⟨⟨by decide +kernel, by decide +kernel⟩, List.mem_of_getElem? (i := 705) (by decide +kernel), List.mem_of_getElem? (i := 817) (by decide +kernel), List.mem_of_getElem? (i := 818) (by decide +kernel)⟩
theorem lw_p46 : lw_okq (⟨"SceneEaselModel", "enter", "(II)V"⟩, 28) := ⟨⟨by decide +kernel, by decide +kernel⟩, List.mem_of_getElem? (i := 705) (by decide +kernel), List.mem_of_getElem? (i := 821) (by decide +kernel), List.mem_of_getElem? (i := 822) (by decide +kernel)⟩
theorem lw_p47 : lw_okq (⟨"SceneEaselModel", "isOther", "(I)Z"⟩, 28) := ⟨⟨by decide +kernel, by decide +kernel⟩, List.mem_of_getElem? (i := 705) (by decide +kernel), List.mem_of_getElem? (i := 838) (by decide +kernel), List.mem_of_getElem? (i := 839) (by decide +kernel)⟩
def lw_privs_3 : List (MethodName × Nat) := [(⟨"SceneEasel$Node", "measureInside", "()V"⟩, 20), (⟨"SceneEasel$Extent", "clear", "()V"⟩, 5), (⟨"SceneEasel$Node", "measure", "()V"⟩, 20), (⟨"SceneEasel$Extent", "span", "(DDDD)V"⟩, 5), (⟨"SceneEasel$Node", "layOutExtent", "()V"⟩, 20), (⟨"SceneEasel$Extent", "scale", "(D)V"⟩, 5), (⟨"SceneEasel$Extent", "turnOnce", "()V"⟩, 5), (⟨"SceneEasel$Extent", "shift", "(DD)V"⟩, 5), (⟨"SceneEasel$Extent", "join", "(LSceneEasel$Extent;)V"⟩, 5), (⟨"SceneEasel$Extent", "side", "(I)D"⟩, 5), (⟨"SceneEaselModel", "sortNodes", "()V"⟩, 28), (⟨"SceneEaselModel", "isGroup", "(I)Z"⟩, 28), (⟨"SceneEaselModel", "is", "(I)Z"⟩, 28), (⟨"SceneEaselModel", "bad", "(Z)Z"⟩, 28), (⟨"SceneEaselModel", "enter", "(II)V"⟩, 28), (⟨"SceneEaselModel", "isOther", "(I)Z"⟩, 28)]
theorem lw_r3 : ∀ q ∈ lw_privs_3, lw_okq q := List.forall_mem_cons.mpr ⟨lw_p32, List.forall_mem_cons.mpr ⟨lw_p33, List.forall_mem_cons.mpr ⟨lw_p34, List.forall_mem_cons.mpr ⟨lw_p35, List.forall_mem_cons.mpr ⟨lw_p36, List.forall_mem_cons.mpr ⟨lw_p37, List.forall_mem_cons.mpr ⟨lw_p38, List.forall_mem_cons.mpr ⟨lw_p39, List.forall_mem_cons.mpr ⟨lw_p40, List.forall_mem_cons.mpr ⟨lw_p41, List.forall_mem_cons.mpr ⟨lw_p42, List.forall_mem_cons.mpr ⟨lw_p43, List.forall_mem_cons.mpr ⟨lw_p44, List.forall_mem_cons.mpr ⟨lw_p45, List.forall_mem_cons.mpr ⟨lw_p46, List.forall_mem_cons.mpr ⟨lw_p47, fun _ h => absurd h List.not_mem_nil⟩⟩⟩⟩⟩⟩⟩⟩⟩⟩⟩⟩⟩⟩⟩⟩
theorem lw_p48 : lw_okq (⟨"SceneEaselModel", "within", "(II)Z"⟩, 28) := ⟨⟨by decide +kernel, by decide +kernel⟩, List.mem_of_getElem? (i := 705) (by decide +kernel), List.mem_of_getElem? (i := 878) (by decide +kernel), List.mem_of_getElem? (i := 879) (by decide +kernel)⟩
theorem lw_p49 : lw_okq (⟨"SceneEaselModel", "height", "(I)I"⟩, 28) := ⟨⟨by decide +kernel, by decide +kernel⟩, List.mem_of_getElem? (i := 705) (by decide +kernel), List.mem_of_getElem? (i := 882) (by decide +kernel), List.mem_of_getElem? (i := 883) (by decide +kernel)⟩
theorem lw_p50 : lw_okq (⟨"SceneEaselModel", "leave", "(I)V"⟩, 28) := ⟨⟨by decide +kernel, by decide +kernel⟩, List.mem_of_getElem? (i := 705) (by decide +kernel), List.mem_of_getElem? (i := 886) (by decide +kernel), List.mem_of_getElem? (i := 887) (by decide +kernel)⟩
theorem lw_p51 : lw_okq (⟨"SceneEaselModel", "placeOf", "(I)I"⟩, 28) := ⟨⟨by decide +kernel, by decide +kernel⟩, List.mem_of_getElem? (i := 705) (by decide +kernel), List.mem_of_getElem? (i := 890) (by decide +kernel), List.mem_of_getElem? (i := 891) (by decide +kernel)⟩
theorem lw_p52 : lw_okq (⟨"SceneEaselModel", "look", "(DDD)V"⟩, 28) := ⟨⟨by decide +kernel, by decide +kernel⟩, List.mem_of_getElem? (i := 705) (by decide +kernel), List.mem_of_getElem? (i := 903) (by decide +kernel), List.mem_of_getElem? (i := 904) (by decide +kernel)⟩
theorem lw_p53 : lw_okq (⟨"SceneEaselModel", "at", "(IID)D"⟩, 28) := ⟨⟨by decide +kernel, by decide +kernel⟩, List.mem_of_getElem? (i := 705) (by decide +kernel), List.mem_of_getElem? (i := 907) (by decide +kernel), List.mem_of_getElem? (i := 908) (by decide +kernel)⟩
theorem lw_p54 : lw_okq (⟨"SceneEaselModel", "find", "(I)V"⟩, 28) := ⟨⟨by decide +kernel, by decide +kernel⟩, List.mem_of_getElem? (i := 705) (by decide +kernel), List.mem_of_getElem? (i := 918) (by decide +kernel), List.mem_of_getElem? (i := 919) (by decide +kernel)⟩
theorem lw_p55 : lw_okq (⟨"SceneEaselModel", "box", "(ID)V"⟩, 28) := ⟨⟨by decide +kernel, by decide +kernel⟩, List.mem_of_getElem? (i := 705) (by decide +kernel), List.mem_of_getElem? (i := 935) (by decide +kernel), List.mem_of_getElem? (i := 936) (by decide +kernel)⟩
theorem lw_p56 : lw_okq (⟨"SceneEaselModel", "layOut", "(IDDD)V"⟩, 28) := ⟨⟨by decide +kernel, by decide +kernel⟩, List.mem_of_getElem? (i := 705) (by decide +kernel), List.mem_of_getElem? (i := 941) (by decide +kernel), List.mem_of_getElem? (i := 942) (by decide +kernel)⟩
theorem lw_p57 : lw_okq (⟨"SceneEaselModel", "widen", "(ID)V"⟩, 28) := ⟨⟨by decide +kernel, by decide +kernel⟩, List.mem_of_getElem? (i := 705) (by decide +kernel), List.mem_of_getElem? (i := 945) (by decide +kernel), List.mem_of_getElem? (i := 946) (by decide +kernel)⟩
theorem lw_p58 : lw_okq (⟨"SceneEaselModel", "keysOf", "(I)I"⟩, 28) := ⟨⟨by decide +kernel, by decide +kernel⟩, List.mem_of_getElem? (i := 705) (by decide +kernel), List.mem_of_getElem? (i := 953) (by decide +kernel), List.mem_of_getElem? (i := 954) (by decide +kernel)⟩
def lw_privs_4 : List (MethodName × Nat) := [(⟨"SceneEaselModel", "within", "(II)Z"⟩, 28), (⟨"SceneEaselModel", "height", "(I)I"⟩, 28), (⟨"SceneEaselModel", "leave", "(I)V"⟩, 28), (⟨"SceneEaselModel", "placeOf", "(I)I"⟩, 28), (⟨"SceneEaselModel", "look", "(DDD)V"⟩, 28), (⟨"SceneEaselModel", "at", "(IID)D"⟩, 28), (⟨"SceneEaselModel", "find", "(I)V"⟩, 28), (⟨"SceneEaselModel", "box", "(ID)V"⟩, 28), (⟨"SceneEaselModel", "layOut", "(IDDD)V"⟩, 28), (⟨"SceneEaselModel", "widen", "(ID)V"⟩, 28), (⟨"SceneEaselModel", "keysOf", "(I)I"⟩, 28)]
theorem lw_r4 : ∀ q ∈ lw_privs_4, lw_okq q := List.forall_mem_cons.mpr ⟨lw_p48, List.forall_mem_cons.mpr ⟨lw_p49, List.forall_mem_cons.mpr ⟨lw_p50, List.forall_mem_cons.mpr ⟨lw_p51, List.forall_mem_cons.mpr ⟨lw_p52, List.forall_mem_cons.mpr ⟨lw_p53, List.forall_mem_cons.mpr ⟨lw_p54, List.forall_mem_cons.mpr ⟨lw_p55, List.forall_mem_cons.mpr ⟨lw_p56, List.forall_mem_cons.mpr ⟨lw_p57, List.forall_mem_cons.mpr ⟨lw_p58, fun _ h => absurd h List.not_mem_nil⟩⟩⟩⟩⟩⟩⟩⟩⟩⟩⟩
def lw_privs : List (MethodName × Nat) := lw_privs_1 ++ (lw_privs_2 ++ (lw_privs_3 ++ (lw_privs_4)))
def lw_tbl : List Cond := k2_sels lw_privs ++ tables_1
theorem lw_privs_ok : ∀ q ∈ lw_privs, lw_okq q := by
  show ∀ q ∈ lw_privs_1 ++ (lw_privs_2 ++ (lw_privs_3 ++ (lw_privs_4))), lw_okq q
  exact List.forall_mem_append.mpr ⟨lw_r1, List.forall_mem_append.mpr ⟨lw_r2, List.forall_mem_append.mpr ⟨lw_r3, lw_r4⟩⟩⟩
end
section
/-! ===== BEGIN words of one list among another's, by their places ===== -/
theorem goodIn_r {big : List Cond} (ws : List Cond) (ps : List Nat) (hp : ws = ps.filterMap (fun i => big[i]?)) (h : ws.all goodWord = true) : GoodIn big ws := by
  intro w hw
  have h1 := List.all_eq_true.mp h w hw
  rw [hp] at hw
  obtain ⟨i, -, hi⟩ := List.mem_filterMap.mp hw
  have hm : w ∈ big := by first | exact List.mem_of_getElem? hi | exact List.getElem?_mem hi
  exact ⟨hm, good_of_word h1⟩
theorem goodIn_app {big a b : List Cond} (ha : GoodIn big a) (hb : GoodIn big b) : GoodIn big (a ++ b) := fun w h => (List.mem_append.mp h).elim (ha w) (hb w)
theorem goodIn_ca {big a b : List Cond} {c : Cond} (ha : GoodIn big (c :: a)) (hb : GoodIn big b) : GoodIn big (c :: (a ++ b)) := fun w h => (List.mem_cons.mp h).elim (fun e => ha w (List.mem_cons.mpr (Or.inl e))) (fun h => (List.mem_append.mp h).elim (fun h => ha w (List.mem_cons.mpr (Or.inr h))) (hb w))
theorem goodIn_sub {big ws : List Cond} (hm : ∀ w ∈ ws, w ∈ big) (h : ws.all goodWord = true) : GoodIn big ws := fun w hw => ⟨hm w hw, good_of_word (List.all_eq_true.mp h w hw)⟩
/-! ===== END ===== -/

/-! ===== BEGIN exceptions that leave a method, and their catching by the caller (launches without stack traces) ===== -/
section VXA
/-! The laws vx_back, vx_callV, vx_callS, vx_callSW, vx_throw0, vx_throwS follow proofs of the library, with one case more: JvmDerived/Free/Laws.lean (Back.of_free), Shelf42/LK1.lean (callV, callS), Shelf/KitTraced.lean (throwNew0V, throwNewS). -/
/-- where a method has thrown q: the class by its name, the cell, what was written, the world -/
def vx_T (XC : String → State → State → Prop) (st : State) (q : Addr) (t : State) (mc ms : Nat) (free : Addr → Prop) : Prop :=
  ∃ (E : String) (ce : Cell) (L : List Loc), XC E st t ∧ t.heap[q]? = some ce ∧ ce.vm = .none ∧ st.vm.findClass E = some ce.cls ∧ st.WarmedH t.vm ∧ st.sameButNew ({ t with vm := st.vm } : State) L mc ms ∧ ∀ z ∈ L, free z.base
def vx_Q (Qc : Array Value → State → Outcome → State → Prop) (XC : String → State → State → Prop) (mc ms : Nat) (free : Addr → Prop) : Array Value → State → Outcome → State → Prop := fun a st o t =>
  (Qc a st o t ∧ ∃ L, FrameEnd st o t L mc ms ∧ ∀ q ∈ L, free q.base) ∨ ∃ q, o = .threw q ∧ vx_T XC st q t mc ms free
/-- a callee that returns or throws -/
def vx_Met (l : Launch) (y : MethodName) (ws : List Cond) (rm : Room) (Pc : Array Value → State → Prop) (Qc : Array Value → State → Outcome → State → Prop) (XC : String → State → State → Prop) (mc ms : Nat) (free : Addr → Prop) : Prop :=
  MetFree l y (headSpec ws rm) Pc (fun _ _ _ _ _ => True) (vx_Q Qc XC mc ms free)
def vx_Post (XC : String → State → State → Prop) (mc ms : Nat) (free : Addr → Prop) : Pt → Array Value → Addr → Pt → Prop := fun A a q B =>
  ∃ (g : JFrame) (mk : MethodId) (t : State) (L : List Loc) (E : String) (ce : Cell), B.U.heap = t.heap ∧ B.U.vm = t.vm ∧ XC E (A.U.calling g mk a) t ∧ t.heap[q]? = some ce ∧ ce.vm = .none ∧ A.U.vm.findClass E = some ce.cls ∧ B.locs = A.locs ++ L ∧ (∀ z ∈ L, free z.base) ∧ B.cells = A.cells + mc ∧ B.slots = A.slots + ms
def vx_Back (l : Launch) (R : Room) (p : Program) (e : Env) (below : List Frame) (s : State) (sargs : Array Value) (y : MethodName) (len W9 : Nat)
    (Pre : Pt → Array Value → Prop) (Post : Pt → Array Value → Option Value → Pt → Prop) (PostX : Pt → Array Value → Addr → Pt → Prop) : Prop :=
  ∀ (m : MethodId) (meth : Method) (c : Code) (A : Pt) (g : JFrame) (ig : Instr) (mk : MethodId) (a : Array Value),
    Stand p l e R s m sargs below meth c A.U A.locs A.cells A.slots → g.method = m → g.locals.size = c.maxLocals → decode c.code g.pc = .ok (ig, len) →
    2 * g.monitorRoom + (g.stack.map fun v => v.category).sum ≤ W9 → A.U.methodNamed? y = some mk → Pre A a →
    (∃ (v : Option Value) (B : Pt), Stand p l e R s m sargs below meth c B.U B.locs B.cells B.slots ∧ Post A a v B ∧
      Steps p.tables e below (doInvoke e (A.U.setTop g) [] mk a).1 (B.U.setTop { g with pc := g.pc + len, stack := v.toList ++ g.stack })) ∨
    (∃ (q : Addr) (B : Pt), Stand p l e R s m sargs below meth c B.U B.locs B.cells B.slots ∧ PostX A a q B ∧
      Steps p.tables e below (doInvoke e (A.U.setTop g) [] mk a).1 ((B.U.setTop g).pushFrame (.throwing q)))
section Payer
variable {l : Launch} {R : Room} {p : Program} {e : Env} {below : List Frame} {s : State} {sargs : Array Value} {y : MethodName} {len W9 : Nat}
theorem vx_back {ws : List Cond} {rm : Room} {Pc : Array Value → State → Prop} {Qc : Array Value → State → Outcome → State → Prop} {XC : String → State → State → Prop} {mc ms : Nat} {free : Addr → Prop} {bytes : ByteArray} {maxL : Nat} {ret : Option FieldType}
    (hM : vx_Met l y ws rm Pc Qc XC mc ms free) (hblind : FrameBlind Pc) (hrc : rm.cells = mc) (hrs : rm.slots = ms)
    (hframes : rm.frames + 1 ≤ R.frames) (hlocals : W9 + (maxL + 11) + rm.locals ≤ R.locals)
    (hws : ∀ w ∈ ws, ∀ a' U, s.WarmedH U.vm → w.before a' U = true) (hcode : Cond.code y bytes maxL ret ∈ ws) (hinit : ∀ a' U, s.WarmedH U.vm → (Cond.initialized y.cls).before a' U = true) :
    vx_Back l R p e below s sargs y len W9 (PreOf R mc ms Pc) (PostOf Qc mc ms free) (vx_Post XC mc ms free) := by
  intro m meth c A g ig mk a X hg hsize hdg hW hn hp
  have h1 : (headSpec ws rm).pre.before a A.U = true := atoms_intro fun w hw => hws w hw _ _ X.warmed
  have h2 : (Cond.code y bytes maxL ret).before a A.U = true := hws _ hcode _ _ X.warmed
  have h3 : (Cond.initialized y.cls).before a A.U = true := hinit _ _ X.warmed
  have h4 : A.cells + (headSpec ws rm).room.cells ≤ R.cells := by rw [show (headSpec ws rm).room.cells = mc from hrc]; exact hp.1
  have h5 : A.slots + (headSpec ws rm).room.slots ≤ R.slots := by rw [show (headSpec ws rm).room.slots = ms from hrs]; exact hp.2.1
  have hPc : Pc a (A.U.calling g mk a) := hblind _ _ _ _ hp.2.2
  obtain ⟨U, Ls, c0, s0⟩ := A
  dsimp only [Pt.U, Pt.locs, Pt.cells, Pt.slots] at h1 h2 h3 h4 h5 X hn hPc ⊢
  obtain ⟨methY, cY, hmY, hcY, -, hlY, -, -, -, -⟩ := Cond.code_spec hn h2
  obtain ⟨kY, hkY, -⟩ := className_of_methodNamed hn
  have hinitY : kY.init = .initialized := Cond.initialized_spec (findClass_of_methodNamed hn) hkY h3
  have h : At U g.method c below := by rw [hg]; exact X.here
  have hlocals9 : W9 + (maxL + 11) + (headSpec ws rm).room.locals ≤ R.locals := hlocals
  have happ : (headSpec ws rm).appliesLoose y e.platform (U.calling g mk a) = true :=
    Spec.appliesLoose_calling (g := g) h hdg hn hkY hinitY
      (X.room_calling (g := g) (R' := (headSpec ws rm).room) hsize hmY hcY hframes (by rw [hlY]; omega) h4 h5) h1
  obtain ⟨mid, hmid⟩ := h.above
  have hfr : (U.setTop g).frames = (.java g :: mid) ++ below := by rw [State.frames_setTop' g h.top, hmid]; rfl
  obtain ⟨o, s₂, hsteps, -, hend, hq⟩ := Steps.callFree hM p X.admits X.cas X.clock (acts := []) hfr happ hPc trivial
  have hq' : vx_Q Qc XC mc ms free a (U.calling g mk a) o s₂ := hq
  rw [State.frames_setTop' g h.top] at hend
  obtain ⟨g₀, hg0⟩ := Option.isSome_iff_exists.mp h.top
  obtain ⟨r, hr⟩ := State.topJava?_eq_some.mp hg0
  have hr' : (({ U with heap := s₂.heap, slotsUsed := s₂.slotsUsed } : State).setVm s₂.vm).frames = .java g₀ :: r := hr
  rcases hq' with ⟨hqc, L, hfe, hL⟩ | ⟨q, rfl, E, ce, L, hx, hce, hcv, hcl, hW₂, hsm, hL⟩
  · obtain ⟨⟨v, rfl⟩, hW₂, e2, q2, q3, q4, q5, q6⟩ := id hfe
    have e3 : s₂ = ({ (U.calling g mk a).setFrames s₂.frames with heap := s₂.heap, slotsUsed := s₂.slotsUsed } : State).setVm s₂.vm := by
      have : s₂ = ({ s₂ with vm := (U.calling g mk a).vm } : State).setVm s₂.vm := rfl
      rw [e2] at this
      exact this
    obtain ⟨c₂, i₂, len₂, hc₂, hd₂, hf₂⟩ := hend
    have hW' : U.WarmedH s₂.vm := hW₂
    have hcc : c₂ = c := by
      have h1 : s₂.code? g.method = U.code? g.method := by
        rw [State.code?_eq, State.code?_eq, hW'.alike.method?]
      exact Option.some.inj (hc₂.symm.trans (h1.trans h.code))
    subst hcc
    have hlen : len₂ = len := by rw [hdg] at hd₂; cases hd₂; rfl
    subst hlen
    have hs₂ : s₂ = (({ U with heap := s₂.heap, slotsUsed := s₂.slotsUsed } : State).setVm s₂.vm).setTop { g with pc := g.pc + len₂, stack := v.toList ++ g.stack } := by
      refine e3.trans ?_
      rw [hf₂, State.calling_eq h.top, State.setFrames_setFrames, State.setTop_of_frames _ hr', hr]
      rfl
    have hsame : U.sameButNew ({ U with heap := s₂.heap, slotsUsed := s₂.slotsUsed } : State) L mc ms := by
      refine ⟨?_, q2, q3, q4, q5, q6⟩
      obtain ⟨t, ht, -⟩ := State.frames_cons hr
      show ({ U with heap := s₂.heap, slotsUsed := s₂.slotsUsed } : State) = { U.setFrames U.frames with heap := s₂.heap, slotsUsed := s₂.slotsUsed }
      rw [State.setFrames_self ht]
    subst hg
    refine Or.inl ⟨v, ⟨(({ U with heap := s₂.heap, slotsUsed := s₂.slotsUsed } : State).setVm s₂.vm), Ls ++ L, c0 + mc, s0 + ms⟩,
      ⟨X.admits, X.cas, X.clock, X.frames, X.room, X.hears, X.method, X.code, (X.here.setHeapUsed s₂.heap s₂.slotsUsed).setVm hW'.alike, X.tail, State.WarmedH.trans X.warmed hW', X.limits, X.bytes, X.same.trans (hsame.setVm s.vm)⟩,
      ⟨g, mk, s₂, L, rfl, rfl, hqc, rfl, hL, rfl, rfl⟩, ?_⟩
    show Steps p.tables e below _ ((({ U with heap := s₂.heap, slotsUsed := s₂.slotsUsed } : State).setVm s₂.vm).setTop { g with pc := g.pc + len₂, stack := v.toList ++ g.stack })
    rw [← hs₂]
    exact hsteps
  · obtain ⟨e2, q2, q3, q4, q5, q6⟩ := id hsm
    have e3 : s₂ = ({ (U.calling g mk a).setFrames s₂.frames with heap := s₂.heap, slotsUsed := s₂.slotsUsed } : State).setVm s₂.vm := by
      have : s₂ = ({ s₂ with vm := (U.calling g mk a).vm } : State).setVm s₂.vm := rfl
      rw [e2] at this
      exact this
    have hf₂ : s₂.frames = .throwing q :: .java g :: U.frames.tail := hend
    have hW' : U.WarmedH s₂.vm := hW₂
    have hs₂ : s₂ = ((({ U with heap := s₂.heap, slotsUsed := s₂.slotsUsed } : State).setVm s₂.vm).setTop g).pushFrame (.throwing q) := by
      refine e3.trans ?_
      rw [hf₂, State.calling_eq h.top, State.setFrames_setFrames, State.pushFrame, State.frames_setTop _ hr', State.setTop_of_frames _ hr', State.setFrames_setFrames, hr]
      rfl
    have hsame : U.sameButNew ({ U with heap := s₂.heap, slotsUsed := s₂.slotsUsed } : State) L mc ms := by
      refine ⟨?_, q2, q3, q4, q5, q6⟩
      obtain ⟨t, ht, -⟩ := State.frames_cons hr
      show ({ U with heap := s₂.heap, slotsUsed := s₂.slotsUsed } : State) = { U.setFrames U.frames with heap := s₂.heap, slotsUsed := s₂.slotsUsed }
      rw [State.setFrames_self ht]
    subst hg
    refine Or.inr ⟨q, ⟨(({ U with heap := s₂.heap, slotsUsed := s₂.slotsUsed } : State).setVm s₂.vm), Ls ++ L, c0 + mc, s0 + ms⟩,
      ⟨X.admits, X.cas, X.clock, X.frames, X.room, X.hears, X.method, X.code, (X.here.setHeapUsed s₂.heap s₂.slotsUsed).setVm hW'.alike, X.tail, State.WarmedH.trans X.warmed hW', X.limits, X.bytes, X.same.trans (hsame.setVm s.vm)⟩,
      ⟨g, mk, s₂, L, E, ce, rfl, rfl, hx, hce, hcv, hcl, rfl, hL, rfl, rfl⟩, ?_⟩
    show Steps p.tables e below _ (((({ U with heap := s₂.heap, slotsUsed := s₂.slotsUsed } : State).setVm s₂.vm).setTop g).pushFrame (.throwing q))
    rw [← hs₂]
    exact hsteps
end Payer
section Calls
variable {p : Program} {l : Launch} {e : Env} {R : Room} {s : State} {m : MethodId} {args : Array Value} {below : List Frame} {meth : Method} {c : Code} {T : State} {locs : List Loc} {cells slots : Nat}
theorem vx_callV (X : Stand p l e R s m args below meth c T locs cells slots) (hexec : p.tables.exec = Jvm.exec) {own C : String} {index : Nat} {y : MethodName} {bytes : ByteArray} {maxL : Nat} {ret : Option FieldType}
    (hown : s.vm.findClass own = some m.cls) (hlink : (Cond.methodLink own index y).before args s = true) (hinst : (Cond.instanceMethod y).before args s = true) (hsel : (Cond.selects C y y).before args s = true)
    (hcode : (Cond.code y bytes maxL ret).before args s = true) (hy : y.cls ≠ "java/lang/invoke/MethodHandle" ∧ y.cls ≠ "java/lang/invoke/VarHandle")
    {W9 : Nat} {Pre : Pt → Array Value → Prop} {Post : Pt → Array Value → Option Value → Pt → Prop} {PostX : Pt → Array Value → Addr → Pt → Prop} (hK : vx_Back l R p e below s args y 3 W9 Pre Post PostX)
    {b : Addr} {cellB : Cell} (hcell : T.heap[b]? = some cellB) (hobj : cellB.vm.isStatics = false) (hcls : s.vm.findClass C = some cellB.cls)
    {g : JFrame} (hg : g.method = m) (hsize : g.locals.size = c.maxLocals) {argsL rest : List Value} (hlen : ∀ sig, parseMethodDescriptor y.desc = some sig → argsL.length = sig.parameters.length)
    (hstack : g.stack = argsL.reverse ++ .ref b :: rest) (hW : 2 * g.monitorRoom + (rest.map fun v => v.category).sum ≤ W9) (hdg : decode c.code g.pc = .ok (.invokevirtual index, 3))
    (hpre : ∀ vm₁, s.WarmedH vm₁ → Pre ⟨T.setVm vm₁, locs, cells, slots⟩ (Value.ref b :: argsL).toArray) :
    (∃ (v : Option Value) (vm₁ : Vm) (B : Pt), s.WarmedH vm₁ ∧ Stand p l e R s m args below meth c B.U B.locs B.cells B.slots ∧ Post ⟨T.setVm vm₁, locs, cells, slots⟩ (Value.ref b :: argsL).toArray v B ∧
      ∀ target, Steps p.tables e below (B.U.setTop { g with pc := g.pc + 3, stack := v.toList ++ rest }) target → Steps p.tables e below (T.setTop g) target) ∨
    (∃ (q : Addr) (vm₁ : Vm) (B : Pt), s.WarmedH vm₁ ∧ Stand p l e R s m args below meth c B.U B.locs B.cells B.slots ∧ PostX ⟨T.setVm vm₁, locs, cells, slots⟩ (Value.ref b :: argsL).toArray q B ∧
      Steps p.tables e below (T.setTop g) ((B.U.setTop { g with stack := rest }).pushFrame (.throwing q))) := by
  obtain ⟨mk, methM, hnamed, hmethM, hstM, habM⟩ := Cond.instanceMethod_spec hinst
  obtain ⟨methM', cM, hmethM', -, -, -, -, -, -, hsigM⟩ := Cond.code_spec hnamed hcode
  cases hmethM.symm.trans hmethM'
  obtain ⟨c2, r2, m2, q1, q2, q3, q4, kP, hkP, hkPi⟩ := Cond.selects_spec hsel
  cases hcls.symm.trans q1
  cases (State.methodFound?_of_named hnamed hy).symm.trans q2
  cases hnamed.symm.trans q3
  have hselP : selectMethod e.platform s.vm cellB.cls mk = .method mk := by rw [Launch.admits_selectMethod X.admits]; exact q4
  obtain ⟨vm₁, X₁, hstep₁⟩ := X.invokevirtual hexec hown hlink hnamed hmethM hstM hkP hkPi hy (a := b) (cell := cellB) hcell
    (fun z h => by rw [h] at hobj; cases hobj) hselP hmethM habM hkP hkPi (g := g) hg (argsL := argsL) (rest := rest) (hlen _ hsigM) hstack hdg
  rcases hK m meth c ⟨T.setVm vm₁, locs, cells, slots⟩ { g with stack := rest } (.invokevirtual index) mk (Value.ref b :: argsL).toArray X₁ hg hsize hdg hW (X₁.named hnamed) (hpre vm₁ X₁.warmed) with ⟨v, B, X', hpost, hsteps⟩ | ⟨q, B, X', hpost, hsteps⟩
  · exact Or.inl ⟨v, vm₁, B, X₁.warmed, X', hpost, fun target h => hstep₁ _ fun acts => by rw [doInvoke_state]; exact hsteps.trans h⟩
  · exact Or.inr ⟨q, vm₁, B, X₁.warmed, X', hpost, hstep₁ _ fun acts => by rw [doInvoke_state]; exact hsteps⟩
theorem vx_callS (X : Stand p l e R s m args below meth c T locs cells slots) (hexec : p.tables.exec = Jvm.exec) {own : String} {index : Nat} {y : MethodName} {bytes : ByteArray} {maxL : Nat} {ret : Option FieldType}
    (hown : s.vm.findClass own = some m.cls) (hlink : (Cond.methodLink own index y).before args s = true) (hstat : (Cond.static y).before args s = true) (hinit : (Cond.initialized y.cls).before args s = true)
    (hcode : (Cond.code y bytes maxL ret).before args s = true) (hy : y.cls ≠ "java/lang/invoke/MethodHandle" ∧ y.cls ≠ "java/lang/invoke/VarHandle")
    {W9 : Nat} {Pre : Pt → Array Value → Prop} {Post : Pt → Array Value → Option Value → Pt → Prop} {PostX : Pt → Array Value → Addr → Pt → Prop} (hK : vx_Back l R p e below s args y 3 W9 Pre Post PostX)
    {g : JFrame} (hg : g.method = m) (hsize : g.locals.size = c.maxLocals) {argsL rest : List Value} (hlen : ∀ sig, parseMethodDescriptor y.desc = some sig → argsL.length = sig.parameters.length)
    (hstack : g.stack = argsL.reverse ++ rest) (hW : 2 * g.monitorRoom + (rest.map fun v => v.category).sum ≤ W9) (hdg : decode c.code g.pc = .ok (.invokestatic index, 3))
    (hpre : ∀ vm₁, s.WarmedH vm₁ → Pre ⟨T.setVm vm₁, locs, cells, slots⟩ argsL.toArray) :
    (∃ (v : Option Value) (vm₁ : Vm) (B : Pt), s.WarmedH vm₁ ∧ Stand p l e R s m args below meth c B.U B.locs B.cells B.slots ∧ Post ⟨T.setVm vm₁, locs, cells, slots⟩ argsL.toArray v B ∧
      ∀ target, Steps p.tables e below (B.U.setTop { g with pc := g.pc + 3, stack := v.toList ++ rest }) target → Steps p.tables e below (T.setTop g) target) ∨
    (∃ (q : Addr) (vm₁ : Vm) (B : Pt), s.WarmedH vm₁ ∧ Stand p l e R s m args below meth c B.U B.locs B.cells B.slots ∧ PostX ⟨T.setVm vm₁, locs, cells, slots⟩ argsL.toArray q B ∧
      Steps p.tables e below (T.setTop g) ((B.U.setTop { g with stack := rest }).pushFrame (.throwing q))) := by
  obtain ⟨mk, hnamed⟩ := Cond.code_named hcode
  obtain ⟨methM, cM, hmethM, -, -, -, -, -, -, hsigM⟩ := Cond.code_spec hnamed hcode
  have hstatic : methM.isStatic = true := Cond.static_spec hnamed hmethM hstat
  obtain ⟨kP, hkP, -⟩ := className_of_methodNamed hnamed
  have hinitP : kP.init = .initialized := Cond.initialized_spec (findClass_of_methodNamed hnamed) hkP hinit
  obtain ⟨vm₁, X₁, hstep₁⟩ := X.invokestatic hexec hown hlink hnamed hmethM hstatic hkP hinitP hy (g := g) hg (argsL := argsL) (rest := rest) (hlen _ hsigM) hstack hdg
  rcases hK m meth c ⟨T.setVm vm₁, locs, cells, slots⟩ { g with stack := rest } (.invokestatic index) mk argsL.toArray X₁ hg hsize hdg hW (X₁.named hnamed) (hpre vm₁ X₁.warmed) with ⟨v, B, X', hpost, hsteps⟩ | ⟨q, B, X', hpost, hsteps⟩
  · exact Or.inl ⟨v, vm₁, B, X₁.warmed, X', hpost, fun target h => hstep₁ _ fun acts => by rw [doInvoke_state]; exact hsteps.trans h⟩
  · exact Or.inr ⟨q, vm₁, B, X₁.warmed, X', hpost, hstep₁ _ fun acts => by rw [doInvoke_state]; exact hsteps⟩
end Calls
theorem vx_cls {s : State} {T : State} {vm₁ : Vm} {E : String} {k : ClassId} (hW : s.WarmedH vm₁) (h : (T.setVm vm₁).vm.findClass E = some k) : s.vm.findClass E = some k := by
  have h1 : vm₁.findClass E = some k := h
  rw [hW.alike.findClass] at h1
  exact h1
/-- the method's frame g, with q thrown over it -/
def vx_W (p : Program) (l : Launch) (e : Env) (R : Room) (s : State) (m : MethodId) (args : Array Value) (below : List Frame) (meth : Method) (c : Code) (H : Heap) (locs : List Loc) (cells slots : Nat) (Q : State → Prop) (g : JFrame) (q : Addr) : Prop :=
  ∀ T : State, T.heap = H → Stand p l e R s m args below meth c T locs cells slots → ∃ t, Steps p.tables e below ((T.setTop g).pushFrame (.throwing q)) t ∧ Q t
def vx_Run (p : Program) (l : Launch) (e : Env) (R : Room) (s : State) (m : MethodId) (args : Array Value) (below : List Frame) (meth : Method) (c : Code) (H : Heap) (locs : List Loc) (cells slots mc ms : Nat) (g : JFrame) (rest : List Value) (Qa : State → Outcome → State → Prop) (XC : String → State → State → Prop) (free : Addr → Prop) : Prop :=
  ∀ T : State, T.heap = H → Stand p l e R s m args below meth c T locs cells slots →
    (∃ (v : Option Value) (st₀ t T' : State) (L : List Loc), st₀.heap = H ∧ Stand p l e R s m args below meth c T' (locs ++ L) (cells + mc) (slots + ms) ∧ (∀ q ∈ L, free q.base) ∧ T'.heap = t.heap ∧ T'.vm = t.vm ∧ Qa st₀ (.returned v) t ∧
      Goes p e below T g T' { g with pc := g.pc + 3, stack := v.toList ++ rest }) ∨
    (∃ (q : Addr) (st₀ t T' : State) (L : List Loc) (E : String) (ce : Cell), st₀.heap = H ∧ Stand p l e R s m args below meth c T' (locs ++ L) (cells + mc) (slots + ms) ∧ (∀ z ∈ L, free z.base) ∧ T'.heap = t.heap ∧ T'.vm = t.vm ∧ XC E st₀ t ∧ t.heap[q]? = some ce ∧ ce.vm = .none ∧ s.vm.findClass E = some ce.cls ∧
      Steps p.tables e below (T.setTop g) ((T'.setTop { g with stack := rest }).pushFrame (.throwing q)))
def vx_X {S : Type} (px : S → Prop) (B : String → S → State → Prop) (A : Nat → Prop) : String → State → State → Prop := fun E st t => ∃ u : S, px u ∧ B E u t ∧ va_F A st t
section Runs
variable {p : Program} {l : Launch} {e : Env} {R : Room} {s : State} {m : MethodId} {args : Array Value} {below : List Frame} {meth : Method} {c : Code} {H : Heap} {locs : List Loc} {cells slots : Nat}
variable {y : MethodName} {bytes cc : ByteArray} {maxL nL mc ms n index : Nat} {ret : Option FieldType} {ws : List Cond} {rm : Room} {Pc : Array Value → State → Prop} {Qc : Array Value → State → Outcome → State → Prop} {XC : String → State → State → Prop} {free : Addr → Prop} {Ts : List Cond} {own C : String} {b : Addr} {As rest : List Value} {g : JFrame}
theorem vx_callBack (cb : CallB R s args own index y bytes maxL ret ws rm mc ms n) (hM : vx_Met l y ws rm Pc Qc XC mc ms free) (hbl : FrameBlind Pc) : vx_Back l R p e below s args y 3 8 (PreOf R mc ms Pc) (PostOf Qc mc ms free) (vx_Post XC mc ms free) := by
  obtain ⟨hrc, hrs, hfr, hlo, hws, hcw, -, hini, -⟩ := cb
  exact vx_back (bytes := bytes) (maxL := maxL) (ret := ret) hM hbl hrc hrs hfr hlo hws hcw (fun a' U hW => word_at hW (Or.inl (by first | rfl | simp [Cond.onTables, Cond.keeps, Cond.steady])) hini)
theorem vx_runV (S : CallFix p m c cc nL s args Ts own) (hM : vx_Met l y ws rm Pc Qc XC mc ms free) (cw : CallW R s args own C index y bytes maxL ret ws rm mc ms n) (hp : PreV s H C b Pc As)
    (hg : g.method = m) (hn : As.length = n) (hsize : g.locals.size = nL) (hstack : g.stack = As.reverse ++ .ref b :: rest) (hW : 2 * g.monitorRoom + (rest.map fun v => v.category).sum ≤ 8) (hdg : decode cc g.pc = .ok (.invokevirtual index, 3)) (hf : cells + mc ≤ R.cells ∧ slots + ms ≤ R.slots) :
    vx_Run p l e R s m args below meth c H locs cells slots mc ms g rest (Qc (Value.ref b :: As).toArray) XC free := by
  have hK : vx_Back l R p e below s args y 3 8 (PreOf R mc ms Pc) (PostOf Qc mc ms free) (vx_Post XC mc ms free) := vx_callBack cw.1 hM hp.1
  obtain ⟨⟨-, -, -, -, -, -, hcode, -, hy, hlen, hl⟩, hin, hse⟩ := cw
  obtain ⟨hx, hb, hml, ho, -⟩ := S
  obtain ⟨-, ⟨cellB, hcB, hoB, hclB⟩, hPc⟩ := hp
  intro T hT X
  rcases vx_callV X hx (C := C) (bytes := bytes) (maxL := maxL) (ret := ret) ho hl hin hse hcode hy hK (by rw [hT]; exact hcB) hoB hclB hg (hsize.trans hml.symm) (argsL := As) (rest := rest) (fun sig h => hn.trans (hlen sig h)) hstack hW (by rw [hb]; exact hdg)
    (fun vm₁ hW₁ => ⟨hf.1, hf.2, hPc (T.setVm vm₁) hT hW₁⟩) with ⟨v, vm₁, ⟨U', l2, c2, s2⟩, hW₁, X', ⟨g', mk, t, L, e1, e2, hq, h1, hL, h2, h3⟩, st⟩ | ⟨q, vm₁, ⟨U', l2, c2, s2⟩, hW₁, X', ⟨g', mk, t, L, E, ce, e1, e2, hq, hce, hcv, hcl, h1, hL, h2, h3⟩, st⟩
  · dsimp only [Pt.U, Pt.locs, Pt.cells, Pt.slots] at X' e1 e2 h1 h2 h3 st
    subst h1; subst h2; subst h3
    exact Or.inl ⟨v, (T.setVm vm₁).calling g' mk (Value.ref b :: As).toArray, t, U', L, hT, X', hL, e1, e2, hq, st⟩
  · dsimp only [Pt.U, Pt.locs, Pt.cells, Pt.slots] at X' e1 e2 h1 h2 h3 st hcl
    subst h1; subst h2; subst h3
    exact Or.inr ⟨q, (T.setVm vm₁).calling g' mk (Value.ref b :: As).toArray, t, U', L, E, ce, hT, X', hL, e1, e2, hq, hce, hcv, vx_cls hW₁ hcl, st⟩
theorem vx_runS (S : CallFix p m c cc nL s args Ts own) (hM : vx_Met l y ws rm Pc Qc XC mc ms free) (cw : CallB R s args own index y bytes maxL ret ws rm mc ms n ∧ (Cond.static y).before args s = true) (hp : PreS s H Pc As)
    (hg : g.method = m) (hn : As.length = n) (hsize : g.locals.size = nL) (hstack : g.stack = As.reverse ++ rest) (hW : 2 * g.monitorRoom + (rest.map fun v => v.category).sum ≤ 8) (hdg : decode cc g.pc = .ok (.invokestatic index, 3)) (hf : cells + mc ≤ R.cells ∧ slots + ms ≤ R.slots) :
    vx_Run p l e R s m args below meth c H locs cells slots mc ms g rest (Qc As.toArray) XC free := by
  have hK : vx_Back l R p e below s args y 3 8 (PreOf R mc ms Pc) (PostOf Qc mc ms free) (vx_Post XC mc ms free) := vx_callBack cw.1 hM hp.1
  obtain ⟨⟨-, -, -, -, -, -, hcode, hini, hy, hlen, hl⟩, hstt⟩ := cw
  obtain ⟨hx, hb, hml, ho, -⟩ := S
  intro T hT X
  rcases vx_callS X hx (bytes := bytes) (maxL := maxL) (ret := ret) ho hl hstt hini hcode hy hK hg (hsize.trans hml.symm) (argsL := As) (rest := rest) (fun sig h => hn.trans (hlen sig h)) hstack hW (by rw [hb]; exact hdg)
    (fun vm₁ hW₁ => ⟨hf.1, hf.2, hp.2 (T.setVm vm₁) hT hW₁⟩) with ⟨v, vm₁, ⟨U', l2, c2, s2⟩, hW₁, X', ⟨g', mk, t, L, e1, e2, hq, h1, hL, h2, h3⟩, st⟩ | ⟨q, vm₁, ⟨U', l2, c2, s2⟩, hW₁, X', ⟨g', mk, t, L, E, ce, e1, e2, hq, hce, hcv, hcl, h1, hL, h2, h3⟩, st⟩
  · dsimp only [Pt.U, Pt.locs, Pt.cells, Pt.slots] at X' e1 e2 h1 h2 h3 st
    subst h1; subst h2; subst h3
    exact Or.inl ⟨v, (T.setVm vm₁).calling g' mk As.toArray, t, U', L, hT, X', hL, e1, e2, hq, st⟩
  · dsimp only [Pt.U, Pt.locs, Pt.cells, Pt.slots] at X' e1 e2 h1 h2 h3 st hcl
    subst h1; subst h2; subst h3
    exact Or.inr ⟨q, (T.setVm vm₁).calling g' mk As.toArray, t, U', L, E, ce, hT, X', hL, e1, e2, hq, hce, hcv, vx_cls hW₁ hcl, st⟩
end Runs
section Rows
variable {p : Program} {l : Launch} {e : Env} {R : Room} {s : State} {m : MethodId} {args : Array Value} {below : List Frame} {meth : Method} {c : Code} {H : Heap} {locs : List Loc} {cells slots : Nat} {Q : State → Prop}
variable {mc ms : Nat} {free : Addr → Prop} {A0 A1 : Nat → Prop} {H0 : Heap} {a : Array Value} {pc : Nat} {ls : Array Slot} {st0 rest : List Value}
theorem vx_keep {st₀ t T' : State} {L : List Loc} (h0 : st₀.heap = H) (e1 : T'.heap = t.heap) (hS : va_S A0 H0 H locs) (hA : ∀ q, q < H.size → A1 q → A0 q) (hf : ∀ q, free q → A0 q) (hL : ∀ q ∈ L, free q.base) (hF : va_F A1 st₀ t) :
    H.size ≤ T'.heap.size ∧ (∀ q : Nat, q < H.size → ¬ A1 q → T'.heap[q]? = H[q]?) ∧ va_S A0 H0 T'.heap (locs ++ L) := by
  obtain ⟨hz, hk⟩ := hF
  rw [h0] at hz hk
  exact ⟨by rw [e1]; exact hz, fun q h1 h2 => by rw [e1]; exact hk q h1 h2,
    ⟨Nat.le_trans hS.1 (by rw [e1]; exact hz), fun q h1 h2 => by rw [e1, hk q (Nat.lt_of_lt_of_le h1 hS.1) (fun z => h2 (hA q (Nat.lt_of_lt_of_le h1 hS.1) z))]; exact hS.2.1 q h1 h2, fun q hq => by
      rcases List.mem_append.mp hq with h | h
      · exact hS.2.2 q h
      · exact hf _ (hL q h)⟩⟩
theorem vx_calli {S SX : Type} {post : Int32 → S → Prop} {px : SX → Prop} {B : S → State → Prop} {BX : String → SX → State → Prop} {AX : Nat → Prop} (hr : vx_Run p l e R s m args below meth c H locs cells slots mc ms (F0 m pc ls st0) rest (va_Qi post B A1 a) (vx_X px BX AX) free) (hS : va_S A0 H0 H locs) (hA : ∀ q, q < H.size → A1 q → A0 q) (hf : ∀ q, free q → A0 q) (hAX : ∀ q, q < H.size → AX q → A0 q)
    (kx : ∀ (E : String) (ce : Cell) (q9 : Addr) (u : SX) (t : State) (H1 : Heap) (locs1 : List Loc), t.heap = H1 → s.vm.Alike t.vm → px u → BX E u t → H.size ≤ H1.size → (∀ q : Nat, q < H.size → ¬ AX q → H1[q]? = H[q]?) → va_S A0 H0 H1 locs1 → H1[q9]? = some ce → ce.vm = .none → s.vm.findClass E = some ce.cls → vx_W p l e R s m args below meth c H1 locs1 (cells + mc) (slots + ms) Q (F0 m pc ls rest) q9)
    (kk : ∀ (r : Int32) (u : S) (t : State) (H1 : Heap) (locs1 : List Loc), t.heap = H1 → s.vm.Alike t.vm → post r u → B u t → H.size ≤ H1.size → (∀ q : Nat, q < H.size → ¬ A1 q → H1[q]? = H[q]?) → va_S A0 H0 H1 locs1 → W p l e R s m args below meth c H1 locs1 (cells + mc) (slots + ms) Q (F0 m (pc + 3) ls (.int r :: rest))) : W p l e R s m args below meth c H locs cells slots Q (F0 m pc ls st0) := by
  intro T hT X
  rcases hr T hT X with ⟨v, st₀, t, T', L, h0, X', hL, e1, e2, ⟨⟨r, u, hv, hp, hb⟩, hF⟩, st⟩ | ⟨q, st₀, t, T', L, E, ce, h0, X', hL, e1, e2, ⟨u, hp, hb, hF⟩, hce, hcv, hcl, st⟩
  · cases hv
    obtain ⟨k1, k2, k3⟩ := vx_keep h0 e1 hS hA hf hL hF
    obtain ⟨t2, a1, b1⟩ := kk r u t T'.heap (locs ++ L) e1.symm (by rw [← e2]; exact X'.warmed.alike) hp hb k1 k2 k3 T' rfl X'
    exact ⟨t2, st t2 a1, b1⟩
  · obtain ⟨k1, k2, k3⟩ := vx_keep h0 e1 hS hAX hf hL hF
    obtain ⟨t2, a1, b1⟩ := kx E ce q u t T'.heap (locs ++ L) e1.symm (by rw [← e2]; exact X'.warmed.alike) hp hb k1 k2 k3 (by rw [e1]; exact hce) hcv hcl T' rfl X'
    exact ⟨t2, st.trans a1, b1⟩
theorem vx_calll {S SX : Type} {post : Int64 → S → Prop} {px : SX → Prop} {B : S → State → Prop} {BX : String → SX → State → Prop} {AX : Nat → Prop} (hr : vx_Run p l e R s m args below meth c H locs cells slots mc ms (F0 m pc ls st0) rest (va_Ql post B A1 a) (vx_X px BX AX) free) (hS : va_S A0 H0 H locs) (hA : ∀ q, q < H.size → A1 q → A0 q) (hf : ∀ q, free q → A0 q) (hAX : ∀ q, q < H.size → AX q → A0 q)
    (kx : ∀ (E : String) (ce : Cell) (q9 : Addr) (u : SX) (t : State) (H1 : Heap) (locs1 : List Loc), t.heap = H1 → s.vm.Alike t.vm → px u → BX E u t → H.size ≤ H1.size → (∀ q : Nat, q < H.size → ¬ AX q → H1[q]? = H[q]?) → va_S A0 H0 H1 locs1 → H1[q9]? = some ce → ce.vm = .none → s.vm.findClass E = some ce.cls → vx_W p l e R s m args below meth c H1 locs1 (cells + mc) (slots + ms) Q (F0 m pc ls rest) q9)
    (kk : ∀ (r : Int64) (u : S) (t : State) (H1 : Heap) (locs1 : List Loc), t.heap = H1 → s.vm.Alike t.vm → post r u → B u t → H.size ≤ H1.size → (∀ q : Nat, q < H.size → ¬ A1 q → H1[q]? = H[q]?) → va_S A0 H0 H1 locs1 → W p l e R s m args below meth c H1 locs1 (cells + mc) (slots + ms) Q (F0 m (pc + 3) ls (.long r :: rest))) : W p l e R s m args below meth c H locs cells slots Q (F0 m pc ls st0) := by
  intro T hT X
  rcases hr T hT X with ⟨v, st₀, t, T', L, h0, X', hL, e1, e2, ⟨⟨r, u, hv, hp, hb⟩, hF⟩, st⟩ | ⟨q, st₀, t, T', L, E, ce, h0, X', hL, e1, e2, ⟨u, hp, hb, hF⟩, hce, hcv, hcl, st⟩
  · cases hv
    obtain ⟨k1, k2, k3⟩ := vx_keep h0 e1 hS hA hf hL hF
    obtain ⟨t2, a1, b1⟩ := kk r u t T'.heap (locs ++ L) e1.symm (by rw [← e2]; exact X'.warmed.alike) hp hb k1 k2 k3 T' rfl X'
    exact ⟨t2, st t2 a1, b1⟩
  · obtain ⟨k1, k2, k3⟩ := vx_keep h0 e1 hS hAX hf hL hF
    obtain ⟨t2, a1, b1⟩ := kx E ce q u t T'.heap (locs ++ L) e1.symm (by rw [← e2]; exact X'.warmed.alike) hp hb k1 k2 k3 (by rw [e1]; exact hce) hcv hcl T' rfl X'
    exact ⟨t2, st.trans a1, b1⟩
theorem vx_callf {S SX : Type} {post : UInt32 → S → Prop} {px : SX → Prop} {B : S → State → Prop} {BX : String → SX → State → Prop} {AX : Nat → Prop} (hr : vx_Run p l e R s m args below meth c H locs cells slots mc ms (F0 m pc ls st0) rest (va_Qf post B A1 a) (vx_X px BX AX) free) (hS : va_S A0 H0 H locs) (hA : ∀ q, q < H.size → A1 q → A0 q) (hf : ∀ q, free q → A0 q) (hAX : ∀ q, q < H.size → AX q → A0 q)
    (kx : ∀ (E : String) (ce : Cell) (q9 : Addr) (u : SX) (t : State) (H1 : Heap) (locs1 : List Loc), t.heap = H1 → s.vm.Alike t.vm → px u → BX E u t → H.size ≤ H1.size → (∀ q : Nat, q < H.size → ¬ AX q → H1[q]? = H[q]?) → va_S A0 H0 H1 locs1 → H1[q9]? = some ce → ce.vm = .none → s.vm.findClass E = some ce.cls → vx_W p l e R s m args below meth c H1 locs1 (cells + mc) (slots + ms) Q (F0 m pc ls rest) q9)
    (kk : ∀ (r : UInt32) (u : S) (t : State) (H1 : Heap) (locs1 : List Loc), t.heap = H1 → s.vm.Alike t.vm → post r u → B u t → H.size ≤ H1.size → (∀ q : Nat, q < H.size → ¬ A1 q → H1[q]? = H[q]?) → va_S A0 H0 H1 locs1 → W p l e R s m args below meth c H1 locs1 (cells + mc) (slots + ms) Q (F0 m (pc + 3) ls (.float r :: rest))) : W p l e R s m args below meth c H locs cells slots Q (F0 m pc ls st0) := by
  intro T hT X
  rcases hr T hT X with ⟨v, st₀, t, T', L, h0, X', hL, e1, e2, ⟨⟨r, u, hv, hp, hb⟩, hF⟩, st⟩ | ⟨q, st₀, t, T', L, E, ce, h0, X', hL, e1, e2, ⟨u, hp, hb, hF⟩, hce, hcv, hcl, st⟩
  · cases hv
    obtain ⟨k1, k2, k3⟩ := vx_keep h0 e1 hS hA hf hL hF
    obtain ⟨t2, a1, b1⟩ := kk r u t T'.heap (locs ++ L) e1.symm (by rw [← e2]; exact X'.warmed.alike) hp hb k1 k2 k3 T' rfl X'
    exact ⟨t2, st t2 a1, b1⟩
  · obtain ⟨k1, k2, k3⟩ := vx_keep h0 e1 hS hAX hf hL hF
    obtain ⟨t2, a1, b1⟩ := kx E ce q u t T'.heap (locs ++ L) e1.symm (by rw [← e2]; exact X'.warmed.alike) hp hb k1 k2 k3 (by rw [e1]; exact hce) hcv hcl T' rfl X'
    exact ⟨t2, st.trans a1, b1⟩
theorem vx_calld {S SX : Type} {post : UInt64 → S → Prop} {px : SX → Prop} {B : S → State → Prop} {BX : String → SX → State → Prop} {AX : Nat → Prop} (hr : vx_Run p l e R s m args below meth c H locs cells slots mc ms (F0 m pc ls st0) rest (va_Qd post B A1 a) (vx_X px BX AX) free) (hS : va_S A0 H0 H locs) (hA : ∀ q, q < H.size → A1 q → A0 q) (hf : ∀ q, free q → A0 q) (hAX : ∀ q, q < H.size → AX q → A0 q)
    (kx : ∀ (E : String) (ce : Cell) (q9 : Addr) (u : SX) (t : State) (H1 : Heap) (locs1 : List Loc), t.heap = H1 → s.vm.Alike t.vm → px u → BX E u t → H.size ≤ H1.size → (∀ q : Nat, q < H.size → ¬ AX q → H1[q]? = H[q]?) → va_S A0 H0 H1 locs1 → H1[q9]? = some ce → ce.vm = .none → s.vm.findClass E = some ce.cls → vx_W p l e R s m args below meth c H1 locs1 (cells + mc) (slots + ms) Q (F0 m pc ls rest) q9)
    (kk : ∀ (r : UInt64) (u : S) (t : State) (H1 : Heap) (locs1 : List Loc), t.heap = H1 → s.vm.Alike t.vm → post r u → B u t → H.size ≤ H1.size → (∀ q : Nat, q < H.size → ¬ A1 q → H1[q]? = H[q]?) → va_S A0 H0 H1 locs1 → W p l e R s m args below meth c H1 locs1 (cells + mc) (slots + ms) Q (F0 m (pc + 3) ls (.double r :: rest))) : W p l e R s m args below meth c H locs cells slots Q (F0 m pc ls st0) := by
  intro T hT X
  rcases hr T hT X with ⟨v, st₀, t, T', L, h0, X', hL, e1, e2, ⟨⟨r, u, hv, hp, hb⟩, hF⟩, st⟩ | ⟨q, st₀, t, T', L, E, ce, h0, X', hL, e1, e2, ⟨u, hp, hb, hF⟩, hce, hcv, hcl, st⟩
  · cases hv
    obtain ⟨k1, k2, k3⟩ := vx_keep h0 e1 hS hA hf hL hF
    obtain ⟨t2, a1, b1⟩ := kk r u t T'.heap (locs ++ L) e1.symm (by rw [← e2]; exact X'.warmed.alike) hp hb k1 k2 k3 T' rfl X'
    exact ⟨t2, st t2 a1, b1⟩
  · obtain ⟨k1, k2, k3⟩ := vx_keep h0 e1 hS hAX hf hL hF
    obtain ⟨t2, a1, b1⟩ := kx E ce q u t T'.heap (locs ++ L) e1.symm (by rw [← e2]; exact X'.warmed.alike) hp hb k1 k2 k3 (by rw [e1]; exact hce) hcv hcl T' rfl X'
    exact ⟨t2, st.trans a1, b1⟩
theorem vx_callv {S SX : Type} {post : S → Prop} {px : SX → Prop} {B : S → State → Prop} {BX : String → SX → State → Prop} {AX : Nat → Prop} (hr : vx_Run p l e R s m args below meth c H locs cells slots mc ms (F0 m pc ls st0) rest (va_Qv post B A1 a) (vx_X px BX AX) free) (hS : va_S A0 H0 H locs) (hA : ∀ q, q < H.size → A1 q → A0 q) (hf : ∀ q, free q → A0 q) (hAX : ∀ q, q < H.size → AX q → A0 q)
    (kx : ∀ (E : String) (ce : Cell) (q9 : Addr) (u : SX) (t : State) (H1 : Heap) (locs1 : List Loc), t.heap = H1 → s.vm.Alike t.vm → px u → BX E u t → H.size ≤ H1.size → (∀ q : Nat, q < H.size → ¬ AX q → H1[q]? = H[q]?) → va_S A0 H0 H1 locs1 → H1[q9]? = some ce → ce.vm = .none → s.vm.findClass E = some ce.cls → vx_W p l e R s m args below meth c H1 locs1 (cells + mc) (slots + ms) Q (F0 m pc ls rest) q9)
    (kk : ∀ (u : S) (t : State) (H1 : Heap) (locs1 : List Loc), t.heap = H1 → s.vm.Alike t.vm → post u → B u t → H.size ≤ H1.size → (∀ q : Nat, q < H.size → ¬ A1 q → H1[q]? = H[q]?) → va_S A0 H0 H1 locs1 → W p l e R s m args below meth c H1 locs1 (cells + mc) (slots + ms) Q (F0 m (pc + 3) ls (rest))) : W p l e R s m args below meth c H locs cells slots Q (F0 m pc ls st0) := by
  intro T hT X
  rcases hr T hT X with ⟨v, st₀, t, T', L, h0, X', hL, e1, e2, ⟨⟨u, hv, hp, hb⟩, hF⟩, st⟩ | ⟨q, st₀, t, T', L, E, ce, h0, X', hL, e1, e2, ⟨u, hp, hb, hF⟩, hce, hcv, hcl, st⟩
  · cases hv
    obtain ⟨k1, k2, k3⟩ := vx_keep h0 e1 hS hA hf hL hF
    obtain ⟨t2, a1, b1⟩ := kk u t T'.heap (locs ++ L) e1.symm (by rw [← e2]; exact X'.warmed.alike) hp hb k1 k2 k3 T' rfl X'
    exact ⟨t2, st t2 a1, b1⟩
  · obtain ⟨k1, k2, k3⟩ := vx_keep h0 e1 hS hAX hf hL hF
    obtain ⟨t2, a1, b1⟩ := kx E ce q u t T'.heap (locs ++ L) e1.symm (by rw [← e2]; exact X'.warmed.alike) hp hb k1 k2 k3 (by rw [e1]; exact hce) hcv hcl T' rfl X'
    exact ⟨t2, st.trans a1, b1⟩
/-- caught by the row x of this method's table; the rows ahead don't take it -/
theorem vx_catch {own name : String} {E : String} {ce : Cell} {q : Addr} (hown : s.vm.findClass own = some m.cls) (pre : List ExceptionTableEntry) (x : ExceptionTableEntry) (suf : List ExceptionTableEntry) (hsplit : c.exceptionTable.toList = pre ++ x :: suf)
    (hpass : ∀ z ∈ pre, covers z pc = false ∨ (z.catchType ≠ 0 ∧ ∃ nm : String, (Cond.classLink own z.catchType nm).before args s = true ∧ va_Nc E nm s)) (hx : covers x pc = true) (h0 : x.catchType ≠ 0)
    (hlink : (Cond.classLink own x.catchType name).before args s = true) (hcast : (Cond.castable E name).before args s = true) (hcell : H[q]? = some ce) (hv : ce.vm = .none) (hcl : s.vm.findClass E = some ce.cls)
    (kk : W p l e R s m args below meth c H locs cells slots Q (F0 m x.handlerPc ls [.ref q])) : vx_W p l e R s m args below meth c H locs cells slots Q (F0 m pc ls rest) q := by
  intro T hT X
  have hpl : e.platform.magicAccessors = ({} : Platform).magicAccessors := by rw [X.admits.platform]
  obtain ⟨c3, c4, hc3, hc4, hasg⟩ := Cond.castable_spec hcast
  cases Option.some.inj (hc3.symm.trans hcl)
  obtain ⟨c5, hc5, hcl5⟩ := Cond.classLink_spec hown hlink e.platform hpl
  cases Option.some.inj (hc4.symm.trans hc5)
  obtain ⟨vm', X', st⟩ := X.thenCaughtThrough q (g := F0 m pc ls rest) rfl (Steps.refl _) (by rw [hT]; exact hcell) (by rw [hv]; rfl) (by obtain ⟨k9, h9, -⟩ := Vm.findClass_spec hcl; exact ⟨k9, h9⟩) pre x suf hsplit
    (fun z hz => by
      rcases hpass z hz with h | ⟨hz0, nm, hl1, hn1⟩
      · exact Or.inl h
      · obtain ⟨c6, hc6, hcl6⟩ := Cond.classLink_spec hown hl1 e.platform hpl
        obtain ⟨a8, b8, h1, h2, h3⟩ := hn1
        cases Option.some.inj (h1.symm.trans hcl)
        cases Option.some.inj (h2.symm.trans hc6)
        exact Or.inr ⟨hz0, _, hcl6, h3⟩) hx (Or.inr ⟨h0, c4, hcl5, hasg⟩)
  obtain ⟨t, a1, b1⟩ := kk (T.setVm vm') hT X'
  exact ⟨t, st.trans a1, b1⟩
end Rows
section Ends
variable {p : Program} {l : Launch} {e : Env} {R : Room} {s : State} {m : MethodId} {args : Array Value} {below : List Frame} {meth : Method} {c : Code} {H : Heap} {locs : List Loc} {cells slots : Nat} {Q : State → Prop}
variable {mc ms : Nat} {free : Addr → Prop} {A0 A1 : Nat → Prop} {H0 : Heap} {a : Array Value} {ls : Array Slot} {st0 rest : List Value}
variable {Qc : Array Value → State → Outcome → State → Prop} {XC : String → State → State → Prop}
/-- what a body that may throw owes at its end -/
def vx_MQ (below : List Frame) (Qc : Array Value → State → Outcome → State → Prop) (XC : String → State → State → Prop) (a : Array Value) (s : State) (mc ms : Nat) (free : Addr → Prop) : State → Prop := fun t =>
  ∃ o, t.status = .running ∧ Ended t below o ∧ vx_Q Qc XC mc ms free a s o t
theorem vx_ret {g : JFrame} {mc ms : Nat} (k : W p l e R s m args below meth c H locs cells slots (MQ below Qc args s mc ms free) g) : W p l e R s m args below meth c H locs cells slots (vx_MQ below Qc XC args s mc ms free) g := by
  intro T hT X
  obtain ⟨t, a1, o, b1, b2, b3, b4⟩ := k T hT X
  exact ⟨t, a1, o, b1, b2, Or.inl ⟨b3, b4⟩⟩
/-- not caught here: it goes on to the caller -/
theorem vx_widen {g : JFrame} {q : Addr} {k n : Nat} (h1 : cells ≤ k) (h2 : slots ≤ n) (kk : vx_W p l e R s m args below meth c H locs k n Q g q) : vx_W p l e R s m args below meth c H locs cells slots Q g q := fun T hT X => kk T hT (stand_widen X h1 h2)
theorem vx_out {pc : Nat} {E : String} {ce : Cell} {q : Addr} {mc ms : Nat} (hout : ∀ x ∈ c.exceptionTable.toList, covers x pc = false) (hlocks : meth.locks = false) (hcell : H[q]? = some ce) (hv : ce.vm = .none) (hcl : s.vm.findClass E = some ce.cls)
    (hx : ∀ t : State, t.heap = H → s.vm.Alike t.vm → XC E s t) (hf : ∀ z ∈ locs, free z.base) (hc : cells ≤ mc) (hs : slots ≤ ms) :
    vx_W p l e R s m args below meth c H locs cells slots (vx_MQ below Qc XC args s mc ms free) (F0 m pc ls rest) q := by
  intro T hT X
  obtain ⟨st1, hrun, hend, hW, hsm⟩ := X.leaveThrown q (g := F0 m pc ls rest) rfl rfl rfl hout hlocks
  have hcell9 : (T.setFrames (.throwing q :: below)).heap[q]? = some ce := by
    show T.heap[q]? = some ce
    rw [hT]; exact hcell
  exact ⟨_, st1, .threw q, hrun, hend, Or.inr ⟨q, rfl, E, ce, locs, hx _ hT hW.alike, hcell9, hv, hcl, hW, hsm.mono hc hs, hf⟩⟩
theorem vx_frame {U : State} {k n : Nat} (h : s.sameButNew ({ U with vm := s.vm } : State) locs k n) : s.heap.size ≤ U.heap.size ∧ ∀ q : Nat, q < s.heap.size → (∀ z ∈ locs, z.base ≠ q) → U.heap[q]? = s.heap[q]? := by
  obtain ⟨-, h2, -, -, -, h6⟩ := h
  refine ⟨h2, fun q hq hz => ?_⟩
  obtain ⟨c9, e1, e2, e3, e4⟩ := h6 q _ (Array.getElem?_eq_getElem hq)
  have hs : c9.slots = (s.heap[q]).slots := Array.ext_getElem? fun i => e4 i fun hm => hz _ hm rfl
  have h9 : c9 = s.heap[q] := by
    rw [hs] at e2
    exact e2
  have e5 : U.heap[q]? = some c9 := e1
  rw [e5, h9, Array.getElem?_eq_getElem hq]
/-- the words of a throw but the four that speak of the heap -/
def vx_no (w : Cond) : Bool := decide (w ≠ .isRef (.static Bundle.tN "UNASSIGNED_STACK" Bundle.steD)) && decide (w ≠ .isRef (.static Bundle.tN "SUPPRESSED_SENTINEL" Bundle.listD)) && decide (w ≠ .laysStatic Bundle.tN "UNASSIGNED_STACK" Bundle.steD) && decide (w ≠ .laysStatic Bundle.tN "SUPPRESSED_SENTINEL" Bundle.listD)
def vx_at0 (own : String) (ic : Nat) (X : String) (names : List String) : List Cond := (Bundle.ownAtoms0 own ic X names).filter vx_no
def vx_atS (own : String) (ic : Nat) (X : String) (names : List String) : List Cond := (Bundle.ownAtoms own ic X names).filter vx_no
/-- a word that the tables alone decide, or a good one -/
def vx_ot (w : Cond) : Bool := w.onTables || goodWord w
theorem vx_ot_at {args a' : Array Value} {s U : State} {w : Cond} (hW : s.WarmedH U.vm) (hvm : s.vm = U.vm) (hg : vx_ot w = true) (h : w.before args s = true) : w.before a' U = true := by
  simp only [vx_ot, Bool.or_eq_true] at hg
  rcases hg with hg | hg
  · exact va_tabs hg hvm h
  · exact word_at hW (good_of_word hg) h
/-- a list's words: the good ones out of the method's own list, the others by premises of their own -/
theorem vx_hat {args : Array Value} {s : State} {L B : List Cond} (h1 : ∀ w ∈ L.filter goodWord, w.before args s = true) (h2 : ∀ w ∈ L.filter (fun w => !goodWord w), w ∈ B) (h3 : ∀ w ∈ B, w.before args s = true) : ∀ w ∈ L, w.before args s = true := by
  intro w hw
  by_cases g : goodWord w = true
  · exact h1 w (List.mem_filter.mpr ⟨hw, g⟩)
  · refine h3 w (h2 w (List.mem_filter.mpr ⟨hw, ?_⟩))
    show (!goodWord w) = true
    cases hgw : goodWord w
    · rfl
    · exact absurd hgw g
theorem vx_c {args : Array Value} {s : State} {w : Cond} {B : List Cond} (h : w.before args s = true) (t : ∀ w ∈ B, w.before args s = true) : ∀ w' ∈ w :: B, w'.before args s = true := fun w' h' => (List.mem_cons.mp h').elim (fun e => by rw [e]; exact h) (t w')
theorem vx_n {args : Array Value} {s : State} : ∀ w ∈ ([] : List Cond), w.before args s = true := fun _ h => nomatch h
theorem vx_own {args : Array Value} {s : State} {L : List Cond} (h1 : ∀ w ∈ L.filter vx_no, w.before args s = true)
    (hU : (Cond.isRef (.static Bundle.tN "UNASSIGNED_STACK" Bundle.steD)).before args s = true) (hN : (Cond.isRef (.static Bundle.tN "SUPPRESSED_SENTINEL" Bundle.listD)).before args s = true)
    (lU : (Cond.laysStatic Bundle.tN "UNASSIGNED_STACK" Bundle.steD).before args s = true) (lN : (Cond.laysStatic Bundle.tN "SUPPRESSED_SENTINEL" Bundle.listD).before args s = true) : ∀ w ∈ L, w.before args s = true := by
  intro w hw
  by_cases e1 : w = .isRef (.static Bundle.tN "UNASSIGNED_STACK" Bundle.steD)
  · rw [e1]; exact hU
  · by_cases e2 : w = .isRef (.static Bundle.tN "SUPPRESSED_SENTINEL" Bundle.listD)
    · rw [e2]; exact hN
    · by_cases e3 : w = .laysStatic Bundle.tN "UNASSIGNED_STACK" Bundle.steD
      · rw [e3]; exact lU
      · by_cases e4 : w = .laysStatic Bundle.tN "SUPPRESSED_SENTINEL" Bundle.listD
        · rw [e4]; exact lN
        · exact h1 w (List.mem_filter.mpr ⟨hw, by unfold vx_no; rw [decide_eq_true e1, decide_eq_true e2, decide_eq_true e3, decide_eq_true e4]; rfl⟩)
/-- where a static field lies, its class's statics cell in H -/
def vx_L (C n d : String) (A : Nat → Prop) (U : State) (H : Heap) : Prop := ∃ (c : ClassId) (k : Class) (i : Nat) (f : Field) (a : Nat) (cell : Cell), U.vm.findClass C = some c ∧ U.fieldFound? C n d = some (c, k, i, f) ∧ f.isStatic = true ∧ k.statics = some a ∧ H[a]? = some cell ∧ cell.vm.isStatics = true ∧ cell.cls = c ∧ f.slot < cell.slots.size ∧ k.staticTypes[f.slot]? = some f.type ∧ ¬ A a
theorem vx_L.moved {C n d : String} {A : Nat → Prop} {u U : State} {H : Heap} (hvm : u.vm.Alike U.vm) (h : vx_L C n d A u H) : vx_L C n d A U H := by
  obtain ⟨c, k, i, f, a, cell, h1, h2, h3, h4, h5, h6, h7, h8, h9, h10⟩ := h
  obtain ⟨k', hi', he⟩ := State.fieldFound?_setVm hvm h2
  exact ⟨c, k', i, f, a, cell, by rw [hvm.findClass]; exact h1, hi', h3, by rw [he]; exact h4, h5, h6, h7, h8, by rw [he]; exact h9, h10⟩
theorem vx_L.kept {C n d : String} {A : Nat → Prop} {U : State} {H H1 : Heap} (h : vx_L C n d A U H) (hq : ∀ a : Nat, a < H.size → ¬ A a → H1[a]? = H[a]?) : vx_L C n d A U H1 := by
  obtain ⟨c, k, i, f, a, cell, h1, h2, h3, h4, h5, h6, h7, h8, h9, h10⟩ := h
  exact ⟨c, k, i, f, a, cell, h1, h2, h3, h4, by rw [hq a (Array.getElem?_eq_some_iff.mp h5).1 h10]; exact h5, h6, h7, h8, h9, h10⟩
theorem vx_L.narrow {C n d : String} {A B : Nat → Prop} {U : State} {H : Heap} (h : vx_L C n d A U H) (hAB : ∀ q, B q → A q) : vx_L C n d B U H := by
  obtain ⟨c, k, i, f, a, cell, h1, h2, h3, h4, h5, h6, h7, h8, h9, h10⟩ := h
  exact ⟨c, k, i, f, a, cell, h1, h2, h3, h4, h5, h6, h7, h8, h9, fun z => h10 (hAB _ z)⟩
theorem vx_L.word {C n d : String} {A : Nat → Prop} {s : State} {args : Array Value} (h : vx_L C n d A s s.heap) : (Cond.laysStatic C n d).before args s = true := by
  obtain ⟨c, k, i, f, a, cell, h1, h2, h3, h4, h5, h6, h7, h8, h9, -⟩ := h
  show (Cond.laysStatic C n d).holds args s none s [] = true
  exact Cond.laysStatic_of h1 h2 h3 h4 h5 h6 h7 h8 h9
/-- .. and what it holds: null or some reference -/
def vx_Zq (C n d : String) (A : Nat → Prop) (U : State) (H : Heap) : Prop := va_Zq C n d A U H ∧ vx_L C n d A U H
theorem vx_Zq.moved {C n d : String} {A : Nat → Prop} {u U : State} {H : Heap} (hvm : u.vm.Alike U.vm) (h : vx_Zq C n d A u H) : vx_Zq C n d A U H := ⟨va_Zq.moved hvm h.1, vx_L.moved hvm h.2⟩
theorem vx_Zq.kept {C n d : String} {A : Nat → Prop} {U : State} {H H1 : Heap} (h : vx_Zq C n d A U H) (hq : ∀ a : Nat, a < H.size → ¬ A a → H1[a]? = H[a]?) : vx_Zq C n d A U H1 := ⟨va_Zq.kept h.1 hq, vx_L.kept h.2 hq⟩
theorem vx_Zq.narrow {C n d : String} {A B : Nat → Prop} {U : State} {H : Heap} (h : vx_Zq C n d A U H) (hAB : ∀ q, B q → A q) : vx_Zq C n d B U H := ⟨va_Zq.narrow h.1 hAB, vx_L.narrow h.2 hAB⟩
theorem vx_Zqof {args : Array Value} {s : State} {C n d : String} {A : Nat → Prop} (hl : (Cond.laysStatic C n d).before args s = true) (hini : (Cond.initialized C).before args s = true) (h : (Cond.isRef (.static C n d)).before args s = true) (hA : ∀ a : Nat, a < s.heap.size → ¬ A a) : vx_Zq C n d A s s.heap := by
  refine ⟨va_Zqof hl hini h hA, ?_⟩
  obtain ⟨c, k, i, f, a, cell, h1, h2, h3, h4, h5, h6, h7, h8, h9⟩ := Cond.laysStatic_spec hl
  exact ⟨c, k, i, f, a, cell, h1, h2, h3, h4, h5, h6, h7, h8, h9, hA a (Array.getElem?_eq_some_iff.mp h5).1⟩
theorem vx_isRef {C n d : String} {v : Value} {A : Nat → Prop} {s : State} {args : Array Value} (h : va_Z C n d v A s s.heap) (hv : v.isRef = true) : (Cond.isRef (.static C n d)).before args s = true := by
  obtain ⟨cf, kf, fi, f, a, cell, h1, h2, h3, h4, h5, h6, h7, -⟩ := h
  have he : (Term.static C n d).eval args s none [] s = some v := by
    simp [Term.eval, State.fieldNamed?, h1, h2, h4, h5, h6, h7]
  simp only [Cond.before, Cond.holds, Cond.value, he]
  cases v <;> simp_all [Value.isRef]
theorem vx_isRefq {C n d : String} {A : Nat → Prop} {s : State} {args : Array Value} (h : va_Zq C n d A s s.heap) : (Cond.isRef (.static C n d)).before args s = true := by
  rcases h with h | ⟨t, h⟩
  · exact vx_isRef h rfl
  · exact vx_isRef h rfl
/-- the same frame, seen from here: as if the method were called anew in this heap -/
theorem vx_rebase {T : State} (X : Stand p l e R s m args below meth c T locs cells slots) {R' : Room} (hf : R'.frames ≤ R.frames) (hl : R'.locals ≤ R.locals) (hc : cells + R'.cells ≤ R.cells) (hs : slots + R'.slots ≤ R.slots) :
    Stand p l e R' ((T.setVm s.vm).setFrames (.invoking m args :: below)) m args below meth c T [] 0 0 := by
  have htop : (T.setVm s.vm).topJava?.isSome := X.here.top
  have hF : ((T.setVm s.vm).setFrames (.invoking m args :: below)).frames = .invoking m args :: below := State.frames_setFrames _ (State.cur_lt_of_top htop)
  obtain ⟨g₀, hg0⟩ := Option.isSome_iff_exists.mp htop
  obtain ⟨r, hr⟩ := State.topJava?_eq_some.mp hg0
  have hl9 : e.platform.stackLimits (T.setVm s.vm).me = e.platform.stackLimits s.me := X.limits
  have hb9 : (T.setVm s.vm).me.stackBytes = s.me.stackBytes := X.bytes
  refine ⟨X.admits, X.cas, X.clock, hF, ?_, X.hears, X.method, X.code, X.here, X.tail, X.warmed, ?_, ?_, ?_⟩
  · have h := X.room
    have hU : ((T.setVm s.vm).setFrames (.invoking m args :: below)).localsInUse = s.localsInUse := by
      rw [State.localsInUse_invoking hF (meth := meth) (c := c) X.method X.code, State.localsInUse_invoking X.frames X.method X.code]
    simp only [State.hasRoom, Bool.and_eq_true, decide_eq_true_eq] at h ⊢
    obtain ⟨⟨⟨⟨h1, h2, h3, h4, h5, h6⟩, h7⟩, h8⟩, h9⟩ := h
    rw [X.frames, List.length_cons] at h2 h3
    have q1 := X.heapSize
    have q2 := X.used
    simp only [hF, hU, List.length_cons, State.stackLimits_setFrames, State.stackBytes_setFrames, hl9, hb9]
    refine ⟨⟨⟨⟨by omega, by omega, by omega, by omega, by omega, h6⟩, ?_⟩, ?_⟩, X.book⟩
    · show T.heap.size + R'.cells ≤ e.platform.maxCells
      omega
    · show T.slotsUsed + R'.slots ≤ e.platform.maxSlots
      omega
  · rw [State.stackLimits_setFrames]; rfl
  · rw [State.stackBytes_setFrames]; rfl
  · refine ⟨?_, Nat.le_refl _, Nat.le_refl _, ?_, ?_, fun a c9 h9 => ⟨c9, h9, rfl, rfl, fun _ _ => rfl⟩⟩
    · obtain ⟨t, ht, -⟩ := State.frames_cons hr
      show T.setVm s.vm = { ((T.setVm s.vm).setFrames (.invoking m args :: below)).setFrames (T.setVm s.vm).frames with heap := T.heap, slotsUsed := T.slotsUsed }
      rw [State.setFrames_setFrames, State.setFrames_self ht]
      rfl
    · show T.slotsUsed = T.slotsUsed + ((T.heap.toList.drop T.heap.size).map (·.slots.size)).sum
      rw [List.drop_eq_nil_of_le (Nat.le_of_eq Array.length_toList)]
      rfl
    · show ((T.heap.toList.drop T.heap.size).map (·.slots.size)).sum ≤ 0
      rw [List.drop_eq_nil_of_le (Nat.le_of_eq Array.length_toList)]
      exact Nat.le_refl _
/-- 'throw new E()': new; dup; invokespecial; athrow -/
theorem vx_throw0 {cc : ByteArray} {pc : Nat} (hexec : p.tables.exec = Jvm.exec) (hb : c.code = cc) (hl : l.stackTraces = false) {own cls : String} {names : List String} {ik ic mc ms : Nat} {A : Nat → Prop}
    (hown : s.vm.findClass own = some m.cls) (hcls : Bundle.fit cls = true) (hnames : ∀ n ∈ names, Bundle.fit n = true)
    (hk : (Cond.classLink own ik cls).before args s = true) (hini : (Cond.initialized cls).before args s = true) (hat : ∀ w ∈ vx_at0 own ic cls names, w.before args s = true)
    (hgood : ∀ w ∈ Cond.classLink own ik cls :: Cond.initialized cls :: vx_at0 own ic cls names, vx_ot w = true)
    (hU : vx_Zq Bundle.tN "UNASSIGNED_STACK" Bundle.steD A s s.heap) (hN : vx_Zq Bundle.tN "SUPPRESSED_SENTINEL" Bundle.listD A s s.heap) (hS : va_S A s.heap H locs) (hsize : ls.size = c.maxLocals)
    (d0 : decode cc pc = .ok (.new ik, 3)) (d3 : decode cc (pc + 3) = .ok (.dup, 1)) (d4 : decode cc (pc + 4) = .ok (.invokespecial ic, 3)) (d7 : decode cc (pc + 7) = .ok (.athrow, 1))
    (hout : ∀ x ∈ c.exceptionTable.toList, covers x (pc + 7) = false)
    (hRframes : names.length + 3 < R.frames) (hRlocals : (rest.map fun v => v.category).sum + (13 * (names.length + 1) + 42) ≤ R.locals) (hRcells : cells + 1 ≤ R.cells) (hRslots : slots + 6 ≤ R.slots) (hlocks : meth.locks = false)
    (hx : ∀ t : State, s.vm.Alike t.vm → H.size ≤ t.heap.size → (∀ q : Nat, q < H.size → t.heap[q]? = H[q]?) → XC cls s t)
    (hf : ∀ z ∈ locs, free z.base) (hc : cells + 1 ≤ mc) (hs : slots + 6 ≤ ms) :
    W p l e R s m args below meth c H locs cells slots (vx_MQ below Qc XC args s mc ms free) (F0 m pc ls rest) := by
  intro T hT X
  have htr : e.platform.stackTraces = false := (show e.platform.stackTraces = l.stackTraces by rw [X.admits.platform]).trans hl
  have Y := vx_rebase X (R' := { frames := R.frames, locals := R.locals, cells := 1, slots := 6 }) (Nat.le_refl _) (Nat.le_refl _) hRcells hRslots
  obtain ⟨s', hA⟩ : ∃ z, z = (T.setVm s.vm).setFrames (.invoking m args :: below) := ⟨_, rfl⟩
  rw [← hA] at Y
  have hvm : s'.vm = s.vm := by rw [hA]; rfl
  have hhp : s'.heap = H := by rw [hA]; exact hT
  have hW0 : s.WarmedH s'.vm := by rw [hvm]; exact State.WarmedH.refl s
  have hat' : ∀ w ∈ vx_at0 own ic cls names, w.before args s' = true := fun w hw => vx_ot_at hW0 hvm.symm (hgood w (List.mem_cons_of_mem _ (List.mem_cons_of_mem _ hw))) (hat w hw)
  have hk' : (Cond.classLink own ik cls).before args s' = true := vx_ot_at hW0 hvm.symm (hgood _ List.mem_cons_self) hk
  have hini' : (Cond.initialized cls).before args s' = true := vx_ot_at hW0 hvm.symm (hgood _ (List.mem_cons_of_mem _ List.mem_cons_self)) hini
  have hU' : vx_Zq Bundle.tN "UNASSIGNED_STACK" Bundle.steD A s' s'.heap := by rw [hhp]; exact vx_Zq.moved hW0.alike (hU.kept hS.2.1)
  have hN' : vx_Zq Bundle.tN "SUPPRESSED_SENTINEL" Bundle.listD A s' s'.heap := by rw [hhp]; exact vx_Zq.moved hW0.alike (hN.kept hS.2.1)
  have h : ∀ w ∈ Bundle.ownAtoms0 own ic cls names, w.before args s' = true := vx_own hat' (vx_isRefq hU'.1) (vx_isRefq hN'.1) hU'.2.word hN'.2.word
  have hown' : s'.vm.findClass own = some m.cls := by rw [hvm]; exact hown
  have hins : (Cond.instantiable cls 6).before args s' = true := h _ (by simp [Bundle.ownAtoms0])
  obtain ⟨vm₁, cX, kX, hfX, hkX, -, -, X₁, st1⟩ := Y.newCold hexec (own := own) (C := cls) (index := ik) (n := 6) hown' hk' hins hini'
    (g := F0 m pc ls rest) rfl (by rw [hb]; exact d0) (Nat.le_refl _) (Nat.le_refl _)
  generalize hT1 : (T.setVm vm₁).pushCell { cls := cX, slots := kX.instanceTypes.map defaultValue, vm := .none } = T1 at X₁ st1
  have hcat : (Value.ref T.heap.size).category = 1 := rfl
  have hcellA : T1.heap[T.heap.size]? = some (freshCell cX kX) := by rw [← hT1]; exact State.heap_pushCell_size _ _
  have d3' : decode c.code (pc + 3) = .ok (.dup, 1) := by rw [hb]; exact d3
  obtain ⟨U, hsteps, hrun, hend, hW, hsame, ce, hce, hO⟩ := X₁.ctorThrow0 hexec htr (own := own) (cls := cls) (names := names) (ic := ic) hown' hcls hnames h (fun x hx => nomatch hx) hfX hkX hcellA (by rw [hhp, hT]; exact Nat.le_refl _)
    (g := { method := m, pc := pc + 4, locals := ls, stack := .ref T.heap.size :: .ref T.heap.size :: rest, locked := none }) rfl hsize rfl rfl (rest := rest) rfl
    (by rw [hb]; exact d4) (by rw [hb]; exact d7) hout hRframes (by simp only [List.map_cons, List.sum_cons, hcat]; omega) hlocks
  obtain ⟨f1, f2⟩ := vx_frame hsame
  rw [hhp] at f1 f2
  have hWs : s.WarmedH U.vm := State.WarmedH.trans hW0 hW
  have hcl : s.vm.findClass cls = some ce.cls := by
    have h9 := hO.cls
    rw [hvm] at h9
    exact h9
  have hall : s.sameButNew ({ U with vm := s.vm } : State) locs mc ms := by
    subst hA
    obtain ⟨e1, e2⟩ := hsame
    rw [State.setFrames_setFrames] at e1
    have h2 : (T.setVm s.vm).sameButNew ({ U with vm := s.vm } : State) [] (0 + 1) (0 + 6) := ⟨e1, e2⟩
    have h3 := X.same.trans h2
    rw [List.append_nil] at h3
    exact h3.mono hc hs
  refine ⟨U, ?_, .threw T.heap.size, hrun, hend, Or.inr ⟨T.heap.size, rfl, cls, ce, locs, hx U hWs.alike f1 (fun q hq => f2 q hq (fun z hz => nomatch hz)), hce, hO.vm, hcl, hWs, hall, hf⟩⟩
  refine st1 _ ?_
  show Steps p.tables e below (T1.setTop { method := m, pc := pc + 3, locals := ls, stack := .ref T.heap.size :: rest, locked := none }) _
  jvm_step X₁.here [X₁.here.top, hexec, d3', Value.category]
  exact hsteps
/-- 'throw new E("text")': new; dup; ldc; invokespecial; athrow -/
theorem vx_throwS {cc : ByteArray} {pc : Nat} (hexec : p.tables.exec = Jvm.exec) (hb : c.code = cc) (hl : l.stackTraces = false) {own cls text : String} {names : List String} {ik is ic mc ms sa : Nat} {A : Nat → Prop}
    (hown : s.vm.findClass own = some m.cls) (hcls : Bundle.fit cls = true) (hnames : ∀ n ∈ names, Bundle.fit n = true)
    (hk : (Cond.classLink own ik cls).before args s = true) (hini : (Cond.initialized cls).before args s = true) (hstr : vk_R own is text sa s) (hat : ∀ w ∈ vx_atS own ic cls names, w.before args s = true)
    (hgood : ∀ w ∈ Cond.classLink own ik cls :: Cond.initialized cls :: vx_atS own ic cls names, vx_ot w = true)
    (hU : vx_Zq Bundle.tN "UNASSIGNED_STACK" Bundle.steD A s s.heap) (hN : vx_Zq Bundle.tN "SUPPRESSED_SENTINEL" Bundle.listD A s s.heap) (hS : va_S A s.heap H locs) (hsize : ls.size = c.maxLocals)
    (d0 : decode cc pc = .ok (.new ik, 3)) (d3 : decode cc (pc + 3) = .ok (.dup, 1)) (d4 : decode cc (pc + 4) = .ok (.ldc is, 2)) (d6 : decode cc (pc + 6) = .ok (.invokespecial ic, 3)) (d9 : decode cc (pc + 9) = .ok (.athrow, 1))
    (hout : ∀ x ∈ c.exceptionTable.toList, covers x (pc + 9) = false)
    (hRframes : names.length + 3 < R.frames) (hRlocals : (rest.map fun v => v.category).sum + (13 * (names.length + 1) + 43) ≤ R.locals) (hRcells : cells + 1 ≤ R.cells) (hRslots : slots + 6 ≤ R.slots) (hlocks : meth.locks = false)
    (hx : ∀ t : State, s.vm.Alike t.vm → H.size ≤ t.heap.size → (∀ q : Nat, q < H.size → t.heap[q]? = H[q]?) → XC cls s t)
    (hf : ∀ z ∈ locs, free z.base) (hc : cells + 1 ≤ mc) (hs : slots + 6 ≤ ms) :
    W p l e R s m args below meth c H locs cells slots (vx_MQ below Qc XC args s mc ms free) (F0 m pc ls rest) := by
  intro T hT X
  have htr : e.platform.stackTraces = false := (show e.platform.stackTraces = l.stackTraces by rw [X.admits.platform]).trans hl
  have Y := vx_rebase X (R' := { frames := R.frames, locals := R.locals, cells := 1, slots := 6 }) (Nat.le_refl _) (Nat.le_refl _) hRcells hRslots
  obtain ⟨s', hA⟩ : ∃ z, z = (T.setVm s.vm).setFrames (.invoking m args :: below) := ⟨_, rfl⟩
  rw [← hA] at Y
  have hvm : s'.vm = s.vm := by rw [hA]; rfl
  have hhp : s'.heap = H := by rw [hA]; exact hT
  have hW0 : s.WarmedH s'.vm := by rw [hvm]; exact State.WarmedH.refl s
  have hat' : ∀ w ∈ vx_atS own ic cls names, w.before args s' = true := fun w hw => vx_ot_at hW0 hvm.symm (hgood w (List.mem_cons_of_mem _ (List.mem_cons_of_mem _ hw))) (hat w hw)
  have hk' : (Cond.classLink own ik cls).before args s' = true := vx_ot_at hW0 hvm.symm (hgood _ List.mem_cons_self) hk
  have hini' : (Cond.initialized cls).before args s' = true := vx_ot_at hW0 hvm.symm (hgood _ (List.mem_cons_of_mem _ List.mem_cons_self)) hini
  have hU' : vx_Zq Bundle.tN "UNASSIGNED_STACK" Bundle.steD A s' s'.heap := by rw [hhp]; exact vx_Zq.moved hW0.alike (hU.kept hS.2.1)
  have hN' : vx_Zq Bundle.tN "SUPPRESSED_SENTINEL" Bundle.listD A s' s'.heap := by rw [hhp]; exact vx_Zq.moved hW0.alike (hN.kept hS.2.1)
  have h : ∀ w ∈ Bundle.ownAtoms own ic cls names, w.before args s' = true := vx_own hat' (vx_isRefq hU'.1) (vx_isRefq hN'.1) hU'.2.word hN'.2.word
  have hown' : s'.vm.findClass own = some m.cls := by rw [hvm]; exact hown
  have hins : (Cond.instantiable cls 6).before args s' = true := h _ (by simp [Bundle.ownAtoms])
  obtain ⟨vm₁, cX, kX, hfX, hkX, -, -, X₁, st1⟩ := Y.newCold hexec (own := own) (C := cls) (index := ik) (n := 6) hown' hk' hins hini'
    (g := F0 m pc ls rest) rfl (by rw [hb]; exact d0) (Nat.le_refl _) (Nat.le_refl _)
  generalize hT1 : (T.setVm vm₁).pushCell { cls := cX, slots := kX.instanceTypes.map defaultValue, vm := .none } = T1 at X₁ st1
  have hcat : (Value.ref T.heap.size).category = 1 := rfl
  have hcellA : T1.heap[T.heap.size]? = some (freshCell cX kX) := by rw [← hT1]; exact State.heap_pushCell_size _ _
  have d3' : decode c.code (pc + 3) = .ok (.dup, 1) := by rw [hb]; exact d3
  have d4' : decode c.code (pc + 4) = .ok (.ldc is, 2) := by rw [hb]; exact d4
  have hstr' : vk_R own is text sa s' := vk_R.warm hW0 hstr
  obtain ⟨U, hsteps, hrun, hend, hW, hsame, ce, hce, hO⟩ := X₁.ctorThrowS hexec htr (own := own) (cls := cls) (names := names) (ic := ic) hown' hcls hnames h (fun x hx => nomatch hx) hfX hkX hcellA (by rw [hhp, hT]; exact Nat.le_refl _) (msg := .ref sa) rfl
    (g := { method := m, pc := pc + 6, locals := ls, stack := .ref sa :: .ref T.heap.size :: .ref T.heap.size :: rest, locked := none }) rfl hsize rfl rfl (rest := rest) rfl
    (by rw [hb]; exact d6) (by rw [hb]; exact d9) hout hRframes (by simp only [List.map_cons, List.sum_cons, hcat]; omega) hlocks
  obtain ⟨f1, f2⟩ := vx_frame hsame
  rw [hhp] at f1 f2
  have hWs : s.WarmedH U.vm := State.WarmedH.trans hW0 hW
  have hcl : s.vm.findClass cls = some ce.cls := by
    have h9 := hO.cls
    rw [hvm] at h9
    exact h9
  have hall : s.sameButNew ({ U with vm := s.vm } : State) locs mc ms := by
    subst hA
    obtain ⟨e1, e2⟩ := hsame
    rw [State.setFrames_setFrames] at e1
    have h2 : (T.setVm s.vm).sameButNew ({ U with vm := s.vm } : State) [] (0 + 1) (0 + 6) := ⟨e1, e2⟩
    have h3 := X.same.trans h2
    rw [List.append_nil] at h3
    exact h3.mono hc hs
  refine ⟨U, ?_, .threw T.heap.size, hrun, hend, Or.inr ⟨T.heap.size, rfl, cls, ce, locs, hx U hWs.alike f1 (fun q hq => f2 q hq (fun z hz => nomatch hz)), hce, hO.vm, hcl, hWs, hall, hf⟩⟩
  refine st1 _ ?_
  show Steps p.tables e below (T1.setTop { method := m, pc := pc + 3, locals := ls, stack := .ref T.heap.size :: rest, locked := none }) _
  jvm_step X₁.here [X₁.here.top, hexec, d3', Value.category]
  exact X₁.ldcString hexec (own := own) (text := text) (index := is) (a := sa) hown' hstr'.1 hstr'.2
    (g := { method := m, pc := pc + 4, locals := ls, stack := .ref T.heap.size :: .ref T.heap.size :: rest, locked := none }) rfl d4' _ hsteps
/-- 'throw new E("text")', the text by a wide index -/
theorem vx_throwSW {cc : ByteArray} {pc : Nat} (hexec : p.tables.exec = Jvm.exec) (hb : c.code = cc) (hl : l.stackTraces = false) {own cls text : String} {names : List String} {ik is ic mc ms sa : Nat} {A : Nat → Prop}
    (hown : s.vm.findClass own = some m.cls) (hcls : Bundle.fit cls = true) (hnames : ∀ n ∈ names, Bundle.fit n = true)
    (hk : (Cond.classLink own ik cls).before args s = true) (hini : (Cond.initialized cls).before args s = true) (hstr : vk_R own is text sa s) (hat : ∀ w ∈ vx_atS own ic cls names, w.before args s = true)
    (hgood : ∀ w ∈ Cond.classLink own ik cls :: Cond.initialized cls :: vx_atS own ic cls names, vx_ot w = true)
    (hU : vx_Zq Bundle.tN "UNASSIGNED_STACK" Bundle.steD A s s.heap) (hN : vx_Zq Bundle.tN "SUPPRESSED_SENTINEL" Bundle.listD A s s.heap) (hS : va_S A s.heap H locs) (hsize : ls.size = c.maxLocals)
    (d0 : decode cc pc = .ok (.new ik, 3)) (d3 : decode cc (pc + 3) = .ok (.dup, 1)) (d4 : decode cc (pc + 4) = .ok (.ldc_w is, 3)) (d7 : decode cc (pc + 7) = .ok (.invokespecial ic, 3)) (d10 : decode cc (pc + 10) = .ok (.athrow, 1))
    (hout : ∀ x ∈ c.exceptionTable.toList, covers x (pc + 10) = false)
    (hRframes : names.length + 3 < R.frames) (hRlocals : (rest.map fun v => v.category).sum + (13 * (names.length + 1) + 43) ≤ R.locals) (hRcells : cells + 1 ≤ R.cells) (hRslots : slots + 6 ≤ R.slots) (hlocks : meth.locks = false)
    (hx : ∀ t : State, s.vm.Alike t.vm → H.size ≤ t.heap.size → (∀ q : Nat, q < H.size → t.heap[q]? = H[q]?) → XC cls s t)
    (hf : ∀ z ∈ locs, free z.base) (hc : cells + 1 ≤ mc) (hs : slots + 6 ≤ ms) :
    W p l e R s m args below meth c H locs cells slots (vx_MQ below Qc XC args s mc ms free) (F0 m pc ls rest) := by
  intro T hT X
  have htr : e.platform.stackTraces = false := (show e.platform.stackTraces = l.stackTraces by rw [X.admits.platform]).trans hl
  have Y := vx_rebase X (R' := { frames := R.frames, locals := R.locals, cells := 1, slots := 6 }) (Nat.le_refl _) (Nat.le_refl _) hRcells hRslots
  obtain ⟨s', hA⟩ : ∃ z, z = (T.setVm s.vm).setFrames (.invoking m args :: below) := ⟨_, rfl⟩
  rw [← hA] at Y
  have hvm : s'.vm = s.vm := by rw [hA]; rfl
  have hhp : s'.heap = H := by rw [hA]; exact hT
  have hW0 : s.WarmedH s'.vm := by rw [hvm]; exact State.WarmedH.refl s
  have hat' : ∀ w ∈ vx_atS own ic cls names, w.before args s' = true := fun w hw => vx_ot_at hW0 hvm.symm (hgood w (List.mem_cons_of_mem _ (List.mem_cons_of_mem _ hw))) (hat w hw)
  have hk' : (Cond.classLink own ik cls).before args s' = true := vx_ot_at hW0 hvm.symm (hgood _ List.mem_cons_self) hk
  have hini' : (Cond.initialized cls).before args s' = true := vx_ot_at hW0 hvm.symm (hgood _ (List.mem_cons_of_mem _ List.mem_cons_self)) hini
  have hU' : vx_Zq Bundle.tN "UNASSIGNED_STACK" Bundle.steD A s' s'.heap := by rw [hhp]; exact vx_Zq.moved hW0.alike (hU.kept hS.2.1)
  have hN' : vx_Zq Bundle.tN "SUPPRESSED_SENTINEL" Bundle.listD A s' s'.heap := by rw [hhp]; exact vx_Zq.moved hW0.alike (hN.kept hS.2.1)
  have h : ∀ w ∈ Bundle.ownAtoms own ic cls names, w.before args s' = true := vx_own hat' (vx_isRefq hU'.1) (vx_isRefq hN'.1) hU'.2.word hN'.2.word
  have hown' : s'.vm.findClass own = some m.cls := by rw [hvm]; exact hown
  have hins : (Cond.instantiable cls 6).before args s' = true := h _ (by simp [Bundle.ownAtoms])
  obtain ⟨vm₁, cX, kX, hfX, hkX, -, -, X₁, st1⟩ := Y.newCold hexec (own := own) (C := cls) (index := ik) (n := 6) hown' hk' hins hini'
    (g := F0 m pc ls rest) rfl (by rw [hb]; exact d0) (Nat.le_refl _) (Nat.le_refl _)
  generalize hT1 : (T.setVm vm₁).pushCell { cls := cX, slots := kX.instanceTypes.map defaultValue, vm := .none } = T1 at X₁ st1
  have hcat : (Value.ref T.heap.size).category = 1 := rfl
  have hcellA : T1.heap[T.heap.size]? = some (freshCell cX kX) := by rw [← hT1]; exact State.heap_pushCell_size _ _
  have d3' : decode c.code (pc + 3) = .ok (.dup, 1) := by rw [hb]; exact d3
  have d4' : decode c.code (pc + 4) = .ok (.ldc_w is, 3) := by rw [hb]; exact d4
  have hstr' : vk_R own is text sa s' := vk_R.warm hW0 hstr
  obtain ⟨U, hsteps, hrun, hend, hW, hsame, ce, hce, hO⟩ := X₁.ctorThrowS hexec htr (own := own) (cls := cls) (names := names) (ic := ic) hown' hcls hnames h (fun x hx => nomatch hx) hfX hkX hcellA (by rw [hhp, hT]; exact Nat.le_refl _) (msg := .ref sa) rfl
    (g := { method := m, pc := pc + 7, locals := ls, stack := .ref sa :: .ref T.heap.size :: .ref T.heap.size :: rest, locked := none }) rfl hsize rfl rfl (rest := rest) rfl
    (by rw [hb]; exact d7) (by rw [hb]; exact d10) hout hRframes (by simp only [List.map_cons, List.sum_cons, hcat]; omega) hlocks
  obtain ⟨f1, f2⟩ := vx_frame hsame
  rw [hhp] at f1 f2
  have hWs : s.WarmedH U.vm := State.WarmedH.trans hW0 hW
  have hcl : s.vm.findClass cls = some ce.cls := by
    have h9 := hO.cls
    rw [hvm] at h9
    exact h9
  have hall : s.sameButNew ({ U with vm := s.vm } : State) locs mc ms := by
    subst hA
    obtain ⟨e1, e2⟩ := hsame
    rw [State.setFrames_setFrames] at e1
    have h2 : (T.setVm s.vm).sameButNew ({ U with vm := s.vm } : State) [] (0 + 1) (0 + 6) := ⟨e1, e2⟩
    have h3 := X.same.trans h2
    rw [List.append_nil] at h3
    exact h3.mono hc hs
  refine ⟨U, ?_, .threw T.heap.size, hrun, hend, Or.inr ⟨T.heap.size, rfl, cls, ce, locs, hx U hWs.alike f1 (fun q hq => f2 q hq (fun z hz => nomatch hz)), hce, hO.vm, hcl, hWs, hall, hf⟩⟩
  refine st1 _ ?_
  show Steps p.tables e below (T1.setTop { method := m, pc := pc + 3, locals := ls, stack := .ref T.heap.size :: rest, locked := none }) _
  jvm_step X₁.here [X₁.here.top, hexec, d3', Value.category]
  exact X₁.ldcStringW hexec (own := own) (text := text) (index := is) (a := sa) hown' hstr'.1 hstr'.2
    (g := { method := m, pc := pc + 4, locals := ls, stack := .ref T.heap.size :: .ref T.heap.size :: rest, locked := none }) rfl d4' _ hsteps
end Ends
section Bodies
variable {l : Launch}
theorem vx_ofW {y : MethodName} {ws ws' : List Cond} {rm : Room} {Pc : Array Value → State → Prop} {Qc : Array Value → State → Outcome → State → Prop} {XC : String → State → State → Prop} {mc ms : Nat} {free : Addr → Prop} {cc : ByteArray} {maxL : Nat} {ret : Option FieldType}
    (hy : plainName y.cls = true) (hw : ws = Cond.code y cc maxL ret :: ws')
    (body : ∀ p e s m args below meth c s₁, BodyLoose p l y (headSpec ws rm) cc maxL ret e s m args below meth c s₁ → c.maxLocals = maxL → (∀ x ∈ c.exceptionTable.toList, False) → Pc args s →
      W p l e (headSpec ws rm).room s m args below meth c s.heap [] 0 0 (vx_MQ below Qc XC args s mc ms free) (entryFrame m args maxL)) : vx_Met l y ws rm Pc Qc XC mc ms free := by
  refine MetFree.of_bodyS (code := cc) (maxLocals := maxL) (ret := ret) hy ?_ ?_
  · intro args s m h hn
    obtain ⟨meth, c, h1, h2, h3, h4, h5, h6, -, -⟩ := Cond.code_spec hn (atoms_spec (ws := ws) h _ (by rw [hw]; exact List.mem_cons_self))
    exact ⟨meth, c, h1, h2, h3, h4, h5, h6⟩
  · intro p e s m args below meth c s₁ B hml hP _
    have hh0 : s₁.heap = s.heap := by rw [B.state]; rfl
    have ht : ∀ x ∈ c.exceptionTable.toList, False := by
      obtain ⟨meth9, c9, h1, h2, -, -, -, -, h7, -⟩ := Cond.code_spec B.named (atoms_spec (ws := ws) B.pre _ (by rw [hw]; exact List.mem_cons_self))
      cases Option.some.inj (h1.symm.trans B.method)
      cases Option.some.inj (h2.symm.trans (Stand.of_body B).code)
      intro x hx
      rw [Array.isEmpty_iff.mp h7] at hx
      cases hx
    obtain ⟨t, a1, o, b1, b2, b3⟩ := body p e s m args below meth c s₁ B hml ht hP s₁ hh0 (Stand.of_body B)
    exact ⟨t, o, a1, b1, b2, b3⟩
/-- the table of a body with handlers -/
theorem vx_table {p : Program} {x y : MethodName} {S : Spec} {cc bytes : ByteArray} {maxL maxL' : Nat} {ret ret' : Option FieldType} {e : Env} {s s₁ : State} {m : MethodId} {args : Array Value} {below : List Frame} {meth : Method} {c : Code} {hh : List (Nat × Nat × Nat × Nat)}
    (B : BodyLoose p l y S cc maxL ret e s m args below meth c s₁) (h : (Cond.codeWith y bytes maxL' ret' hh).before args s = true) : c.exceptionTable.toList = tableOf hh := by
  obtain ⟨m9, meth9, c9, hn9, h1, h2, -, -, h6, -⟩ := Cond.codeWith_spec h
  cases Option.some.inj (hn9.symm.trans B.named)
  cases Option.some.inj (h1.symm.trans B.method)
  cases Option.some.inj (h2.symm.trans (Stand.of_body B).code)
  rw [← h6, table_eq]
end Bodies
end VXA
/-! ===== END ===== -/
/-! ===== BEGIN a static call of a method with an exception table ===== -/
section VXS
variable {p : Program} {l : Launch} {e : Env} {R : Room} {s : State} {m : MethodId} {args : Array Value} {below : List Frame} {meth : Method} {c : Code} {T : State} {H : Heap} {locs : List Loc} {cells slots : Nat}
abbrev vx_CSW (R : Room) (s : State) (args : Array Value) (own : String) (index : Nat) (y : MethodName) (bytes : ByteArray) (maxL : Nat) (ret : Option FieldType) (hh : List (Nat × Nat × Nat × Nat)) (ws : List Cond) (rm : Room) (mc ms n : Nat) : Prop :=
  (rm.cells = mc ∧ rm.slots = ms ∧ rm.frames + 1 ≤ R.frames ∧ 8 + (maxL + 11) + rm.locals ≤ R.locals ∧ (∀ w ∈ ws, ∀ (a' : Array Value) (U : State), s.WarmedH U.vm → w.before a' U = true) ∧ Cond.codeWith y bytes maxL ret hh ∈ ws) ∧
  (Cond.codeWith y bytes maxL ret hh).before args s = true ∧ (Cond.initialized y.cls).before args s = true ∧ (y.cls ≠ "java/lang/invoke/MethodHandle" ∧ y.cls ≠ "java/lang/invoke/VarHandle") ∧
  (∀ sig, parseMethodDescriptor y.desc = some sig → n = sig.parameters.length) ∧ (Cond.methodLink own index y).before args s = true ∧ (Cond.static y).before args s = true
theorem vx_cwSW {own : String} {index maxL mc ms : Nat} {y : MethodName} {bytes : ByteArray} {ret : Option FieldType} {hh : List (Nat × Nat × Nat × Nat)} {Ts ws ws' : List Cond} {rm : Room} (n : Nat) (ht : ∀ w ∈ Ts, w.before args s = true) (hT : GoodIn Ts (va_wsS own index y ws)) (hw : ws = Cond.codeWith y bytes maxL ret hh :: ws') (hrc : rm.cells = mc) (hrs : rm.slots = ms)
    (hd : y.cls ≠ "java/lang/invoke/MethodHandle" ∧ y.cls ≠ "java/lang/invoke/VarHandle" ∧ (parseMethodDescriptor y.desc).map (fun d => d.parameters.length) = some n) (hR : rm.frames + 1 ≤ R.frames ∧ 8 + (maxL + 11) + rm.locals ≤ R.locals) :
    vx_CSW R s args own index y bytes maxL ret hh ws rm mc ms n := by
  have ok : ∀ w ∈ va_wsS own index y ws, w.before args s = true := fun w h => ht w (hT w h).1
  have hG : GoodIn Ts ws := fun w h => hT w (by unfold va_wsS; exact List.mem_append_right _ h)
  have hc : Cond.codeWith y bytes maxL ret hh ∈ ws := by rw [hw]; exact List.mem_cons_self
  refine ⟨⟨hrc, hrs, hR.1, hR.2, pay_in ht hG, hc⟩, ht _ (hG _ hc).1, ok _ (by simp [va_wsS]), ⟨hd.1, hd.2.1⟩, fun sig h => ?_, ok _ (by simp [va_wsS]), ok _ (by simp [va_wsS])⟩
  have h2 := hd.2.2
  rw [h] at h2
  exact (Option.some.inj h2).symm
theorem vx_callSW (X : Stand p l e R s m args below meth c T locs cells slots) (hexec : p.tables.exec = Jvm.exec) {own : String} {index : Nat} {y : MethodName} {bytes : ByteArray} {maxL : Nat} {ret : Option FieldType} {hh : List (Nat × Nat × Nat × Nat)}
    (hown : s.vm.findClass own = some m.cls) (hlink : (Cond.methodLink own index y).before args s = true) (hstat : (Cond.static y).before args s = true) (hinit : (Cond.initialized y.cls).before args s = true)
    (hcode : (Cond.codeWith y bytes maxL ret hh).before args s = true) (hy : y.cls ≠ "java/lang/invoke/MethodHandle" ∧ y.cls ≠ "java/lang/invoke/VarHandle")
    {W9 : Nat} {Pre : Pt → Array Value → Prop} {Post : Pt → Array Value → Option Value → Pt → Prop} (hK : Back l R p e below s args y 3 W9 Pre Post)
    {g : JFrame} (hg : g.method = m) (hsize : g.locals.size = c.maxLocals) {argsL rest : List Value} (hlen : ∀ sig, parseMethodDescriptor y.desc = some sig → argsL.length = sig.parameters.length)
    (hstack : g.stack = argsL.reverse ++ rest) (hW : 2 * g.monitorRoom + (rest.map fun v => v.category).sum ≤ W9) (hdg : decode c.code g.pc = .ok (.invokestatic index, 3))
    (hpre : ∀ vm₁, s.WarmedH vm₁ → Pre ⟨T.setVm vm₁, locs, cells, slots⟩ argsL.toArray) :
    ∃ (v : Option Value) (vm₁ : Vm) (B : Pt), s.WarmedH vm₁ ∧ Stand p l e R s m args below meth c B.U B.locs B.cells B.slots ∧ Post ⟨T.setVm vm₁, locs, cells, slots⟩ argsL.toArray v B ∧
      ∀ target, Steps p.tables e below (B.U.setTop { g with pc := g.pc + 3, stack := v.toList ++ rest }) target → Steps p.tables e below (T.setTop g) target := by
  obtain ⟨mk, methM, cM, hnamed, hmethM, -, -, -, -, -, -, hsigM⟩ := Cond.codeWith_spec hcode
  have hstatic : methM.isStatic = true := Cond.static_spec hnamed hmethM hstat
  obtain ⟨kP, hkP, -⟩ := className_of_methodNamed hnamed
  have hinitP : kP.init = .initialized := Cond.initialized_spec (findClass_of_methodNamed hnamed) hkP hinit
  obtain ⟨vm₁, X₁, hstep₁⟩ := X.invokestatic hexec hown hlink hnamed hmethM hstatic hkP hinitP hy (g := g) hg (argsL := argsL) (rest := rest) (hlen _ hsigM) hstack hdg
  obtain ⟨v, B, X', hpost, hsteps⟩ := hK m meth c ⟨T.setVm vm₁, locs, cells, slots⟩ { g with stack := rest } (.invokestatic index) mk argsL.toArray X₁ hg hsize hdg hW (X₁.named hnamed) (hpre vm₁ X₁.warmed)
  exact ⟨v, vm₁, B, X₁.warmed, X', hpost, fun target h => hstep₁ _ fun acts => by rw [doInvoke_state]; exact hsteps.trans h⟩
theorem vx_runSW {y : MethodName} {bytes cc : ByteArray} {maxL nL mc ms n index : Nat} {ret : Option FieldType} {hh : List (Nat × Nat × Nat × Nat)} {ws : List Cond} {rm : Room} {Pc : Array Value → State → Prop} {Qc : Array Value → State → Outcome → State → Prop} {free : Addr → Prop} {Ts : List Cond} {own : String} {As rest : List Value} {g : JFrame}
    (S : CallFix p m c cc nL s args Ts own) (hM : Met l y ws rm Pc Qc mc ms free) (cw : vx_CSW R s args own index y bytes maxL ret hh ws rm mc ms n) (hp : PreS s H Pc As)
    (hg : g.method = m) (hn : As.length = n) (hsize : g.locals.size = nL) (hstack : g.stack = As.reverse ++ rest) (hW : 2 * g.monitorRoom + (rest.map fun v => v.category).sum ≤ 8) (hdg : decode cc g.pc = .ok (.invokestatic index, 3)) (hf : cells + mc ≤ R.cells ∧ slots + ms ≤ R.slots) :
    va_Run p l e R s m args below meth c H locs cells slots mc ms g rest (Qc As.toArray) (free) := by
  obtain ⟨⟨hrc, hrs, hfr, hlo, hws, hcw⟩, hcode, hini, hy, hlen, hl, hstt⟩ := cw
  have hK : Back l R p e below s args y 3 8 (PreOf R mc ms Pc) (PostOf Qc mc ms free) := va_backW (hh := hh) (bytes := bytes) (maxL := maxL) (ret := ret) hM hp.1 hrc hrs hfr hlo hws hcw (fun a' U hW => word_at hW (Or.inl (by first | rfl | simp [Cond.onTables, Cond.keeps, Cond.steady])) hini)
  obtain ⟨hx, hb, hml, ho, -⟩ := S
  intro T hT X
  obtain ⟨v, vm₁, ⟨U', l2, c2, s2⟩, hW₁, X', ⟨g', mk, t, L, e1, e2, hq, h1, hL, h2, h3⟩, st⟩ := vx_callSW X hx (hh := hh) (bytes := bytes) (maxL := maxL) (ret := ret) ho hl hstt hini hcode hy hK hg (hsize.trans hml.symm) (argsL := As) (rest := rest) (fun sig h => hn.trans (hlen sig h)) hstack hW (by rw [hb]; exact hdg)
    (fun vm₁ hW₁ => ⟨hf.1, hf.2, hp.2 (T.setVm vm₁) hT hW₁⟩)
  dsimp only [Pt.U, Pt.locs, Pt.cells, Pt.slots] at X' e1 e2 h1 h2 h3 st
  subst h1; subst h2; subst h3
  exact ⟨v, (T.setVm vm₁).calling g' mk As.toArray, t, U', L, hT, X', hL, e1, e2, hq, st⟩
/-- not caught here, past rows that name other classes: it goes on to the caller -/
theorem vx_outP {p : Program} {l : Launch} {e : Env} {R : Room} {s : State} {m : MethodId} {args : Array Value} {below : List Frame} {meth : Method} {c : Code} {H : Heap} {locs : List Loc} {cells slots : Nat} {free : Addr → Prop} {ls : Array Slot} {rest : List Value} {Qc : Array Value → State → Outcome → State → Prop} {XC : String → State → State → Prop}
    {pc : Nat} {own E : String} {ce : Cell} {q : Addr} {mc ms : Nat} (hown : s.vm.findClass own = some m.cls) (hlocks : meth.locks = false)
    (hpass : ∀ z ∈ c.exceptionTable.toList, covers z pc = false ∨ (z.catchType ≠ 0 ∧ ∃ nm : String, (Cond.classLink own z.catchType nm).before args s = true ∧ va_Nc E nm s)) (hcell : H[q]? = some ce) (hv : ce.vm = .none) (hcl : s.vm.findClass E = some ce.cls)
    (hx : ∀ t : State, t.heap = H → s.vm.Alike t.vm → XC E s t) (hf : ∀ z ∈ locs, free z.base) (hc : cells ≤ mc) (hs : slots ≤ ms) :
    vx_W p l e R s m args below meth c H locs cells slots (vx_MQ below Qc XC args s mc ms free) (F0 m pc ls rest) q := by
  intro T hT X
  have hpl : e.platform.magicAccessors = ({} : Platform).magicAccessors := by rw [X.admits.platform]
  obtain ⟨vm', hW', X', st⟩ := X.outThrough hlocks q (g := F0 m pc ls rest) rfl rfl rfl (cell := ce) (by rw [hT]; exact hcell) (by rw [hv]; rfl)
    (by obtain ⟨k9, h9, -⟩ := Vm.findClass_spec hcl; exact ⟨k9, h9⟩) (fun z hz => by
      rcases hpass z hz with h | ⟨hz0, nm, hl1, hn1⟩
      · exact Or.inl h
      · obtain ⟨c6, hc6, hcl6⟩ := Cond.classLink_spec hown hl1 e.platform hpl
        obtain ⟨a8, b8, h1, h2, h3⟩ := hn1
        cases Option.some.inj (h1.symm.trans hcl)
        cases Option.some.inj (h2.symm.trans hc6)
        exact Or.inr ⟨hz0, _, hcl6, h3⟩)
  obtain ⟨g₀, hfr⟩ := X'.frames_eq
  have hcell9 : ((T.setVm vm').setFrames (.throwing q :: below)).heap[q]? = some ce := by
    show T.heap[q]? = some ce
    rw [hT]; exact hcell
  have hend : Ended ((T.setVm vm').setFrames (.throwing q :: below)) below (.threw q) := State.frames_setFrames _ (State.cur_lt_of_frames hfr)
  refine ⟨(T.setVm vm').setFrames (.throwing q :: below), ?_, .threw q, X'.here.running, hend, Or.inr ⟨q, rfl, E, ce, locs, hx _ hT (X'.ends _).1.alike, hcell9, hv, hcl, (X'.ends _).1, (X'.ends _).2.mono hc hs, hf⟩⟩
  rw [X.pushThrowing_eq]
  exact st
/-- a thing of a world lies in the heap -/
theorem vx_lt {D : va_G} {cl : List vw_C} {ws : va_W} {H1 : Heap} (h : va_P D cl ws H1) {k : Nat} {q : Nat × va_E} (hk : ws[k]? = some q) : q.1 < H1.size := (h k q hk).lt
end VXS
/-! ===== END ===== -/
/-! ===== BEGIN methods with a table of their own: called by a name, returning or throwing ===== -/
section VXH
/-! vx_backW, vx_callVX, vx_callSX, vx_callVW, vx_runVW, vx_runVX, vx_runSX, vx_ofWH follow the same proofs as their sisters above (Free/Laws.lean, Shelf42/LK1.lean); vx_outP calls Shelf42/NT130.lean (outThrough). -/
section
variable {l : Launch} {R : Room} {p : Program} {e : Env} {below : List Frame} {s : State} {sargs : Array Value} {y : MethodName} {len W9 : Nat}
theorem vx_backW {ws : List Cond} {rm : Room} {Pc : Array Value → State → Prop} {Qc : Array Value → State → Outcome → State → Prop} {XC : String → State → State → Prop} {mc ms : Nat} {free : Addr → Prop} {bytes : ByteArray} {maxL : Nat} {ret : Option FieldType} {hh : List (Nat × Nat × Nat × Nat)}
    (hM : vx_Met l y ws rm Pc Qc XC mc ms free) (hblind : FrameBlind Pc) (hrc : rm.cells = mc) (hrs : rm.slots = ms)
    (hframes : rm.frames + 1 ≤ R.frames) (hlocals : W9 + (maxL + 11) + rm.locals ≤ R.locals)
    (hws : ∀ w ∈ ws, ∀ a' U, s.WarmedH U.vm → w.before a' U = true) (hcode : Cond.codeWith y bytes maxL ret hh ∈ ws) (hinit : ∀ a' U, s.WarmedH U.vm → (Cond.initialized y.cls).before a' U = true) :
    vx_Back l R p e below s sargs y len W9 (PreOf R mc ms Pc) (PostOf Qc mc ms free) (vx_Post XC mc ms free) := by
  intro m meth c A g ig mk a X hg hsize hdg hW hn hp
  have h1 : (headSpec ws rm).pre.before a A.U = true := atoms_intro fun w hw => hws w hw _ _ X.warmed
  have h2 : (Cond.codeWith y bytes maxL ret hh).before a A.U = true := hws _ hcode _ _ X.warmed
  have h3 : (Cond.initialized y.cls).before a A.U = true := hinit _ _ X.warmed
  have h4 : A.cells + (headSpec ws rm).room.cells ≤ R.cells := by rw [show (headSpec ws rm).room.cells = mc from hrc]; exact hp.1
  have h5 : A.slots + (headSpec ws rm).room.slots ≤ R.slots := by rw [show (headSpec ws rm).room.slots = ms from hrs]; exact hp.2.1
  have hPc : Pc a (A.U.calling g mk a) := hblind _ _ _ _ hp.2.2
  obtain ⟨U, Ls, c0, s0⟩ := A
  dsimp only [Pt.U, Pt.locs, Pt.cells, Pt.slots] at h1 h2 h3 h4 h5 X hn hPc ⊢
  obtain ⟨m9, methY, cY, hn9, hmY, hcY, -, hlY, -⟩ := Cond.codeWith_spec h2
  cases Option.some.inj (hn9.symm.trans hn)
  obtain ⟨kY, hkY, -⟩ := className_of_methodNamed hn
  have hinitY : kY.init = .initialized := Cond.initialized_spec (findClass_of_methodNamed hn) hkY h3
  have h : At U g.method c below := by rw [hg]; exact X.here
  have hlocals9 : W9 + (maxL + 11) + (headSpec ws rm).room.locals ≤ R.locals := hlocals
  have happ : (headSpec ws rm).appliesLoose y e.platform (U.calling g mk a) = true :=
    Spec.appliesLoose_calling (g := g) h hdg hn hkY hinitY
      (X.room_calling (g := g) (R' := (headSpec ws rm).room) hsize hmY hcY hframes (by rw [hlY]; omega) h4 h5) h1
  obtain ⟨mid, hmid⟩ := h.above
  have hfr : (U.setTop g).frames = (.java g :: mid) ++ below := by rw [State.frames_setTop' g h.top, hmid]; rfl
  obtain ⟨o, s₂, hsteps, -, hend, hq⟩ := Steps.callFree hM p X.admits X.cas X.clock (acts := []) hfr happ hPc trivial
  have hq' : vx_Q Qc XC mc ms free a (U.calling g mk a) o s₂ := hq
  rw [State.frames_setTop' g h.top] at hend
  obtain ⟨g₀, hg0⟩ := Option.isSome_iff_exists.mp h.top
  obtain ⟨r, hr⟩ := State.topJava?_eq_some.mp hg0
  have hr' : (({ U with heap := s₂.heap, slotsUsed := s₂.slotsUsed } : State).setVm s₂.vm).frames = .java g₀ :: r := hr
  rcases hq' with ⟨hqc, L, hfe, hL⟩ | ⟨q, rfl, E, ce, L, hx, hce, hcv, hcl, hW₂, hsm, hL⟩
  · obtain ⟨⟨v, rfl⟩, hW₂, e2, q2, q3, q4, q5, q6⟩ := id hfe
    have e3 : s₂ = ({ (U.calling g mk a).setFrames s₂.frames with heap := s₂.heap, slotsUsed := s₂.slotsUsed } : State).setVm s₂.vm := by
      have : s₂ = ({ s₂ with vm := (U.calling g mk a).vm } : State).setVm s₂.vm := rfl
      rw [e2] at this
      exact this
    obtain ⟨c₂, i₂, len₂, hc₂, hd₂, hf₂⟩ := hend
    have hW' : U.WarmedH s₂.vm := hW₂
    have hcc : c₂ = c := by
      have h1 : s₂.code? g.method = U.code? g.method := by
        rw [State.code?_eq, State.code?_eq, hW'.alike.method?]
      exact Option.some.inj (hc₂.symm.trans (h1.trans h.code))
    subst hcc
    have hlen : len₂ = len := by rw [hdg] at hd₂; cases hd₂; rfl
    subst hlen
    have hs₂ : s₂ = (({ U with heap := s₂.heap, slotsUsed := s₂.slotsUsed } : State).setVm s₂.vm).setTop { g with pc := g.pc + len₂, stack := v.toList ++ g.stack } := by
      refine e3.trans ?_
      rw [hf₂, State.calling_eq h.top, State.setFrames_setFrames, State.setTop_of_frames _ hr', hr]
      rfl
    have hsame : U.sameButNew ({ U with heap := s₂.heap, slotsUsed := s₂.slotsUsed } : State) L mc ms := by
      refine ⟨?_, q2, q3, q4, q5, q6⟩
      obtain ⟨t, ht, -⟩ := State.frames_cons hr
      show ({ U with heap := s₂.heap, slotsUsed := s₂.slotsUsed } : State) = { U.setFrames U.frames with heap := s₂.heap, slotsUsed := s₂.slotsUsed }
      rw [State.setFrames_self ht]
    subst hg
    refine Or.inl ⟨v, ⟨(({ U with heap := s₂.heap, slotsUsed := s₂.slotsUsed } : State).setVm s₂.vm), Ls ++ L, c0 + mc, s0 + ms⟩,
      ⟨X.admits, X.cas, X.clock, X.frames, X.room, X.hears, X.method, X.code, (X.here.setHeapUsed s₂.heap s₂.slotsUsed).setVm hW'.alike, X.tail, State.WarmedH.trans X.warmed hW', X.limits, X.bytes, X.same.trans (hsame.setVm s.vm)⟩,
      ⟨g, mk, s₂, L, rfl, rfl, hqc, rfl, hL, rfl, rfl⟩, ?_⟩
    show Steps p.tables e below _ ((({ U with heap := s₂.heap, slotsUsed := s₂.slotsUsed } : State).setVm s₂.vm).setTop { g with pc := g.pc + len₂, stack := v.toList ++ g.stack })
    rw [← hs₂]
    exact hsteps
  · obtain ⟨e2, q2, q3, q4, q5, q6⟩ := id hsm
    have e3 : s₂ = ({ (U.calling g mk a).setFrames s₂.frames with heap := s₂.heap, slotsUsed := s₂.slotsUsed } : State).setVm s₂.vm := by
      have : s₂ = ({ s₂ with vm := (U.calling g mk a).vm } : State).setVm s₂.vm := rfl
      rw [e2] at this
      exact this
    have hf₂ : s₂.frames = .throwing q :: .java g :: U.frames.tail := hend
    have hW' : U.WarmedH s₂.vm := hW₂
    have hs₂ : s₂ = ((({ U with heap := s₂.heap, slotsUsed := s₂.slotsUsed } : State).setVm s₂.vm).setTop g).pushFrame (.throwing q) := by
      refine e3.trans ?_
      rw [hf₂, State.calling_eq h.top, State.setFrames_setFrames, State.pushFrame, State.frames_setTop _ hr', State.setTop_of_frames _ hr', State.setFrames_setFrames, hr]
      rfl
    have hsame : U.sameButNew ({ U with heap := s₂.heap, slotsUsed := s₂.slotsUsed } : State) L mc ms := by
      refine ⟨?_, q2, q3, q4, q5, q6⟩
      obtain ⟨t, ht, -⟩ := State.frames_cons hr
      show ({ U with heap := s₂.heap, slotsUsed := s₂.slotsUsed } : State) = { U.setFrames U.frames with heap := s₂.heap, slotsUsed := s₂.slotsUsed }
      rw [State.setFrames_self ht]
    subst hg
    refine Or.inr ⟨q, ⟨(({ U with heap := s₂.heap, slotsUsed := s₂.slotsUsed } : State).setVm s₂.vm), Ls ++ L, c0 + mc, s0 + ms⟩,
      ⟨X.admits, X.cas, X.clock, X.frames, X.room, X.hears, X.method, X.code, (X.here.setHeapUsed s₂.heap s₂.slotsUsed).setVm hW'.alike, X.tail, State.WarmedH.trans X.warmed hW', X.limits, X.bytes, X.same.trans (hsame.setVm s.vm)⟩,
      ⟨g, mk, s₂, L, E, ce, rfl, rfl, hx, hce, hcv, hcl, rfl, hL, rfl, rfl⟩, ?_⟩
    show Steps p.tables e below _ (((({ U with heap := s₂.heap, slotsUsed := s₂.slotsUsed } : State).setVm s₂.vm).setTop g).pushFrame (.throwing q))
    rw [← hs₂]
    exact hsteps
end
variable {p : Program} {l : Launch} {e : Env} {R : Room} {s : State} {m : MethodId} {args : Array Value} {below : List Frame} {meth : Method} {c : Code} {T : State} {H : Heap} {locs : List Loc} {cells slots : Nat}
theorem vx_callVX (X : Stand p l e R s m args below meth c T locs cells slots) (hexec : p.tables.exec = Jvm.exec) {own C : String} {index : Nat} {y : MethodName} {bytes : ByteArray} {maxL : Nat} {ret : Option FieldType} {hh : List (Nat × Nat × Nat × Nat)}
    (hown : s.vm.findClass own = some m.cls) (hlink : (Cond.methodLink own index y).before args s = true) (hinst : (Cond.instanceMethod y).before args s = true) (hsel : (Cond.selects C y y).before args s = true)
    (hcode : (Cond.codeWith y bytes maxL ret hh).before args s = true) (hy : y.cls ≠ "java/lang/invoke/MethodHandle" ∧ y.cls ≠ "java/lang/invoke/VarHandle")
    {W9 : Nat} {Pre : Pt → Array Value → Prop} {Post : Pt → Array Value → Option Value → Pt → Prop} {PostX : Pt → Array Value → Addr → Pt → Prop} (hK : vx_Back l R p e below s args y 3 W9 Pre Post PostX)
    {b : Addr} {cellB : Cell} (hcell : T.heap[b]? = some cellB) (hobj : cellB.vm.isStatics = false) (hcls : s.vm.findClass C = some cellB.cls)
    {g : JFrame} (hg : g.method = m) (hsize : g.locals.size = c.maxLocals) {argsL rest : List Value} (hlen : ∀ sig, parseMethodDescriptor y.desc = some sig → argsL.length = sig.parameters.length)
    (hstack : g.stack = argsL.reverse ++ .ref b :: rest) (hW : 2 * g.monitorRoom + (rest.map fun v => v.category).sum ≤ W9) (hdg : decode c.code g.pc = .ok (.invokevirtual index, 3))
    (hpre : ∀ vm₁, s.WarmedH vm₁ → Pre ⟨T.setVm vm₁, locs, cells, slots⟩ (Value.ref b :: argsL).toArray) :
    (∃ (v : Option Value) (vm₁ : Vm) (B : Pt), s.WarmedH vm₁ ∧ Stand p l e R s m args below meth c B.U B.locs B.cells B.slots ∧ Post ⟨T.setVm vm₁, locs, cells, slots⟩ (Value.ref b :: argsL).toArray v B ∧
      ∀ target, Steps p.tables e below (B.U.setTop { g with pc := g.pc + 3, stack := v.toList ++ rest }) target → Steps p.tables e below (T.setTop g) target) ∨
    (∃ (q : Addr) (vm₁ : Vm) (B : Pt), s.WarmedH vm₁ ∧ Stand p l e R s m args below meth c B.U B.locs B.cells B.slots ∧ PostX ⟨T.setVm vm₁, locs, cells, slots⟩ (Value.ref b :: argsL).toArray q B ∧
      Steps p.tables e below (T.setTop g) ((B.U.setTop { g with stack := rest }).pushFrame (.throwing q))) := by
  obtain ⟨mk, methM, hnamed, hmethM, hstM, habM⟩ := Cond.instanceMethod_spec hinst
  obtain ⟨m8, methM', cM, hn8, hmethM', -, -, -, -, -, -, hsigM⟩ := Cond.codeWith_spec hcode
  cases Option.some.inj (hn8.symm.trans hnamed)
  cases hmethM.symm.trans hmethM'
  obtain ⟨c2, r2, m2, q1, q2, q3, q4, kP, hkP, hkPi⟩ := Cond.selects_spec hsel
  cases hcls.symm.trans q1
  cases (State.methodFound?_of_named hnamed hy).symm.trans q2
  cases hnamed.symm.trans q3
  have hselP : selectMethod e.platform s.vm cellB.cls mk = .method mk := by rw [Launch.admits_selectMethod X.admits]; exact q4
  obtain ⟨vm₁, X₁, hstep₁⟩ := X.invokevirtual hexec hown hlink hnamed hmethM hstM hkP hkPi hy (a := b) (cell := cellB) hcell
    (fun z h => by rw [h] at hobj; cases hobj) hselP hmethM habM hkP hkPi (g := g) hg (argsL := argsL) (rest := rest) (hlen _ hsigM) hstack hdg
  rcases hK m meth c ⟨T.setVm vm₁, locs, cells, slots⟩ { g with stack := rest } (.invokevirtual index) mk (Value.ref b :: argsL).toArray X₁ hg hsize hdg hW (X₁.named hnamed) (hpre vm₁ X₁.warmed) with ⟨v, B, X', hpost, hsteps⟩ | ⟨q, B, X', hpost, hsteps⟩
  · exact Or.inl ⟨v, vm₁, B, X₁.warmed, X', hpost, fun target h => hstep₁ _ fun acts => by rw [doInvoke_state]; exact hsteps.trans h⟩
  · exact Or.inr ⟨q, vm₁, B, X₁.warmed, X', hpost, hstep₁ _ fun acts => by rw [doInvoke_state]; exact hsteps⟩
theorem vx_callSX (X : Stand p l e R s m args below meth c T locs cells slots) (hexec : p.tables.exec = Jvm.exec) {own : String} {index : Nat} {y : MethodName} {bytes : ByteArray} {maxL : Nat} {ret : Option FieldType} {hh : List (Nat × Nat × Nat × Nat)}
    (hown : s.vm.findClass own = some m.cls) (hlink : (Cond.methodLink own index y).before args s = true) (hstat : (Cond.static y).before args s = true) (hinit : (Cond.initialized y.cls).before args s = true)
    (hcode : (Cond.codeWith y bytes maxL ret hh).before args s = true) (hy : y.cls ≠ "java/lang/invoke/MethodHandle" ∧ y.cls ≠ "java/lang/invoke/VarHandle")
    {W9 : Nat} {Pre : Pt → Array Value → Prop} {Post : Pt → Array Value → Option Value → Pt → Prop} {PostX : Pt → Array Value → Addr → Pt → Prop} (hK : vx_Back l R p e below s args y 3 W9 Pre Post PostX)
    {g : JFrame} (hg : g.method = m) (hsize : g.locals.size = c.maxLocals) {argsL rest : List Value} (hlen : ∀ sig, parseMethodDescriptor y.desc = some sig → argsL.length = sig.parameters.length)
    (hstack : g.stack = argsL.reverse ++ rest) (hW : 2 * g.monitorRoom + (rest.map fun v => v.category).sum ≤ W9) (hdg : decode c.code g.pc = .ok (.invokestatic index, 3))
    (hpre : ∀ vm₁, s.WarmedH vm₁ → Pre ⟨T.setVm vm₁, locs, cells, slots⟩ argsL.toArray) :
    (∃ (v : Option Value) (vm₁ : Vm) (B : Pt), s.WarmedH vm₁ ∧ Stand p l e R s m args below meth c B.U B.locs B.cells B.slots ∧ Post ⟨T.setVm vm₁, locs, cells, slots⟩ argsL.toArray v B ∧
      ∀ target, Steps p.tables e below (B.U.setTop { g with pc := g.pc + 3, stack := v.toList ++ rest }) target → Steps p.tables e below (T.setTop g) target) ∨
    (∃ (q : Addr) (vm₁ : Vm) (B : Pt), s.WarmedH vm₁ ∧ Stand p l e R s m args below meth c B.U B.locs B.cells B.slots ∧ PostX ⟨T.setVm vm₁, locs, cells, slots⟩ argsL.toArray q B ∧
      Steps p.tables e below (T.setTop g) ((B.U.setTop { g with stack := rest }).pushFrame (.throwing q))) := by
  obtain ⟨mk, methM, cM, hnamed, hmethM, -, -, -, -, -, -, hsigM⟩ := Cond.codeWith_spec hcode
  have hstatic : methM.isStatic = true := Cond.static_spec hnamed hmethM hstat
  obtain ⟨kP, hkP, -⟩ := className_of_methodNamed hnamed
  have hinitP : kP.init = .initialized := Cond.initialized_spec (findClass_of_methodNamed hnamed) hkP hinit
  obtain ⟨vm₁, X₁, hstep₁⟩ := X.invokestatic hexec hown hlink hnamed hmethM hstatic hkP hinitP hy (g := g) hg (argsL := argsL) (rest := rest) (hlen _ hsigM) hstack hdg
  rcases hK m meth c ⟨T.setVm vm₁, locs, cells, slots⟩ { g with stack := rest } (.invokestatic index) mk argsL.toArray X₁ hg hsize hdg hW (X₁.named hnamed) (hpre vm₁ X₁.warmed) with ⟨v, B, X', hpost, hsteps⟩ | ⟨q, B, X', hpost, hsteps⟩
  · exact Or.inl ⟨v, vm₁, B, X₁.warmed, X', hpost, fun target h => hstep₁ _ fun acts => by rw [doInvoke_state]; exact hsteps.trans h⟩
  · exact Or.inr ⟨q, vm₁, B, X₁.warmed, X', hpost, hstep₁ _ fun acts => by rw [doInvoke_state]; exact hsteps⟩
theorem vx_callVW (X : Stand p l e R s m args below meth c T locs cells slots) (hexec : p.tables.exec = Jvm.exec) {own C : String} {index : Nat} {y : MethodName} {bytes : ByteArray} {maxL : Nat} {ret : Option FieldType} {hh : List (Nat × Nat × Nat × Nat)}
    (hown : s.vm.findClass own = some m.cls) (hlink : (Cond.methodLink own index y).before args s = true) (hinst : (Cond.instanceMethod y).before args s = true) (hsel : (Cond.selects C y y).before args s = true)
    (hcode : (Cond.codeWith y bytes maxL ret hh).before args s = true) (hy : y.cls ≠ "java/lang/invoke/MethodHandle" ∧ y.cls ≠ "java/lang/invoke/VarHandle")
    {W9 : Nat} {Pre : Pt → Array Value → Prop} {Post : Pt → Array Value → Option Value → Pt → Prop} (hK : Back l R p e below s args y 3 W9 Pre Post)
    {b : Addr} {cellB : Cell} (hcell : T.heap[b]? = some cellB) (hobj : cellB.vm.isStatics = false) (hcls : s.vm.findClass C = some cellB.cls)
    {g : JFrame} (hg : g.method = m) (hsize : g.locals.size = c.maxLocals) {argsL rest : List Value} (hlen : ∀ sig, parseMethodDescriptor y.desc = some sig → argsL.length = sig.parameters.length)
    (hstack : g.stack = argsL.reverse ++ .ref b :: rest) (hW : 2 * g.monitorRoom + (rest.map fun v => v.category).sum ≤ W9) (hdg : decode c.code g.pc = .ok (.invokevirtual index, 3))
    (hpre : ∀ vm₁, s.WarmedH vm₁ → Pre ⟨T.setVm vm₁, locs, cells, slots⟩ (Value.ref b :: argsL).toArray) :
    ∃ (v : Option Value) (vm₁ : Vm) (B : Pt), s.WarmedH vm₁ ∧ Stand p l e R s m args below meth c B.U B.locs B.cells B.slots ∧ Post ⟨T.setVm vm₁, locs, cells, slots⟩ (Value.ref b :: argsL).toArray v B ∧
      ∀ target, Steps p.tables e below (B.U.setTop { g with pc := g.pc + 3, stack := v.toList ++ rest }) target → Steps p.tables e below (T.setTop g) target := by
  obtain ⟨mk, methM, hnamed, hmethM, hstM, habM⟩ := Cond.instanceMethod_spec hinst
  obtain ⟨m8, methM', cM, hn8, hmethM', -, -, -, -, -, -, hsigM⟩ := Cond.codeWith_spec hcode
  cases Option.some.inj (hn8.symm.trans hnamed)
  cases hmethM.symm.trans hmethM'
  obtain ⟨c2, r2, m2, q1, q2, q3, q4, kP, hkP, hkPi⟩ := Cond.selects_spec hsel
  cases hcls.symm.trans q1
  cases (State.methodFound?_of_named hnamed hy).symm.trans q2
  cases hnamed.symm.trans q3
  have hselP : selectMethod e.platform s.vm cellB.cls mk = .method mk := by rw [Launch.admits_selectMethod X.admits]; exact q4
  obtain ⟨vm₁, X₁, hstep₁⟩ := X.invokevirtual hexec hown hlink hnamed hmethM hstM hkP hkPi hy (a := b) (cell := cellB) hcell
    (fun z h => by rw [h] at hobj; cases hobj) hselP hmethM habM hkP hkPi (g := g) hg (argsL := argsL) (rest := rest) (hlen _ hsigM) hstack hdg
  obtain ⟨v, B, X', hpost, hsteps⟩ := hK m meth c ⟨T.setVm vm₁, locs, cells, slots⟩ { g with stack := rest } (.invokevirtual index) mk (Value.ref b :: argsL).toArray X₁ hg hsize hdg hW (X₁.named hnamed) (hpre vm₁ X₁.warmed)
  exact ⟨v, vm₁, B, X₁.warmed, X', hpost, fun target h => hstep₁ _ fun acts => by rw [doInvoke_state]; exact hsteps.trans h⟩
abbrev vx_CVW (R : Room) (s : State) (args : Array Value) (own C : String) (index : Nat) (y : MethodName) (bytes : ByteArray) (maxL : Nat) (ret : Option FieldType) (hh : List (Nat × Nat × Nat × Nat)) (ws : List Cond) (rm : Room) (mc ms n : Nat) : Prop :=
  (rm.cells = mc ∧ rm.slots = ms ∧ rm.frames + 1 ≤ R.frames ∧ 8 + (maxL + 11) + rm.locals ≤ R.locals ∧ (∀ w ∈ ws, ∀ (a' : Array Value) (U : State), s.WarmedH U.vm → w.before a' U = true) ∧ Cond.codeWith y bytes maxL ret hh ∈ ws) ∧
  (Cond.codeWith y bytes maxL ret hh).before args s = true ∧ (Cond.initialized y.cls).before args s = true ∧ (y.cls ≠ "java/lang/invoke/MethodHandle" ∧ y.cls ≠ "java/lang/invoke/VarHandle") ∧
  (∀ sig, parseMethodDescriptor y.desc = some sig → n = sig.parameters.length) ∧ (Cond.methodLink own index y).before args s = true ∧ (Cond.instanceMethod y).before args s = true ∧ (Cond.selects C y y).before args s = true
theorem vx_cwVW {own C : String} {index maxL mc ms : Nat} {y : MethodName} {bytes : ByteArray} {ret : Option FieldType} {hh : List (Nat × Nat × Nat × Nat)} {Ts ws ws' : List Cond} {rm : Room} (n : Nat) (ht : ∀ w ∈ Ts, w.before args s = true) (hT : GoodIn Ts (wsV own index C y ws)) (hw : ws = Cond.codeWith y bytes maxL ret hh :: ws') (hrc : rm.cells = mc) (hrs : rm.slots = ms)
    (hd : y.cls = C ∧ y.cls ≠ "java/lang/invoke/MethodHandle" ∧ y.cls ≠ "java/lang/invoke/VarHandle" ∧ (parseMethodDescriptor y.desc).map (fun d => d.parameters.length) = some n) (hR : rm.frames + 1 ≤ R.frames ∧ 8 + (maxL + 11) + rm.locals ≤ R.locals) :
    vx_CVW R s args own C index y bytes maxL ret hh ws rm mc ms n := by
  obtain ⟨hC, hd⟩ := hd
  subst hC
  have ok : ∀ w ∈ wsV own index y.cls y ws, w.before args s = true := fun w h => ht w (hT w h).1
  have hG : GoodIn Ts ws := fun w h => hT w (by unfold wsV; exact List.mem_append_right _ h)
  have hc : Cond.codeWith y bytes maxL ret hh ∈ ws := by rw [hw]; exact List.mem_cons_self
  refine ⟨⟨hrc, hrs, hR.1, hR.2, pay_in ht hG, hc⟩, ht _ (hG _ hc).1, ok _ (by simp [wsV]), ⟨hd.1, hd.2.1⟩, fun sig h => ?_, ok _ (by simp [wsV]), ok _ (by simp [wsV]), ok _ (by simp [wsV])⟩
  have h2 := hd.2.2
  rw [h] at h2
  exact (Option.some.inj h2).symm
theorem vx_runVW {y : MethodName} {bytes cc : ByteArray} {maxL nL mc ms n index : Nat} {ret : Option FieldType} {hh : List (Nat × Nat × Nat × Nat)} {ws : List Cond} {rm : Room} {Pc : Array Value → State → Prop} {Qc : Array Value → State → Outcome → State → Prop} {free : Addr → Prop} {Ts : List Cond} {own C : String} {b : Addr} {As rest : List Value} {g : JFrame}
    (S : CallFix p m c cc nL s args Ts own) (hM : Met l y ws rm Pc Qc mc ms free) (cw : vx_CVW R s args own C index y bytes maxL ret hh ws rm mc ms n) (hp : PreV s H C b Pc As)
    (hg : g.method = m) (hn : As.length = n) (hsize : g.locals.size = nL) (hstack : g.stack = As.reverse ++ .ref b :: rest) (hW : 2 * g.monitorRoom + (rest.map fun v => v.category).sum ≤ 8) (hdg : decode cc g.pc = .ok (.invokevirtual index, 3)) (hf : cells + mc ≤ R.cells ∧ slots + ms ≤ R.slots) :
    va_Run p l e R s m args below meth c H locs cells slots mc ms g rest (Qc (Value.ref b :: As).toArray) free := by
  obtain ⟨⟨hrc, hrs, hfr, hlo, hws, hcw⟩, hcode, hini, hy, hlen, hl, hin, hse⟩ := cw
  have hK : Back l R p e below s args y 3 8 (PreOf R mc ms Pc) (PostOf Qc mc ms free) := va_backW (hh := hh) (bytes := bytes) (maxL := maxL) (ret := ret) hM hp.1 hrc hrs hfr hlo hws hcw (fun a' U hW => word_at hW (Or.inl (by first | rfl | simp [Cond.onTables, Cond.keeps, Cond.steady])) hini)
  obtain ⟨hx, hb, hml, ho, -⟩ := S
  obtain ⟨-, ⟨cellB, hcB, hoB, hclB⟩, hPc⟩ := hp
  intro T hT X
  obtain ⟨v, vm₁, ⟨U', l2, c2, s2⟩, hW₁, X', ⟨g', mk, t, L, e1, e2, hq, h1, hL, h2, h3⟩, st⟩ := vx_callVW X hx (C := C) (hh := hh) (bytes := bytes) (maxL := maxL) (ret := ret) ho hl hin hse hcode hy hK (by rw [hT]; exact hcB) hoB hclB hg (hsize.trans hml.symm) (argsL := As) (rest := rest) (fun sig h => hn.trans (hlen sig h)) hstack hW (by rw [hb]; exact hdg)
    (fun vm₁ hW₁ => ⟨hf.1, hf.2, hPc (T.setVm vm₁) hT hW₁⟩)
  dsimp only [Pt.U, Pt.locs, Pt.cells, Pt.slots] at X' e1 e2 h1 h2 h3 st
  subst h1; subst h2; subst h3
  exact ⟨v, (T.setVm vm₁).calling g' mk (Value.ref b :: As).toArray, t, U', L, hT, X', hL, e1, e2, hq, st⟩
section
variable {y : MethodName} {bytes cc : ByteArray} {maxL nL mc ms n index : Nat} {ret : Option FieldType} {ws : List Cond} {rm : Room} {Pc : Array Value → State → Prop} {Qc : Array Value → State → Outcome → State → Prop} {XC : String → State → State → Prop} {free : Addr → Prop} {Ts : List Cond} {own C : String} {b : Addr} {As rest : List Value} {g : JFrame}
theorem vx_runVX {hh : List (Nat × Nat × Nat × Nat)} (S : CallFix p m c cc nL s args Ts own) (hM : vx_Met l y ws rm Pc Qc XC mc ms free) (cw : vx_CVW R s args own C index y bytes maxL ret hh ws rm mc ms n) (hp : PreV s H C b Pc As)
    (hg : g.method = m) (hn : As.length = n) (hsize : g.locals.size = nL) (hstack : g.stack = As.reverse ++ .ref b :: rest) (hW : 2 * g.monitorRoom + (rest.map fun v => v.category).sum ≤ 8) (hdg : decode cc g.pc = .ok (.invokevirtual index, 3)) (hf : cells + mc ≤ R.cells ∧ slots + ms ≤ R.slots) :
    vx_Run p l e R s m args below meth c H locs cells slots mc ms g rest (Qc (Value.ref b :: As).toArray) XC free := by
  obtain ⟨⟨hrc, hrs, hfr, hlo, hws, hcw⟩, hcode, hini, hy, hlen, hl, hin, hse⟩ := cw
  have hK : vx_Back l R p e below s args y 3 8 (PreOf R mc ms Pc) (PostOf Qc mc ms free) (vx_Post XC mc ms free) := vx_backW (hh := hh) (bytes := bytes) (maxL := maxL) (ret := ret) hM hp.1 hrc hrs hfr hlo hws hcw (fun a' U hW => word_at hW (Or.inl (by first | rfl | simp [Cond.onTables, Cond.keeps, Cond.steady])) hini)
  obtain ⟨hx, hb, hml, ho, -⟩ := S
  obtain ⟨-, ⟨cellB, hcB, hoB, hclB⟩, hPc⟩ := hp
  intro T hT X
  rcases vx_callVX X hx (C := C) (hh := hh) (bytes := bytes) (maxL := maxL) (ret := ret) ho hl hin hse hcode hy hK (by rw [hT]; exact hcB) hoB hclB hg (hsize.trans hml.symm) (argsL := As) (rest := rest) (fun sig h => hn.trans (hlen sig h)) hstack hW (by rw [hb]; exact hdg)
    (fun vm₁ hW₁ => ⟨hf.1, hf.2, hPc (T.setVm vm₁) hT hW₁⟩) with ⟨v, vm₁, ⟨U', l2, c2, s2⟩, hW₁, X', ⟨g', mk, t, L, e1, e2, hq, h1, hL, h2, h3⟩, st⟩ | ⟨q, vm₁, ⟨U', l2, c2, s2⟩, hW₁, X', ⟨g', mk, t, L, E, ce, e1, e2, hq, hce, hcv, hcl, h1, hL, h2, h3⟩, st⟩
  · dsimp only [Pt.U, Pt.locs, Pt.cells, Pt.slots] at X' e1 e2 h1 h2 h3 st
    subst h1; subst h2; subst h3
    exact Or.inl ⟨v, (T.setVm vm₁).calling g' mk (Value.ref b :: As).toArray, t, U', L, hT, X', hL, e1, e2, hq, st⟩
  · dsimp only [Pt.U, Pt.locs, Pt.cells, Pt.slots] at X' e1 e2 h1 h2 h3 st hcl
    subst h1; subst h2; subst h3
    exact Or.inr ⟨q, (T.setVm vm₁).calling g' mk (Value.ref b :: As).toArray, t, U', L, E, ce, hT, X', hL, e1, e2, hq, hce, hcv, vx_cls hW₁ hcl, st⟩
theorem vx_runSX {hh : List (Nat × Nat × Nat × Nat)} (S : CallFix p m c cc nL s args Ts own) (hM : vx_Met l y ws rm Pc Qc XC mc ms free) (cw : vx_CSW R s args own index y bytes maxL ret hh ws rm mc ms n) (hp : PreS s H Pc As)
    (hg : g.method = m) (hn : As.length = n) (hsize : g.locals.size = nL) (hstack : g.stack = As.reverse ++ rest) (hW : 2 * g.monitorRoom + (rest.map fun v => v.category).sum ≤ 8) (hdg : decode cc g.pc = .ok (.invokestatic index, 3)) (hf : cells + mc ≤ R.cells ∧ slots + ms ≤ R.slots) :
    vx_Run p l e R s m args below meth c H locs cells slots mc ms g rest (Qc As.toArray) XC free := by
  obtain ⟨⟨hrc, hrs, hfr, hlo, hws, hcw⟩, hcode, hini, hy, hlen, hl, hstt⟩ := cw
  have hK : vx_Back l R p e below s args y 3 8 (PreOf R mc ms Pc) (PostOf Qc mc ms free) (vx_Post XC mc ms free) := vx_backW (hh := hh) (bytes := bytes) (maxL := maxL) (ret := ret) hM hp.1 hrc hrs hfr hlo hws hcw (fun a' U hW => word_at hW (Or.inl (by first | rfl | simp [Cond.onTables, Cond.keeps, Cond.steady])) hini)
  obtain ⟨hx, hb, hml, ho, -⟩ := S
  intro T hT X
  rcases vx_callSX X hx (hh := hh) (bytes := bytes) (maxL := maxL) (ret := ret) ho hl hstt hini hcode hy hK hg (hsize.trans hml.symm) (argsL := As) (rest := rest) (fun sig h => hn.trans (hlen sig h)) hstack hW (by rw [hb]; exact hdg)
    (fun vm₁ hW₁ => ⟨hf.1, hf.2, hp.2 (T.setVm vm₁) hT hW₁⟩) with ⟨v, vm₁, ⟨U', l2, c2, s2⟩, hW₁, X', ⟨g', mk, t, L, e1, e2, hq, h1, hL, h2, h3⟩, st⟩ | ⟨q, vm₁, ⟨U', l2, c2, s2⟩, hW₁, X', ⟨g', mk, t, L, E, ce, e1, e2, hq, hce, hcv, hcl, h1, hL, h2, h3⟩, st⟩
  · dsimp only [Pt.U, Pt.locs, Pt.cells, Pt.slots] at X' e1 e2 h1 h2 h3 st
    subst h1; subst h2; subst h3
    exact Or.inl ⟨v, (T.setVm vm₁).calling g' mk As.toArray, t, U', L, hT, X', hL, e1, e2, hq, st⟩
  · dsimp only [Pt.U, Pt.locs, Pt.cells, Pt.slots] at X' e1 e2 h1 h2 h3 st hcl
    subst h1; subst h2; subst h3
    exact Or.inr ⟨q, (T.setVm vm₁).calling g' mk As.toArray, t, U', L, E, ce, hT, X', hL, e1, e2, hq, hce, hcv, vx_cls hW₁ hcl, st⟩
end
end VXH
theorem vx_ofWH {l : Launch} {y : MethodName} {ws ws' : List Cond} {rm : Room} {Pc : Array Value → State → Prop} {Qc : Array Value → State → Outcome → State → Prop} {XC : String → State → State → Prop} {mc ms : Nat} {free : Addr → Prop} {cc : ByteArray} {maxL : Nat} {ret : Option FieldType} {hh : List (Nat × Nat × Nat × Nat)}
    (hy : plainName y.cls = true) (hw : ws = Cond.codeWith y cc maxL ret hh :: ws')
    (body : ∀ p e s m args below meth c s₁, BodyLoose p l y (headSpec ws rm) cc maxL ret e s m args below meth c s₁ → c.maxLocals = maxL → Pc args s →
      W p l e (headSpec ws rm).room s m args below meth c s.heap [] 0 0 (vx_MQ below Qc XC args s mc ms free) (entryFrame m args maxL)) : vx_Met l y ws rm Pc Qc XC mc ms free := by
  refine MetFree.of_bodyS (code := cc) (maxLocals := maxL) (ret := ret) hy ?_ ?_
  · intro args s m h hn
    obtain ⟨m9, meth, c, hn9, h1, h2, h3, h4, -, h5, h6, -⟩ := Cond.codeWith_spec (atoms_spec (ws := ws) h _ (by rw [hw]; exact List.mem_cons_self))
    cases hn.symm.trans hn9
    exact ⟨meth, c, h1, h2, h3, h4, h5, h6⟩
  · intro p e s m args below meth c s₁ B hml hP _
    have hh0 : s₁.heap = s.heap := by rw [B.state]; rfl
    obtain ⟨t, a1, o, b1, b2, b3⟩ := body p e s m args below meth c s₁ B hml hP s₁ hh0 (Stand.of_body B)
    exact ⟨t, o, a1, b1, b2, b3⟩
/-! ===== END ===== -/
end
section
/-! Doubles that are whole multiples of a small power of two: 'fx k n x' says that x is finite and that its value is n / 2^k. -/
def fx (k : Nat) (n : Int) (x : UInt64) : Prop := FP.Core.DFin x ∧ FP.Core.zval FP.Core.b64 (FP.Core.val64 x) * ((2 ^ k : Nat) : Int) = n * (FP.Core.one64 : Int)
theorem fx_Q : ∃ Q : Nat, FP.Core.b64.qmin = -(Q : Int) ∧ FP.Core.one64 = 2 ^ Q ∧ 1000 ≤ Q ∧ (-(100 : Int)) ≤ FP.Core.b64.qmax ∧ 0 ≤ FP.Core.b64.qmax := by
  refine ⟨1074, by decide +kernel, by unfold FP.Core.one64; rfl, by decide, by decide +kernel, by decide +kernel⟩
theorem fx_one : (0 : Int) < (FP.Core.one64 : Int) := by
  have := FP.Core.one64_pos
  omega
theorem fx_pw (k : Nat) : (0 : Int) < ((2 ^ k : Nat) : Int) := by
  have := Nat.two_pow_pos k
  omega
theorem fx_congr {c N k u : Nat} {e : Int} (he : -(u : Int) ≤ e) (hk : k ≤ u) (h : c * 2 ^ (e - (-(u : Int))).toNat * 2 ^ k = N * 2 ^ u) : c * 1 * 2 ^ (e - (-(k : Int))).toNat = N * 1 * 2 ^ ((-(k : Int)) - e).toNat := by
  rw [Nat.mul_one, Nat.mul_one]
  by_cases hc : 0 ≤ e + k
  · have e1 : (e - (-(u : Int))).toNat + k = (e - (-(k : Int))).toNat + u := by omega
    have e2 : ((-(k : Int)) - e).toNat = 0 := by omega
    rw [Nat.mul_assoc, ← Nat.pow_add, e1, Nat.pow_add, ← Nat.mul_assoc] at h
    have h3 := Nat.eq_of_mul_eq_mul_right (Nat.two_pow_pos u) h
    rw [e2, Nat.pow_zero, Nat.mul_one]
    exact h3
  · have e1 : u = ((-(k : Int)) - e).toNat + ((e - (-(u : Int))).toNat + k) := by omega
    have e2 : (e - (-(k : Int))).toNat = 0 := by omega
    rw [Nat.mul_assoc, ← Nat.pow_add] at h
    have h2 : N * 2 ^ u = N * 2 ^ (((-(k : Int)) - e).toNat) * 2 ^ ((e - (-(u : Int))).toNat + k) := by
      rw [Nat.mul_assoc, ← Nat.pow_add, ← e1]
    rw [h2] at h
    have h3 := Nat.eq_of_mul_eq_mul_right (Nat.two_pow_pos _) h
    rw [e2, Nat.pow_zero, Nat.mul_one]
    exact h3
theorem fx_sgn {sg : Bool} {X : Nat} {N a b : Int} (ha : 0 < a) (hb : 0 < b) (h : FP.Core.signed sg X * a = N * b) : FP.Core.signed sg N.natAbs = N := by
  cases sg with
  | false =>
    have h1 : (0 : Int) ≤ FP.Core.signed false X := by unfold FP.Core.signed; simp
    have h2 : 0 ≤ N * b := by rw [← h]; exact Int.mul_nonneg h1 (Int.le_of_lt ha)
    have h3 : 0 ≤ N := by
      rcases Int.lt_or_le N 0 with q | q
      · have := Int.mul_neg_of_neg_of_pos q hb
        omega
      · exact q
    unfold FP.Core.signed
    simp
    omega
  | true =>
    have h1 : FP.Core.signed true X ≤ 0 := by unfold FP.Core.signed; simp
    have h2 : N * b ≤ 0 := by rw [← h]; exact Int.mul_nonpos_of_nonpos_of_nonneg h1 (Int.le_of_lt ha)
    have h3 : N ≤ 0 := by
      rcases Int.lt_or_le 0 N with q | q
      · have := Int.mul_pos q hb
        omega
      · exact q
    unfold FP.Core.signed
    simp
    omega
/-- an exact value of at most 53 digits rounds to itself -/
theorem fx_rnd {sg : Bool} {c k u : Nat} {e N : Int} (hk : k ≤ 100) (hu : k ≤ u) (he : -(u : Int) ≤ e) (h : FP.Core.signed sg (FP.Core.inUnits c e (-(u : Int))) * ((2 ^ k : Nat) : Int) = N * ((2 ^ u : Nat) : Int)) (hN : N.natAbs < 2 ^ 53) :
    ∃ (c' : Nat) (q' : Int), FP.Core.round FP.Core.b64 (.fin sg c e) = .fin sg c' q' ∧ FP.Core.signed sg (FP.Core.inUnits c' q' FP.Core.b64.qmin) * ((2 ^ k : Nat) : Int) = N * (FP.Core.one64 : Int) := by
  obtain ⟨Q, q1, q2, q3, q4, q5⟩ := fx_Q
  have h1 : FP.Core.inUnits c e (-(u : Int)) * 2 ^ k = N.natAbs * 2 ^ u := by
    have := congrArg Int.natAbs h
    rwa [Int.natAbs_mul, Int.natAbs_mul, FP.Core.natAbs_signed, Int.natAbs_natCast, Int.natAbs_natCast] at this
  have hsg := fx_sgn (fx_pw k) (fx_pw u) h
  have h3 : FP.Core.round FP.Core.b64 (.fin sg c e) = FP.Core.round FP.Core.b64 (.fin sg N.natAbs (-(k : Int))) :=
    FP.Core.roundRatio_congr (by decide) (by decide) (fx_congr he hu h1)
  obtain ⟨c', q', r1, r2⟩ := FP.Core.round_exact FP.Core.good_b64 sg (c := N.natAbs) (q := -(k : Int)) hN (by rw [q1]; omega) (by omega)
  refine ⟨c', q', h3.trans r1, ?_⟩
  have e1 : (-(k : Int) - -(Q : Int)).toNat + k = Q := by omega
  rw [r2, q1]
  unfold FP.Core.inUnits
  rw [FP.Core.signed_mul, hsg, Int.mul_assoc, ← Int.natCast_mul, ← Nat.pow_add, e1, q2]
theorem fx_of {x : UInt64} {sg : Bool} {c' k : Nat} {q' N : Int} (hv : FP.Core.val64 x = .fin sg c' q') (h : FP.Core.signed sg (FP.Core.inUnits c' q' FP.Core.b64.qmin) * ((2 ^ k : Nat) : Int) = N * (FP.Core.one64 : Int)) : fx k N x := by
  refine ⟨⟨sg, c', q', hv⟩, ?_⟩
  rw [hv]
  exact h
theorem fx_add {k : Nat} {m n : Int} {x y : UInt64} (hk : k ≤ 100) (hx : fx k m x) (hy : fx k n y) (hb : (m + n).natAbs < 2 ^ 53) : fx k (m + n) (FP.dadd x y) := by
  obtain ⟨⟨s, c, q, ex⟩, vx⟩ := hx
  obtain ⟨⟨t, d, r, ey⟩, vy⟩ := hy
  have hfx := FP.Core.val64_fits x
  have hfy := FP.Core.val64_fits y
  rw [ex] at vx hfx
  rw [ey] at vy hfy
  obtain ⟨sg, n', e, e1, e2, e3⟩ := FP.Core.sum_units hfx hfy
  obtain ⟨Q, q1, q2, q3, q4, q5⟩ := fx_Q
  have hS : FP.Core.signed sg (FP.Core.inUnits n' e (-(Q : Int))) * ((2 ^ k : Nat) : Int) = (m + n) * ((2 ^ Q : Nat) : Int) := by
    rw [← q1, e3, Int.add_mul, vx, vy, ← Int.add_mul, q2]
  obtain ⟨c', q', r1, r2⟩ := fx_rnd hk (by omega) (by rw [← q1]; exact e2) hS hb
  refine fx_of (sg := sg) (c' := c') (q' := q') ?_ r2
  show FP.Core.val64 (FP.Core.dadd x y) = _
  rw [FP.Core.val64_dadd, ex, ey, e1, r1]
theorem fx_neg {k : Nat} {n : Int} {x : UInt64} (hx : fx k n x) : fx k (-n) (FP.dneg x) := by
  obtain ⟨⟨s, c, q, ex⟩, vx⟩ := hx
  refine ⟨⟨!s, c, q, ?_⟩, ?_⟩
  · rw [FP.val64_dneg, ex]
    rfl
  · rw [FP.val64_dneg, FP.Core.zval_negate, Int.neg_mul, vx, Int.neg_mul]
theorem fx_sub {k : Nat} {m n : Int} {x y : UInt64} (hk : k ≤ 100) (hx : fx k m x) (hy : fx k n y) (hb : (m - n).natAbs < 2 ^ 53) : fx k (m - n) (FP.dsub x y) := by
  have h := fx_add hk hx (fx_neg hy) (by rw [← Int.sub_eq_add_neg]; exact hb)
  rw [← Int.sub_eq_add_neg] at h
  have hv : FP.Core.val64 (FP.dadd x (FP.dneg y)) = FP.Core.val64 (FP.dsub x y) := by
    show FP.Core.val64 (FP.Core.dadd x (FP.dneg y)) = FP.Core.val64 (FP.Core.dsub x y)
    rw [FP.Core.val64_dadd, FP.Core.val64_dsub, FP.val64_dneg]
  obtain ⟨⟨sg, c', q', r1⟩, r2⟩ := h
  rw [hv] at r1 r2
  exact ⟨⟨sg, c', q', r1⟩, r2⟩
theorem fx_mul {j k : Nat} {m n : Int} {x y : UInt64} (hk : j + k ≤ 100) (hx : fx j m x) (hy : fx k n y) (hb : (m * n).natAbs < 2 ^ 53) : fx (j + k) (m * n) (FP.dmul x y) := by
  obtain ⟨⟨s, c, q, ex⟩, vx⟩ := hx
  obtain ⟨⟨t, d, r, ey⟩, vy⟩ := hy
  have hfx := FP.Core.val64_fits x
  have hfy := FP.Core.val64_fits y
  rw [ex] at vx hfx
  rw [ey] at vy hfy
  obtain ⟨e1, e2, e3⟩ := FP.Core.product_units hfx hfy
  obtain ⟨Q, q1, q2, q3, q4, q5⟩ := fx_Q
  have e0 : (2 : Int) * FP.Core.b64.qmin = -((Q + Q : Nat) : Int) := by rw [q1]; omega
  rw [e0] at e2 e3
  have hS : FP.Core.signed (s != t) (FP.Core.inUnits (c * d) (q + r) (-((Q + Q : Nat) : Int))) * ((2 ^ (j + k) : Nat) : Int) = (m * n) * ((2 ^ (Q + Q) : Nat) : Int) := by
    rw [e3, FP.Core.signed_xor, Nat.pow_add, Nat.pow_add, Int.natCast_mul, Int.natCast_mul]
    have hx' : FP.Core.signed s (FP.Core.zmag FP.Core.b64 (.fin s c q)) * ((2 ^ j : Nat) : Int) = m * ((2 ^ Q : Nat) : Int) := by rw [← q2]; exact vx
    have hy' : FP.Core.signed t (FP.Core.zmag FP.Core.b64 (.fin t d r)) * ((2 ^ k : Nat) : Int) = n * ((2 ^ Q : Nat) : Int) := by rw [← q2]; exact vy
    have e9 : ∀ A B C D : Int, A * B * (C * D) = (A * C) * (B * D) := fun A B C D => by ac_rfl
    rw [e9, hx', hy', e9]
  obtain ⟨c', q', r1, r2⟩ := fx_rnd hk (by omega) e2 hS hb
  refine fx_of (sg := (s != t)) (c' := c') (q' := q') ?_ r2
  show FP.Core.val64 (FP.Core.dmul x y) = _
  rw [FP.Core.val64_dmul, ex, ey, e1, r1]
theorem fx_up {k : Nat} {n : Int} {x : UInt64} (j : Nat) (hx : fx k n x) : fx (k + j) (n * ((2 ^ j : Nat) : Int)) x := by
  refine ⟨hx.1, ?_⟩
  rw [Nat.pow_add, Int.natCast_mul, ← Int.mul_assoc, hx.2, Int.mul_assoc, Int.mul_assoc, Int.mul_comm (FP.Core.one64 : Int)]
theorem fx_dn {k : Nat} {n : Int} {x : UInt64} (j : Nat) (hx : fx (k + j) (n * ((2 ^ j : Nat) : Int)) x) : fx k n x := by
  refine ⟨hx.1, ?_⟩
  have h := hx.2
  rw [Nat.pow_add, Int.natCast_mul, ← Int.mul_assoc, Int.mul_assoc n, Int.mul_comm ((2 ^ j : Nat) : Int) (FP.Core.one64 : Int), ← Int.mul_assoc] at h
  exact Int.eq_of_mul_eq_mul_right (Int.ne_of_gt (fx_pw j)) h
theorem fx_cmp {k : Nat} {m n : Int} {x y : UInt64} (hx : fx k m x) (hy : fx k n y) : FP.dcmp x y = some (compare m n) := by
  show FP.Core.dcmp x y = _
  rw [FP.Core.dcmp_zval hx.1.ne_nan hy.1.ne_nan]
  congr 1
  have h1 := hx.2
  have h2 := hy.2
  have p1 := fx_pw k
  have p2 := fx_one
  refine FP.Core.compare_congr ?_ ?_
  · rw [← Int.mul_lt_mul_right p1, h1, h2, Int.mul_lt_mul_right p2]
  · constructor
    · intro h
      rw [h, h2] at h1
      exact (Int.eq_of_mul_eq_mul_right (Int.ne_of_gt p2) h1).symm
    · intro h
      rw [h, ← h2] at h1
      exact Int.eq_of_mul_eq_mul_right (Int.ne_of_gt p1) h1
theorem fx_nn {x : UInt64} (h : FP.Core.DFin x) : vf_n64 x := by
  unfold vf_n64
  rw [UInt64.le_iff_toNat_le, FP.Core.mask_toNat]
  have h1 := (FP.Core.fin_bits x).mp h
  have h2 : (0x7ff0000000000000 : UInt64).toNat = 9218868437227405312 := by decide
  rw [h2]
  omega
theorem fx_nnan {x : UInt64} (h : FP.Core.val64 x ≠ .nan) : vf_n64 x := by
  unfold vf_n64
  rw [UInt64.le_iff_toNat_le, FP.Core.mask_toNat]
  have h1 := (FP.Core.ne_nan x).mp h
  have h2 : (0x7ff0000000000000 : UInt64).toNat = 9218868437227405312 := by decide
  rw [h2]
  omega
theorem fx.nn {k : Nat} {n : Int} {x : UInt64} (h : fx k n x) : vf_n64 x := fx_nn h.1
theorem fx_int {i : Int} {x : UInt64} (hv : FP.Core.val64 x = FP.Core.round FP.Core.b64 (FP.Core.ofInt i)) (hb : i.natAbs < 2 ^ 53) : fx 0 i x := by
  have hS : FP.Core.signed (decide (i < 0)) (FP.Core.inUnits i.natAbs 0 (-((0 : Nat) : Int))) * ((2 ^ 0 : Nat) : Int) = i * ((2 ^ 0 : Nat) : Int) := by
    unfold FP.Core.inUnits FP.Core.signed
    by_cases h : i < 0 <;> simp [h] <;> omega
  obtain ⟨c', q', r1, r2⟩ := fx_rnd (k := 0) (by omega) (by omega) (by omega) hS hb
  refine fx_of (sg := decide (i < 0)) (c' := c') (q' := q') ?_ r2
  rw [hv]
  exact r1
theorem fx_i2d (v : Int32) : fx 0 v.toInt (FP.i2d v) := by
  refine fx_int (FP.Core.val64_i2d v) ?_
  have h1 := v.toInt_lt
  have h2 := v.le_toInt
  omega
theorem fx_l2d {v : Int64} (hb : v.toInt.natAbs < 2 ^ 53) : fx 0 v.toInt (FP.l2d v) := fx_int (FP.Core.val64_l2d v) hb
/-- the cut of a value towards zero -/
theorem fx_cut {k : Nat} {n : Int} {x : UInt64} (h : fx k n x) : FP.Core.signed (FP.Core.sgn (FP.Core.val64 x)) (FP.Core.zmag FP.Core.b64 (FP.Core.val64 x) / FP.Core.one64) = n.tdiv ((2 ^ k : Nat) : Int) := by
  have hs := h.2
  have h1 : FP.Core.zmag FP.Core.b64 (FP.Core.val64 x) * 2 ^ k = n.natAbs * FP.Core.one64 := by
    have := congrArg Int.natAbs hs
    unfold FP.Core.zval at this
    rwa [Int.natAbs_mul, Int.natAbs_mul, FP.Core.natAbs_signed, Int.natAbs_natCast, Int.natAbs_natCast] at this
  have hd : FP.Core.zmag FP.Core.b64 (FP.Core.val64 x) / FP.Core.one64 = n.natAbs / 2 ^ k := by
    have a1 := Nat.mul_div_mul_right (FP.Core.zmag FP.Core.b64 (FP.Core.val64 x)) FP.Core.one64 (Nat.two_pow_pos k)
    have a2 := Nat.mul_div_mul_right n.natAbs (2 ^ k) FP.Core.one64_pos
    rw [← a1, h1, Nat.mul_comm FP.Core.one64 (2 ^ k), a2]
  have hsg : FP.Core.signed (FP.Core.sgn (FP.Core.val64 x)) n.natAbs = n := fx_sgn (fx_pw k) fx_one hs
  rw [hd]
  cases hg : FP.Core.sgn (FP.Core.val64 x) with
  | false =>
    rw [hg] at hsg
    have e1 : (n.natAbs : Int) = n := hsg
    show ((n.natAbs / 2 ^ k : Nat) : Int) = n.tdiv ((2 ^ k : Nat) : Int)
    conv => rhs; rw [← e1]
    rw [Int.natCast_ediv, Int.tdiv_eq_ediv_of_nonneg (by omega)]
  | true =>
    rw [hg] at hsg
    have e1 : -(n.natAbs : Int) = n := hsg
    show -((n.natAbs / 2 ^ k : Nat) : Int) = n.tdiv ((2 ^ k : Nat) : Int)
    conv => rhs; rw [← e1]
    rw [Int.neg_tdiv, Int.natCast_ediv, Int.tdiv_eq_ediv_of_nonneg (by omega)]
theorem fx_tdiv_abs (n : Int) (k : Nat) : (n.tdiv ((2 ^ k : Nat) : Int)).natAbs ≤ n.natAbs := by
  rw [Int.natAbs_tdiv, Int.natAbs_natCast]
  exact Nat.div_le_self _ _
theorem fx_d2l {k : Nat} {n : Int} {x : UInt64} (h : fx k n x) (hb : n.natAbs < 2 ^ 62) : (FP.d2l x).toInt = n.tdiv ((2 ^ k : Nat) : Int) := by
  show (FP.Core.d2l x).toInt = _
  rw [FP.Core.d2l_val h.1.ne_nan, fx_cut h]
  have := fx_tdiv_abs n k
  omega
theorem fx_d2i {k : Nat} {n : Int} {x : UInt64} (h : fx k n x) (hb : n.natAbs < 2 ^ 30) : (FP.d2i x).toInt = n.tdiv ((2 ^ k : Nat) : Int) := by
  show (FP.Core.d2i x).toInt = _
  rw [FP.Core.d2i_val h.1.ne_nan, fx_cut h]
  have := fx_tdiv_abs n k
  omega
end
section
theorem fx_ediv {a q P : Int} (hP : 0 < P) (h1 : q * P ≤ a) (h2 : a < (q + 1) * P) : a / P = q := by
  have h3 : q ≤ a / P := (Int.le_ediv_iff_mul_le hP).mpr h1
  have h4 : a / P < q + 1 := (Int.ediv_lt_iff_lt_mul hP).mpr h2
  omega
/-- the whole number at or below a double, as the class works it out: cut, and less one where the cut is above -/
def fx_fl (z : UInt64) : UInt64 := if FP.dcmp (FP.l2d (FP.d2l z)) z = some .gt then FP.dsub (FP.l2d (FP.d2l z)) FP.dconst1 else FP.l2d (FP.d2l z)
theorem fx_c1 : fx 0 1 FP.dconst1 := by
  have h := fx_i2d 1
  have e : FP.i2d 1 = FP.dconst1 := by decide +kernel
  rw [e] at h
  exact h
theorem fx_fl_spec {z : UInt64} (h : FP.Core.DFin z) (hb : (FP.Core.zval FP.Core.b64 (FP.Core.val64 z)).natAbs < 2 ^ 52 * FP.Core.one64) : fx 0 (FP.Core.zval FP.Core.b64 (FP.Core.val64 z) / (FP.Core.one64 : Int)) (fx_fl z) := by
  have hP := fx_one
  have hPn := FP.Core.one64_pos
  have hz : FP.Core.zval FP.Core.b64 (FP.Core.val64 z) = FP.Core.signed (FP.Core.sgn (FP.Core.val64 z)) (FP.Core.zmag FP.Core.b64 (FP.Core.val64 z)) := rfl
  have hcv : (FP.d2l z).toInt = max (-2 ^ 63) (min (2 ^ 63 - 1) (FP.Core.signed (FP.Core.sgn (FP.Core.val64 z)) (FP.Core.zmag FP.Core.b64 (FP.Core.val64 z) / FP.Core.one64))) := FP.Core.d2l_val h.ne_nan
  have hcmp : ∀ t : UInt64, FP.Core.DFin t → FP.dcmp t z = some (compare (FP.Core.zval FP.Core.b64 (FP.Core.val64 t)) (FP.Core.zval FP.Core.b64 (FP.Core.val64 z))) := fun t ht => FP.Core.dcmp_zval ht.ne_nan h.ne_nan
  rw [hz] at hb hcmp ⊢
  rw [FP.Core.natAbs_signed] at hb
  generalize FP.Core.zmag FP.Core.b64 (FP.Core.val64 z) = M at hb hcmp hcv ⊢
  generalize FP.Core.sgn (FP.Core.val64 z) = sg at hcmp hcv ⊢
  have hq : M / FP.Core.one64 < 2 ^ 52 := (Nat.div_lt_iff_lt_mul hPn).mpr hb
  have hd1 := Nat.div_add_mod M FP.Core.one64
  have hd2 := Nat.mod_lt M hPn
  have hT : (FP.d2l z).toInt = FP.Core.signed sg (M / FP.Core.one64) := by
    rw [hcv]
    generalize M / FP.Core.one64 = A at hq
    cases sg
    · have e2 : FP.Core.signed false A = (A : Int) := rfl
      rw [e2]
      omega
    · have e2 : FP.Core.signed true A = -(A : Int) := rfl
      rw [e2]
      omega
  have habs : (FP.d2l z).toInt.natAbs < 2 ^ 53 := by
    rw [hT, FP.Core.natAbs_signed]
    omega
  have ht := fx_l2d habs
  have htv : FP.Core.zval FP.Core.b64 (FP.Core.val64 (FP.l2d (FP.d2l z))) = (FP.d2l z).toInt * (FP.Core.one64 : Int) := by
    have h9 := ht.2
    rw [Nat.pow_zero] at h9
    rw [← h9]
    exact (Int.mul_one _).symm
  have hc := hcmp _ ht.1
  rw [htv, hT] at hc
  rw [hT] at ht
  have e1 : ((M / FP.Core.one64 : Nat) : Int) * (FP.Core.one64 : Int) + ((M % FP.Core.one64 : Nat) : Int) = (M : Int) := by
    have h8 : (M / FP.Core.one64) * FP.Core.one64 + M % FP.Core.one64 = M := by rw [Nat.mul_comm]; exact hd1
    exact_mod_cast h8
  generalize FP.Core.one64 = P at *
  generalize M / P = A at *
  generalize M % P = B at *
  unfold fx_fl
  rw [hc]
  cases sg with
  | false =>
    have e2 : FP.Core.signed false A = (A : Int) := rfl
    have e3 : FP.Core.signed false M = (M : Int) := rfl
    rw [e2] at ht
    rw [e2, e3, if_neg (by rw [Option.some.injEq, FP.Core.compare_gt_iff]; omega)]
    rw [fx_ediv (q := (A : Int)) hP (by omega) (by rw [Int.add_mul]; omega)]
    exact ht
  | true =>
    have e2 : FP.Core.signed true A = -(A : Int) := rfl
    have e3 : FP.Core.signed true M = -(M : Int) := rfl
    rw [e2] at ht
    rw [e2, e3, Int.neg_mul]
    by_cases hB : B = 0
    · rw [if_neg (by rw [Option.some.injEq, FP.Core.compare_gt_iff]; omega)]
      rw [fx_ediv (q := -(A : Int)) hP (by rw [Int.neg_mul]; omega) (by rw [Int.add_mul, Int.neg_mul]; omega)]
      exact ht
    · rw [if_pos (by rw [Option.some.injEq, FP.Core.compare_gt_iff]; omega)]
      rw [fx_ediv (q := -(A : Int) - 1) hP (by rw [Int.sub_mul, Int.neg_mul]; omega) (by rw [Int.add_mul, Int.sub_mul, Int.neg_mul]; omega)]
      exact fx_sub (by omega) ht fx_c1 (by omega)
theorem fx_zm {k : Nat} {n : Int} {x : UInt64} {s : Bool} {c : Nat} {q : Int} {Q : Nat} (q1 : FP.Core.b64.qmin = -(Q : Int)) (q2 : FP.Core.one64 = 2 ^ Q) (ex : FP.Core.val64 x = .fin s c q) (vx : FP.Core.zval FP.Core.b64 (FP.Core.val64 x) * ((2 ^ k : Nat) : Int) = n * (FP.Core.one64 : Int)) : c * 2 ^ (q + Q).toNat * 2 ^ k = n.natAbs * 2 ^ Q := by
  rw [ex] at vx
  have h := congrArg Int.natAbs vx
  unfold FP.Core.zval at h
  rw [Int.natAbs_mul, Int.natAbs_mul, FP.Core.natAbs_signed, Int.natAbs_natCast, Int.natAbs_natCast] at h
  have e : FP.Core.zmag FP.Core.b64 (.fin s c q) = c * 2 ^ (q - FP.Core.b64.qmin).toNat := rfl
  rw [e, q1, q2, Int.sub_neg] at h
  exact h
theorem fx_quo {j k : Nat} {m n : Int} {x y : UInt64} (hx : fx k m x) (hy : fx j n y) (hn : n ≠ 0) : ∃ (s t : Bool) (c d : Nat) (q r : Int), FP.Core.val64 (FP.ddiv x y) = FP.Core.roundRatio FP.Core.b64 (s != t) c d (q - r) ∧ 0 < d ∧ FP.Core.val64 x = .fin s c q ∧ FP.Core.val64 y = .fin t d r ∧ FP.Core.signed s m.natAbs = m ∧ FP.Core.signed t n.natAbs = n := by
  obtain ⟨⟨s, c, q, ex⟩, vx⟩ := hx
  obtain ⟨⟨t, d, r, ey⟩, vy⟩ := hy
  obtain ⟨Q, q1, q2, q3, q4, q5⟩ := fx_Q
  have h2 := fx_zm q1 q2 ey vy
  have hd : d ≠ 0 := by
    intro h
    rw [h, Nat.zero_mul, Nat.zero_mul] at h2
    have h3 : n.natAbs = 0 := by
      rcases Nat.mul_eq_zero.mp h2.symm with h4 | h4
      · exact h4
      · exact absurd h4 (Nat.ne_of_gt (Nat.two_pow_pos Q))
    omega
  refine ⟨s, t, c, d, q, r, ?_, Nat.pos_of_ne_zero hd, ex, ey, ?_, ?_⟩
  · show FP.Core.val64 (FP.Core.ddiv x y) = _
    rw [FP.Core.val64_ddiv, ex, ey]
    show (if d = 0 then _ else _) = _
    rw [if_neg hd]
  · rw [ex] at vx
    exact fx_sgn (X := FP.Core.zmag FP.Core.b64 (.fin s c q)) (fx_pw k) fx_one vx
  · rw [ey] at vy
    exact fx_sgn (X := FP.Core.zmag FP.Core.b64 (.fin t d r)) (fx_pw j) fx_one vy
/-- a quotient that is a short multiple of a power of two is exact -/
theorem fx_div {j k u : Nat} {m n N : Int} {x y : UInt64} (hu : u ≤ 100) (hx : fx k m x) (hy : fx j n y) (hn : n ≠ 0) (h : m * ((2 ^ (j + u) : Nat) : Int) = N * n * ((2 ^ k : Nat) : Int)) (hb : N.natAbs < 2 ^ 53) : fx u N (FP.ddiv x y) := by
  obtain ⟨s, t, c, d, q, r, hv, hd, ex, ey, hs, ht⟩ := fx_quo hx hy hn
  obtain ⟨Q, q1, q2, q3, q4, q5⟩ := fx_Q
  have h1 := fx_zm q1 q2 ex hx.2
  have h2 := fx_zm q1 q2 ey hy.2
  have hqx : -(Q : Int) ≤ q := by
    have := FP.Core.val64_fits x
    rw [ex] at this
    rw [← q1]
    exact this.2.1
  have hqy : -(Q : Int) ≤ r := by
    have := FP.Core.val64_fits y
    rw [ey] at this
    rw [← q1]
    exact this.2.1
  have h3 : m.natAbs * 2 ^ (j + u) = N.natAbs * n.natAbs * 2 ^ k := by
    have := congrArg Int.natAbs h
    rwa [Int.natAbs_mul, Int.natAbs_mul, Int.natAbs_mul, Int.natAbs_natCast, Int.natAbs_natCast] at this
  -- c 2^a 2^u = N d 2^b, with a - b = q - r
  have h4 : c * 2 ^ (q + Q).toNat * 2 ^ u = N.natAbs * d * 2 ^ (r + Q).toNat := by
    have p := Nat.mul_pos (Nat.mul_pos (Nat.two_pow_pos k) (Nat.two_pow_pos j)) (Nat.two_pow_pos Q)
    refine Nat.eq_of_mul_eq_mul_right p ?_
    have e1 : c * 2 ^ (q + Q).toNat * 2 ^ u * (2 ^ k * 2 ^ j * 2 ^ Q) = (c * 2 ^ (q + Q).toNat * 2 ^ k) * (2 ^ (j + u) * 2 ^ Q) := by
      rw [Nat.pow_add]; ac_rfl
    have e2 : N.natAbs * d * 2 ^ (r + Q).toNat * (2 ^ k * 2 ^ j * 2 ^ Q) = (d * 2 ^ (r + Q).toNat * 2 ^ j) * (N.natAbs * 2 ^ k * 2 ^ Q) := by ac_rfl
    rw [e1, e2, h1, h2]
    have e3 : m.natAbs * 2 ^ Q * (2 ^ (j + u) * 2 ^ Q) = (m.natAbs * 2 ^ (j + u)) * (2 ^ Q * 2 ^ Q) := by ac_rfl
    have e4 : n.natAbs * 2 ^ Q * (N.natAbs * 2 ^ k * 2 ^ Q) = (N.natAbs * n.natAbs * 2 ^ k) * (2 ^ Q * 2 ^ Q) := by ac_rfl
    rw [e3, e4, h3]
  have h5 : c * 1 * 2 ^ (q - r - (-(u : Int))).toNat = N.natAbs * d * 2 ^ ((-(u : Int)) - (q - r)).toNat := by
    rw [Nat.mul_one]
    by_cases hc : 0 ≤ q - r + u
    · have e1 : (q + Q).toNat + u = (q - r - (-(u : Int))).toNat + (r + Q).toNat := by omega
      have e2 : ((-(u : Int)) - (q - r)).toNat = 0 := by omega
      rw [Nat.mul_assoc, ← Nat.pow_add, e1, Nat.pow_add, ← Nat.mul_assoc] at h4
      rw [e2, Nat.pow_zero, Nat.mul_one]
      exact Nat.eq_of_mul_eq_mul_right (Nat.two_pow_pos _) h4
    · have e1 : (r + Q).toNat = ((-(u : Int)) - (q - r)).toNat + ((q + Q).toNat + u) := by omega
      have e2 : (q - r - (-(u : Int))).toNat = 0 := by omega
      have l1 : c * 2 ^ (q + Q).toNat * 2 ^ u = c * 2 ^ ((q + Q).toNat + u) := by rw [Nat.mul_assoc, ← Nat.pow_add]
      have l2 : N.natAbs * d * 2 ^ (r + Q).toNat = N.natAbs * d * 2 ^ ((-(u : Int)) - (q - r)).toNat * 2 ^ ((q + Q).toNat + u) := by rw [Nat.mul_assoc (N.natAbs * d), ← Nat.pow_add, ← e1]
      rw [e2, Nat.pow_zero, Nat.mul_one]
      exact Nat.eq_of_mul_eq_mul_right (Nat.two_pow_pos _) (l1.symm.trans (h4.trans l2))
  have h6 : FP.Core.roundRatio FP.Core.b64 (s != t) c d (q - r) = FP.Core.round FP.Core.b64 (.fin (s != t) N.natAbs (-(u : Int))) :=
    FP.Core.roundRatio_congr hd (by decide) h5
  have hsg : FP.Core.signed (s != t) N.natAbs = N := by
    have e1 : FP.Core.signed (s != t) (N.natAbs * (n.natAbs * n.natAbs * 2 ^ k)) = N * ((n.natAbs * n.natAbs * 2 ^ k : Nat) : Int) := by
      have e2 : N.natAbs * (n.natAbs * n.natAbs * 2 ^ k) = (m.natAbs * 2 ^ (j + u)) * n.natAbs := by
        rw [h3]; ac_rfl
      rw [e2, FP.Core.signed_xor, FP.Core.signed_mul, hs, ht, h, Int.natCast_mul, Int.natCast_mul]
      have e3 : ((n.natAbs : Int) * (n.natAbs : Int)) = n * n := by
        rw [← Int.natCast_mul, Int.natAbs_mul_self]
      rw [e3]
      ac_rfl
    rw [FP.Core.signed_mul] at e1
    refine Int.eq_of_mul_eq_mul_right ?_ e1
    have p1 : 0 < n.natAbs := by omega
    have p2 := Nat.mul_pos (Nat.mul_pos p1 p1) (Nat.two_pow_pos k)
    omega
  obtain ⟨c', q', r1, r2⟩ := FP.Core.round_exact FP.Core.good_b64 (s != t) (c := N.natAbs) (q := -(u : Int)) hb (by rw [q1]; omega) (by omega)
  refine fx_of (sg := (s != t)) (c' := c') (q' := q') (by rw [hv, h6, r1]) ?_
  have e1 : (-(u : Int) - -(Q : Int)).toNat + u = Q := by omega
  rw [r2, q1]
  unfold FP.Core.inUnits
  rw [FP.Core.signed_mul, hsg, Int.mul_assoc, ← Int.natCast_mul, ← Nat.pow_add, e1, q2]
end
section
/-! Worlds as maps: an address, and what lies there. All cells of the system lie at S0 and beyond; every contract speaks of the whole map. -/
abbrev hp_M : Type := Nat → Option va_E
def hp_P (D : va_G) (cl : List vw_C) (w : hp_M) (H : Heap) : Prop := ∀ (a : Nat) (x : va_E), w a = some x → va_at D cl (a, x) H
def hp_I (D : va_G) (cl : List vw_C) (S0 : Nat) (w : hp_M) (H : Heap) : Prop := hp_P D cl w H ∧ ∀ (a : Nat) (x : va_E), w a = some x → S0 ≤ a
def hp_A (S0 : Nat) : Nat → Prop := fun q => S0 ≤ q
def hp_set (w : hp_M) (a : Nat) (x : va_E) : hp_M := fun q => if q = a then some x else w q
theorem hp_set_eq (w : hp_M) (a : Nat) (x : va_E) : hp_set w a x a = some x := by simp [hp_set]
theorem hp_set_ne {w : hp_M} {a q : Nat} {x : va_E} (h : q ≠ a) : hp_set w a x q = w q := by simp [hp_set, h]
theorem hp_set_set (w : hp_M) (a : Nat) (x y : va_E) : hp_set (hp_set w a x) a y = hp_set w a y := by
  funext q
  by_cases h : q = a <;> simp [hp_set, h]
theorem hp_set_self {w : hp_M} {a : Nat} {x : va_E} (h : w a = some x) : hp_set w a x = w := by
  funext q
  by_cases hq : q = a
  · subst hq
    simp [hp_set, h]
  · simp [hp_set, hq]
theorem hp_one {D : va_G} {cl : List vw_C} {w : hp_M} {H : Heap} {a : Nat} {x : va_E} (h : hp_P D cl w H) (he : w a = some x) : va_P D cl [(a, x)] H := by
  intro k q hk
  have hz : k < 1 := (List.getElem?_eq_some_iff.mp hk).1
  rw [show k = 0 by omega] at hk
  cases hk
  exact h a x he
theorem hp_lt {D : va_G} {cl : List vw_C} {S0 : Nat} {w : hp_M} {H : Heap} {a : Nat} {x : va_E} (h : hp_I D cl S0 w H) (he : w a = some x) : a < H.size := (h.1 a x he).lt
theorem hp_new_none {D : va_G} {cl : List vw_C} {S0 : Nat} {w : hp_M} {H : Heap} (h : hp_I D cl S0 w H) : w H.size = none := by
  cases hc : w H.size with
  | none => rfl
  | some x => exact absurd (hp_lt h hc) (Nat.lt_irrefl _)
theorem hp_I.set {D : va_G} {cl : List vw_C} {S0 : Nat} {w : hp_M} {H H1 : Heap} {a : Nat} {x x0 : va_E} (h : hp_I D cl S0 w H) (h0 : w a = some x0) (he : va_at D cl (a, x) H1) (oq : ∀ q : Nat, q ≠ a → H1[q]? = H[q]?) : hp_I D cl S0 (hp_set w a x) H1 := by
  refine ⟨fun b y hb => ?_, fun b y hb => ?_⟩
  · by_cases hq : b = a
    · subst hq
      rw [hp_set_eq] at hb
      cases hb
      exact he
    · rw [hp_set_ne hq] at hb
      exact (h.1 b y hb).kept (oq b hq)
  · by_cases hq : b = a
    · subst hq
      exact h.2 b x0 h0
    · rw [hp_set_ne hq] at hb
      exact h.2 b y hb
theorem hp_I.push {D : va_G} {cl : List vw_C} {S0 : Nat} {w : hp_M} {H H1 : Heap} {x : va_E} (h : hp_I D cl S0 w H) (hS : S0 ≤ H.size) (he : va_at D cl (H.size, x) H1) (oq : ∀ q : Nat, q < H.size → H1[q]? = H[q]?) : hp_I D cl S0 (hp_set w H.size x) H1 := by
  refine ⟨fun b y hb => ?_, fun b y hb => ?_⟩
  · by_cases hq : b = H.size
    · subst hq
      rw [hp_set_eq] at hb
      cases hb
      exact he
    · rw [hp_set_ne hq] at hb
      exact (h.1 b y hb).kept (oq b (hp_lt h hb))
  · by_cases hq : b = H.size
    · subst hq
      exact hS
    · rw [hp_set_ne hq] at hb
      exact h.2 b y hb
theorem hp_I.grow {D : va_G} {cl : List vw_C} {S0 : Nat} {w : hp_M} {H H1 : Heap} (h : hp_I D cl S0 w H) (oq : ∀ q : Nat, q < H.size → H1[q]? = H[q]?) : hp_I D cl S0 w H1 :=
  ⟨fun b y hb => (h.1 b y hb).kept (oq b (hp_lt h hb)), h.2⟩
theorem hp_recv {s : State} {H : Heap} {D : va_G} {cl : List vw_C} {S0 a ci : Nat} {q : vw_C} {fs : List Value} {w : hp_M} {tys : List (ClassId × FieldType)} (hK : va_K D cl tys s) (hI : hp_I D cl S0 w H) (hc : cl[ci]? = some q) (he : w a = some (.inr (ci, fs))) : ∃ cell : Cell, H[a]? = some cell ∧ cell.vm.isStatics = false ∧ s.vm.findClass q.1 = some cell.cls :=
  va_recv hK (hp_one hI.1 he) hc (q0 := 0) rfl
section HPR
variable {p : Program} {l : Launch} {e : Env} {R : Room} {s : State} {m : MethodId} {args : Array Value} {below : List Frame} {meth : Method} {c : Code} {H : Heap} {locs : List Loc} {cells slots : Nat} {Q : State → Prop}
variable {cc : ByteArray} {pc : Nat} {ls : Array Slot} {rest : List Value} {D : va_G} {cl : List vw_C} {S0 a : Nat} {tys : List (ClassId × FieldType)} {w : hp_M} {H0 : Heap}
theorem hp_get (hexec : p.tables.exec = Jvm.exec) (hb : c.code = cc) {own ref C : String} {T : u_T} {N ci index : Nat} {Ts : List Cond} (hts : ∀ w ∈ Ts, w.before args s = true) (hin : ∀ w ∈ u_ws C T N, w ∈ Ts) (hown : s.vm.findClass own = some m.cls) (hK : va_K D cl tys s) (hI : hp_I D cl S0 w H) {fs : List Value} (he : w a = some (.inr (ci, fs))) (hc : cl[ci]? = some (C, T, N)) (k : Nat) (hk : k < N) (hlink : (Cond.fieldLink own index ref (T k).2.1 (T k).2.2.1).before args s = true) (hsame : ∀ x, s.fieldFound? (T k).1 (T k).2.1 (T k).2.2.1 = some x → s.fieldFound? ref (T k).2.1 (T k).2.2.1 = some x) {v : Value} (hv : fs[k]? = some v) (hdg : decode cc pc = .ok (.getfield index, 3))
    (kk : W p l e R s m args below meth c H locs cells slots Q (F0 m (pc + 3) ls (v :: rest))) : W p l e R s m args below meth c H locs cells slots Q (F0 m pc ls (.ref a :: rest)) :=
  va_get hexec hb hts hin hown hK (hp_one hI.1 he) 0 rfl hc k hk hlink hsame hv hdg kk
theorem hp_getN (hexec : p.tables.exec = Jvm.exec) (hb : c.code = cc) {own ref C host : String} {T : u_T} {N ci index : Nat} {Ts : List Cond} (hts : ∀ w ∈ Ts, w.before args s = true) (hin : ∀ w ∈ u_ws C T N, w ∈ Ts) (hown : s.vm.findClass own = some m.cls) (hK : va_K D cl tys s) (hI : hp_I D cl S0 w H) {fs : List Value} (he : w a = some (.inr (ci, fs))) (hc : cl[ci]? = some (C, T, N)) (k : Nat) (hk : k < N) (hlink : (Cond.fieldLinkNest own index ref (T k).2.1 (T k).2.2.1 host).before args s = true) (hsame : ∀ x, s.fieldFound? (T k).1 (T k).2.1 (T k).2.2.1 = some x → s.fieldFound? ref (T k).2.1 (T k).2.2.1 = some x) {v : Value} (hv : fs[k]? = some v) (hdg : decode cc pc = .ok (.getfield index, 3))
    (kk : W p l e R s m args below meth c H locs cells slots Q (F0 m (pc + 3) ls (v :: rest))) : W p l e R s m args below meth c H locs cells slots Q (F0 m pc ls (.ref a :: rest)) :=
  va_getN hexec hb hts hin hown hK (hp_one hI.1 he) 0 rfl hc k hk hlink hsame hv hdg kk
theorem hp_putC (hexec : p.tables.exec = Jvm.exec) (hb : c.code = cc) {own ref C : String} {T : u_T} {N ci index : Nat} {Ts : List Cond} (hts : ∀ w ∈ Ts, w.before args s = true) (hin : ∀ w ∈ u_ws C T N, w ∈ Ts) (ty0 : Nat → FieldType) (hty : ∀ k, k < N → parseFieldDescriptor (T k).2.2.1 = some (ty0 k)) (hnm : ∀ a, a < N → ∀ b, b < N → a ≠ b → (T a).2.1 ≠ (T b).2.1) (hown : s.vm.findClass own = some m.cls) (hK : va_K D cl tys s) (hI : hp_I D cl S0 w H) (hS0 : va_S (hp_A S0) H0 H locs) {fs : List Value} (he : w a = some (.inr (ci, fs))) (hc : cl[ci]? = some (C, T, N)) (k : Nat) (hk : k < N) (hlink : (Cond.fieldLink own index ref (T k).2.1 (T k).2.2.1).before args s = true) (hsame : ∀ x, s.fieldFound? (T k).1 (T k).2.1 (T k).2.2.1 = some x → s.fieldFound? ref (T k).2.1 (T k).2.2.1 = some x) (hfin : (T k).2.2.2 = false) {ty : FieldType} {v : Value} (hd : parseFieldDescriptor (T k).2.2.1 = some ty) (hn : narrow ty v = v) (hfit : fits ty v = true) (hl : k < fs.length)
    (hdg : decode cc pc = .ok (.putfield index, 3)) (kk : ∀ (H1 : Heap) (locs1 : List Loc), hp_I D cl S0 (hp_set w a (.inr (ci, fs.set k v))) H1 → va_S (hp_A S0) H0 H1 locs1 → H1.size = H.size → W p l e R s m args below meth c H1 locs1 cells slots Q (F0 m (pc + 3) ls rest)) : W p l e R s m args below meth c H locs cells slots Q (F0 m pc ls (v :: .ref a :: rest)) := by
  have hap := va_apart (own := own) hts hin ty0 hty hnm hK hc
  obtain ⟨r, h1, cell, q1, q2, q3, q4⟩ := hI.1 a _ he
  have hr : r = (C, T, N) := Option.some.inj (h1.symm.trans hc)
  subst hr
  obtain ⟨hS, hfc, kC, hkC, hkind⟩ := hK.1 ci _ hc
  obtain ⟨cf, kf, fi, f, hi, hsl⟩ := hS k hk
  have hlay := hts _ (hin _ (u_in_lay hk))
  unfold u_lay at hlay
  rw [if_neg (by rw [hfin]; decide)] at hlay
  have hst := (u_facts hfc hkC (u_lays hts hin hk) hi).1
  have h6 := u_store hfc hkC hkind hlay hi hd hn hfit
  refine W.putK hexec hb (f := f) ⟨hown, hlink, ⟨_, _, _, hsame _ hi⟩, hst⟩ (by rw [q2]; exact h6) q1 q3 (by rw [hsl]; exact k2_hasslot (q4 k hk)) rfl rfl hdg fun H' e1 e2 e3 => ?_
  rw [hsl] at e1 ⊢
  exact kk H' _ (hI.set he ⟨_, hc, t_OB.to (V := updV (vp_V fs) k v) ⟨_, e1, q2, q3, t_set q4 hap hk v⟩ (fun j _ => vp_updV_set hl v j)⟩ e3) (hS0.put e2 e3 (hI.2 a _ he)) e2
theorem hp_putF (hexec : p.tables.exec = Jvm.exec) (hb : c.code = cc) {own ref C : String} {T : u_T} {N ci index : Nat} {Ts : List Cond} (hts : ∀ w ∈ Ts, w.before args s = true) (hin : ∀ w ∈ u_ws C T N, w ∈ Ts) (ty0 : Nat → FieldType) (hty : ∀ k, k < N → parseFieldDescriptor (T k).2.2.1 = some (ty0 k)) (hnm : ∀ a, a < N → ∀ b, b < N → a ≠ b → (T a).2.1 ≠ (T b).2.1) (hown : s.vm.findClass own = some m.cls) (hK : va_K D cl tys s) (hI : hp_I D cl S0 w H) (hS0 : va_S (hp_A S0) H0 H locs) {fs : List Value} (he : w a = some (.inr (ci, fs))) (hc : cl[ci]? = some (C, T, N)) (k : Nat) (hk : k < N) (hlink : (Cond.fieldLink own index ref (T k).2.1 (T k).2.2.1).before args s = true) (hsame : ∀ x, s.fieldFound? (T k).1 (T k).2.1 (T k).2.2.1 = some x → s.fieldFound? ref (T k).2.1 (T k).2.2.1 = some x) (hfin : (T k).2.2.2 = true) (hin2 : meth.name = "<init>") (hdecl : (T k).1 = own) {ty : FieldType} {v : Value} (hd : parseFieldDescriptor (T k).2.2.1 = some ty) (hn : narrow ty v = v) (hfit : fits ty v = true) (hl : k < fs.length)
    (hdg : decode cc pc = .ok (.putfield index, 3)) (kk : ∀ (H1 : Heap) (locs1 : List Loc), hp_I D cl S0 (hp_set w a (.inr (ci, fs.set k v))) H1 → va_S (hp_A S0) H0 H1 locs1 → H1.size = H.size → W p l e R s m args below meth c H1 locs1 cells slots Q (F0 m (pc + 3) ls rest)) : W p l e R s m args below meth c H locs cells slots Q (F0 m pc ls (v :: .ref a :: rest)) := by
  have hap := va_apart (own := own) hts hin ty0 hty hnm hK hc
  obtain ⟨r, h1, cell, q1, q2, q3, q4⟩ := hI.1 a _ he
  have hr : r = (C, T, N) := Option.some.inj (h1.symm.trans hc)
  subst hr
  obtain ⟨hS, hfc, kC, hkC, hkind⟩ := hK.1 ci _ hc
  obtain ⟨cf, kf, fi, f, hi, hsl⟩ := hS k hk
  have hlay := hts _ (hin _ (u_in_lay hk))
  unfold u_lay at hlay
  rw [if_pos hfin] at hlay
  have hst := (u_facts hfc hkC (u_lays hts hin hk) hi).1
  have hcf : m.cls = cf := by
    obtain ⟨_, _, c', _, _, _, -, -, hf', -, -, -, hown2, -⟩ := Cond.laysFinal_spec hlay
    have e1 : c' = cf := by have := hi.symm.trans hf'; simp at this; exact this.1.symm
    rw [hdecl] at hown2
    rw [← e1]; exact Option.some.inj (hown.symm.trans hown2)
  have h6 := u_fits hfc hkC hkind (Or.inr hlay) hi hd hn hfit
  refine W.putFinK hexec hb hown hlink (hsame _ hi) hst hcf hin2 (by rw [q2]; exact h6) q1 q3 (by rw [hsl]; exact k2_hasslot (q4 k hk)) rfl rfl hdg fun H' e1 e2 e3 => ?_
  rw [hsl] at e1 ⊢
  exact kk H' _ (hI.set he ⟨_, hc, t_OB.to (V := updV (vp_V fs) k v) ⟨_, e1, q2, q3, t_set q4 hap hk v⟩ (fun j _ => vp_updV_set hl v j)⟩ e3) (hS0.put e2 e3 (hI.2 a _ he)) e2
theorem hp_putN (hexec : p.tables.exec = Jvm.exec) (hb : c.code = cc) {own ref C host : String} {T : u_T} {N ci index : Nat} {Ts : List Cond} (hts : ∀ w ∈ Ts, w.before args s = true) (hin : ∀ w ∈ u_ws C T N, w ∈ Ts) (ty0 : Nat → FieldType) (hty : ∀ k, k < N → parseFieldDescriptor (T k).2.2.1 = some (ty0 k)) (hnm : ∀ a, a < N → ∀ b, b < N → a ≠ b → (T a).2.1 ≠ (T b).2.1) (hown : s.vm.findClass own = some m.cls) (hK : va_K D cl tys s) (hI : hp_I D cl S0 w H) (hS0 : va_S (hp_A S0) H0 H locs) {fs : List Value} (he : w a = some (.inr (ci, fs))) (hc : cl[ci]? = some (C, T, N)) (k : Nat) (hk : k < N) (hlink : (Cond.fieldLinkNest own index ref (T k).2.1 (T k).2.2.1 host).before args s = true) (hsame : ∀ x, s.fieldFound? (T k).1 (T k).2.1 (T k).2.2.1 = some x → s.fieldFound? ref (T k).2.1 (T k).2.2.1 = some x) (hfin : (T k).2.2.2 = false) {ty : FieldType} {v : Value} (hd : parseFieldDescriptor (T k).2.2.1 = some ty) (hn : narrow ty v = v) (hfit : fits ty v = true) (hl : k < fs.length)
    (hdg : decode cc pc = .ok (.putfield index, 3)) (kk : ∀ (H1 : Heap) (locs1 : List Loc), hp_I D cl S0 (hp_set w a (.inr (ci, fs.set k v))) H1 → va_S (hp_A S0) H0 H1 locs1 → H1.size = H.size → W p l e R s m args below meth c H1 locs1 cells slots Q (F0 m (pc + 3) ls rest)) : W p l e R s m args below meth c H locs cells slots Q (F0 m pc ls (v :: .ref a :: rest)) := by
  have hap := va_apart (own := own) hts hin ty0 hty hnm hK hc
  obtain ⟨r, h1, cell, q1, q2, q3, q4⟩ := hI.1 a _ he
  have hr : r = (C, T, N) := Option.some.inj (h1.symm.trans hc)
  subst hr
  obtain ⟨hS, hfc, kC, hkC, hkind⟩ := hK.1 ci _ hc
  obtain ⟨cf, kf, fi, f, hi, hsl⟩ := hS k hk
  have hlay := hts _ (hin _ (u_in_lay hk))
  unfold u_lay at hlay
  rw [if_neg (by rw [hfin]; decide)] at hlay
  have hst := (u_facts hfc hkC (u_lays hts hin hk) hi).1
  have h6 := u_store hfc hkC hkind hlay hi hd hn hfit
  refine va_WputK hexec hb (f := f) hown hlink (hsame _ hi) hst (by rw [q2]; exact h6) q1 q3 (by rw [hsl]; exact k2_hasslot (q4 k hk)) rfl rfl hdg fun H' e1 e2 e3 => ?_
  rw [hsl] at e1 ⊢
  exact kk H' _ (hI.set he ⟨_, hc, t_OB.to (V := updV (vp_V fs) k v) ⟨_, e1, q2, q3, t_set q4 hap hk v⟩ (fun j _ => vp_updV_set hl v j)⟩ e3) (hS0.put e2 e3 (hI.2 a _ he)) e2
theorem hp_iald (hexec : p.tables.exec = Jvm.exec) (hb : c.code = cc) (hK : va_K D cl tys s) (hI : hp_I D cl S0 w H) (t0 : Nat) {cA : ClassId} {n : Nat} {f : Nat → Int32} (ha : w a = some (.inl (cA, n, .inl f))) (ht : tys[t0]? = some (cA, .int)) {i : Int32} (hin : vp_in i n) (hdg : decode cc pc = .ok (.iaload, 1))
    (kk : W p l e R s m args below meth c H locs cells slots Q (F0 m (pc + 1) ls (.int (f i.toNatClampNeg) :: rest))) : W p l e R s m args below meth c H locs cells slots Q (F0 m pc ls (.int i :: .ref a :: rest)) :=
  va_iald hexec hb hK (hp_one hI.1 ha) 0 t0 rfl ht hin hdg kk
theorem hp_dald (hexec : p.tables.exec = Jvm.exec) (hb : c.code = cc) (hK : va_K D cl tys s) (hI : hp_I D cl S0 w H) (t0 : Nat) {cA : ClassId} {n : Nat} {f : Nat → UInt64} (ha : w a = some (.inl (cA, n, .inr (.inr (.inr (.inl f)))))) (ht : tys[t0]? = some (cA, .double)) {i : Int32} (hin : vp_in i n) (hdg : decode cc pc = .ok (.daload, 1))
    (kk : W p l e R s m args below meth c H locs cells slots Q (F0 m (pc + 1) ls (.double (f i.toNatClampNeg) :: rest))) : W p l e R s m args below meth c H locs cells slots Q (F0 m pc ls (.int i :: .ref a :: rest)) :=
  va_dald hexec hb hK (hp_one hI.1 ha) 0 t0 rfl ht hin hdg kk
theorem hp_aald (hexec : p.tables.exec = Jvm.exec) (hb : c.code = cc) (hK : va_K D cl tys s) (hI : hp_I D cl S0 w H) (t0 : Nat) {cA : ClassId} {C : String} {n : Nat} {f : Nat → Option Nat} (ha : w a = some (.inl (cA, n, .inr (.inr (.inr (.inr f)))))) (ht : tys[t0]? = some (cA, .object C)) {i : Int32} (hin : vp_in i n) (hdg : decode cc pc = .ok (.aaload, 1))
    (kk : W p l e R s m args below meth c H locs cells slots Q (F0 m (pc + 1) ls (va_rf (f i.toNatClampNeg) :: rest))) : W p l e R s m args below meth c H locs cells slots Q (F0 m pc ls (.int i :: .ref a :: rest)) :=
  va_aldq hexec hb hK (hp_one hI.1 ha) 0 t0 rfl ht hin hdg kk
theorem hp_alen (hexec : p.tables.exec = Jvm.exec) (hb : c.code = cc) (hK : va_K D cl tys s) (hI : hp_I D cl S0 w H) (t0 : Nat) {cA : ClassId} {x : vp_A} (ha : w a = some (.inl (cA, x))) {ty : FieldType} (ht : tys[t0]? = some (cA, ty)) {v : Int32} (hv : Int32.ofNat x.1 = v) (hdg : decode cc pc = .ok (.arraylength, 1))
    (kk : W p l e R s m args below meth c H locs cells slots Q (F0 m (pc + 1) ls (.int v :: rest))) : W p l e R s m args below meth c H locs cells slots Q (F0 m pc ls (.ref a :: rest)) :=
  va_alen hexec hb hK (hp_one hI.1 ha) 0 t0 rfl ht hv hdg kk
theorem hp_iast (hexec : p.tables.exec = Jvm.exec) (hb : c.code = cc) (hK : va_K D cl tys s) (hI : hp_I D cl S0 w H) (hS : va_S (hp_A S0) H0 H locs) (t0 : Nat) {cA : ClassId} {n : Nat} {f : Nat → Int32} (ha : w a = some (.inl (cA, n, .inl f))) (ht : tys[t0]? = some (cA, .int)) {i : Int32} {x : Int32} (hin : vp_in i n) (hdg : decode cc pc = .ok (.iastore, 1))
    (kk : ∀ (H1 : Heap) (locs1 : List Loc), hp_I D cl S0 (hp_set w a (.inl (cA, n, .inl (upd f i.toNatClampNeg x)))) H1 → va_S (hp_A S0) H0 H1 locs1 → H1.size = H.size → W p l e R s m args below meth c H1 locs1 cells slots Q (F0 m (pc + 1) ls rest)) : W p l e R s m args below meth c H locs cells slots Q (F0 m pc ls (.int x :: .int i :: .ref a :: rest)) := by
  refine W.iast hexec hb (hI.1 a _ ha) ((hK.2 t0 _ ht).1 n (fun j => .int (f j))) (fun q => by cases q) (by show ¬ (i < 0 ∨ (arrV _ _ _).slots.size ≤ _); rw [arrV_size]; exact hin) rfl rfl hdg fun H1 e z oq => ?_
  refine kk H1 _ (hI.set ha ?_ oq) (hS.put z oq (hI.2 a _ ha)) z
  show H1[a]? = some (vp_cell _ _)
  rw [e]
  rw [vp_cell_i, vp_cell_i, arrV_store]
  congr 2
  funext q
  by_cases hq : q = i.toNatClampNeg
  · subst hq
    simp [updV, upd]
  · simp [updV, upd, hq]
theorem hp_dast (hexec : p.tables.exec = Jvm.exec) (hb : c.code = cc) (hK : va_K D cl tys s) (hI : hp_I D cl S0 w H) (hS : va_S (hp_A S0) H0 H locs) (t0 : Nat) {cA : ClassId} {n : Nat} {f : Nat → UInt64} (ha : w a = some (.inl (cA, n, .inr (.inr (.inr (.inl f)))))) (ht : tys[t0]? = some (cA, .double)) {i : Int32} {x : UInt64} (hin : vp_in i n) (hdg : decode cc pc = .ok (.dastore, 1))
    (kk : ∀ (H1 : Heap) (locs1 : List Loc), hp_I D cl S0 (hp_set w a (.inl (cA, n, .inr (.inr (.inr (.inl (vf_upd f i.toNatClampNeg x))))))) H1 → va_S (hp_A S0) H0 H1 locs1 → H1.size = H.size → W p l e R s m args below meth c H1 locs1 cells slots Q (F0 m (pc + 1) ls rest)) : W p l e R s m args below meth c H locs cells slots Q (F0 m pc ls (.double x :: .int i :: .ref a :: rest)) := by
  refine W.dast hexec hb (hI.1 a _ ha) ((hK.2 t0 _ ht).1 n (fun j => .double (f j))) (fun q => by cases q) (by show ¬ (i < 0 ∨ (arrV _ _ _).slots.size ≤ _); rw [arrV_size]; exact hin) rfl rfl hdg fun H1 e z oq => ?_
  refine kk H1 _ (hI.set ha ?_ oq) (hS.put z oq (hI.2 a _ ha)) z
  show H1[a]? = some (vp_cell _ _)
  rw [e]
  rw [vp_cell_d, vp_cell_d, arrV_store]
  congr 2
  funext q
  by_cases hq : q = i.toNatClampNeg
  · subst hq
    simp [updV, vf_upd]
  · simp [updV, vf_upd, hq]
theorem hp_last (hexec : p.tables.exec = Jvm.exec) (hb : c.code = cc) (hK : va_K D cl tys s) (hI : hp_I D cl S0 w H) (hS : va_S (hp_A S0) H0 H locs) (t0 : Nat) {cA : ClassId} {n : Nat} {f : Nat → Int64} (ha : w a = some (.inl (cA, n, .inr (.inl f)))) (ht : tys[t0]? = some (cA, .long)) {i : Int32} {x : Int64} (hin : vp_in i n) (hdg : decode cc pc = .ok (.lastore, 1))
    (kk : ∀ (H1 : Heap) (locs1 : List Loc), hp_I D cl S0 (hp_set w a (.inl (cA, n, .inr (.inl (vp_updL f i.toNatClampNeg x))))) H1 → va_S (hp_A S0) H0 H1 locs1 → H1.size = H.size → W p l e R s m args below meth c H1 locs1 cells slots Q (F0 m (pc + 1) ls rest)) : W p l e R s m args below meth c H locs cells slots Q (F0 m pc ls (.long x :: .int i :: .ref a :: rest)) := by
  refine W.last hexec hb (hI.1 a _ ha) ((hK.2 t0 _ ht).1 n (fun j => .long (f j))) (fun q => by cases q) (by show ¬ (i < 0 ∨ (arrV _ _ _).slots.size ≤ _); rw [arrV_size]; exact hin) rfl rfl hdg fun H1 e z oq => ?_
  refine kk H1 _ (hI.set ha ?_ oq) (hS.put z oq (hI.2 a _ ha)) z
  show H1[a]? = some (vp_cell _ _)
  rw [e]
  rw [vp_cell_l, vp_cell_l, arrV_store]
  congr 2
  funext q
  by_cases hq : q = i.toNatClampNeg
  · subst hq
    simp [updV, vp_updL]
  · simp [updV, vp_updL, hq]
theorem hp_aastN (hexec : p.tables.exec = Jvm.exec) (hb : c.code = cc) (hK : va_K D cl tys s) (hI : hp_I D cl S0 w H) (hS : va_S (hp_A S0) H0 H locs) (t0 : Nat) {cA : ClassId} {C : String} {n : Nat} {f : Nat → Option Nat} (ha : w a = some (.inl (cA, n, .inr (.inr (.inr (.inr f)))))) (ht : tys[t0]? = some (cA, .object C)) {i : Int32} (hin : vp_in i n) (hdg : decode cc pc = .ok (.aastore, 1))
    (kk : ∀ (H1 : Heap) (locs1 : List Loc), hp_I D cl S0 (hp_set w a (.inl (cA, n, .inr (.inr (.inr (.inr (va_up f i.toNatClampNeg none))))))) H1 → va_S (hp_A S0) H0 H1 locs1 → H1.size = H.size → W p l e R s m args below meth c H1 locs1 cells slots Q (F0 m (pc + 1) ls rest)) : W p l e R s m args below meth c H locs cells slots Q (F0 m pc ls (.null :: .int i :: .ref a :: rest)) := by
  refine va_WaastN (C := C) hexec hb (hI.1 a _ ha) ((hK.2 t0 _ ht).1 n (fun j => va_rf (f j))) (fun h => by cases h) (by show ¬ (i < 0 ∨ (arrV _ _ _).slots.size ≤ _); rw [arrV_size]; exact hin) rfl rfl hdg fun H1 e z oq => ?_
  refine kk H1 _ (hI.set ha ?_ oq) (hS.put z oq (hI.2 a _ ha)) z
  show H1[a]? = some (vp_cell _ _)
  rw [e]
  rw [vp_cell_q, vp_cell_q, arrV_store]
  congr 2
  funext q
  by_cases hq : q = i.toNatClampNeg
  · subst hq
    simp [updV, va_up, va_rf]
  · simp [updV, va_up, hq]
theorem hp_aast (hexec : p.tables.exec = Jvm.exec) (hb : c.code = cc) (hK : va_K D cl tys s) (hI : hp_I D cl S0 w H) (hS : va_S (hp_A S0) H0 H locs) (t0 ci : Nat) {E : String} {cA : ClassId} {r : vw_C} {n v : Nat} {vs : List Value} {f : Nat → Option Nat} (ha : w a = some (.inl (cA, n, .inr (.inr (.inr (.inr f)))))) (ht : tys[t0]? = some (cA, .object E)) (hca : va_Nw (.castable r.1 E) s) (hv : w v = some (.inr (ci, vs))) (hc : cl[ci]? = some r) {i : Int32} (hin : vp_in i n) (hdg : decode cc pc = .ok (.aastore, 1))
    (kk : ∀ (H1 : Heap) (locs1 : List Loc), hp_I D cl S0 (hp_set w a (.inl (cA, n, .inr (.inr (.inr (.inr (va_up f i.toNatClampNeg (some v)))))))) H1 → va_S (hp_A S0) H0 H1 locs1 → H1.size = H.size → W p l e R s m args below meth c H1 locs1 cells slots Q (F0 m (pc + 1) ls rest)) : W p l e R s m args below meth c H locs cells slots Q (F0 m pc ls (.ref v :: .int i :: .ref a :: rest)) := by
  have hlt : i.toNatClampNeg < n := Nat.not_le.mp fun q => hin (Or.inr q)
  have h0 : ¬ i < 0 := fun q => hin (Or.inl q)
  obtain ⟨r', hr', cellV, g1, g2, g3, -⟩ := hI.1 v _ hv
  have hcls := (hK.1 ci r hc).2
  obtain ⟨kA, comp, k1, k2, k3, -⟩ := (hK.2 t0 _ ht).2
  obtain ⟨kE, hkE, -⟩ := Vm.findClass_spec k3
  obtain ⟨c0, t1, f1, f2, f3⟩ := Cond.castable_spec (va_Nw.use (A := args) rfl hca)
  cases hcls.1.symm.trans f1
  cases k3.symm.trans f2
  obtain ⟨kC, hkC, -⟩ := hcls.2
  refine W.aast hexec hb (hI.1 a _ ha) (fun q h => by cases h) (fun h => by cases h) k1 k2 rfl hkE ⟨h0, by show _ < (arrV _ _ _).slots.size; rw [arrV_size]; exact hlt⟩ g1 (fun q h => by rw [g3] at h; cases h) (by rw [g2]; exact hkC) (by rw [g2]; exact f3) rfl rfl hdg fun H1 e z oq => ?_
  refine kk H1 _ (hI.set ha ?_ oq) (hS.put z oq (hI.2 a _ ha)) z
  show H1[a]? = some (vp_cell _ _)
  rw [e]
  rw [vp_cell_q, vp_cell_q, arrV_store]
  congr 2
  funext q
  by_cases hq : q = i.toNatClampNeg
  · subst hq
    simp [updV, va_up, va_rf]
  · simp [updV, va_up, hq]
/-- the store of an object of the array's own component class -/
theorem hp_aastC (hexec : p.tables.exec = Jvm.exec) (hb : c.code = cc) (hK : va_K D cl tys s) (hI : hp_I D cl S0 w H) (hS : va_S (hp_A S0) H0 H locs) (t0 ci : Nat) {cA : ClassId} {r : vw_C} {n v : Nat} {vs : List Value} {f : Nat → Option Nat} (ha : w a = some (.inl (cA, n, .inr (.inr (.inr (.inr f)))))) (ht : tys[t0]? = some (cA, .object r.1)) (hv : w v = some (.inr (ci, vs))) (hc : cl[ci]? = some r) {i : Int32} (hin : vp_in i n) (hdg : decode cc pc = .ok (.aastore, 1))
    (kk : ∀ (H1 : Heap) (locs1 : List Loc), hp_I D cl S0 (hp_set w a (.inl (cA, n, .inr (.inr (.inr (.inr (va_up f i.toNatClampNeg (some v)))))))) H1 → va_S (hp_A S0) H0 H1 locs1 → H1.size = H.size → W p l e R s m args below meth c H1 locs1 cells slots Q (F0 m (pc + 1) ls rest)) : W p l e R s m args below meth c H locs cells slots Q (F0 m pc ls (.ref v :: .int i :: .ref a :: rest)) := by
  have hlt : i.toNatClampNeg < n := Nat.not_le.mp fun q => hin (Or.inr q)
  have h0 : ¬ i < 0 := fun q => hin (Or.inl q)
  obtain ⟨r', hr', cellV, g1, g2, g3, -⟩ := hI.1 v _ hv
  have hcls := (hK.1 ci r hc).2
  obtain ⟨kA, comp, k1, k2, k3, -⟩ := (hK.2 t0 _ ht).2
  have hcomp : comp = D.1 ci := Option.some.inj (k3.symm.trans hcls.1)
  subst hcomp
  obtain ⟨kC, hkC, -⟩ := hcls.2
  refine W.aast hexec hb (hI.1 a _ ha) (fun q h => by cases h) (fun h => by cases h) k1 k2 rfl hkC ⟨h0, by show _ < (arrV _ _ _).slots.size; rw [arrV_size]; exact hlt⟩ g1 (fun q h => by rw [g3] at h; cases h) (by rw [g2]; exact hkC) (by rw [g2]; exact va_assign hcls) rfl rfl hdg fun H1 e z oq => ?_
  refine kk H1 _ (hI.set ha ?_ oq) (hS.put z oq (hI.2 a _ ha)) z
  show H1[a]? = some (vp_cell _ _)
  rw [e]
  rw [vp_cell_q, vp_cell_q, arrV_store]
  congr 2
  funext q
  by_cases hq : q = i.toNatClampNeg
  · subst hq
    simp [updV, va_up, va_rf]
  · simp [updV, va_up, hq]
theorem hp_S.push {H1 : Heap} (hS : va_S (hp_A S0) H0 H locs) (z1 : H1.size = H.size + 1) (o1 : ∀ q : Nat, q < H.size → H1[q]? = H[q]?) : va_S (hp_A S0) H0 H1 locs :=
  ⟨Nat.le_trans hS.1 (by omega), fun x h1 h2 => (o1 x (Nat.lt_of_lt_of_le h1 hS.1)).trans (hS.2.1 x h1 h2), hS.2.2⟩
theorem hp_new {c0 : Code} (hexec : p.tables.exec = Jvm.exec) (hb : c0.code = cc) {own C : String} {T : u_T} {N ci index : Nat} {Ts : List Cond} (hts : ∀ w ∈ Ts, w.before args s = true) (hin : ∀ w ∈ u_ws C T N, w ∈ Ts) (ty : Nat → FieldType) (hty : ∀ k, k < N → parseFieldDescriptor (T k).2.2.1 = some (ty k)) (hown : s.vm.findClass own = some m.cls) (hcl : (Cond.classLink own index C).before args s = true) (hinst : (Cond.instantiable C N).before args s = true) (hini : (Cond.initialized C).before args s = true)
    (hK : va_K D cl tys s) (hI : hp_I D cl S0 w H) (hS : va_S (hp_A S0) H0 H locs) (hz : S0 ≤ H0.size) (hc : cl[ci]? = some (C, T, N)) {fs : List Value} (hfs : ∀ j, j < N → defaultValue (ty j) = vp_V fs j) (hcells : cells + 1 ≤ R.cells) (hslots : slots + N ≤ R.slots) (hdg : decode cc pc = .ok (.new index, 3))
    (kk : ∀ (q : Nat) (H1 : Heap), w q = none → S0 ≤ q → q < H1.size → hp_I D cl S0 (hp_set w q (.inr (ci, fs))) H1 → va_S (hp_A S0) H0 H1 locs →
      W p l e R s m args below meth c0 H1 locs (cells + 1) (slots + N) Q (F0 m (pc + 3) ls (.ref q :: rest))) : W p l e R s m args below meth c0 H locs cells slots Q (F0 m pc ls rest) := by
  have hKn := hK.1 ci _ hc
  refine W.newcK hexec hb hown hcl hinst hini rfl hdg hcells hslots hKn.2.1 rfl fun H1 kC hkC e1 z1 o1 => ?_
  have hz2 : S0 ≤ H.size := Nat.le_trans hz hS.1
  refine kk H.size H1 (hp_new_none hI) hz2 (by omega) (hI.push hz2 ?_ o1) (hp_S.push hS z1 o1)
  exact ⟨_, hc, (u_born ty hts hin hKn hkC e1 hty).to hfs⟩
theorem hp_newa (hexec : p.tables.exec = Jvm.exec) (hb : c.code = cc) {atype : ArrayType} (harr : (Cond.arrayClass (newarray.typeOf atype)).before args s = true) {ty : FieldType} (hty : newarray.typeOf atype = ty) (hK : va_K D cl tys s) (hI : hp_I D cl S0 w H) (hS : va_S (hp_A S0) H0 H locs) (hz : S0 ≤ H0.size) (t0 : Nat) {cA : ClassId} (ht : tys[t0]? = some (cA, ty)) (hp : ∀ C, ty ≠ .object C)
    {n : Int32} {N' : Nat} {a0 : vp_A} (ha : ∀ cA : ClassId, vp_cell cA a0 = arrV cA N' (fun _ => defaultValue ty)) (hn : ¬ n < 0) (hN : n.toNatClampNeg = N') (hbytes : N' * componentBytes ty ≤ 536870912) (hcells : cells + 1 ≤ R.cells) (hslots : slots + N' ≤ R.slots) (hdg : decode cc pc = .ok (.newarray atype, 2))
    (kk : ∀ (q : Nat) (H1 : Heap), w q = none → S0 ≤ q → q < H1.size → hp_I D cl S0 (hp_set w q (.inl (cA, a0))) H1 → va_S (hp_A S0) H0 H1 locs →
      W p l e R s m args below meth c H1 locs (cells + 1) (slots + N') Q (F0 m (pc + 2) ls (.ref q :: rest))) : W p l e R s m args below meth c H locs cells slots Q (F0 m pc ls (.int n :: rest)) := by
  subst hty
  refine va_newaK hexec hb harr rfl hdg rfl hn hN hbytes hcells hslots rfl fun H1 cB e1 z1 o1 hAr hNm => ?_
  have hz2 : S0 ≤ H.size := Nat.le_trans hz hS.1
  have hcc : cB = cA := by
    have h9 := (hK.2 t0 _ ht).2
    have h8 : s.vm.findClass ("[" ++ (newarray.typeOf atype).toString) = some cA := by cases atype <;> exact h9
    exact Option.some.inj (hNm.symm.trans h8)
  subst hcc
  refine kk H.size H1 (hp_new_none hI) hz2 (by omega) (hI.push hz2 ?_ o1) (hp_S.push hS z1 o1)
  show H1[H.size]? = some (vp_cell _ _)
  rw [ha]
  exact e1
theorem hp_newq (hexec : p.tables.exec = Jvm.exec) (hb : c.code = cc) {own C : String} {index : Nat} (hown : s.vm.findClass own = some m.cls) (hclink : (Cond.classLink own index C).before args s = true) (hover : va_AO C s) (hK : va_K D cl tys s) (hI : hp_I D cl S0 w H) (hS : va_S (hp_A S0) H0 H locs) (hz : S0 ≤ H0.size) (t0 : Nat) {cA : ClassId} (ht : tys[t0]? = some (cA, .object C))
    {n : Int32} {N' : Nat} (hn : ¬ n < 0) (hN : n.toNatClampNeg = N') (hbytes : N' * 4 ≤ 536870912) (hcells : cells + 1 ≤ R.cells) (hslots : slots + N' ≤ R.slots) (hdg : decode cc pc = .ok (.anewarray index, 3))
    (kk : ∀ (q : Nat) (H1 : Heap), w q = none → S0 ≤ q → q < H1.size → hp_I D cl S0 (hp_set w q (.inl (cA, N', .inr (.inr (.inr (.inr (fun _ => none))))))) H1 → va_S (hp_A S0) H0 H1 locs →
      W p l e R s m args below meth c H1 locs (cells + 1) (slots + N') Q (F0 m (pc + 3) ls (.ref q :: rest))) : W p l e R s m args below meth c H locs cells slots Q (F0 m pc ls (.int n :: rest)) := by
  subst hN
  refine W.anew hexec hb hown hclink (va_AO.use hover) rfl hdg rfl hn hbytes hcells hslots fun cB kA comp f1 f2 f3 f4 => ?_
  generalize hH1 : H.push ({ cls := cB, slots := Array.replicate n.toNatClampNeg .null, vm := .none } : Cell) = H1
  have z1 : H1.size = H.size + 1 := by rw [← hH1, Array.size_push]
  have e1 : H1[H.size]? = some (arrV cB n.toNatClampNeg (fun _ => .null)) := by rw [← hH1, Array.getElem?_push_size, ← arrV_new]
  have o1 : ∀ q : Nat, q < H.size → H1[q]? = H[q]? := fun q hq => by rw [← hH1, Array.getElem?_push, if_neg (Nat.ne_of_lt hq)]
  have hz2 : S0 ≤ H.size := Nat.le_trans hz hS.1
  have hcc : cB = cA := by
    obtain ⟨-, -, -, -, -, h9⟩ := (hK.2 t0 _ ht).2
    exact Option.some.inj (f1.symm.trans h9)
  subst hcc
  refine kk H.size H1 (hp_new_none hI) hz2 (by omega) (hI.push hz2 ?_ o1) (hp_S.push hS z1 o1)
  show H1[H.size]? = some (vp_cell _ _)
  rw [vp_cell_q]
  exact e1
end HPR
end
section
/-! names, by program (wip/whole/tools/mknames.py) out of the Statement: words by their places, classes, fields -/
def gw : List Cond := lw_tbl.filter goodWord
theorem gw_of {w : Cond} (h : w ∈ lw_tbl) (g : goodWord w = true) : w ∈ gw := List.mem_filter.mpr ⟨h, g⟩
theorem gw_i {w : Cond} (i : Nat) (h : lw_tbl[i]? = some w) (g : goodWord w = true) : w ∈ gw := gw_of (List.mem_of_getElem? h) g
theorem gw_r {L : List Cond} (ps : List Nat) (h : L = ps.filterMap (fun i => lw_tbl[i]?)) (g : L.all goodWord = true) : ∀ w ∈ L, w ∈ gw := by
  intro w hw
  have h1 := List.all_eq_true.mp g w hw
  rw [h] at hw
  obtain ⟨i, -, hi⟩ := List.mem_filterMap.mp hw
  exact gw_i i hi h1
theorem gw_good (c : Cond) : GoodIn (c :: gw) gw := fun w h => ⟨List.mem_cons_of_mem _ h, good_of_word (List.mem_filter.mp h).2⟩
theorem gw_code {c c0 : Cond} (h : c ∈ gw) : GoodIn (c0 :: gw) (c :: gw) := fun w hw => (List.mem_cons.mp hw).elim (fun e => by rw [e]; exact gw_good c0 c h) (gw_good c0 w)
theorem gw_V {own : String} {idx : Nat} {C : String} {y : MethodName} {c c0 : Cond} (h1 : Cond.methodLink own idx y ∈ gw) (h2 : Cond.instanceMethod y ∈ gw) (h3 : Cond.selects C y y ∈ gw) (h4 : Cond.initialized C ∈ gw) (h5 : c ∈ gw) : GoodIn (c0 :: gw) (wsV own idx C y (c :: gw)) := by
  intro w hw
  unfold wsV at hw
  rcases List.mem_append.mp hw with hw | hw
  · simp only [List.mem_cons, List.not_mem_nil, or_false] at hw
    rcases hw with rfl | rfl | rfl | rfl
    · exact gw_good c0 _ h1
    · exact gw_good c0 _ h2
    · exact gw_good c0 _ h3
    · exact gw_good c0 _ h4
  · exact gw_code h5 w hw
theorem gw_S {own : String} {idx : Nat} {y : MethodName} {c c0 : Cond} (h1 : Cond.methodLink own idx y ∈ gw) (h2 : Cond.static y ∈ gw) (h4 : Cond.initialized own ∈ gw) (h5 : c ∈ gw) : GoodIn (c0 :: gw) (wsS own idx y (c :: gw)) := by
  intro w hw
  unfold wsS at hw
  rcases List.mem_append.mp hw with hw | hw
  · simp only [List.mem_cons, List.not_mem_nil, or_false] at hw
    rcases hw with rfl | rfl | rfl
    · exact gw_good c0 _ h1
    · exact gw_good c0 _ h2
    · exact gw_good c0 _ h4
  · exact gw_code h5 w hw
theorem k_0 : Cond.selects "SceneEasel" ⟨"SceneEasel", "nodesThere", "()I"⟩ ⟨"SceneEasel", "nodesThere", "()I"⟩ ∈ gw := gw_i 0 (by decide +kernel) (by decide +kernel)
theorem k_1 : Cond.selects "SceneEasel" ⟨"SceneEasel", "framesThere", "()I"⟩ ⟨"SceneEasel", "framesThere", "()I"⟩ ∈ gw := gw_i 1 (by decide +kernel) (by decide +kernel)
theorem k_2 : Cond.selects "SceneEasel$Node" ⟨"SceneEasel$Node", "frames", "()I"⟩ ⟨"SceneEasel$Node", "frames", "()I"⟩ ∈ gw := gw_i 2 (by decide +kernel) (by decide +kernel)
theorem k_3 : Cond.selects "SceneEasel" ⟨"SceneEasel", "deepestIn", "(LSceneEasel$Node;)I"⟩ ⟨"SceneEasel", "deepestIn", "(LSceneEasel$Node;)I"⟩ ∈ gw := gw_i 3 (by decide +kernel) (by decide +kernel)
theorem k_4 : Cond.selects "SceneEasel$Node" ⟨"SceneEasel$Node", "isIn", "(LSceneEasel$Node;)Z"⟩ ⟨"SceneEasel$Node", "isIn", "(LSceneEasel$Node;)Z"⟩ ∈ gw := gw_i 4 (by decide +kernel) (by decide +kernel)
theorem k_5 : Cond.selects "SceneEasel$Node" ⟨"SceneEasel$Node", "depth", "()I"⟩ ⟨"SceneEasel$Node", "depth", "()I"⟩ ∈ gw := gw_i 5 (by decide +kernel) (by decide +kernel)
theorem k_6 : Cond.selects "SceneEasel" ⟨"SceneEasel", "requireGroup", "(I)LSceneEasel$Node;"⟩ ⟨"SceneEasel", "requireGroup", "(I)LSceneEasel$Node;"⟩ ∈ gw := gw_i 6 (by decide +kernel) (by decide +kernel)
theorem k_7 : Cond.selects "SceneEasel" ⟨"SceneEasel", "requireNode", "(I)LSceneEasel$Node;"⟩ ⟨"SceneEasel", "requireNode", "(I)LSceneEasel$Node;"⟩ ∈ gw := gw_i 7 (by decide +kernel) (by decide +kernel)
theorem k_8 : Cond.selects "java/lang/Throwable" ⟨"java/lang/Throwable", "fillInStackTrace", "(I)Ljava/lang/Throwable;"⟩ ⟨"java/lang/Throwable", "fillInStackTrace", "(I)Ljava/lang/Throwable;"⟩ ∈ gw := gw_i 8 (by decide +kernel) (by decide +kernel)
theorem k_9 : Cond.selects "SceneEasel" ⟨"SceneEasel", "leastFreeNumber", "()I"⟩ ⟨"SceneEasel", "leastFreeNumber", "()I"⟩ ∈ gw := gw_i 9 (by decide +kernel) (by decide +kernel)
theorem k_10 : Cond.selects "SceneEasel$Node" ⟨"SceneEasel$Node", "hangInto", "(LSceneEasel$Node;)V"⟩ ⟨"SceneEasel$Node", "hangInto", "(LSceneEasel$Node;)V"⟩ ∈ gw := gw_i 10 (by decide +kernel) (by decide +kernel)
theorem k_11 : Cond.selects "java/util/ArrayList" ⟨"java/util/ArrayList", "add", "(Ljava/lang/Object;[Ljava/lang/Object;I)V"⟩ ⟨"java/util/ArrayList", "add", "(Ljava/lang/Object;[Ljava/lang/Object;I)V"⟩ ∈ gw := gw_i 11 (by decide +kernel) (by decide +kernel)
theorem k_12 : Cond.selects "java/util/ArrayList" ⟨"java/util/ArrayList", "grow", "()[Ljava/lang/Object;"⟩ ⟨"java/util/ArrayList", "grow", "()[Ljava/lang/Object;"⟩ ∈ gw := gw_i 12 (by decide +kernel) (by decide +kernel)
theorem k_13 : Cond.selects "java/util/ArrayList" ⟨"java/util/ArrayList", "grow", "(I)[Ljava/lang/Object;"⟩ ⟨"java/util/ArrayList", "grow", "(I)[Ljava/lang/Object;"⟩ ∈ gw := gw_i 13 (by decide +kernel) (by decide +kernel)
theorem k_14 : Cond.selects "SceneEasel" ⟨"SceneEasel", "requireShape", "(I)LSceneEasel$Node;"⟩ ⟨"SceneEasel", "requireShape", "(I)LSceneEasel$Node;"⟩ ∈ gw := gw_i 14 (by decide +kernel) (by decide +kernel)
theorem k_15 : Cond.selects "SceneEasel" ⟨"SceneEasel", "requireInner", "(I)LSceneEasel$Node;"⟩ ⟨"SceneEasel", "requireInner", "(I)LSceneEasel$Node;"⟩ ∈ gw := gw_i 15 (by decide +kernel) (by decide +kernel)
theorem k_16 : Cond.selects "SceneEasel$Track" ⟨"SceneEasel$Track", "put", "(DD)Z"⟩ ⟨"SceneEasel$Track", "put", "(DD)Z"⟩ ∈ gw := gw_i 16 (by decide +kernel) (by decide +kernel)
theorem k_17 : Cond.selects "SceneEasel$Track" ⟨"SceneEasel$Track", "makeRoom", "(I)V"⟩ ⟨"SceneEasel$Track", "makeRoom", "(I)V"⟩ ∈ gw := gw_i 17 (by decide +kernel) (by decide +kernel)
theorem k_18 : Cond.selects "SceneEasel" ⟨"SceneEasel", "levelsOf", "(LSceneEasel$Node;)I"⟩ ⟨"SceneEasel", "levelsOf", "(LSceneEasel$Node;)I"⟩ ∈ gw := gw_i 18 (by decide +kernel) (by decide +kernel)
theorem k_19 : Cond.selects "SceneEasel$Node" ⟨"SceneEasel$Node", "unhang", "()V"⟩ ⟨"SceneEasel$Node", "unhang", "()V"⟩ ∈ gw := gw_i 19 (by decide +kernel) (by decide +kernel)
theorem k_20 : Cond.selects "SceneEasel$Node" ⟨"SceneEasel$Node", "rank", "()I"⟩ ⟨"SceneEasel$Node", "rank", "()I"⟩ ∈ gw := gw_i 20 (by decide +kernel) (by decide +kernel)
theorem k_21 : Cond.selects "java/util/ArrayList" ⟨"java/util/ArrayList", "fastRemove", "([Ljava/lang/Object;I)V"⟩ ⟨"java/util/ArrayList", "fastRemove", "([Ljava/lang/Object;I)V"⟩ ∈ gw := gw_i 21 (by decide +kernel) (by decide +kernel)
theorem k_22 : Cond.selects "SceneEasel" ⟨"SceneEasel", "settle", "(D)V"⟩ ⟨"SceneEasel", "settle", "(D)V"⟩ ∈ gw := gw_i 22 (by decide +kernel) (by decide +kernel)
theorem k_23 : Cond.selects "SceneEasel$Node" ⟨"SceneEasel$Node", "settleAt", "(D)V"⟩ ⟨"SceneEasel$Node", "settleAt", "(D)V"⟩ ∈ gw := gw_i 23 (by decide +kernel) (by decide +kernel)
theorem k_24 : Cond.selects "SceneEasel$Track" ⟨"SceneEasel$Track", "gliding", "(DD)D"⟩ ⟨"SceneEasel$Track", "gliding", "(DD)D"⟩ ∈ gw := gw_i 24 (by decide +kernel) (by decide +kernel)
theorem k_25 : Cond.selects "SceneEasel$Track" ⟨"SceneEasel$Track", "frameFor", "(D)I"⟩ ⟨"SceneEasel$Track", "frameFor", "(D)I"⟩ ∈ gw := gw_i 25 (by decide +kernel) (by decide +kernel)
theorem k_26 : Cond.selects "SceneEasel$Track" ⟨"SceneEasel$Track", "jumping", "(DD)D"⟩ ⟨"SceneEasel$Track", "jumping", "(DD)D"⟩ ∈ gw := gw_i 26 (by decide +kernel) (by decide +kernel)
theorem k_27 : Cond.selects "SceneEasel$Node" ⟨"SceneEasel$Node", "topInside", "(DD)LSceneEasel$Node;"⟩ ⟨"SceneEasel$Node", "topInside", "(DD)LSceneEasel$Node;"⟩ ∈ gw := gw_i 27 (by decide +kernel) (by decide +kernel)
theorem k_28 : Cond.selects "SceneEasel$Node" ⟨"SceneEasel$Node", "inTile", "(D)D"⟩ ⟨"SceneEasel$Node", "inTile", "(D)D"⟩ ∈ gw := gw_i 28 (by decide +kernel) (by decide +kernel)
theorem k_29 : Cond.selects "SceneEasel$Node" ⟨"SceneEasel$Node", "firstHas", "(DD)Z"⟩ ⟨"SceneEasel$Node", "firstHas", "(DD)Z"⟩ ∈ gw := gw_i 29 (by decide +kernel) (by decide +kernel)
theorem k_30 : Cond.selects "SceneEasel$Node" ⟨"SceneEasel$Node", "topAt", "(DD)LSceneEasel$Node;"⟩ ⟨"SceneEasel$Node", "topAt", "(DD)LSceneEasel$Node;"⟩ ∈ gw := gw_i 30 (by decide +kernel) (by decide +kernel)
theorem k_31 : Cond.selects "SceneEasel$Node" ⟨"SceneEasel$Node", "covers", "(DD)Z"⟩ ⟨"SceneEasel$Node", "covers", "(DD)Z"⟩ ∈ gw := gw_i 31 (by decide +kernel) (by decide +kernel)
theorem k_32 : Cond.selects "SceneEasel$Node" ⟨"SceneEasel$Node", "measureInside", "()V"⟩ ⟨"SceneEasel$Node", "measureInside", "()V"⟩ ∈ gw := gw_i 32 (by decide +kernel) (by decide +kernel)
theorem k_33 : Cond.selects "SceneEasel$Extent" ⟨"SceneEasel$Extent", "clear", "()V"⟩ ⟨"SceneEasel$Extent", "clear", "()V"⟩ ∈ gw := gw_i 33 (by decide +kernel) (by decide +kernel)
theorem k_34 : Cond.selects "SceneEasel$Node" ⟨"SceneEasel$Node", "measure", "()V"⟩ ⟨"SceneEasel$Node", "measure", "()V"⟩ ∈ gw := gw_i 34 (by decide +kernel) (by decide +kernel)
theorem k_35 : Cond.selects "SceneEasel$Extent" ⟨"SceneEasel$Extent", "span", "(DDDD)V"⟩ ⟨"SceneEasel$Extent", "span", "(DDDD)V"⟩ ∈ gw := gw_i 35 (by decide +kernel) (by decide +kernel)
theorem k_36 : Cond.selects "SceneEasel$Node" ⟨"SceneEasel$Node", "layOutExtent", "()V"⟩ ⟨"SceneEasel$Node", "layOutExtent", "()V"⟩ ∈ gw := gw_i 36 (by decide +kernel) (by decide +kernel)
theorem k_37 : Cond.selects "SceneEasel$Extent" ⟨"SceneEasel$Extent", "scale", "(D)V"⟩ ⟨"SceneEasel$Extent", "scale", "(D)V"⟩ ∈ gw := gw_i 37 (by decide +kernel) (by decide +kernel)
theorem k_38 : Cond.selects "SceneEasel$Extent" ⟨"SceneEasel$Extent", "turnOnce", "()V"⟩ ⟨"SceneEasel$Extent", "turnOnce", "()V"⟩ ∈ gw := gw_i 38 (by decide +kernel) (by decide +kernel)
theorem k_39 : Cond.selects "SceneEasel$Extent" ⟨"SceneEasel$Extent", "shift", "(DD)V"⟩ ⟨"SceneEasel$Extent", "shift", "(DD)V"⟩ ∈ gw := gw_i 39 (by decide +kernel) (by decide +kernel)
theorem k_40 : Cond.selects "SceneEasel$Extent" ⟨"SceneEasel$Extent", "join", "(LSceneEasel$Extent;)V"⟩ ⟨"SceneEasel$Extent", "join", "(LSceneEasel$Extent;)V"⟩ ∈ gw := gw_i 40 (by decide +kernel) (by decide +kernel)
theorem k_41 : Cond.selects "SceneEasel$Extent" ⟨"SceneEasel$Extent", "side", "(I)D"⟩ ⟨"SceneEasel$Extent", "side", "(I)D"⟩ ∈ gw := gw_i 41 (by decide +kernel) (by decide +kernel)
theorem k_42 : Cond.selects "SceneEaselModel" ⟨"SceneEaselModel", "sortNodes", "()V"⟩ ⟨"SceneEaselModel", "sortNodes", "()V"⟩ ∈ gw := gw_i 42 (by decide +kernel) (by decide +kernel)
theorem k_43 : Cond.selects "SceneEaselModel" ⟨"SceneEaselModel", "isGroup", "(I)Z"⟩ ⟨"SceneEaselModel", "isGroup", "(I)Z"⟩ ∈ gw := gw_i 43 (by decide +kernel) (by decide +kernel)
theorem k_44 : Cond.selects "SceneEaselModel" ⟨"SceneEaselModel", "is", "(I)Z"⟩ ⟨"SceneEaselModel", "is", "(I)Z"⟩ ∈ gw := gw_i 44 (by decide +kernel) (by decide +kernel)
theorem k_45 : Cond.selects "SceneEaselModel" ⟨"SceneEaselModel", "bad", "(Z)Z"⟩ ⟨"SceneEaselModel", "bad", "(Z)Z"⟩ ∈ gw := gw_i 45 (by decide +kernel) (by decide +kernel)
theorem k_46 : Cond.selects "SceneEaselModel" ⟨"SceneEaselModel", "enter", "(II)V"⟩ ⟨"SceneEaselModel", "enter", "(II)V"⟩ ∈ gw := gw_i 46 (by decide +kernel) (by decide +kernel)
theorem k_47 : Cond.selects "SceneEaselModel" ⟨"SceneEaselModel", "isOther", "(I)Z"⟩ ⟨"SceneEaselModel", "isOther", "(I)Z"⟩ ∈ gw := gw_i 47 (by decide +kernel) (by decide +kernel)
theorem k_48 : Cond.selects "SceneEaselModel" ⟨"SceneEaselModel", "within", "(II)Z"⟩ ⟨"SceneEaselModel", "within", "(II)Z"⟩ ∈ gw := gw_i 48 (by decide +kernel) (by decide +kernel)
theorem k_49 : Cond.selects "SceneEaselModel" ⟨"SceneEaselModel", "height", "(I)I"⟩ ⟨"SceneEaselModel", "height", "(I)I"⟩ ∈ gw := gw_i 49 (by decide +kernel) (by decide +kernel)
theorem k_50 : Cond.selects "SceneEaselModel" ⟨"SceneEaselModel", "leave", "(I)V"⟩ ⟨"SceneEaselModel", "leave", "(I)V"⟩ ∈ gw := gw_i 50 (by decide +kernel) (by decide +kernel)
theorem k_51 : Cond.selects "SceneEaselModel" ⟨"SceneEaselModel", "placeOf", "(I)I"⟩ ⟨"SceneEaselModel", "placeOf", "(I)I"⟩ ∈ gw := gw_i 51 (by decide +kernel) (by decide +kernel)
theorem k_52 : Cond.selects "SceneEaselModel" ⟨"SceneEaselModel", "look", "(DDD)V"⟩ ⟨"SceneEaselModel", "look", "(DDD)V"⟩ ∈ gw := gw_i 52 (by decide +kernel) (by decide +kernel)
theorem k_53 : Cond.selects "SceneEaselModel" ⟨"SceneEaselModel", "at", "(IID)D"⟩ ⟨"SceneEaselModel", "at", "(IID)D"⟩ ∈ gw := gw_i 53 (by decide +kernel) (by decide +kernel)
theorem k_54 : Cond.selects "SceneEaselModel" ⟨"SceneEaselModel", "find", "(I)V"⟩ ⟨"SceneEaselModel", "find", "(I)V"⟩ ∈ gw := gw_i 54 (by decide +kernel) (by decide +kernel)
theorem k_55 : Cond.selects "SceneEaselModel" ⟨"SceneEaselModel", "box", "(ID)V"⟩ ⟨"SceneEaselModel", "box", "(ID)V"⟩ ∈ gw := gw_i 55 (by decide +kernel) (by decide +kernel)
theorem k_56 : Cond.selects "SceneEaselModel" ⟨"SceneEaselModel", "layOut", "(IDDD)V"⟩ ⟨"SceneEaselModel", "layOut", "(IDDD)V"⟩ ∈ gw := gw_i 56 (by decide +kernel) (by decide +kernel)
theorem k_57 : Cond.selects "SceneEaselModel" ⟨"SceneEaselModel", "widen", "(ID)V"⟩ ⟨"SceneEaselModel", "widen", "(ID)V"⟩ ∈ gw := gw_i 57 (by decide +kernel) (by decide +kernel)
theorem k_58 : Cond.selects "SceneEaselModel" ⟨"SceneEaselModel", "keysOf", "(I)I"⟩ ⟨"SceneEaselModel", "keysOf", "(I)I"⟩ ∈ gw := gw_i 58 (by decide +kernel) (by decide +kernel)
theorem k_59 : Cond.initialized "SceneEaselLaw" ∈ gw := gw_i 59 (by decide +kernel) (by decide +kernel)
theorem k_60 : Cond.initialized "SceneEasel" ∈ gw := gw_i 60 (by decide +kernel) (by decide +kernel)
theorem k_61 : Cond.initialized "SceneEasel$Node" ∈ gw := gw_i 61 (by decide +kernel) (by decide +kernel)
theorem k_62 : Cond.initialized "java/util/AbstractCollection" ∈ gw := gw_i 62 (by decide +kernel) (by decide +kernel)
theorem k_63 : Cond.initialized "java/util/AbstractList" ∈ gw := gw_i 63 (by decide +kernel) (by decide +kernel)
theorem k_64 : Cond.initialized "java/util/ArrayList" ∈ gw := gw_i 64 (by decide +kernel) (by decide +kernel)
theorem k_65 : Cond.initialized "SceneEasel$Extent" ∈ gw := gw_i 65 (by decide +kernel) (by decide +kernel)
theorem k_66 : Cond.initialized "SceneEasel$Track" ∈ gw := gw_i 66 (by decide +kernel) (by decide +kernel)
theorem k_67 : Cond.initialized "SceneEaselModel" ∈ gw := gw_i 67 (by decide +kernel) (by decide +kernel)
theorem k_68 : Cond.initialized "java/lang/Throwable" ∈ gw := gw_i 68 (by decide +kernel) (by decide +kernel)
theorem k_69 : Cond.initialized "java/lang/Exception" ∈ gw := gw_i 69 (by decide +kernel) (by decide +kernel)
theorem k_70 : Cond.initialized "java/lang/RuntimeException" ∈ gw := gw_i 70 (by decide +kernel) (by decide +kernel)
theorem k_71 : Cond.initialized "java/lang/IllegalArgumentException" ∈ gw := gw_i 71 (by decide +kernel) (by decide +kernel)
theorem k_72 : Cond.initialized "java/lang/IllegalStateException" ∈ gw := gw_i 72 (by decide +kernel) (by decide +kernel)
theorem k_73 : Cond.initialized "jdk/internal/util/ArraysSupport" ∈ gw := gw_i 73 (by decide +kernel) (by decide +kernel)
theorem k_74 : Cond.initialized "java/lang/Math" ∈ gw := gw_i 74 (by decide +kernel) (by decide +kernel)
theorem k_75 : Cond.initialized "java/util/Arrays" ∈ gw := gw_i 75 (by decide +kernel) (by decide +kernel)
theorem k_76 : Cond.initialized "java/lang/System" ∈ gw := gw_i 76 (by decide +kernel) (by decide +kernel)
theorem k_77 : Cond.initialized "java/util/NoSuchElementException" ∈ gw := gw_i 77 (by decide +kernel) (by decide +kernel)
theorem k_78 : Cond.initialized "java/util/Objects" ∈ gw := gw_i 78 (by decide +kernel) (by decide +kernel)
theorem k_79 : Cond.initialized "jdk/internal/util/Preconditions" ∈ gw := gw_i 79 (by decide +kernel) (by decide +kernel)
theorem k_80 : Cond.classLink "SceneEaselLaw" 8 "SceneEasel" ∈ gw := gw_i 80 (by decide +kernel) (by decide +kernel)
theorem k_81 : Cond.instantiable "SceneEasel" 4 ∈ gw := gw_i 81 (by decide +kernel) (by decide +kernel)
theorem k_82 : Cond.methodLink "SceneEaselLaw" 72 ⟨"SceneEasel", "<init>", "()V"⟩ ∈ gw := gw_i 82 (by decide +kernel) (by decide +kernel)
theorem k_83 : Cond.instanceMethod ⟨"SceneEasel", "<init>", "()V"⟩ ∈ gw := gw_i 83 (by decide +kernel) (by decide +kernel)
theorem k_84 : Cond.code ⟨"SceneEasel", "<init>", "()V"⟩ prog_1_method_1_code 1 (Option.none : Option FieldType) ∈ gw := gw_i 84 (by decide +kernel) (by decide +kernel)
theorem k_85 : Cond.methodLink "SceneEasel" 1 ⟨"java/lang/Object", "<init>", "()V"⟩ ∈ gw := gw_i 85 (by decide +kernel) (by decide +kernel)
theorem k_86 : Cond.instanceMethod ⟨"java/lang/Object", "<init>", "()V"⟩ ∈ gw := gw_i 86 (by decide +kernel) (by decide +kernel)
theorem k_87 : Cond.code ⟨"java/lang/Object", "<init>", "()V"⟩ object_method_1_code 1 (Option.none : Option FieldType) ∈ gw := gw_i 87 (by decide +kernel) (by decide +kernel)
theorem k_88 : Cond.classLink "SceneEasel" 9 "SceneEasel$Node" ∈ gw := gw_i 88 (by decide +kernel) (by decide +kernel)
theorem k_90 : Cond.instantiable "SceneEasel$Node" 20 ∈ gw := gw_i 90 (by decide +kernel) (by decide +kernel)
theorem k_92 : Cond.instanceMethod ⟨"SceneEasel$Node", "<init>", "(III)V"⟩ ∈ gw := gw_i 92 (by decide +kernel) (by decide +kernel)
theorem k_93 : Cond.code ⟨"SceneEasel$Node", "<init>", "(III)V"⟩ prog_3_method_1_code 5 (Option.none : Option FieldType) ∈ gw := gw_i 93 (by decide +kernel) (by decide +kernel)
theorem k_94 : Cond.methodLink "SceneEasel$Node" 3 ⟨"java/lang/Object", "<init>", "()V"⟩ ∈ gw := gw_i 94 (by decide +kernel) (by decide +kernel)
theorem k_95 : Cond.classLink "SceneEasel$Node" 9 "java/util/ArrayList" ∈ gw := gw_i 95 (by decide +kernel) (by decide +kernel)
theorem k_96 : Cond.instantiable "java/util/ArrayList" 3 ∈ gw := gw_i 96 (by decide +kernel) (by decide +kernel)
theorem k_97 : Cond.methodLink "SceneEasel$Node" 11 ⟨"java/util/ArrayList", "<init>", "()V"⟩ ∈ gw := gw_i 97 (by decide +kernel) (by decide +kernel)
theorem k_98 : Cond.instanceMethod ⟨"java/util/ArrayList", "<init>", "()V"⟩ ∈ gw := gw_i 98 (by decide +kernel) (by decide +kernel)
theorem k_99 : Cond.code ⟨"java/util/ArrayList", "<init>", "()V"⟩ prog_20_method_2_code 1 (Option.none : Option FieldType) ∈ gw := gw_i 99 (by decide +kernel) (by decide +kernel)
theorem k_100 : Cond.methodLink "java/util/ArrayList" 1 ⟨"java/util/AbstractList", "<init>", "()V"⟩ ∈ gw := gw_i 100 (by decide +kernel) (by decide +kernel)
theorem k_101 : Cond.instanceMethod ⟨"java/util/AbstractList", "<init>", "()V"⟩ ∈ gw := gw_i 101 (by decide +kernel) (by decide +kernel)
theorem k_102 : Cond.code ⟨"java/util/AbstractList", "<init>", "()V"⟩ prog_19_method_1_code 1 (Option.none : Option FieldType) ∈ gw := gw_i 102 (by decide +kernel) (by decide +kernel)
theorem k_103 : Cond.methodLink "java/util/AbstractList" 1 ⟨"java/util/AbstractCollection", "<init>", "()V"⟩ ∈ gw := gw_i 103 (by decide +kernel) (by decide +kernel)
theorem k_104 : Cond.instanceMethod ⟨"java/util/AbstractCollection", "<init>", "()V"⟩ ∈ gw := gw_i 104 (by decide +kernel) (by decide +kernel)
theorem k_105 : Cond.code ⟨"java/util/AbstractCollection", "<init>", "()V"⟩ prog_18_method_1_code 1 (Option.none : Option FieldType) ∈ gw := gw_i 105 (by decide +kernel) (by decide +kernel)
theorem k_106 : Cond.methodLink "java/util/AbstractCollection" 1 ⟨"java/lang/Object", "<init>", "()V"⟩ ∈ gw := gw_i 106 (by decide +kernel) (by decide +kernel)
theorem k_107 : Cond.fieldLink "java/util/ArrayList" 39 "java/util/ArrayList" "DEFAULTCAPACITY_EMPTY_ELEMENTDATA" "[Ljava/lang/Object;" ∈ gw := gw_i 107 (by decide +kernel) (by decide +kernel)
theorem k_109 : Cond.fieldLink "java/util/ArrayList" 9 "java/util/ArrayList" "elementData" "[Ljava/lang/Object;" ∈ gw := gw_i 109 (by decide +kernel) (by decide +kernel)
theorem k_110 : Cond.fieldLink "java/util/ArrayList" 48 "java/util/ArrayList" "size" "I" ∈ gw := gw_i 110 (by decide +kernel) (by decide +kernel)
theorem k_111 : Cond.fieldLink "java/util/AbstractList" 7 "java/util/AbstractList" "modCount" "I" ∈ gw := gw_i 111 (by decide +kernel) (by decide +kernel)
theorem k_112 : Cond.fieldLink "java/util/ArrayList" 63 "java/util/ArrayList" "modCount" "I" ∈ gw := gw_i 112 (by decide +kernel) (by decide +kernel)
theorem k_121 : Cond.arrayClass FieldType.int ∈ gw := gw_i 121 (by decide +kernel) (by decide +kernel)
theorem k_122 : Cond.classLink "SceneEasel$Node" 18 "SceneEasel$Track" ∈ gw := gw_i 122 (by decide +kernel) (by decide +kernel)
theorem k_124 : Cond.classLink "SceneEasel$Node" 24 "SceneEasel$Extent" ∈ gw := gw_i 124 (by decide +kernel) (by decide +kernel)
theorem k_125 : Cond.instantiable "SceneEasel$Extent" 5 ∈ gw := gw_i 125 (by decide +kernel) (by decide +kernel)
theorem k_127 : Cond.instanceMethod ⟨"SceneEasel$Extent", "<init>", "()V"⟩ ∈ gw := gw_i 127 (by decide +kernel) (by decide +kernel)
theorem k_128 : Cond.code ⟨"SceneEasel$Extent", "<init>", "()V"⟩ prog_2_method_1_code 1 (Option.none : Option FieldType) ∈ gw := gw_i 128 (by decide +kernel) (by decide +kernel)
theorem k_129 : Cond.methodLink "SceneEasel$Extent" 1 ⟨"java/lang/Object", "<init>", "()V"⟩ ∈ gw := gw_i 129 (by decide +kernel) (by decide +kernel)
theorem k_130 : Cond.fieldLink "SceneEasel$Extent" 7 "SceneEasel$Extent" "empty" "Z" ∈ gw := gw_i 130 (by decide +kernel) (by decide +kernel)
theorem k_133 : Cond.fieldLink "SceneEasel$Extent" 13 "SceneEasel$Extent" "leastA" "D" ∈ gw := gw_i 133 (by decide +kernel) (by decide +kernel)
theorem k_134 : Cond.fieldLink "SceneEasel$Extent" 17 "SceneEasel$Extent" "leastB" "D" ∈ gw := gw_i 134 (by decide +kernel) (by decide +kernel)
theorem k_135 : Cond.fieldLink "SceneEasel$Extent" 20 "SceneEasel$Extent" "greatestA" "D" ∈ gw := gw_i 135 (by decide +kernel) (by decide +kernel)
theorem k_136 : Cond.fieldLink "SceneEasel$Extent" 23 "SceneEasel$Extent" "greatestB" "D" ∈ gw := gw_i 136 (by decide +kernel) (by decide +kernel)
theorem k_148 : Cond.instantiable "SceneEasel$Track" 3 ∈ gw := gw_i 148 (by decide +kernel) (by decide +kernel)
theorem k_150 : Cond.instanceMethod ⟨"SceneEasel$Track", "<init>", "()V"⟩ ∈ gw := gw_i 150 (by decide +kernel) (by decide +kernel)
theorem k_151 : Cond.code ⟨"SceneEasel$Track", "<init>", "()V"⟩ prog_4_method_1_code 1 (Option.none : Option FieldType) ∈ gw := gw_i 151 (by decide +kernel) (by decide +kernel)
theorem k_152 : Cond.methodLink "SceneEasel$Track" 3 ⟨"java/lang/Object", "<init>", "()V"⟩ ∈ gw := gw_i 152 (by decide +kernel) (by decide +kernel)
theorem k_153 : Cond.fieldLink "SceneEasel$Track" 9 "SceneEasel$Track" "times" "[D" ∈ gw := gw_i 153 (by decide +kernel) (by decide +kernel)
theorem k_154 : Cond.fieldLink "SceneEasel$Track" 15 "SceneEasel$Track" "values" "[D" ∈ gw := gw_i 154 (by decide +kernel) (by decide +kernel)
theorem k_155 : Cond.fieldLink "SceneEasel$Track" 18 "SceneEasel$Track" "size" "I" ∈ gw := gw_i 155 (by decide +kernel) (by decide +kernel)
theorem k_165 : Cond.arrayClass FieldType.double ∈ gw := gw_i 165 (by decide +kernel) (by decide +kernel)
theorem k_166 : Cond.fieldLink "SceneEasel$Node" 41 "SceneEasel$Node" "number" "I" ∈ gw := gw_i 166 (by decide +kernel) (by decide +kernel)
theorem k_168 : Cond.fieldLink "SceneEasel$Node" 45 "SceneEasel$Node" "kind" "I" ∈ gw := gw_i 168 (by decide +kernel) (by decide +kernel)
theorem k_170 : Cond.fieldLink "SceneEasel$Node" 48 "SceneEasel$Node" "colour" "I" ∈ gw := gw_i 170 (by decide +kernel) (by decide +kernel)
theorem k_171 : Cond.fieldLink "SceneEasel$Node" 12 "SceneEasel$Node" "children" "Ljava/util/ArrayList;" ∈ gw := gw_i 171 (by decide +kernel) (by decide +kernel)
theorem k_173 : Cond.fieldLink "SceneEasel$Node" 20 "SceneEasel$Node" "tracks" "[LSceneEasel$Track;" ∈ gw := gw_i 173 (by decide +kernel) (by decide +kernel)
theorem k_175 : Cond.fieldLink "SceneEasel$Node" 27 "SceneEasel$Node" "extent" "LSceneEasel$Extent;" ∈ gw := gw_i 175 (by decide +kernel) (by decide +kernel)
theorem k_177 : Cond.fieldLink "SceneEasel$Node" 52 "SceneEasel$Node" "parent" "LSceneEasel$Node;" ∈ gw := gw_i 177 (by decide +kernel) (by decide +kernel)
theorem k_180 : Cond.fieldLink "SceneEasel$Node" 104 "SceneEasel$Node" "hidden" "Z" ∈ gw := gw_i 180 (by decide +kernel) (by decide +kernel)
theorem k_181 : Cond.fieldLink "SceneEasel$Node" 31 "SceneEasel$Node" "p" "D" ∈ gw := gw_i 181 (by decide +kernel) (by decide +kernel)
theorem k_183 : Cond.fieldLink "SceneEasel$Node" 35 "SceneEasel$Node" "q" "D" ∈ gw := gw_i 183 (by decide +kernel) (by decide +kernel)
theorem k_186 : Cond.fieldLink "SceneEasel$Node" 76 "SceneEasel$Node" "x" "D" ∈ gw := gw_i 186 (by decide +kernel) (by decide +kernel)
theorem k_188 : Cond.fieldLink "SceneEasel$Node" 86 "SceneEasel$Node" "y" "D" ∈ gw := gw_i 188 (by decide +kernel) (by decide +kernel)
theorem k_190 : Cond.fieldLink "SceneEasel$Node" 108 "SceneEasel$Node" "turn" "I" ∈ gw := gw_i 190 (by decide +kernel) (by decide +kernel)
theorem k_192 : Cond.fieldLink "SceneEasel$Node" 92 "SceneEasel$Node" "stretch" "I" ∈ gw := gw_i 192 (by decide +kernel) (by decide +kernel)
theorem k_194 : Cond.fieldLink "SceneEasel$Node" 123 "SceneEasel$Node" "mode" "I" ∈ gw := gw_i 194 (by decide +kernel) (by decide +kernel)
theorem k_195 : Cond.fieldLink "SceneEasel$Node" 38 "SceneEasel$Node" "step" "D" ∈ gw := gw_i 195 (by decide +kernel) (by decide +kernel)
theorem k_197 : Cond.fieldLink "SceneEasel$Node" 83 "SceneEasel$Node" "nowX" "D" ∈ gw := gw_i 197 (by decide +kernel) (by decide +kernel)
theorem k_198 : Cond.fieldLink "SceneEasel$Node" 89 "SceneEasel$Node" "nowY" "D" ∈ gw := gw_i 198 (by decide +kernel) (by decide +kernel)
theorem k_199 : Cond.fieldLink "SceneEasel$Node" 98 "SceneEasel$Node" "nowStretch" "I" ∈ gw := gw_i 199 (by decide +kernel) (by decide +kernel)
theorem k_200 : Cond.fieldLink "SceneEasel$Node" 101 "SceneEasel$Node" "nowColour" "I" ∈ gw := gw_i 200 (by decide +kernel) (by decide +kernel)
theorem k_243 : Cond.fieldLink "SceneEasel" 22 "SceneEasel" "root" "LSceneEasel$Node;" ∈ gw := gw_i 243 (by decide +kernel) (by decide +kernel)
theorem k_244 : Cond.fieldLink "SceneEasel" 11 "SceneEasel" "nodes" "[LSceneEasel$Node;" ∈ gw := gw_i 244 (by decide +kernel) (by decide +kernel)
theorem k_245 : Cond.fieldLink "SceneEasel" 15 "SceneEasel" "cells" "[I" ∈ gw := gw_i 245 (by decide +kernel) (by decide +kernel)
theorem k_246 : Cond.fieldLink "SceneEasel" 154 "SceneEasel" "paintings" "I" ∈ gw := gw_i 246 (by decide +kernel) (by decide +kernel)
theorem k_256 : Cond.methodLink "SceneEaselLaw" 141 ⟨"SceneEasel", "count", "(I)I"⟩ ∈ gw := gw_i 256 (by decide +kernel) (by decide +kernel)
theorem k_257 : Cond.instanceMethod ⟨"SceneEasel", "count", "(I)I"⟩ ∈ gw := gw_i 257 (by decide +kernel) (by decide +kernel)
theorem k_258 : Cond.selects "SceneEasel" ⟨"SceneEasel", "count", "(I)I"⟩ ⟨"SceneEasel", "count", "(I)I"⟩ ∈ gw := gw_i 258 (by decide +kernel) (by decide +kernel)
theorem k_259 : Cond.code ⟨"SceneEasel", "count", "(I)I"⟩ prog_1_method_17_code 2 (Option.some FieldType.int) ∈ gw := gw_i 259 (by decide +kernel) (by decide +kernel)
theorem k_260 : Cond.methodLink "SceneEasel" 210 ⟨"SceneEasel", "nodesThere", "()I"⟩ ∈ gw := gw_i 260 (by decide +kernel) (by decide +kernel)
theorem k_262 : Cond.instanceMethod ⟨"SceneEasel", "nodesThere", "()I"⟩ ∈ gw := gw_i 262 (by decide +kernel) (by decide +kernel)
theorem k_263 : Cond.code ⟨"SceneEasel", "nodesThere", "()I"⟩ prog_1_method_30_code 3 (Option.some FieldType.int) ∈ gw := gw_i 263 (by decide +kernel) (by decide +kernel)
theorem k_264 : Cond.methodLink "SceneEasel" 213 ⟨"SceneEasel", "framesThere", "()I"⟩ ∈ gw := gw_i 264 (by decide +kernel) (by decide +kernel)
theorem k_266 : Cond.instanceMethod ⟨"SceneEasel", "framesThere", "()I"⟩ ∈ gw := gw_i 266 (by decide +kernel) (by decide +kernel)
theorem k_267 : Cond.code ⟨"SceneEasel", "framesThere", "()I"⟩ prog_1_method_31_code 3 (Option.some FieldType.int) ∈ gw := gw_i 267 (by decide +kernel) (by decide +kernel)
theorem k_270 : Cond.instanceMethod ⟨"SceneEasel$Node", "frames", "()I"⟩ ∈ gw := gw_i 270 (by decide +kernel) (by decide +kernel)
theorem k_271 : Cond.code ⟨"SceneEasel$Node", "frames", "()I"⟩ prog_3_method_7_code 3 (Option.some FieldType.int) ∈ gw := gw_i 271 (by decide +kernel) (by decide +kernel)
theorem k_272 : Cond.methodLink "SceneEasel" 216 ⟨"SceneEasel", "deepestIn", "(LSceneEasel$Node;)I"⟩ ∈ gw := gw_i 272 (by decide +kernel) (by decide +kernel)
theorem k_274 : Cond.instanceMethod ⟨"SceneEasel", "deepestIn", "(LSceneEasel$Node;)I"⟩ ∈ gw := gw_i 274 (by decide +kernel) (by decide +kernel)
theorem k_275 : Cond.code ⟨"SceneEasel", "deepestIn", "(LSceneEasel$Node;)I"⟩ prog_1_method_32_code 4 (Option.some FieldType.int) ∈ gw := gw_i 275 (by decide +kernel) (by decide +kernel)
theorem k_278 : Cond.instanceMethod ⟨"SceneEasel$Node", "isIn", "(LSceneEasel$Node;)Z"⟩ ∈ gw := gw_i 278 (by decide +kernel) (by decide +kernel)
theorem k_279 : Cond.code ⟨"SceneEasel$Node", "isIn", "(LSceneEasel$Node;)Z"⟩ prog_3_method_6_code 3 (Option.some FieldType.boolean) ∈ gw := gw_i 279 (by decide +kernel) (by decide +kernel)
theorem k_282 : Cond.instanceMethod ⟨"SceneEasel$Node", "depth", "()I"⟩ ∈ gw := gw_i 282 (by decide +kernel) (by decide +kernel)
theorem k_283 : Cond.code ⟨"SceneEasel$Node", "depth", "()I"⟩ prog_3_method_5_code 3 (Option.some FieldType.int) ∈ gw := gw_i 283 (by decide +kernel) (by decide +kernel)
theorem k_284 : Cond.methodLink "SceneEasel" 250 ⟨"java/lang/Math", "max", "(II)I"⟩ ∈ gw := gw_i 284 (by decide +kernel) (by decide +kernel)
theorem k_285 : Cond.static ⟨"java/lang/Math", "max", "(II)I"⟩ ∈ gw := gw_i 285 (by decide +kernel) (by decide +kernel)
theorem k_286 : Cond.code ⟨"java/lang/Math", "max", "(II)I"⟩ prog_13_method_65_code 2 (Option.some FieldType.int) ∈ gw := gw_i 286 (by decide +kernel) (by decide +kernel)
theorem k_287 : Cond.methodLink "SceneEaselLaw" 76 ⟨"SceneEaselLaw", "node", "(LSceneEasel;III[J)I"⟩ ∈ gw := gw_i 287 (by decide +kernel) (by decide +kernel)
theorem k_288 : Cond.static ⟨"SceneEaselLaw", "node", "(LSceneEasel;III[J)I"⟩ ∈ gw := gw_i 288 (by decide +kernel) (by decide +kernel)
theorem k_290 : Cond.classLink "SceneEaselLaw" 13 "java/lang/IllegalArgumentException" ∈ gw := gw_i 290 (by decide +kernel) (by decide +kernel)
theorem k_291 : Cond.classLink "SceneEaselLaw" 15 "java/lang/IllegalStateException" ∈ gw := gw_i 291 (by decide +kernel) (by decide +kernel)
theorem k_292 : Cond.methodLink "SceneEaselLaw" 7 ⟨"SceneEasel", "node", "(III)I"⟩ ∈ gw := gw_i 292 (by decide +kernel) (by decide +kernel)
theorem k_293 : Cond.instanceMethod ⟨"SceneEasel", "node", "(III)I"⟩ ∈ gw := gw_i 293 (by decide +kernel) (by decide +kernel)
theorem k_294 : Cond.selects "SceneEasel" ⟨"SceneEasel", "node", "(III)I"⟩ ⟨"SceneEasel", "node", "(III)I"⟩ ∈ gw := gw_i 294 (by decide +kernel) (by decide +kernel)
theorem k_295 : Cond.code ⟨"SceneEasel", "node", "(III)I"⟩ prog_1_method_2_code 7 (Option.some FieldType.int) ∈ gw := gw_i 295 (by decide +kernel) (by decide +kernel)
theorem k_296 : Cond.methodLink "SceneEasel" 26 ⟨"SceneEasel", "requireGroup", "(I)LSceneEasel$Node;"⟩ ∈ gw := gw_i 296 (by decide +kernel) (by decide +kernel)
theorem k_298 : Cond.instanceMethod ⟨"SceneEasel", "requireGroup", "(I)LSceneEasel$Node;"⟩ ∈ gw := gw_i 298 (by decide +kernel) (by decide +kernel)
theorem k_299 : Cond.code ⟨"SceneEasel", "requireGroup", "(I)LSceneEasel$Node;"⟩ prog_1_method_20_code 3 (Option.some (FieldType.object "SceneEasel$Node")) ∈ gw := gw_i 299 (by decide +kernel) (by decide +kernel)
theorem k_300 : Cond.methodLink "SceneEasel" 166 ⟨"SceneEasel", "requireNode", "(I)LSceneEasel$Node;"⟩ ∈ gw := gw_i 300 (by decide +kernel) (by decide +kernel)
theorem k_302 : Cond.instanceMethod ⟨"SceneEasel", "requireNode", "(I)LSceneEasel$Node;"⟩ ∈ gw := gw_i 302 (by decide +kernel) (by decide +kernel)
theorem k_303 : Cond.code ⟨"SceneEasel", "requireNode", "(I)LSceneEasel$Node;"⟩ prog_1_method_18_code 2 (Option.some (FieldType.object "SceneEasel$Node")) ∈ gw := gw_i 303 (by decide +kernel) (by decide +kernel)
theorem k_304 : Cond.classLink "SceneEasel" 219 "java/lang/IllegalArgumentException" ∈ gw := gw_i 304 (by decide +kernel) (by decide +kernel)
theorem k_305 : Cond.instantiable "java/lang/IllegalArgumentException" 6 ∈ gw := gw_i 305 (by decide +kernel) (by decide +kernel)
theorem k_313 : Cond.selects "java/lang/IllegalArgumentException" ⟨"java/lang/Throwable", "fillInStackTrace", "(I)Ljava/lang/Throwable;"⟩ ⟨"java/lang/Throwable", "fillInStackTrace", "(I)Ljava/lang/Throwable;"⟩ ∈ gw := gw_i 313 (by decide +kernel) (by decide +kernel)
theorem k_314 : Cond.selects "java/lang/IllegalArgumentException" ⟨"java/lang/Throwable", "fillInStackTrace", "()Ljava/lang/Throwable;"⟩ ⟨"java/lang/Throwable", "fillInStackTrace", "()Ljava/lang/Throwable;"⟩ ∈ gw := gw_i 314 (by decide +kernel) (by decide +kernel)
theorem k_325 : Cond.fieldLink "java/lang/Throwable" 198 "java/lang/Throwable" "backtrace" "Ljava/lang/Object;" ∈ gw := gw_i 325 (by decide +kernel) (by decide +kernel)
theorem k_327 : Cond.instanceMethod ⟨"java/lang/Throwable", "<init>", "()V"⟩ ∈ gw := gw_i 327 (by decide +kernel) (by decide +kernel)
theorem k_328 : Cond.code ⟨"java/lang/Throwable", "<init>", "()V"⟩ prog_17_method_1_code 1 (Option.none : Option FieldType) ∈ gw := gw_i 328 (by decide +kernel) (by decide +kernel)
theorem k_329 : Cond.methodLink "java/lang/Throwable" 1 ⟨"java/lang/Object", "<init>", "()V"⟩ ∈ gw := gw_i 329 (by decide +kernel) (by decide +kernel)
theorem k_330 : Cond.fieldLink "java/lang/Throwable" 13 "java/lang/Throwable" "UNASSIGNED_STACK" "[Ljava/lang/StackTraceElement;" ∈ gw := gw_i 330 (by decide +kernel) (by decide +kernel)
theorem k_332 : Cond.fieldLink "java/lang/Throwable" 20 "java/lang/Throwable" "SUPPRESSED_SENTINEL" "Ljava/util/List;" ∈ gw := gw_i 332 (by decide +kernel) (by decide +kernel)
theorem k_334 : Cond.methodLink "java/lang/Throwable" 27 ⟨"java/lang/Throwable", "fillInStackTrace", "()Ljava/lang/Throwable;"⟩ ∈ gw := gw_i 334 (by decide +kernel) (by decide +kernel)
theorem k_335 : Cond.instanceMethod ⟨"java/lang/Throwable", "fillInStackTrace", "()Ljava/lang/Throwable;"⟩ ∈ gw := gw_i 335 (by decide +kernel) (by decide +kernel)
theorem k_337 : Cond.selects "java/lang/IllegalStateException" ⟨"java/lang/Throwable", "fillInStackTrace", "()Ljava/lang/Throwable;"⟩ ⟨"java/lang/Throwable", "fillInStackTrace", "()Ljava/lang/Throwable;"⟩ ∈ gw := gw_i 337 (by decide +kernel) (by decide +kernel)
theorem k_338 : Cond.selects "java/util/NoSuchElementException" ⟨"java/lang/Throwable", "fillInStackTrace", "()Ljava/lang/Throwable;"⟩ ⟨"java/lang/Throwable", "fillInStackTrace", "()Ljava/lang/Throwable;"⟩ ∈ gw := gw_i 338 (by decide +kernel) (by decide +kernel)
theorem k_340 : Cond.methodLink "java/lang/Throwable" 202 ⟨"java/lang/Throwable", "fillInStackTrace", "(I)Ljava/lang/Throwable;"⟩ ∈ gw := gw_i 340 (by decide +kernel) (by decide +kernel)
theorem k_342 : Cond.instanceMethod ⟨"java/lang/Throwable", "fillInStackTrace", "(I)Ljava/lang/Throwable;"⟩ ∈ gw := gw_i 342 (by decide +kernel) (by decide +kernel)
theorem k_343 : Cond.instantiable "java/lang/Throwable" 6 ∈ gw := gw_i 343 (by decide +kernel) (by decide +kernel)
theorem k_344 : Cond.native ⟨"java/lang/Throwable", "fillInStackTrace", "(I)Ljava/lang/Throwable;"⟩ ∈ gw := gw_i 344 (by decide +kernel) (by decide +kernel)
theorem k_346 : Cond.methodLink "SceneEasel" 223 ⟨"java/lang/IllegalArgumentException", "<init>", "(Ljava/lang/String;)V"⟩ ∈ gw := gw_i 346 (by decide +kernel) (by decide +kernel)
theorem k_347 : Cond.instanceMethod ⟨"java/lang/IllegalArgumentException", "<init>", "(Ljava/lang/String;)V"⟩ ∈ gw := gw_i 347 (by decide +kernel) (by decide +kernel)
theorem k_348 : Cond.code ⟨"java/lang/IllegalArgumentException", "<init>", "(Ljava/lang/String;)V"⟩ prog_10_method_2_code 2 (Option.none : Option FieldType) ∈ gw := gw_i 348 (by decide +kernel) (by decide +kernel)
theorem k_349 : Cond.methodLink "java/lang/IllegalArgumentException" 7 ⟨"java/lang/RuntimeException", "<init>", "(Ljava/lang/String;)V"⟩ ∈ gw := gw_i 349 (by decide +kernel) (by decide +kernel)
theorem k_350 : Cond.instanceMethod ⟨"java/lang/RuntimeException", "<init>", "(Ljava/lang/String;)V"⟩ ∈ gw := gw_i 350 (by decide +kernel) (by decide +kernel)
theorem k_351 : Cond.code ⟨"java/lang/RuntimeException", "<init>", "(Ljava/lang/String;)V"⟩ prog_14_method_2_code 2 (Option.none : Option FieldType) ∈ gw := gw_i 351 (by decide +kernel) (by decide +kernel)
theorem k_352 : Cond.methodLink "java/lang/RuntimeException" 7 ⟨"java/lang/Exception", "<init>", "(Ljava/lang/String;)V"⟩ ∈ gw := gw_i 352 (by decide +kernel) (by decide +kernel)
theorem k_353 : Cond.instanceMethod ⟨"java/lang/Exception", "<init>", "(Ljava/lang/String;)V"⟩ ∈ gw := gw_i 353 (by decide +kernel) (by decide +kernel)
theorem k_354 : Cond.code ⟨"java/lang/Exception", "<init>", "(Ljava/lang/String;)V"⟩ prog_9_method_2_code 2 (Option.none : Option FieldType) ∈ gw := gw_i 354 (by decide +kernel) (by decide +kernel)
theorem k_355 : Cond.methodLink "java/lang/Exception" 7 ⟨"java/lang/Throwable", "<init>", "(Ljava/lang/String;)V"⟩ ∈ gw := gw_i 355 (by decide +kernel) (by decide +kernel)
theorem k_356 : Cond.instanceMethod ⟨"java/lang/Throwable", "<init>", "(Ljava/lang/String;)V"⟩ ∈ gw := gw_i 356 (by decide +kernel) (by decide +kernel)
theorem k_357 : Cond.code ⟨"java/lang/Throwable", "<init>", "(Ljava/lang/String;)V"⟩ prog_17_method_2_code 2 (Option.none : Option FieldType) ∈ gw := gw_i 357 (by decide +kernel) (by decide +kernel)
theorem k_358 : Cond.fieldLink "java/lang/Throwable" 198 "java/lang/Throwable" "backtrace" "Ljava/lang/Object;" ∈ gw := gw_i 358 (by decide +kernel) (by decide +kernel)
theorem k_359 : Cond.fieldLink "java/lang/Throwable" 31 "java/lang/Throwable" "detailMessage" "Ljava/lang/String;" ∈ gw := gw_i 359 (by decide +kernel) (by decide +kernel)
theorem k_360 : Cond.fieldLink "java/lang/Throwable" 7 "java/lang/Throwable" "cause" "Ljava/lang/Throwable;" ∈ gw := gw_i 360 (by decide +kernel) (by decide +kernel)
theorem k_361 : Cond.fieldLink "java/lang/Throwable" 17 "java/lang/Throwable" "stackTrace" "[Ljava/lang/StackTraceElement;" ∈ gw := gw_i 361 (by decide +kernel) (by decide +kernel)
theorem k_362 : Cond.fieldLink "java/lang/Throwable" 24 "java/lang/Throwable" "suppressedExceptions" "Ljava/util/List;" ∈ gw := gw_i 362 (by decide +kernel) (by decide +kernel)
theorem k_371 : Cond.arrayClass FieldType.byte ∈ gw := gw_i 371 (by decide +kernel) (by decide +kernel)
theorem k_373 : Cond.methodLink "SceneEasel" 30 ⟨"SceneEasel", "requireWithin", "(III)V"⟩ ∈ gw := gw_i 373 (by decide +kernel) (by decide +kernel)
theorem k_374 : Cond.static ⟨"SceneEasel", "requireWithin", "(III)V"⟩ ∈ gw := gw_i 374 (by decide +kernel) (by decide +kernel)
theorem k_375 : Cond.code ⟨"SceneEasel", "requireWithin", "(III)V"⟩ prog_1_method_22_code 3 (Option.none : Option FieldType) ∈ gw := gw_i 375 (by decide +kernel) (by decide +kernel)
theorem k_377 : Cond.methodLink "SceneEasel" 33 ⟨"SceneEasel", "leastFreeNumber", "()I"⟩ ∈ gw := gw_i 377 (by decide +kernel) (by decide +kernel)
theorem k_379 : Cond.instanceMethod ⟨"SceneEasel", "leastFreeNumber", "()I"⟩ ∈ gw := gw_i 379 (by decide +kernel) (by decide +kernel)
theorem k_380 : Cond.code ⟨"SceneEasel", "leastFreeNumber", "()I"⟩ prog_1_method_29_code 2 (Option.some FieldType.int) ∈ gw := gw_i 380 (by decide +kernel) (by decide +kernel)
theorem k_381 : Cond.classLink "SceneEasel" 37 "java/lang/IllegalStateException" ∈ gw := gw_i 381 (by decide +kernel) (by decide +kernel)
theorem k_382 : Cond.instantiable "java/lang/IllegalStateException" 6 ∈ gw := gw_i 382 (by decide +kernel) (by decide +kernel)
theorem k_384 : Cond.selects "java/lang/IllegalStateException" ⟨"java/lang/Throwable", "fillInStackTrace", "(I)Ljava/lang/Throwable;"⟩ ⟨"java/lang/Throwable", "fillInStackTrace", "(I)Ljava/lang/Throwable;"⟩ ∈ gw := gw_i 384 (by decide +kernel) (by decide +kernel)
theorem k_391 : Cond.methodLink "SceneEasel" 41 ⟨"java/lang/IllegalStateException", "<init>", "(Ljava/lang/String;)V"⟩ ∈ gw := gw_i 391 (by decide +kernel) (by decide +kernel)
theorem k_392 : Cond.instanceMethod ⟨"java/lang/IllegalStateException", "<init>", "(Ljava/lang/String;)V"⟩ ∈ gw := gw_i 392 (by decide +kernel) (by decide +kernel)
theorem k_393 : Cond.code ⟨"java/lang/IllegalStateException", "<init>", "(Ljava/lang/String;)V"⟩ prog_11_method_2_code 2 (Option.none : Option FieldType) ∈ gw := gw_i 393 (by decide +kernel) (by decide +kernel)
theorem k_394 : Cond.methodLink "java/lang/IllegalStateException" 7 ⟨"java/lang/RuntimeException", "<init>", "(Ljava/lang/String;)V"⟩ ∈ gw := gw_i 394 (by decide +kernel) (by decide +kernel)
theorem k_400 : Cond.instanceMethod ⟨"SceneEasel$Node", "hangInto", "(LSceneEasel$Node;)V"⟩ ∈ gw := gw_i 400 (by decide +kernel) (by decide +kernel)
theorem k_401 : Cond.code ⟨"SceneEasel$Node", "hangInto", "(LSceneEasel$Node;)V"⟩ prog_3_method_2_code 2 (Option.none : Option FieldType) ∈ gw := gw_i 401 (by decide +kernel) (by decide +kernel)
theorem k_402 : Cond.methodLink "SceneEasel$Node" 56 ⟨"java/util/ArrayList", "add", "(Ljava/lang/Object;)Z"⟩ ∈ gw := gw_i 402 (by decide +kernel) (by decide +kernel)
theorem k_403 : Cond.instanceMethod ⟨"java/util/ArrayList", "add", "(Ljava/lang/Object;)Z"⟩ ∈ gw := gw_i 403 (by decide +kernel) (by decide +kernel)
theorem k_404 : Cond.selects "java/util/ArrayList" ⟨"java/util/ArrayList", "add", "(Ljava/lang/Object;)Z"⟩ ⟨"java/util/ArrayList", "add", "(Ljava/lang/Object;)Z"⟩ ∈ gw := gw_i 404 (by decide +kernel) (by decide +kernel)
theorem k_405 : Cond.code ⟨"java/util/ArrayList", "add", "(Ljava/lang/Object;)Z"⟩ prog_20_method_25_code 2 (Option.some FieldType.boolean) ∈ gw := gw_i 405 (by decide +kernel) (by decide +kernel)
theorem k_406 : Cond.methodLink "java/util/ArrayList" 131 ⟨"java/util/ArrayList", "add", "(Ljava/lang/Object;[Ljava/lang/Object;I)V"⟩ ∈ gw := gw_i 406 (by decide +kernel) (by decide +kernel)
theorem k_408 : Cond.instanceMethod ⟨"java/util/ArrayList", "add", "(Ljava/lang/Object;[Ljava/lang/Object;I)V"⟩ ∈ gw := gw_i 408 (by decide +kernel) (by decide +kernel)
theorem k_409 : Cond.code ⟨"java/util/ArrayList", "add", "(Ljava/lang/Object;[Ljava/lang/Object;I)V"⟩ prog_20_method_24_code 4 (Option.none : Option FieldType) ∈ gw := gw_i 409 (by decide +kernel) (by decide +kernel)
theorem k_410 : Cond.methodLink "java/util/ArrayList" 129 ⟨"java/util/ArrayList", "grow", "()[Ljava/lang/Object;"⟩ ∈ gw := gw_i 410 (by decide +kernel) (by decide +kernel)
theorem k_412 : Cond.instanceMethod ⟨"java/util/ArrayList", "grow", "()[Ljava/lang/Object;"⟩ ∈ gw := gw_i 412 (by decide +kernel) (by decide +kernel)
theorem k_413 : Cond.code ⟨"java/util/ArrayList", "grow", "()[Ljava/lang/Object;"⟩ prog_20_method_7_code 1 (Option.some (FieldType.array (FieldType.object "java/lang/Object"))) ∈ gw := gw_i 413 (by decide +kernel) (by decide +kernel)
theorem k_414 : Cond.methodLink "java/util/ArrayList" 69 ⟨"java/util/ArrayList", "grow", "(I)[Ljava/lang/Object;"⟩ ∈ gw := gw_i 414 (by decide +kernel) (by decide +kernel)
theorem k_416 : Cond.instanceMethod ⟨"java/util/ArrayList", "grow", "(I)[Ljava/lang/Object;"⟩ ∈ gw := gw_i 416 (by decide +kernel) (by decide +kernel)
theorem k_417 : Cond.code ⟨"java/util/ArrayList", "grow", "(I)[Ljava/lang/Object;"⟩ prog_20_method_6_code 4 (Option.some (FieldType.array (FieldType.object "java/lang/Object"))) ∈ gw := gw_i 417 (by decide +kernel) (by decide +kernel)
theorem k_418 : Cond.methodLink "java/util/ArrayList" 73 ⟨"jdk/internal/util/ArraysSupport", "newLength", "(III)I"⟩ ∈ gw := gw_i 418 (by decide +kernel) (by decide +kernel)
theorem k_419 : Cond.static ⟨"jdk/internal/util/ArraysSupport", "newLength", "(III)I"⟩ ∈ gw := gw_i 419 (by decide +kernel) (by decide +kernel)
theorem k_420 : Cond.code ⟨"jdk/internal/util/ArraysSupport", "newLength", "(III)I"⟩ prog_28_method_27_code 4 (Option.some FieldType.int) ∈ gw := gw_i 420 (by decide +kernel) (by decide +kernel)
theorem k_421 : Cond.methodLink "jdk/internal/util/ArraysSupport" 194 ⟨"java/lang/Math", "max", "(II)I"⟩ ∈ gw := gw_i 421 (by decide +kernel) (by decide +kernel)
theorem k_422 : Cond.constant "jdk/internal/util/ArraysSupport" 200 (2147483639 : Int32) ∈ gw := gw_i 422 (by decide +kernel) (by decide +kernel)
theorem k_423 : Cond.methodLink "jdk/internal/util/ArraysSupport" 201 ⟨"jdk/internal/util/ArraysSupport", "hugeLength", "(II)I"⟩ ∈ gw := gw_i 423 (by decide +kernel) (by decide +kernel)
theorem k_424 : Cond.static ⟨"jdk/internal/util/ArraysSupport", "hugeLength", "(II)I"⟩ ∈ gw := gw_i 424 (by decide +kernel) (by decide +kernel)
theorem k_425 : Cond.code ⟨"jdk/internal/util/ArraysSupport", "hugeLength", "(II)I"⟩ prog_28_method_28_code 3 (Option.some FieldType.int) ∈ gw := gw_i 425 (by decide +kernel) (by decide +kernel)
theorem k_426 : Cond.methodLink "java/util/ArrayList" 66 ⟨"java/util/Arrays", "copyOf", "([Ljava/lang/Object;I)[Ljava/lang/Object;"⟩ ∈ gw := gw_i 426 (by decide +kernel) (by decide +kernel)
theorem k_427 : Cond.static ⟨"java/util/Arrays", "copyOf", "([Ljava/lang/Object;I)[Ljava/lang/Object;"⟩ ∈ gw := gw_i 427 (by decide +kernel) (by decide +kernel)
theorem k_428 : Cond.code ⟨"java/util/Arrays", "copyOf", "([Ljava/lang/Object;I)[Ljava/lang/Object;"⟩ prog_21_method_119_code 2 (Option.some (FieldType.array (FieldType.object "java/lang/Object"))) ∈ gw := gw_i 428 (by decide +kernel) (by decide +kernel)
theorem k_429 : Cond.methodLink "java/util/Arrays" 86 ⟨"java/lang/Object", "getClass", "()Ljava/lang/Class;"⟩ ∈ gw := gw_i 429 (by decide +kernel) (by decide +kernel)
theorem k_430 : Cond.instanceMethod ⟨"java/lang/Object", "getClass", "()Ljava/lang/Class;"⟩ ∈ gw := gw_i 430 (by decide +kernel) (by decide +kernel)
theorem k_432 : Cond.selects "SceneEasel" ⟨"java/lang/Object", "getClass", "()Ljava/lang/Class;"⟩ ⟨"java/lang/Object", "getClass", "()Ljava/lang/Class;"⟩ ∈ gw := gw_i 432 (by decide +kernel) (by decide +kernel)
theorem k_433 : Cond.selects "SceneEasel$Extent" ⟨"java/lang/Object", "getClass", "()Ljava/lang/Class;"⟩ ⟨"java/lang/Object", "getClass", "()Ljava/lang/Class;"⟩ ∈ gw := gw_i 433 (by decide +kernel) (by decide +kernel)
theorem k_434 : Cond.selects "SceneEasel$Node" ⟨"java/lang/Object", "getClass", "()Ljava/lang/Class;"⟩ ⟨"java/lang/Object", "getClass", "()Ljava/lang/Class;"⟩ ∈ gw := gw_i 434 (by decide +kernel) (by decide +kernel)
theorem k_435 : Cond.selects "SceneEasel$Track" ⟨"java/lang/Object", "getClass", "()Ljava/lang/Class;"⟩ ⟨"java/lang/Object", "getClass", "()Ljava/lang/Class;"⟩ ∈ gw := gw_i 435 (by decide +kernel) (by decide +kernel)
theorem k_436 : Cond.selects "SceneEaselModel" ⟨"java/lang/Object", "getClass", "()Ljava/lang/Class;"⟩ ⟨"java/lang/Object", "getClass", "()Ljava/lang/Class;"⟩ ∈ gw := gw_i 436 (by decide +kernel) (by decide +kernel)
theorem k_437 : Cond.selects "java/lang/IllegalArgumentException" ⟨"java/lang/Object", "getClass", "()Ljava/lang/Class;"⟩ ⟨"java/lang/Object", "getClass", "()Ljava/lang/Class;"⟩ ∈ gw := gw_i 437 (by decide +kernel) (by decide +kernel)
theorem k_438 : Cond.selects "java/lang/IllegalStateException" ⟨"java/lang/Object", "getClass", "()Ljava/lang/Class;"⟩ ⟨"java/lang/Object", "getClass", "()Ljava/lang/Class;"⟩ ∈ gw := gw_i 438 (by decide +kernel) (by decide +kernel)
theorem k_439 : Cond.selects "java/util/ArrayList" ⟨"java/lang/Object", "getClass", "()Ljava/lang/Class;"⟩ ⟨"java/lang/Object", "getClass", "()Ljava/lang/Class;"⟩ ∈ gw := gw_i 439 (by decide +kernel) (by decide +kernel)
theorem k_440 : Cond.selects "java/util/NoSuchElementException" ⟨"java/lang/Object", "getClass", "()Ljava/lang/Class;"⟩ ⟨"java/lang/Object", "getClass", "()Ljava/lang/Class;"⟩ ∈ gw := gw_i 440 (by decide +kernel) (by decide +kernel)
theorem k_441 : Cond.native ⟨"java/lang/Object", "getClass", "()Ljava/lang/Class;"⟩ ∈ gw := gw_i 441 (by decide +kernel) (by decide +kernel)
theorem k_442 : Cond.methodLink "java/util/Arrays" 300 ⟨"java/util/Arrays", "copyOf", "([Ljava/lang/Object;ILjava/lang/Class;)[Ljava/lang/Object;"⟩ ∈ gw := gw_i 442 (by decide +kernel) (by decide +kernel)
theorem k_443 : Cond.static ⟨"java/util/Arrays", "copyOf", "([Ljava/lang/Object;ILjava/lang/Class;)[Ljava/lang/Object;"⟩ ∈ gw := gw_i 443 (by decide +kernel) (by decide +kernel)
theorem k_444 : Cond.code ⟨"java/util/Arrays", "copyOf", "([Ljava/lang/Object;ILjava/lang/Class;)[Ljava/lang/Object;"⟩ prog_21_method_120_code 4 (Option.some (FieldType.array (FieldType.object "java/lang/Object"))) ∈ gw := gw_i 444 (by decide +kernel) (by decide +kernel)
theorem k_445 : Cond.classLink "java/util/Arrays" 110 "[Ljava/lang/Object;" ∈ gw := gw_i 445 (by decide +kernel) (by decide +kernel)
theorem k_447 : Cond.classLink "java/util/Arrays" 2 "java/lang/Object" ∈ gw := gw_i 447 (by decide +kernel) (by decide +kernel)
theorem k_448 : Cond.methodLink "java/util/Arrays" 304 ⟨"java/lang/Math", "min", "(II)I"⟩ ∈ gw := gw_i 448 (by decide +kernel) (by decide +kernel)
theorem k_449 : Cond.static ⟨"java/lang/Math", "min", "(II)I"⟩ ∈ gw := gw_i 449 (by decide +kernel) (by decide +kernel)
theorem k_450 : Cond.code ⟨"java/lang/Math", "min", "(II)I"⟩ prog_13_method_69_code 2 (Option.some FieldType.int) ∈ gw := gw_i 450 (by decide +kernel) (by decide +kernel)
theorem k_451 : Cond.methodLink "java/util/Arrays" 150 ⟨"java/lang/System", "arraycopy", "(Ljava/lang/Object;ILjava/lang/Object;II)V"⟩ ∈ gw := gw_i 451 (by decide +kernel) (by decide +kernel)
theorem k_452 : Cond.static ⟨"java/lang/System", "arraycopy", "(Ljava/lang/Object;ILjava/lang/Object;II)V"⟩ ∈ gw := gw_i 452 (by decide +kernel) (by decide +kernel)
theorem k_453 : Cond.native ⟨"java/lang/System", "arraycopy", "(Ljava/lang/Object;ILjava/lang/Object;II)V"⟩ ∈ gw := gw_i 453 (by decide +kernel) (by decide +kernel)
theorem k_454 : Cond.methodLink "java/util/ArrayList" 79 ⟨"java/lang/Math", "max", "(II)I"⟩ ∈ gw := gw_i 454 (by decide +kernel) (by decide +kernel)
theorem k_455 : Cond.classLink "java/util/ArrayList" 7 "java/lang/Object" ∈ gw := gw_i 455 (by decide +kernel) (by decide +kernel)
theorem k_456 : Cond.methodLink "SceneEaselLaw" 88 ⟨"SceneEaselLaw", "lengths", "(LSceneEasel;IDD)I"⟩ ∈ gw := gw_i 456 (by decide +kernel) (by decide +kernel)
theorem k_457 : Cond.static ⟨"SceneEaselLaw", "lengths", "(LSceneEasel;IDD)I"⟩ ∈ gw := gw_i 457 (by decide +kernel) (by decide +kernel)
theorem k_459 : Cond.methodLink "SceneEaselLaw" 17 ⟨"SceneEasel", "lengths", "(IDD)V"⟩ ∈ gw := gw_i 459 (by decide +kernel) (by decide +kernel)
theorem k_460 : Cond.instanceMethod ⟨"SceneEasel", "lengths", "(IDD)V"⟩ ∈ gw := gw_i 460 (by decide +kernel) (by decide +kernel)
theorem k_461 : Cond.selects "SceneEasel" ⟨"SceneEasel", "lengths", "(IDD)V"⟩ ⟨"SceneEasel", "lengths", "(IDD)V"⟩ ∈ gw := gw_i 461 (by decide +kernel) (by decide +kernel)
theorem k_462 : Cond.code ⟨"SceneEasel", "lengths", "(IDD)V"⟩ prog_1_method_3_code 7 (Option.none : Option FieldType) ∈ gw := gw_i 462 (by decide +kernel) (by decide +kernel)
theorem k_463 : Cond.methodLink "SceneEasel" 53 ⟨"SceneEasel", "requireShape", "(I)LSceneEasel$Node;"⟩ ∈ gw := gw_i 463 (by decide +kernel) (by decide +kernel)
theorem k_465 : Cond.instanceMethod ⟨"SceneEasel", "requireShape", "(I)LSceneEasel$Node;"⟩ ∈ gw := gw_i 465 (by decide +kernel) (by decide +kernel)
theorem k_466 : Cond.code ⟨"SceneEasel", "requireShape", "(I)LSceneEasel$Node;"⟩ prog_1_method_21_code 3 (Option.some (FieldType.object "SceneEasel$Node")) ∈ gw := gw_i 466 (by decide +kernel) (by decide +kernel)
theorem k_468 : Cond.methodLink "SceneEasel" 56 ⟨"SceneEasel", "requireLength", "(D)V"⟩ ∈ gw := gw_i 468 (by decide +kernel) (by decide +kernel)
theorem k_469 : Cond.static ⟨"SceneEasel", "requireLength", "(D)V"⟩ ∈ gw := gw_i 469 (by decide +kernel) (by decide +kernel)
theorem k_470 : Cond.code ⟨"SceneEasel", "requireLength", "(D)V"⟩ prog_1_method_25_code 2 (Option.none : Option FieldType) ∈ gw := gw_i 470 (by decide +kernel) (by decide +kernel)
theorem k_471 : Cond.constantDouble "SceneEasel" 232 (4593671619917905920 : UInt64) ∈ gw := gw_i 471 (by decide +kernel) (by decide +kernel)
theorem k_472 : Cond.constantDouble "SceneEasel" 234 (4636737291354636288 : UInt64) ∈ gw := gw_i 472 (by decide +kernel) (by decide +kernel)
theorem k_473 : Cond.methodLink "SceneEasel" 88 ⟨"SceneEasel", "requireBetween", "(DDD)V"⟩ ∈ gw := gw_i 473 (by decide +kernel) (by decide +kernel)
theorem k_474 : Cond.static ⟨"SceneEasel", "requireBetween", "(DDD)V"⟩ ∈ gw := gw_i 474 (by decide +kernel) (by decide +kernel)
theorem k_475 : Cond.code ⟨"SceneEasel", "requireBetween", "(DDD)V"⟩ prog_1_method_23_code 6 (Option.none : Option FieldType) ∈ gw := gw_i 475 (by decide +kernel) (by decide +kernel)
theorem k_476 : Cond.methodLink "SceneEasel" 236 ⟨"SceneEasel", "requireMultiple", "(DI)V"⟩ ∈ gw := gw_i 476 (by decide +kernel) (by decide +kernel)
theorem k_477 : Cond.static ⟨"SceneEasel", "requireMultiple", "(DI)V"⟩ ∈ gw := gw_i 477 (by decide +kernel) (by decide +kernel)
theorem k_478 : Cond.code ⟨"SceneEasel", "requireMultiple", "(DI)V"⟩ prog_1_method_28_code 5 (Option.none : Option FieldType) ∈ gw := gw_i 478 (by decide +kernel) (by decide +kernel)
theorem k_480 : Cond.methodLink "SceneEaselLaw" 92 ⟨"SceneEaselLaw", "place", "(LSceneEasel;IDD)I"⟩ ∈ gw := gw_i 480 (by decide +kernel) (by decide +kernel)
theorem k_481 : Cond.static ⟨"SceneEaselLaw", "place", "(LSceneEasel;IDD)I"⟩ ∈ gw := gw_i 481 (by decide +kernel) (by decide +kernel)
theorem k_483 : Cond.methodLink "SceneEaselLaw" 21 ⟨"SceneEasel", "place", "(IDD)V"⟩ ∈ gw := gw_i 483 (by decide +kernel) (by decide +kernel)
theorem k_484 : Cond.instanceMethod ⟨"SceneEasel", "place", "(IDD)V"⟩ ∈ gw := gw_i 484 (by decide +kernel) (by decide +kernel)
theorem k_485 : Cond.selects "SceneEasel" ⟨"SceneEasel", "place", "(IDD)V"⟩ ⟨"SceneEasel", "place", "(IDD)V"⟩ ∈ gw := gw_i 485 (by decide +kernel) (by decide +kernel)
theorem k_486 : Cond.code ⟨"SceneEasel", "place", "(IDD)V"⟩ prog_1_method_4_code 7 (Option.none : Option FieldType) ∈ gw := gw_i 486 (by decide +kernel) (by decide +kernel)
theorem k_487 : Cond.methodLink "SceneEasel" 67 ⟨"SceneEasel", "requireInner", "(I)LSceneEasel$Node;"⟩ ∈ gw := gw_i 487 (by decide +kernel) (by decide +kernel)
theorem k_489 : Cond.instanceMethod ⟨"SceneEasel", "requireInner", "(I)LSceneEasel$Node;"⟩ ∈ gw := gw_i 489 (by decide +kernel) (by decide +kernel)
theorem k_490 : Cond.code ⟨"SceneEasel", "requireInner", "(I)LSceneEasel$Node;"⟩ prog_1_method_19_code 3 (Option.some (FieldType.object "SceneEasel$Node")) ∈ gw := gw_i 490 (by decide +kernel) (by decide +kernel)
theorem k_492 : Cond.methodLink "SceneEasel" 70 ⟨"SceneEasel", "requirePlace", "(D)V"⟩ ∈ gw := gw_i 492 (by decide +kernel) (by decide +kernel)
theorem k_493 : Cond.static ⟨"SceneEasel", "requirePlace", "(D)V"⟩ ∈ gw := gw_i 493 (by decide +kernel) (by decide +kernel)
theorem k_494 : Cond.code ⟨"SceneEasel", "requirePlace", "(D)V"⟩ prog_1_method_26_code 2 (Option.none : Option FieldType) ∈ gw := gw_i 494 (by decide +kernel) (by decide +kernel)
theorem k_495 : Cond.constantDouble "SceneEasel" 240 (13860109328209412096 : UInt64) ∈ gw := gw_i 495 (by decide +kernel) (by decide +kernel)
theorem k_496 : Cond.methodLink "SceneEaselLaw" 95 ⟨"SceneEaselLaw", "lay", "(LSceneEasel;III)I"⟩ ∈ gw := gw_i 496 (by decide +kernel) (by decide +kernel)
theorem k_497 : Cond.static ⟨"SceneEaselLaw", "lay", "(LSceneEasel;III)I"⟩ ∈ gw := gw_i 497 (by decide +kernel) (by decide +kernel)
theorem k_499 : Cond.methodLink "SceneEaselLaw" 24 ⟨"SceneEasel", "lay", "(III)V"⟩ ∈ gw := gw_i 499 (by decide +kernel) (by decide +kernel)
theorem k_500 : Cond.instanceMethod ⟨"SceneEasel", "lay", "(III)V"⟩ ∈ gw := gw_i 500 (by decide +kernel) (by decide +kernel)
theorem k_501 : Cond.selects "SceneEasel" ⟨"SceneEasel", "lay", "(III)V"⟩ ⟨"SceneEasel", "lay", "(III)V"⟩ ∈ gw := gw_i 501 (by decide +kernel) (by decide +kernel)
theorem k_502 : Cond.code ⟨"SceneEasel", "lay", "(III)V"⟩ prog_1_method_5_code 5 (Option.none : Option FieldType) ∈ gw := gw_i 502 (by decide +kernel) (by decide +kernel)
theorem k_503 : Cond.methodLink "SceneEaselLaw" 99 ⟨"SceneEaselLaw", "mode", "(LSceneEasel;IID)I"⟩ ∈ gw := gw_i 503 (by decide +kernel) (by decide +kernel)
theorem k_504 : Cond.static ⟨"SceneEaselLaw", "mode", "(LSceneEasel;IID)I"⟩ ∈ gw := gw_i 504 (by decide +kernel) (by decide +kernel)
theorem k_506 : Cond.methodLink "SceneEaselLaw" 28 ⟨"SceneEasel", "mode", "(IID)V"⟩ ∈ gw := gw_i 506 (by decide +kernel) (by decide +kernel)
theorem k_507 : Cond.instanceMethod ⟨"SceneEasel", "mode", "(IID)V"⟩ ∈ gw := gw_i 507 (by decide +kernel) (by decide +kernel)
theorem k_508 : Cond.selects "SceneEasel" ⟨"SceneEasel", "mode", "(IID)V"⟩ ⟨"SceneEasel", "mode", "(IID)V"⟩ ∈ gw := gw_i 508 (by decide +kernel) (by decide +kernel)
theorem k_509 : Cond.code ⟨"SceneEasel", "mode", "(IID)V"⟩ prog_1_method_6_code 6 (Option.none : Option FieldType) ∈ gw := gw_i 509 (by decide +kernel) (by decide +kernel)
theorem k_510 : Cond.constantDouble "SceneEasel" 86 (4629700416936869888 : UInt64) ∈ gw := gw_i 510 (by decide +kernel) (by decide +kernel)
theorem k_511 : Cond.methodLink "SceneEaselLaw" 103 ⟨"SceneEaselLaw", "hide", "(LSceneEasel;IZ)I"⟩ ∈ gw := gw_i 511 (by decide +kernel) (by decide +kernel)
theorem k_512 : Cond.static ⟨"SceneEaselLaw", "hide", "(LSceneEasel;IZ)I"⟩ ∈ gw := gw_i 512 (by decide +kernel) (by decide +kernel)
theorem k_514 : Cond.methodLink "SceneEaselLaw" 32 ⟨"SceneEasel", "hide", "(IZ)V"⟩ ∈ gw := gw_i 514 (by decide +kernel) (by decide +kernel)
theorem k_515 : Cond.instanceMethod ⟨"SceneEasel", "hide", "(IZ)V"⟩ ∈ gw := gw_i 515 (by decide +kernel) (by decide +kernel)
theorem k_516 : Cond.selects "SceneEasel" ⟨"SceneEasel", "hide", "(IZ)V"⟩ ⟨"SceneEasel", "hide", "(IZ)V"⟩ ∈ gw := gw_i 516 (by decide +kernel) (by decide +kernel)
theorem k_517 : Cond.code ⟨"SceneEasel", "hide", "(IZ)V"⟩ prog_1_method_7_code 3 (Option.none : Option FieldType) ∈ gw := gw_i 517 (by decide +kernel) (by decide +kernel)
theorem k_518 : Cond.methodLink "SceneEaselLaw" 107 ⟨"SceneEaselLaw", "key", "(LSceneEasel;IIDD[J)I"⟩ ∈ gw := gw_i 518 (by decide +kernel) (by decide +kernel)
theorem k_519 : Cond.static ⟨"SceneEaselLaw", "key", "(LSceneEasel;IIDD[J)I"⟩ ∈ gw := gw_i 519 (by decide +kernel) (by decide +kernel)
theorem k_521 : Cond.methodLink "SceneEaselLaw" 36 ⟨"SceneEasel", "key", "(IIDD)I"⟩ ∈ gw := gw_i 521 (by decide +kernel) (by decide +kernel)
theorem k_522 : Cond.instanceMethod ⟨"SceneEasel", "key", "(IIDD)I"⟩ ∈ gw := gw_i 522 (by decide +kernel) (by decide +kernel)
theorem k_523 : Cond.selects "SceneEasel" ⟨"SceneEasel", "key", "(IIDD)I"⟩ ⟨"SceneEasel", "key", "(IIDD)I"⟩ ∈ gw := gw_i 523 (by decide +kernel) (by decide +kernel)
theorem k_524 : Cond.code ⟨"SceneEasel", "key", "(IIDD)I"⟩ prog_1_method_8_code 9 (Option.some FieldType.int) ∈ gw := gw_i 524 (by decide +kernel) (by decide +kernel)
theorem k_525 : Cond.methodLink "SceneEasel" 102 ⟨"SceneEasel", "requireTime", "(D)V"⟩ ∈ gw := gw_i 525 (by decide +kernel) (by decide +kernel)
theorem k_526 : Cond.static ⟨"SceneEasel", "requireTime", "(D)V"⟩ ∈ gw := gw_i 526 (by decide +kernel) (by decide +kernel)
theorem k_527 : Cond.code ⟨"SceneEasel", "requireTime", "(D)V"⟩ prog_1_method_24_code 2 (Option.none : Option FieldType) ∈ gw := gw_i 527 (by decide +kernel) (by decide +kernel)
theorem k_528 : Cond.constantDouble "SceneEasel" 159 (4652007308841189376 : UInt64) ∈ gw := gw_i 528 (by decide +kernel) (by decide +kernel)
theorem k_529 : Cond.methodLink "SceneEasel" 105 ⟨"SceneEasel", "requireValue", "(ID)V"⟩ ∈ gw := gw_i 529 (by decide +kernel) (by decide +kernel)
theorem k_530 : Cond.static ⟨"SceneEasel", "requireValue", "(ID)V"⟩ ∈ gw := gw_i 530 (by decide +kernel) (by decide +kernel)
theorem k_531 : Cond.code ⟨"SceneEasel", "requireValue", "(ID)V"⟩ prog_1_method_27_code 3 (Option.none : Option FieldType) ∈ gw := gw_i 531 (by decide +kernel) (by decide +kernel)
theorem k_532 : Cond.constantDouble "SceneEasel" 242 (13835058055282163712 : UInt64) ∈ gw := gw_i 532 (by decide +kernel) (by decide +kernel)
theorem k_533 : Cond.constantDouble "SceneEasel" 244 (4611686018427387904 : UInt64) ∈ gw := gw_i 533 (by decide +kernel) (by decide +kernel)
theorem k_534 : Cond.constantDouble "SceneEasel" 246 (4624633867356078080 : UInt64) ∈ gw := gw_i 534 (by decide +kernel) (by decide +kernel)
theorem k_537 : Cond.instanceMethod ⟨"SceneEasel$Track", "put", "(DD)Z"⟩ ∈ gw := gw_i 537 (by decide +kernel) (by decide +kernel)
theorem k_538 : Cond.code ⟨"SceneEasel$Track", "put", "(DD)Z"⟩ prog_4_method_2_code 6 (Option.some FieldType.boolean) ∈ gw := gw_i 538 (by decide +kernel) (by decide +kernel)
theorem k_539 : Cond.methodLink "SceneEasel$Track" 22 ⟨"SceneEasel$Track", "makeRoom", "(I)V"⟩ ∈ gw := gw_i 539 (by decide +kernel) (by decide +kernel)
theorem k_541 : Cond.instanceMethod ⟨"SceneEasel$Track", "makeRoom", "(I)V"⟩ ∈ gw := gw_i 541 (by decide +kernel) (by decide +kernel)
theorem k_542 : Cond.code ⟨"SceneEasel$Track", "makeRoom", "(I)V"⟩ prog_4_method_3_code 3 (Option.none : Option FieldType) ∈ gw := gw_i 542 (by decide +kernel) (by decide +kernel)
theorem k_544 : Cond.methodLink "SceneEaselLaw" 111 ⟨"SceneEaselLaw", "unkey", "(LSceneEasel;II)I"⟩ ∈ gw := gw_i 544 (by decide +kernel) (by decide +kernel)
theorem k_545 : Cond.static ⟨"SceneEaselLaw", "unkey", "(LSceneEasel;II)I"⟩ ∈ gw := gw_i 545 (by decide +kernel) (by decide +kernel)
theorem k_547 : Cond.classLink "SceneEaselLaw" 44 "java/util/NoSuchElementException" ∈ gw := gw_i 547 (by decide +kernel) (by decide +kernel)
theorem k_548 : Cond.methodLink "SceneEaselLaw" 40 ⟨"SceneEasel", "unkey", "(II)V"⟩ ∈ gw := gw_i 548 (by decide +kernel) (by decide +kernel)
theorem k_549 : Cond.instanceMethod ⟨"SceneEasel", "unkey", "(II)V"⟩ ∈ gw := gw_i 549 (by decide +kernel) (by decide +kernel)
theorem k_550 : Cond.selects "SceneEasel" ⟨"SceneEasel", "unkey", "(II)V"⟩ ⟨"SceneEasel", "unkey", "(II)V"⟩ ∈ gw := gw_i 550 (by decide +kernel) (by decide +kernel)
theorem k_551 : Cond.code ⟨"SceneEasel", "unkey", "(II)V"⟩ prog_1_method_9_code 5 (Option.none : Option FieldType) ∈ gw := gw_i 551 (by decide +kernel) (by decide +kernel)
theorem k_552 : Cond.classLink "SceneEasel" 124 "java/util/NoSuchElementException" ∈ gw := gw_i 552 (by decide +kernel) (by decide +kernel)
theorem k_553 : Cond.instantiable "java/util/NoSuchElementException" 6 ∈ gw := gw_i 553 (by decide +kernel) (by decide +kernel)
theorem k_555 : Cond.selects "java/util/NoSuchElementException" ⟨"java/lang/Throwable", "fillInStackTrace", "(I)Ljava/lang/Throwable;"⟩ ⟨"java/lang/Throwable", "fillInStackTrace", "(I)Ljava/lang/Throwable;"⟩ ∈ gw := gw_i 555 (by decide +kernel) (by decide +kernel)
theorem k_562 : Cond.methodLink "SceneEasel" 128 ⟨"java/util/NoSuchElementException", "<init>", "(Ljava/lang/String;)V"⟩ ∈ gw := gw_i 562 (by decide +kernel) (by decide +kernel)
theorem k_563 : Cond.instanceMethod ⟨"java/util/NoSuchElementException", "<init>", "(Ljava/lang/String;)V"⟩ ∈ gw := gw_i 563 (by decide +kernel) (by decide +kernel)
theorem k_564 : Cond.code ⟨"java/util/NoSuchElementException", "<init>", "(Ljava/lang/String;)V"⟩ prog_24_method_4_code 2 (Option.none : Option FieldType) ∈ gw := gw_i 564 (by decide +kernel) (by decide +kernel)
theorem k_565 : Cond.methodLink "java/util/NoSuchElementException" 13 ⟨"java/lang/RuntimeException", "<init>", "(Ljava/lang/String;)V"⟩ ∈ gw := gw_i 565 (by decide +kernel) (by decide +kernel)
theorem k_568 : Cond.methodLink "SceneEaselLaw" 115 ⟨"SceneEaselLaw", "into", "(LSceneEasel;II)I"⟩ ∈ gw := gw_i 568 (by decide +kernel) (by decide +kernel)
theorem k_569 : Cond.static ⟨"SceneEaselLaw", "into", "(LSceneEasel;II)I"⟩ ∈ gw := gw_i 569 (by decide +kernel) (by decide +kernel)
theorem k_571 : Cond.methodLink "SceneEaselLaw" 46 ⟨"SceneEasel", "into", "(II)V"⟩ ∈ gw := gw_i 571 (by decide +kernel) (by decide +kernel)
theorem k_572 : Cond.instanceMethod ⟨"SceneEasel", "into", "(II)V"⟩ ∈ gw := gw_i 572 (by decide +kernel) (by decide +kernel)
theorem k_573 : Cond.selects "SceneEasel" ⟨"SceneEasel", "into", "(II)V"⟩ ⟨"SceneEasel", "into", "(II)V"⟩ ∈ gw := gw_i 573 (by decide +kernel) (by decide +kernel)
theorem k_574 : Cond.code ⟨"SceneEasel", "into", "(II)V"⟩ prog_1_method_10_code 5 (Option.none : Option FieldType) ∈ gw := gw_i 574 (by decide +kernel) (by decide +kernel)
theorem k_576 : Cond.methodLink "SceneEasel" 135 ⟨"SceneEasel", "levelsOf", "(LSceneEasel$Node;)I"⟩ ∈ gw := gw_i 576 (by decide +kernel) (by decide +kernel)
theorem k_578 : Cond.instanceMethod ⟨"SceneEasel", "levelsOf", "(LSceneEasel$Node;)I"⟩ ∈ gw := gw_i 578 (by decide +kernel) (by decide +kernel)
theorem k_579 : Cond.code ⟨"SceneEasel", "levelsOf", "(LSceneEasel$Node;)I"⟩ prog_1_method_33_code 2 (Option.some FieldType.int) ∈ gw := gw_i 579 (by decide +kernel) (by decide +kernel)
theorem k_582 : Cond.instanceMethod ⟨"SceneEasel$Node", "unhang", "()V"⟩ ∈ gw := gw_i 582 (by decide +kernel) (by decide +kernel)
theorem k_583 : Cond.code ⟨"SceneEasel$Node", "unhang", "()V"⟩ prog_3_method_3_code 2 (Option.none : Option FieldType) ∈ gw := gw_i 583 (by decide +kernel) (by decide +kernel)
theorem k_584 : Cond.methodLink "SceneEasel$Node" 60 ⟨"SceneEasel$Node", "rank", "()I"⟩ ∈ gw := gw_i 584 (by decide +kernel) (by decide +kernel)
theorem k_586 : Cond.instanceMethod ⟨"SceneEasel$Node", "rank", "()I"⟩ ∈ gw := gw_i 586 (by decide +kernel) (by decide +kernel)
theorem k_587 : Cond.code ⟨"SceneEasel$Node", "rank", "()I"⟩ prog_3_method_4_code 2 (Option.some FieldType.int) ∈ gw := gw_i 587 (by decide +kernel) (by decide +kernel)
theorem k_588 : Cond.methodLink "SceneEasel$Node" 64 ⟨"java/util/ArrayList", "size", "()I"⟩ ∈ gw := gw_i 588 (by decide +kernel) (by decide +kernel)
theorem k_589 : Cond.instanceMethod ⟨"java/util/ArrayList", "size", "()I"⟩ ∈ gw := gw_i 589 (by decide +kernel) (by decide +kernel)
theorem k_590 : Cond.selects "java/util/ArrayList" ⟨"java/util/ArrayList", "size", "()I"⟩ ⟨"java/util/ArrayList", "size", "()I"⟩ ∈ gw := gw_i 590 (by decide +kernel) (by decide +kernel)
theorem k_591 : Cond.code ⟨"java/util/ArrayList", "size", "()I"⟩ prog_20_method_8_code 1 (Option.some FieldType.int) ∈ gw := gw_i 591 (by decide +kernel) (by decide +kernel)
theorem k_592 : Cond.methodLink "SceneEasel$Node" 71 ⟨"java/util/ArrayList", "get", "(I)Ljava/lang/Object;"⟩ ∈ gw := gw_i 592 (by decide +kernel) (by decide +kernel)
theorem k_593 : Cond.instanceMethod ⟨"java/util/ArrayList", "get", "(I)Ljava/lang/Object;"⟩ ∈ gw := gw_i 593 (by decide +kernel) (by decide +kernel)
theorem k_594 : Cond.selects "java/util/ArrayList" ⟨"java/util/ArrayList", "get", "(I)Ljava/lang/Object;"⟩ ⟨"java/util/ArrayList", "get", "(I)Ljava/lang/Object;"⟩ ∈ gw := gw_i 594 (by decide +kernel) (by decide +kernel)
theorem k_595 : Cond.code ⟨"java/util/ArrayList", "get", "(I)Ljava/lang/Object;"⟩ prog_20_method_20_code 2 (Option.some (FieldType.object "java/lang/Object")) ∈ gw := gw_i 595 (by decide +kernel) (by decide +kernel)
theorem k_596 : Cond.methodLink "java/util/ArrayList" 118 ⟨"java/util/Objects", "checkIndex", "(II)I"⟩ ∈ gw := gw_i 596 (by decide +kernel) (by decide +kernel)
theorem k_597 : Cond.static ⟨"java/util/Objects", "checkIndex", "(II)I"⟩ ∈ gw := gw_i 597 (by decide +kernel) (by decide +kernel)
theorem k_598 : Cond.code ⟨"java/util/Objects", "checkIndex", "(II)I"⟩ prog_25_method_17_code 2 (Option.some FieldType.int) ∈ gw := gw_i 598 (by decide +kernel) (by decide +kernel)
theorem k_599 : Cond.methodLink "java/util/Objects" 105 ⟨"jdk/internal/util/Preconditions", "checkIndex", "(IILjava/util/function/BiFunction;)I"⟩ ∈ gw := gw_i 599 (by decide +kernel) (by decide +kernel)
theorem k_600 : Cond.static ⟨"jdk/internal/util/Preconditions", "checkIndex", "(IILjava/util/function/BiFunction;)I"⟩ ∈ gw := gw_i 600 (by decide +kernel) (by decide +kernel)
theorem k_601 : Cond.code ⟨"jdk/internal/util/Preconditions", "checkIndex", "(IILjava/util/function/BiFunction;)I"⟩ prog_29_method_11_code 3 (Option.some FieldType.int) ∈ gw := gw_i 601 (by decide +kernel) (by decide +kernel)
theorem k_602 : Cond.methodLink "java/util/ArrayList" 123 ⟨"java/util/ArrayList", "elementData", "(I)Ljava/lang/Object;"⟩ ∈ gw := gw_i 602 (by decide +kernel) (by decide +kernel)
theorem k_603 : Cond.instanceMethod ⟨"java/util/ArrayList", "elementData", "(I)Ljava/lang/Object;"⟩ ∈ gw := gw_i 603 (by decide +kernel) (by decide +kernel)
theorem k_604 : Cond.selects "java/util/ArrayList" ⟨"java/util/ArrayList", "elementData", "(I)Ljava/lang/Object;"⟩ ⟨"java/util/ArrayList", "elementData", "(I)Ljava/lang/Object;"⟩ ∈ gw := gw_i 604 (by decide +kernel) (by decide +kernel)
theorem k_605 : Cond.code ⟨"java/util/ArrayList", "elementData", "(I)Ljava/lang/Object;"⟩ prog_20_method_18_code 2 (Option.some (FieldType.object "java/lang/Object")) ∈ gw := gw_i 605 (by decide +kernel) (by decide +kernel)
theorem k_606 : Cond.methodLink "SceneEasel$Node" 67 ⟨"java/util/ArrayList", "remove", "(I)Ljava/lang/Object;"⟩ ∈ gw := gw_i 606 (by decide +kernel) (by decide +kernel)
theorem k_607 : Cond.instanceMethod ⟨"java/util/ArrayList", "remove", "(I)Ljava/lang/Object;"⟩ ∈ gw := gw_i 607 (by decide +kernel) (by decide +kernel)
theorem k_608 : Cond.selects "java/util/ArrayList" ⟨"java/util/ArrayList", "remove", "(I)Ljava/lang/Object;"⟩ ⟨"java/util/ArrayList", "remove", "(I)Ljava/lang/Object;"⟩ ∈ gw := gw_i 608 (by decide +kernel) (by decide +kernel)
theorem k_609 : Cond.code ⟨"java/util/ArrayList", "remove", "(I)Ljava/lang/Object;"⟩ prog_20_method_29_code 4 (Option.some (FieldType.object "java/lang/Object")) ∈ gw := gw_i 609 (by decide +kernel) (by decide +kernel)
theorem k_610 : Cond.methodLink "java/util/ArrayList" 144 ⟨"java/util/ArrayList", "fastRemove", "([Ljava/lang/Object;I)V"⟩ ∈ gw := gw_i 610 (by decide +kernel) (by decide +kernel)
theorem k_612 : Cond.instanceMethod ⟨"java/util/ArrayList", "fastRemove", "([Ljava/lang/Object;I)V"⟩ ∈ gw := gw_i 612 (by decide +kernel) (by decide +kernel)
theorem k_613 : Cond.code ⟨"java/util/ArrayList", "fastRemove", "([Ljava/lang/Object;I)V"⟩ prog_20_method_39_code 4 (Option.none : Option FieldType) ∈ gw := gw_i 613 (by decide +kernel) (by decide +kernel)
theorem k_614 : Cond.methodLink "java/util/ArrayList" 112 ⟨"java/lang/System", "arraycopy", "(Ljava/lang/Object;ILjava/lang/Object;II)V"⟩ ∈ gw := gw_i 614 (by decide +kernel) (by decide +kernel)
theorem k_615 : Cond.methodLink "SceneEaselLaw" 118 ⟨"SceneEaselLaw", "remove", "(LSceneEasel;I[J)I"⟩ ∈ gw := gw_i 615 (by decide +kernel) (by decide +kernel)
theorem k_616 : Cond.static ⟨"SceneEaselLaw", "remove", "(LSceneEasel;I[J)I"⟩ ∈ gw := gw_i 616 (by decide +kernel) (by decide +kernel)
theorem k_618 : Cond.methodLink "SceneEaselLaw" 49 ⟨"SceneEasel", "remove", "(I)I"⟩ ∈ gw := gw_i 618 (by decide +kernel) (by decide +kernel)
theorem k_619 : Cond.instanceMethod ⟨"SceneEasel", "remove", "(I)I"⟩ ∈ gw := gw_i 619 (by decide +kernel) (by decide +kernel)
theorem k_620 : Cond.selects "SceneEasel" ⟨"SceneEasel", "remove", "(I)I"⟩ ⟨"SceneEasel", "remove", "(I)I"⟩ ∈ gw := gw_i 620 (by decide +kernel) (by decide +kernel)
theorem k_621 : Cond.code ⟨"SceneEasel", "remove", "(I)I"⟩ prog_1_method_11_code 5 (Option.some FieldType.int) ∈ gw := gw_i 621 (by decide +kernel) (by decide +kernel)
theorem k_622 : Cond.methodLink "SceneEaselLaw" 122 ⟨"SceneEaselLaw", "paint", "(LSceneEasel;D[J)I"⟩ ∈ gw := gw_i 622 (by decide +kernel) (by decide +kernel)
theorem k_623 : Cond.static ⟨"SceneEaselLaw", "paint", "(LSceneEasel;D[J)I"⟩ ∈ gw := gw_i 623 (by decide +kernel) (by decide +kernel)
theorem k_625 : Cond.methodLink "SceneEaselLaw" 53 ⟨"SceneEasel", "paint", "(D)I"⟩ ∈ gw := gw_i 625 (by decide +kernel) (by decide +kernel)
theorem k_626 : Cond.instanceMethod ⟨"SceneEasel", "paint", "(D)I"⟩ ∈ gw := gw_i 626 (by decide +kernel) (by decide +kernel)
theorem k_627 : Cond.selects "SceneEasel" ⟨"SceneEasel", "paint", "(D)I"⟩ ⟨"SceneEasel", "paint", "(D)I"⟩ ∈ gw := gw_i 627 (by decide +kernel) (by decide +kernel)
theorem k_628 : Cond.code ⟨"SceneEasel", "paint", "(D)I"⟩ prog_1_method_12_code 7 (Option.some FieldType.int) ∈ gw := gw_i 628 (by decide +kernel) (by decide +kernel)
theorem k_629 : Cond.methodLink "SceneEasel" 142 ⟨"SceneEasel", "settle", "(D)V"⟩ ∈ gw := gw_i 629 (by decide +kernel) (by decide +kernel)
theorem k_631 : Cond.instanceMethod ⟨"SceneEasel", "settle", "(D)V"⟩ ∈ gw := gw_i 631 (by decide +kernel) (by decide +kernel)
theorem k_632 : Cond.code ⟨"SceneEasel", "settle", "(D)V"⟩ prog_1_method_34_code 4 (Option.none : Option FieldType) ∈ gw := gw_i 632 (by decide +kernel) (by decide +kernel)
theorem k_635 : Cond.instanceMethod ⟨"SceneEasel$Node", "settleAt", "(D)V"⟩ ∈ gw := gw_i 635 (by decide +kernel) (by decide +kernel)
theorem k_636 : Cond.code ⟨"SceneEasel$Node", "settleAt", "(D)V"⟩ prog_3_method_8_code 3 (Option.none : Option FieldType) ∈ gw := gw_i 636 (by decide +kernel) (by decide +kernel)
theorem k_639 : Cond.instanceMethod ⟨"SceneEasel$Track", "gliding", "(DD)D"⟩ ∈ gw := gw_i 639 (by decide +kernel) (by decide +kernel)
theorem k_640 : Cond.code ⟨"SceneEasel$Track", "gliding", "(DD)D"⟩ prog_4_method_6_code 8 (Option.some FieldType.double) ∈ gw := gw_i 640 (by decide +kernel) (by decide +kernel)
theorem k_641 : Cond.methodLink "SceneEasel$Track" 26 ⟨"SceneEasel$Track", "frameFor", "(D)I"⟩ ∈ gw := gw_i 641 (by decide +kernel) (by decide +kernel)
theorem k_643 : Cond.instanceMethod ⟨"SceneEasel$Track", "frameFor", "(D)I"⟩ ∈ gw := gw_i 643 (by decide +kernel) (by decide +kernel)
theorem k_644 : Cond.code ⟨"SceneEasel$Track", "frameFor", "(D)I"⟩ prog_4_method_4_code 5 (Option.some FieldType.int) ∈ gw := gw_i 644 (by decide +kernel) (by decide +kernel)
theorem k_646 : Cond.static ⟨"SceneEasel", "rounded", "(D)D"⟩ ∈ gw := gw_i 646 (by decide +kernel) (by decide +kernel)
theorem k_647 : Cond.code ⟨"SceneEasel", "rounded", "(D)D"⟩ prog_1_method_36_code 2 (Option.some FieldType.double) ∈ gw := gw_i 647 (by decide +kernel) (by decide +kernel)
theorem k_648 : Cond.constantDouble "SceneEasel" 259 (4634204016564240384 : UInt64) ∈ gw := gw_i 648 (by decide +kernel) (by decide +kernel)
theorem k_649 : Cond.methodLink "SceneEasel" 261 ⟨"SceneEasel", "floorOf", "(D)D"⟩ ∈ gw := gw_i 649 (by decide +kernel) (by decide +kernel)
theorem k_650 : Cond.static ⟨"SceneEasel", "floorOf", "(D)D"⟩ ∈ gw := gw_i 650 (by decide +kernel) (by decide +kernel)
theorem k_651 : Cond.code ⟨"SceneEasel", "floorOf", "(D)D"⟩ prog_1_method_35_code 4 (Option.some FieldType.double) ∈ gw := gw_i 651 (by decide +kernel) (by decide +kernel)
theorem k_654 : Cond.instanceMethod ⟨"SceneEasel$Track", "jumping", "(DD)D"⟩ ∈ gw := gw_i 654 (by decide +kernel) (by decide +kernel)
theorem k_655 : Cond.code ⟨"SceneEasel$Track", "jumping", "(DD)D"⟩ prog_4_method_5_code 5 (Option.some FieldType.double) ∈ gw := gw_i 655 (by decide +kernel) (by decide +kernel)
theorem k_656 : Cond.constantDouble "SceneEasel" 145 (4602678819172646912 : UInt64) ∈ gw := gw_i 656 (by decide +kernel) (by decide +kernel)
theorem k_659 : Cond.instanceMethod ⟨"SceneEasel$Node", "topInside", "(DD)LSceneEasel$Node;"⟩ ∈ gw := gw_i 659 (by decide +kernel) (by decide +kernel)
theorem k_660 : Cond.code ⟨"SceneEasel$Node", "topInside", "(DD)LSceneEasel$Node;"⟩ prog_3_method_10_code 12 (Option.some (FieldType.object "SceneEasel$Node")) ∈ gw := gw_i 660 (by decide +kernel) (by decide +kernel)
theorem k_661 : Cond.methodLink "SceneEasel$Node" 126 ⟨"SceneEasel$Node", "inTile", "(D)D"⟩ ∈ gw := gw_i 661 (by decide +kernel) (by decide +kernel)
theorem k_663 : Cond.instanceMethod ⟨"SceneEasel$Node", "inTile", "(D)D"⟩ ∈ gw := gw_i 663 (by decide +kernel) (by decide +kernel)
theorem k_664 : Cond.code ⟨"SceneEasel$Node", "inTile", "(D)D"⟩ prog_3_method_12_code 3 (Option.some FieldType.double) ∈ gw := gw_i 664 (by decide +kernel) (by decide +kernel)
theorem k_666 : Cond.methodLink "SceneEasel$Node" 130 ⟨"SceneEasel$Node", "firstHas", "(DD)Z"⟩ ∈ gw := gw_i 666 (by decide +kernel) (by decide +kernel)
theorem k_668 : Cond.instanceMethod ⟨"SceneEasel$Node", "firstHas", "(DD)Z"⟩ ∈ gw := gw_i 668 (by decide +kernel) (by decide +kernel)
theorem k_669 : Cond.code ⟨"SceneEasel$Node", "firstHas", "(DD)Z"⟩ prog_3_method_11_code 5 (Option.some FieldType.boolean) ∈ gw := gw_i 669 (by decide +kernel) (by decide +kernel)
theorem k_670 : Cond.methodLink "SceneEasel$Node" 136 ⟨"java/util/ArrayList", "isEmpty", "()Z"⟩ ∈ gw := gw_i 670 (by decide +kernel) (by decide +kernel)
theorem k_671 : Cond.instanceMethod ⟨"java/util/ArrayList", "isEmpty", "()Z"⟩ ∈ gw := gw_i 671 (by decide +kernel) (by decide +kernel)
theorem k_672 : Cond.selects "java/util/ArrayList" ⟨"java/util/ArrayList", "isEmpty", "()Z"⟩ ⟨"java/util/ArrayList", "isEmpty", "()Z"⟩ ∈ gw := gw_i 672 (by decide +kernel) (by decide +kernel)
theorem k_673 : Cond.code ⟨"java/util/ArrayList", "isEmpty", "()Z"⟩ prog_20_method_9_code 1 (Option.some FieldType.boolean) ∈ gw := gw_i 673 (by decide +kernel) (by decide +kernel)
theorem k_674 : Cond.classLink "SceneEasel$Node" 13 "SceneEasel$Node" ∈ gw := gw_i 674 (by decide +kernel) (by decide +kernel)
theorem k_675 : Cond.methodLink "SceneEasel$Node" 133 ⟨"SceneEasel$Node", "topAt", "(DD)LSceneEasel$Node;"⟩ ∈ gw := gw_i 675 (by decide +kernel) (by decide +kernel)
theorem k_677 : Cond.instanceMethod ⟨"SceneEasel$Node", "topAt", "(DD)LSceneEasel$Node;"⟩ ∈ gw := gw_i 677 (by decide +kernel) (by decide +kernel)
theorem k_678 : Cond.code ⟨"SceneEasel$Node", "topAt", "(DD)LSceneEasel$Node;"⟩ prog_3_method_9_code 12 (Option.some (FieldType.object "SceneEasel$Node")) ∈ gw := gw_i 678 (by decide +kernel) (by decide +kernel)
theorem k_680 : Cond.static ⟨"SceneEasel", "powerOfTwo", "(I)D"⟩ ∈ gw := gw_i 680 (by decide +kernel) (by decide +kernel)
theorem k_681 : Cond.code ⟨"SceneEasel", "powerOfTwo", "(I)D"⟩ prog_1_method_37_code 4 (Option.some FieldType.double) ∈ gw := gw_i 681 (by decide +kernel) (by decide +kernel)
theorem k_682 : Cond.methodLink "SceneEasel$Node" 115 ⟨"SceneEasel$Node", "topInside", "(DD)LSceneEasel$Node;"⟩ ∈ gw := gw_i 682 (by decide +kernel) (by decide +kernel)
theorem k_683 : Cond.methodLink "SceneEasel$Node" 119 ⟨"SceneEasel$Node", "covers", "(DD)Z"⟩ ∈ gw := gw_i 683 (by decide +kernel) (by decide +kernel)
theorem k_685 : Cond.instanceMethod ⟨"SceneEasel$Node", "covers", "(DD)Z"⟩ ∈ gw := gw_i 685 (by decide +kernel) (by decide +kernel)
theorem k_686 : Cond.code ⟨"SceneEasel$Node", "covers", "(DD)Z"⟩ prog_3_method_13_code 5 (Option.some FieldType.boolean) ∈ gw := gw_i 686 (by decide +kernel) (by decide +kernel)
theorem k_687 : Cond.methodLink "SceneEaselLaw" 126 ⟨"SceneEaselLaw", "cell", "(LSceneEasel;II[J)I"⟩ ∈ gw := gw_i 687 (by decide +kernel) (by decide +kernel)
theorem k_688 : Cond.static ⟨"SceneEaselLaw", "cell", "(LSceneEasel;II[J)I"⟩ ∈ gw := gw_i 688 (by decide +kernel) (by decide +kernel)
theorem k_690 : Cond.methodLink "SceneEaselLaw" 57 ⟨"SceneEasel", "cell", "(II)I"⟩ ∈ gw := gw_i 690 (by decide +kernel) (by decide +kernel)
theorem k_691 : Cond.instanceMethod ⟨"SceneEasel", "cell", "(II)I"⟩ ∈ gw := gw_i 691 (by decide +kernel) (by decide +kernel)
theorem k_692 : Cond.selects "SceneEasel" ⟨"SceneEasel", "cell", "(II)I"⟩ ⟨"SceneEasel", "cell", "(II)I"⟩ ∈ gw := gw_i 692 (by decide +kernel) (by decide +kernel)
theorem k_693 : Cond.code ⟨"SceneEasel", "cell", "(II)I"⟩ prog_1_method_13_code 3 (Option.some FieldType.int) ∈ gw := gw_i 693 (by decide +kernel) (by decide +kernel)
theorem k_694 : Cond.methodLink "SceneEaselLaw" 130 ⟨"SceneEaselLaw", "top", "(LSceneEasel;DDD[J)I"⟩ ∈ gw := gw_i 694 (by decide +kernel) (by decide +kernel)
theorem k_695 : Cond.static ⟨"SceneEaselLaw", "top", "(LSceneEasel;DDD[J)I"⟩ ∈ gw := gw_i 695 (by decide +kernel) (by decide +kernel)
theorem k_697 : Cond.methodLink "SceneEaselLaw" 61 ⟨"SceneEasel", "top", "(DDD)I"⟩ ∈ gw := gw_i 697 (by decide +kernel) (by decide +kernel)
theorem k_698 : Cond.instanceMethod ⟨"SceneEasel", "top", "(DDD)I"⟩ ∈ gw := gw_i 698 (by decide +kernel) (by decide +kernel)
theorem k_699 : Cond.selects "SceneEasel" ⟨"SceneEasel", "top", "(DDD)I"⟩ ⟨"SceneEasel", "top", "(DDD)I"⟩ ∈ gw := gw_i 699 (by decide +kernel) (by decide +kernel)
theorem k_700 : Cond.code ⟨"SceneEasel", "top", "(DDD)I"⟩ prog_1_method_14_code 8 (Option.some FieldType.int) ∈ gw := gw_i 700 (by decide +kernel) (by decide +kernel)
theorem k_701 : Cond.constantDouble "SceneEasel" 157 (13875379345695965184 : UInt64) ∈ gw := gw_i 701 (by decide +kernel) (by decide +kernel)
theorem k_703 : Cond.methodLink "SceneEaselLaw" 134 ⟨"SceneEaselLaw", "around", "(LSceneEasel;IID[D)I"⟩ ∈ gw := gw_i 703 (by decide +kernel) (by decide +kernel)
theorem k_704 : Cond.static ⟨"SceneEaselLaw", "around", "(LSceneEasel;IID[D)I"⟩ ∈ gw := gw_i 704 (by decide +kernel) (by decide +kernel)
theorem k_706 : Cond.methodLink "SceneEaselLaw" 65 ⟨"SceneEasel", "around", "(IID)D"⟩ ∈ gw := gw_i 706 (by decide +kernel) (by decide +kernel)
theorem k_707 : Cond.instanceMethod ⟨"SceneEasel", "around", "(IID)D"⟩ ∈ gw := gw_i 707 (by decide +kernel) (by decide +kernel)
theorem k_708 : Cond.selects "SceneEasel" ⟨"SceneEasel", "around", "(IID)D"⟩ ⟨"SceneEasel", "around", "(IID)D"⟩ ∈ gw := gw_i 708 (by decide +kernel) (by decide +kernel)
theorem k_709 : Cond.code ⟨"SceneEasel", "around", "(IID)D"⟩ prog_1_method_15_code 6 (Option.some FieldType.double) ∈ gw := gw_i 709 (by decide +kernel) (by decide +kernel)
theorem k_712 : Cond.instanceMethod ⟨"SceneEasel$Node", "measureInside", "()V"⟩ ∈ gw := gw_i 712 (by decide +kernel) (by decide +kernel)
theorem k_713 : Cond.code ⟨"SceneEasel$Node", "measureInside", "()V"⟩ prog_3_method_15_code 3 (Option.none : Option FieldType) ∈ gw := gw_i 713 (by decide +kernel) (by decide +kernel)
theorem k_716 : Cond.instanceMethod ⟨"SceneEasel$Extent", "clear", "()V"⟩ ∈ gw := gw_i 716 (by decide +kernel) (by decide +kernel)
theorem k_717 : Cond.code ⟨"SceneEasel$Extent", "clear", "()V"⟩ prog_2_method_2_code 1 (Option.none : Option FieldType) ∈ gw := gw_i 717 (by decide +kernel) (by decide +kernel)
theorem k_718 : Cond.methodLink "SceneEasel$Node" 159 ⟨"SceneEasel$Node", "measure", "()V"⟩ ∈ gw := gw_i 718 (by decide +kernel) (by decide +kernel)
theorem k_720 : Cond.instanceMethod ⟨"SceneEasel$Node", "measure", "()V"⟩ ∈ gw := gw_i 720 (by decide +kernel) (by decide +kernel)
theorem k_721 : Cond.code ⟨"SceneEasel$Node", "measure", "()V"⟩ prog_3_method_14_code 1 (Option.none : Option FieldType) ∈ gw := gw_i 721 (by decide +kernel) (by decide +kernel)
theorem k_722 : Cond.methodLink "SceneEasel$Node" 143 ⟨"SceneEasel$Node", "measureInside", "()V"⟩ ∈ gw := gw_i 722 (by decide +kernel) (by decide +kernel)
theorem k_725 : Cond.instanceMethod ⟨"SceneEasel$Extent", "span", "(DDDD)V"⟩ ∈ gw := gw_i 725 (by decide +kernel) (by decide +kernel)
theorem k_726 : Cond.code ⟨"SceneEasel$Extent", "span", "(DDDD)V"⟩ prog_2_method_3_code 9 (Option.none : Option FieldType) ∈ gw := gw_i 726 (by decide +kernel) (by decide +kernel)
theorem k_727 : Cond.methodLink "SceneEasel$Node" 153 ⟨"SceneEasel$Node", "layOutExtent", "()V"⟩ ∈ gw := gw_i 727 (by decide +kernel) (by decide +kernel)
theorem k_729 : Cond.instanceMethod ⟨"SceneEasel$Node", "layOutExtent", "()V"⟩ ∈ gw := gw_i 729 (by decide +kernel) (by decide +kernel)
theorem k_730 : Cond.code ⟨"SceneEasel$Node", "layOutExtent", "()V"⟩ prog_3_method_16_code 2 (Option.none : Option FieldType) ∈ gw := gw_i 730 (by decide +kernel) (by decide +kernel)
theorem k_733 : Cond.instanceMethod ⟨"SceneEasel$Extent", "scale", "(D)V"⟩ ∈ gw := gw_i 733 (by decide +kernel) (by decide +kernel)
theorem k_734 : Cond.code ⟨"SceneEasel$Extent", "scale", "(D)V"⟩ prog_2_method_5_code 3 (Option.none : Option FieldType) ∈ gw := gw_i 734 (by decide +kernel) (by decide +kernel)
theorem k_735 : Cond.methodLink "SceneEasel$Extent" 26 ⟨"SceneEasel$Extent", "span", "(DDDD)V"⟩ ∈ gw := gw_i 735 (by decide +kernel) (by decide +kernel)
theorem k_738 : Cond.instanceMethod ⟨"SceneEasel$Extent", "turnOnce", "()V"⟩ ∈ gw := gw_i 738 (by decide +kernel) (by decide +kernel)
theorem k_739 : Cond.code ⟨"SceneEasel$Extent", "turnOnce", "()V"⟩ prog_2_method_6_code 1 (Option.none : Option FieldType) ∈ gw := gw_i 739 (by decide +kernel) (by decide +kernel)
theorem k_742 : Cond.instanceMethod ⟨"SceneEasel$Extent", "shift", "(DD)V"⟩ ∈ gw := gw_i 742 (by decide +kernel) (by decide +kernel)
theorem k_743 : Cond.code ⟨"SceneEasel$Extent", "shift", "(DD)V"⟩ prog_2_method_7_code 5 (Option.none : Option FieldType) ∈ gw := gw_i 743 (by decide +kernel) (by decide +kernel)
theorem k_746 : Cond.instanceMethod ⟨"SceneEasel$Extent", "join", "(LSceneEasel$Extent;)V"⟩ ∈ gw := gw_i 746 (by decide +kernel) (by decide +kernel)
theorem k_747 : Cond.code ⟨"SceneEasel$Extent", "join", "(LSceneEasel$Extent;)V"⟩ prog_2_method_4_code 2 (Option.none : Option FieldType) ∈ gw := gw_i 747 (by decide +kernel) (by decide +kernel)
theorem k_752 : Cond.instanceMethod ⟨"SceneEasel$Extent", "side", "(I)D"⟩ ∈ gw := gw_i 752 (by decide +kernel) (by decide +kernel)
theorem k_753 : Cond.code ⟨"SceneEasel$Extent", "side", "(I)D"⟩ prog_2_method_8_code 4 (Option.some FieldType.double) ∈ gw := gw_i 753 (by decide +kernel) (by decide +kernel)
theorem k_754 : Cond.methodLink "SceneEaselLaw" 138 ⟨"SceneEaselLaw", "told", "(LSceneEasel;II[J)I"⟩ ∈ gw := gw_i 754 (by decide +kernel) (by decide +kernel)
theorem k_755 : Cond.static ⟨"SceneEaselLaw", "told", "(LSceneEasel;II[J)I"⟩ ∈ gw := gw_i 755 (by decide +kernel) (by decide +kernel)
theorem k_757 : Cond.methodLink "SceneEaselLaw" 69 ⟨"SceneEasel", "told", "(II)I"⟩ ∈ gw := gw_i 757 (by decide +kernel) (by decide +kernel)
theorem k_758 : Cond.instanceMethod ⟨"SceneEasel", "told", "(II)I"⟩ ∈ gw := gw_i 758 (by decide +kernel) (by decide +kernel)
theorem k_759 : Cond.selects "SceneEasel" ⟨"SceneEasel", "told", "(II)I"⟩ ⟨"SceneEasel", "told", "(II)I"⟩ ∈ gw := gw_i 759 (by decide +kernel) (by decide +kernel)
theorem k_760 : Cond.code ⟨"SceneEasel", "told", "(II)I"⟩ prog_1_method_16_code 4 (Option.some FieldType.int) ∈ gw := gw_i 760 (by decide +kernel) (by decide +kernel)
theorem k_761 : Cond.methodLink "SceneEasel" 200 ⟨"java/util/ArrayList", "size", "()I"⟩ ∈ gw := gw_i 761 (by decide +kernel) (by decide +kernel)
theorem k_763 : Cond.classLink "SceneEaselLaw" 73 "SceneEaselModel" ∈ gw := gw_i 763 (by decide +kernel) (by decide +kernel)
theorem k_764 : Cond.instantiable "SceneEaselModel" 28 ∈ gw := gw_i 764 (by decide +kernel) (by decide +kernel)
theorem k_765 : Cond.methodLink "SceneEaselLaw" 75 ⟨"SceneEaselModel", "<init>", "()V"⟩ ∈ gw := gw_i 765 (by decide +kernel) (by decide +kernel)
theorem k_766 : Cond.instanceMethod ⟨"SceneEaselModel", "<init>", "()V"⟩ ∈ gw := gw_i 766 (by decide +kernel) (by decide +kernel)
theorem k_767 : Cond.code ⟨"SceneEaselModel", "<init>", "()V"⟩ prog_6_method_1_code 1 (Option.none : Option FieldType) ∈ gw := gw_i 767 (by decide +kernel) (by decide +kernel)
theorem k_768 : Cond.methodLink "SceneEaselModel" 1 ⟨"java/lang/Object", "<init>", "()V"⟩ ∈ gw := gw_i 768 (by decide +kernel) (by decide +kernel)
theorem k_769 : Cond.methodLink "SceneEaselModel" 87 ⟨"SceneEaselModel", "sortNodes", "()V"⟩ ∈ gw := gw_i 769 (by decide +kernel) (by decide +kernel)
theorem k_771 : Cond.instanceMethod ⟨"SceneEaselModel", "sortNodes", "()V"⟩ ∈ gw := gw_i 771 (by decide +kernel) (by decide +kernel)
theorem k_772 : Cond.code ⟨"SceneEaselModel", "sortNodes", "()V"⟩ prog_6_method_9_code 5 (Option.none : Option FieldType) ∈ gw := gw_i 772 (by decide +kernel) (by decide +kernel)
theorem k_773 : Cond.fieldLink "SceneEaselModel" 7 "SceneEaselModel" "there" "[Z" ∈ gw := gw_i 773 (by decide +kernel) (by decide +kernel)
theorem k_774 : Cond.fieldLink "SceneEaselModel" 13 "SceneEaselModel" "hidden" "[Z" ∈ gw := gw_i 774 (by decide +kernel) (by decide +kernel)
theorem k_775 : Cond.fieldLink "SceneEaselModel" 16 "SceneEaselModel" "has" "[Z" ∈ gw := gw_i 775 (by decide +kernel) (by decide +kernel)
theorem k_776 : Cond.fieldLink "SceneEaselModel" 19 "SceneEaselModel" "boxed" "[Z" ∈ gw := gw_i 776 (by decide +kernel) (by decide +kernel)
theorem k_777 : Cond.fieldLink "SceneEaselModel" 22 "SceneEaselModel" "kind" "[I" ∈ gw := gw_i 777 (by decide +kernel) (by decide +kernel)
theorem k_778 : Cond.fieldLink "SceneEaselModel" 26 "SceneEaselModel" "mode" "[I" ∈ gw := gw_i 778 (by decide +kernel) (by decide +kernel)
theorem k_779 : Cond.fieldLink "SceneEaselModel" 29 "SceneEaselModel" "parent" "[I" ∈ gw := gw_i 779 (by decide +kernel) (by decide +kernel)
theorem k_780 : Cond.fieldLink "SceneEaselModel" 32 "SceneEaselModel" "count" "[I" ∈ gw := gw_i 780 (by decide +kernel) (by decide +kernel)
theorem k_781 : Cond.fieldLink "SceneEaselModel" 35 "SceneEaselModel" "child" "[I" ∈ gw := gw_i 781 (by decide +kernel) (by decide +kernel)
theorem k_782 : Cond.fieldLink "SceneEaselModel" 38 "SceneEaselModel" "turn" "[I" ∈ gw := gw_i 782 (by decide +kernel) (by decide +kernel)
theorem k_783 : Cond.fieldLink "SceneEaselModel" 41 "SceneEaselModel" "keys" "[I" ∈ gw := gw_i 783 (by decide +kernel) (by decide +kernel)
theorem k_784 : Cond.fieldLink "SceneEaselModel" 44 "SceneEaselModel" "order" "[I" ∈ gw := gw_i 784 (by decide +kernel) (by decide +kernel)
theorem k_785 : Cond.fieldLink "SceneEaselModel" 47 "SceneEaselModel" "top" "[I" ∈ gw := gw_i 785 (by decide +kernel) (by decide +kernel)
theorem k_786 : Cond.fieldLink "SceneEaselModel" 50 "SceneEaselModel" "deep" "[I" ∈ gw := gw_i 786 (by decide +kernel) (by decide +kernel)
theorem k_787 : Cond.fieldLink "SceneEaselModel" 53 "SceneEaselModel" "step" "[D" ∈ gw := gw_i 787 (by decide +kernel) (by decide +kernel)
theorem k_788 : Cond.fieldLink "SceneEaselModel" 57 "SceneEaselModel" "p" "[D" ∈ gw := gw_i 788 (by decide +kernel) (by decide +kernel)
theorem k_789 : Cond.fieldLink "SceneEaselModel" 60 "SceneEaselModel" "q" "[D" ∈ gw := gw_i 789 (by decide +kernel) (by decide +kernel)
theorem k_790 : Cond.fieldLink "SceneEaselModel" 63 "SceneEaselModel" "base" "[D" ∈ gw := gw_i 790 (by decide +kernel) (by decide +kernel)
theorem k_791 : Cond.fieldLink "SceneEaselModel" 66 "SceneEaselModel" "time" "[D" ∈ gw := gw_i 791 (by decide +kernel) (by decide +kernel)
theorem k_792 : Cond.fieldLink "SceneEaselModel" 69 "SceneEaselModel" "value" "[D" ∈ gw := gw_i 792 (by decide +kernel) (by decide +kernel)
theorem k_793 : Cond.fieldLink "SceneEaselModel" 72 "SceneEaselModel" "a" "[D" ∈ gw := gw_i 793 (by decide +kernel) (by decide +kernel)
theorem k_794 : Cond.fieldLink "SceneEaselModel" 75 "SceneEaselModel" "b" "[D" ∈ gw := gw_i 794 (by decide +kernel) (by decide +kernel)
theorem k_795 : Cond.fieldLink "SceneEaselModel" 78 "SceneEaselModel" "low" "[D" ∈ gw := gw_i 795 (by decide +kernel) (by decide +kernel)
theorem k_796 : Cond.fieldLink "SceneEaselModel" 81 "SceneEaselModel" "high" "[D" ∈ gw := gw_i 796 (by decide +kernel) (by decide +kernel)
theorem k_797 : Cond.fieldLink "SceneEaselModel" 84 "SceneEaselModel" "cells" "[I" ∈ gw := gw_i 797 (by decide +kernel) (by decide +kernel)
theorem k_798 : Cond.fieldLink "SceneEaselModel" 98 "SceneEaselModel" "nodes" "I" ∈ gw := gw_i 798 (by decide +kernel) (by decide +kernel)
theorem k_799 : Cond.fieldLink "SceneEaselModel" 182 "SceneEaselModel" "painted" "I" ∈ gw := gw_i 799 (by decide +kernel) (by decide +kernel)
theorem k_800 : Cond.fieldLink "SceneEaselModel" 90 "SceneEaselModel" "thrown" "I" ∈ gw := gw_i 800 (by decide +kernel) (by decide +kernel)
theorem k_858 : Cond.arrayClass FieldType.boolean ∈ gw := gw_i 858 (by decide +kernel) (by decide +kernel)
theorem k_859 : Cond.methodLink "SceneEaselLaw" 82 ⟨"SceneEaselModel", "thrown", "()I"⟩ ∈ gw := gw_i 859 (by decide +kernel) (by decide +kernel)
theorem k_860 : Cond.instanceMethod ⟨"SceneEaselModel", "thrown", "()I"⟩ ∈ gw := gw_i 860 (by decide +kernel) (by decide +kernel)
theorem k_861 : Cond.selects "SceneEaselModel" ⟨"SceneEaselModel", "thrown", "()I"⟩ ⟨"SceneEaselModel", "thrown", "()I"⟩ ∈ gw := gw_i 861 (by decide +kernel) (by decide +kernel)
theorem k_862 : Cond.code ⟨"SceneEaselModel", "thrown", "()I"⟩ prog_6_method_2_code 1 (Option.some FieldType.int) ∈ gw := gw_i 862 (by decide +kernel) (by decide +kernel)
theorem k_863 : Cond.methodLink "SceneEaselLaw" 81 ⟨"SceneEaselModel", "node", "(III)I"⟩ ∈ gw := gw_i 863 (by decide +kernel) (by decide +kernel)
theorem k_864 : Cond.instanceMethod ⟨"SceneEaselModel", "node", "(III)I"⟩ ∈ gw := gw_i 864 (by decide +kernel) (by decide +kernel)
theorem k_865 : Cond.selects "SceneEaselModel" ⟨"SceneEaselModel", "node", "(III)I"⟩ ⟨"SceneEaselModel", "node", "(III)I"⟩ ∈ gw := gw_i 865 (by decide +kernel) (by decide +kernel)
theorem k_866 : Cond.code ⟨"SceneEaselModel", "node", "(III)I"⟩ prog_6_method_14_code 6 (Option.some FieldType.int) ∈ gw := gw_i 866 (by decide +kernel) (by decide +kernel)
theorem k_867 : Cond.methodLink "SceneEaselModel" 105 ⟨"SceneEaselModel", "isGroup", "(I)Z"⟩ ∈ gw := gw_i 867 (by decide +kernel) (by decide +kernel)
theorem k_869 : Cond.instanceMethod ⟨"SceneEaselModel", "isGroup", "(I)Z"⟩ ∈ gw := gw_i 869 (by decide +kernel) (by decide +kernel)
theorem k_870 : Cond.code ⟨"SceneEaselModel", "isGroup", "(I)Z"⟩ prog_6_method_8_code 2 (Option.some FieldType.boolean) ∈ gw := gw_i 870 (by decide +kernel) (by decide +kernel)
theorem k_871 : Cond.methodLink "SceneEaselModel" 94 ⟨"SceneEaselModel", "is", "(I)Z"⟩ ∈ gw := gw_i 871 (by decide +kernel) (by decide +kernel)
theorem k_873 : Cond.instanceMethod ⟨"SceneEaselModel", "is", "(I)Z"⟩ ∈ gw := gw_i 873 (by decide +kernel) (by decide +kernel)
theorem k_874 : Cond.code ⟨"SceneEaselModel", "is", "(I)Z"⟩ prog_6_method_6_code 2 (Option.some FieldType.boolean) ∈ gw := gw_i 874 (by decide +kernel) (by decide +kernel)
theorem k_875 : Cond.methodLink "SceneEaselModel" 108 ⟨"SceneEaselModel", "bad", "(Z)Z"⟩ ∈ gw := gw_i 875 (by decide +kernel) (by decide +kernel)
theorem k_877 : Cond.instanceMethod ⟨"SceneEaselModel", "bad", "(Z)Z"⟩ ∈ gw := gw_i 877 (by decide +kernel) (by decide +kernel)
theorem k_878 : Cond.code ⟨"SceneEaselModel", "bad", "(Z)Z"⟩ prog_6_method_5_code 2 (Option.some FieldType.boolean) ∈ gw := gw_i 878 (by decide +kernel) (by decide +kernel)
theorem k_879 : Cond.methodLink "SceneEaselModel" 112 ⟨"SceneEaselModel", "enter", "(II)V"⟩ ∈ gw := gw_i 879 (by decide +kernel) (by decide +kernel)
theorem k_881 : Cond.instanceMethod ⟨"SceneEaselModel", "enter", "(II)V"⟩ ∈ gw := gw_i 881 (by decide +kernel) (by decide +kernel)
theorem k_882 : Cond.code ⟨"SceneEaselModel", "enter", "(II)V"⟩ prog_6_method_13_code 3 (Option.none : Option FieldType) ∈ gw := gw_i 882 (by decide +kernel) (by decide +kernel)
theorem k_883 : Cond.methodLink "SceneEaselLaw" 91 ⟨"SceneEaselModel", "lengths", "(IDD)V"⟩ ∈ gw := gw_i 883 (by decide +kernel) (by decide +kernel)
theorem k_884 : Cond.instanceMethod ⟨"SceneEaselModel", "lengths", "(IDD)V"⟩ ∈ gw := gw_i 884 (by decide +kernel) (by decide +kernel)
theorem k_885 : Cond.selects "SceneEaselModel" ⟨"SceneEaselModel", "lengths", "(IDD)V"⟩ ⟨"SceneEaselModel", "lengths", "(IDD)V"⟩ ∈ gw := gw_i 885 (by decide +kernel) (by decide +kernel)
theorem k_886 : Cond.code ⟨"SceneEaselModel", "lengths", "(IDD)V"⟩ prog_6_method_15_code 6 (Option.none : Option FieldType) ∈ gw := gw_i 886 (by decide +kernel) (by decide +kernel)
theorem k_887 : Cond.constantDouble "SceneEaselModel" 116 (4593671619917905920 : UInt64) ∈ gw := gw_i 887 (by decide +kernel) (by decide +kernel)
theorem k_888 : Cond.constantDouble "SceneEaselModel" 118 (4636737291354636288 : UInt64) ∈ gw := gw_i 888 (by decide +kernel) (by decide +kernel)
theorem k_889 : Cond.methodLink "SceneEaselModel" 120 ⟨"SceneEaselModel", "in", "(DDD)Z"⟩ ∈ gw := gw_i 889 (by decide +kernel) (by decide +kernel)
theorem k_890 : Cond.static ⟨"SceneEaselModel", "in", "(DDD)Z"⟩ ∈ gw := gw_i 890 (by decide +kernel) (by decide +kernel)
theorem k_891 : Cond.code ⟨"SceneEaselModel", "in", "(DDD)Z"⟩ prog_6_method_3_code 6 (Option.some FieldType.boolean) ∈ gw := gw_i 891 (by decide +kernel) (by decide +kernel)
theorem k_892 : Cond.methodLink "SceneEaselLaw" 94 ⟨"SceneEaselModel", "place", "(IDD)V"⟩ ∈ gw := gw_i 892 (by decide +kernel) (by decide +kernel)
theorem k_893 : Cond.instanceMethod ⟨"SceneEaselModel", "place", "(IDD)V"⟩ ∈ gw := gw_i 893 (by decide +kernel) (by decide +kernel)
theorem k_894 : Cond.selects "SceneEaselModel" ⟨"SceneEaselModel", "place", "(IDD)V"⟩ ⟨"SceneEaselModel", "place", "(IDD)V"⟩ ∈ gw := gw_i 894 (by decide +kernel) (by decide +kernel)
theorem k_895 : Cond.code ⟨"SceneEaselModel", "place", "(IDD)V"⟩ prog_6_method_16_code 6 (Option.none : Option FieldType) ∈ gw := gw_i 895 (by decide +kernel) (by decide +kernel)
theorem k_896 : Cond.methodLink "SceneEaselModel" 124 ⟨"SceneEaselModel", "isOther", "(I)Z"⟩ ∈ gw := gw_i 896 (by decide +kernel) (by decide +kernel)
theorem k_898 : Cond.instanceMethod ⟨"SceneEaselModel", "isOther", "(I)Z"⟩ ∈ gw := gw_i 898 (by decide +kernel) (by decide +kernel)
theorem k_899 : Cond.code ⟨"SceneEaselModel", "isOther", "(I)Z"⟩ prog_6_method_7_code 2 (Option.some FieldType.boolean) ∈ gw := gw_i 899 (by decide +kernel) (by decide +kernel)
theorem k_900 : Cond.constantDouble "SceneEaselModel" 127 (13860109328209412096 : UInt64) ∈ gw := gw_i 900 (by decide +kernel) (by decide +kernel)
theorem k_901 : Cond.methodLink "SceneEaselLaw" 98 ⟨"SceneEaselModel", "lay", "(III)V"⟩ ∈ gw := gw_i 901 (by decide +kernel) (by decide +kernel)
theorem k_902 : Cond.instanceMethod ⟨"SceneEaselModel", "lay", "(III)V"⟩ ∈ gw := gw_i 902 (by decide +kernel) (by decide +kernel)
theorem k_903 : Cond.selects "SceneEaselModel" ⟨"SceneEaselModel", "lay", "(III)V"⟩ ⟨"SceneEaselModel", "lay", "(III)V"⟩ ∈ gw := gw_i 903 (by decide +kernel) (by decide +kernel)
theorem k_904 : Cond.code ⟨"SceneEaselModel", "lay", "(III)V"⟩ prog_6_method_17_code 4 (Option.none : Option FieldType) ∈ gw := gw_i 904 (by decide +kernel) (by decide +kernel)
theorem k_905 : Cond.methodLink "SceneEaselLaw" 102 ⟨"SceneEaselModel", "mode", "(IID)V"⟩ ∈ gw := gw_i 905 (by decide +kernel) (by decide +kernel)
theorem k_906 : Cond.instanceMethod ⟨"SceneEaselModel", "mode", "(IID)V"⟩ ∈ gw := gw_i 906 (by decide +kernel) (by decide +kernel)
theorem k_907 : Cond.selects "SceneEaselModel" ⟨"SceneEaselModel", "mode", "(IID)V"⟩ ⟨"SceneEaselModel", "mode", "(IID)V"⟩ ∈ gw := gw_i 907 (by decide +kernel) (by decide +kernel)
theorem k_908 : Cond.code ⟨"SceneEaselModel", "mode", "(IID)V"⟩ prog_6_method_18_code 5 (Option.none : Option FieldType) ∈ gw := gw_i 908 (by decide +kernel) (by decide +kernel)
theorem k_909 : Cond.constantDouble "SceneEaselModel" 129 (4629700416936869888 : UInt64) ∈ gw := gw_i 909 (by decide +kernel) (by decide +kernel)
theorem k_910 : Cond.methodLink "SceneEaselLaw" 106 ⟨"SceneEaselModel", "hide", "(IZ)V"⟩ ∈ gw := gw_i 910 (by decide +kernel) (by decide +kernel)
theorem k_911 : Cond.instanceMethod ⟨"SceneEaselModel", "hide", "(IZ)V"⟩ ∈ gw := gw_i 911 (by decide +kernel) (by decide +kernel)
theorem k_912 : Cond.selects "SceneEaselModel" ⟨"SceneEaselModel", "hide", "(IZ)V"⟩ ⟨"SceneEaselModel", "hide", "(IZ)V"⟩ ∈ gw := gw_i 912 (by decide +kernel) (by decide +kernel)
theorem k_913 : Cond.code ⟨"SceneEaselModel", "hide", "(IZ)V"⟩ prog_6_method_19_code 3 (Option.none : Option FieldType) ∈ gw := gw_i 913 (by decide +kernel) (by decide +kernel)
theorem k_914 : Cond.methodLink "SceneEaselLaw" 110 ⟨"SceneEaselModel", "key", "(IIDD)I"⟩ ∈ gw := gw_i 914 (by decide +kernel) (by decide +kernel)
theorem k_915 : Cond.instanceMethod ⟨"SceneEaselModel", "key", "(IIDD)I"⟩ ∈ gw := gw_i 915 (by decide +kernel) (by decide +kernel)
theorem k_916 : Cond.selects "SceneEaselModel" ⟨"SceneEaselModel", "key", "(IIDD)I"⟩ ⟨"SceneEaselModel", "key", "(IIDD)I"⟩ ∈ gw := gw_i 916 (by decide +kernel) (by decide +kernel)
theorem k_917 : Cond.code ⟨"SceneEaselModel", "key", "(IIDD)I"⟩ prog_6_method_21_code 11 (Option.some FieldType.int) ∈ gw := gw_i 917 (by decide +kernel) (by decide +kernel)
theorem k_918 : Cond.constantDouble "SceneEaselModel" 141 (4652007308841189376 : UInt64) ∈ gw := gw_i 918 (by decide +kernel) (by decide +kernel)
theorem k_919 : Cond.methodLink "SceneEaselModel" 143 ⟨"SceneEaselModel", "fits", "(ID)Z"⟩ ∈ gw := gw_i 919 (by decide +kernel) (by decide +kernel)
theorem k_920 : Cond.static ⟨"SceneEaselModel", "fits", "(ID)Z"⟩ ∈ gw := gw_i 920 (by decide +kernel) (by decide +kernel)
theorem k_921 : Cond.code ⟨"SceneEaselModel", "fits", "(ID)Z"⟩ prog_6_method_20_code 3 (Option.some FieldType.boolean) ∈ gw := gw_i 921 (by decide +kernel) (by decide +kernel)
theorem k_922 : Cond.methodLink "SceneEaselModel" 131 ⟨"SceneEaselModel", "floor", "(D)D"⟩ ∈ gw := gw_i 922 (by decide +kernel) (by decide +kernel)
theorem k_923 : Cond.static ⟨"SceneEaselModel", "floor", "(D)D"⟩ ∈ gw := gw_i 923 (by decide +kernel) (by decide +kernel)
theorem k_924 : Cond.code ⟨"SceneEaselModel", "floor", "(D)D"⟩ prog_6_method_4_code 4 (Option.some FieldType.double) ∈ gw := gw_i 924 (by decide +kernel) (by decide +kernel)
theorem k_925 : Cond.constantDouble "SceneEaselModel" 135 (13835058055282163712 : UInt64) ∈ gw := gw_i 925 (by decide +kernel) (by decide +kernel)
theorem k_926 : Cond.constantDouble "SceneEaselModel" 137 (4611686018427387904 : UInt64) ∈ gw := gw_i 926 (by decide +kernel) (by decide +kernel)
theorem k_927 : Cond.constantDouble "SceneEaselModel" 139 (4624633867356078080 : UInt64) ∈ gw := gw_i 927 (by decide +kernel) (by decide +kernel)
theorem k_928 : Cond.methodLink "SceneEaselLaw" 114 ⟨"SceneEaselModel", "unkey", "(II)V"⟩ ∈ gw := gw_i 928 (by decide +kernel) (by decide +kernel)
theorem k_929 : Cond.instanceMethod ⟨"SceneEaselModel", "unkey", "(II)V"⟩ ∈ gw := gw_i 929 (by decide +kernel) (by decide +kernel)
theorem k_930 : Cond.selects "SceneEaselModel" ⟨"SceneEaselModel", "unkey", "(II)V"⟩ ⟨"SceneEaselModel", "unkey", "(II)V"⟩ ∈ gw := gw_i 930 (by decide +kernel) (by decide +kernel)
theorem k_931 : Cond.code ⟨"SceneEaselModel", "unkey", "(II)V"⟩ prog_6_method_22_code 3 (Option.none : Option FieldType) ∈ gw := gw_i 931 (by decide +kernel) (by decide +kernel)
theorem k_932 : Cond.methodLink "SceneEaselLaw" 117 ⟨"SceneEaselModel", "into", "(II)V"⟩ ∈ gw := gw_i 932 (by decide +kernel) (by decide +kernel)
theorem k_933 : Cond.instanceMethod ⟨"SceneEaselModel", "into", "(II)V"⟩ ∈ gw := gw_i 933 (by decide +kernel) (by decide +kernel)
theorem k_934 : Cond.selects "SceneEaselModel" ⟨"SceneEaselModel", "into", "(II)V"⟩ ⟨"SceneEaselModel", "into", "(II)V"⟩ ∈ gw := gw_i 934 (by decide +kernel) (by decide +kernel)
theorem k_935 : Cond.code ⟨"SceneEaselModel", "into", "(II)V"⟩ prog_6_method_25_code 3 (Option.none : Option FieldType) ∈ gw := gw_i 935 (by decide +kernel) (by decide +kernel)
theorem k_936 : Cond.methodLink "SceneEaselModel" 149 ⟨"SceneEaselModel", "within", "(II)Z"⟩ ∈ gw := gw_i 936 (by decide +kernel) (by decide +kernel)
theorem k_938 : Cond.instanceMethod ⟨"SceneEaselModel", "within", "(II)Z"⟩ ∈ gw := gw_i 938 (by decide +kernel) (by decide +kernel)
theorem k_939 : Cond.code ⟨"SceneEaselModel", "within", "(II)Z"⟩ prog_6_method_10_code 4 (Option.some FieldType.boolean) ∈ gw := gw_i 939 (by decide +kernel) (by decide +kernel)
theorem k_940 : Cond.methodLink "SceneEaselModel" 153 ⟨"SceneEaselModel", "height", "(I)I"⟩ ∈ gw := gw_i 940 (by decide +kernel) (by decide +kernel)
theorem k_942 : Cond.instanceMethod ⟨"SceneEaselModel", "height", "(I)I"⟩ ∈ gw := gw_i 942 (by decide +kernel) (by decide +kernel)
theorem k_943 : Cond.code ⟨"SceneEaselModel", "height", "(I)I"⟩ prog_6_method_24_code 5 (Option.some FieldType.int) ∈ gw := gw_i 943 (by decide +kernel) (by decide +kernel)
theorem k_944 : Cond.methodLink "SceneEaselModel" 156 ⟨"SceneEaselModel", "leave", "(I)V"⟩ ∈ gw := gw_i 944 (by decide +kernel) (by decide +kernel)
theorem k_946 : Cond.instanceMethod ⟨"SceneEaselModel", "leave", "(I)V"⟩ ∈ gw := gw_i 946 (by decide +kernel) (by decide +kernel)
theorem k_947 : Cond.code ⟨"SceneEaselModel", "leave", "(I)V"⟩ prog_6_method_12_code 4 (Option.none : Option FieldType) ∈ gw := gw_i 947 (by decide +kernel) (by decide +kernel)
theorem k_948 : Cond.methodLink "SceneEaselModel" 101 ⟨"SceneEaselModel", "placeOf", "(I)I"⟩ ∈ gw := gw_i 948 (by decide +kernel) (by decide +kernel)
theorem k_950 : Cond.instanceMethod ⟨"SceneEaselModel", "placeOf", "(I)I"⟩ ∈ gw := gw_i 950 (by decide +kernel) (by decide +kernel)
theorem k_951 : Cond.code ⟨"SceneEaselModel", "placeOf", "(I)I"⟩ prog_6_method_11_code 3 (Option.some FieldType.int) ∈ gw := gw_i 951 (by decide +kernel) (by decide +kernel)
theorem k_952 : Cond.methodLink "SceneEaselLaw" 121 ⟨"SceneEaselModel", "remove", "(I)I"⟩ ∈ gw := gw_i 952 (by decide +kernel) (by decide +kernel)
theorem k_953 : Cond.instanceMethod ⟨"SceneEaselModel", "remove", "(I)I"⟩ ∈ gw := gw_i 953 (by decide +kernel) (by decide +kernel)
theorem k_954 : Cond.selects "SceneEaselModel" ⟨"SceneEaselModel", "remove", "(I)I"⟩ ⟨"SceneEaselModel", "remove", "(I)I"⟩ ∈ gw := gw_i 954 (by decide +kernel) (by decide +kernel)
theorem k_955 : Cond.code ⟨"SceneEaselModel", "remove", "(I)I"⟩ prog_6_method_26_code 5 (Option.some FieldType.int) ∈ gw := gw_i 955 (by decide +kernel) (by decide +kernel)
theorem k_956 : Cond.methodLink "SceneEaselLaw" 125 ⟨"SceneEaselModel", "paint", "(D)I"⟩ ∈ gw := gw_i 956 (by decide +kernel) (by decide +kernel)
theorem k_957 : Cond.instanceMethod ⟨"SceneEaselModel", "paint", "(D)I"⟩ ∈ gw := gw_i 957 (by decide +kernel) (by decide +kernel)
theorem k_958 : Cond.selects "SceneEaselModel" ⟨"SceneEaselModel", "paint", "(D)I"⟩ ⟨"SceneEaselModel", "paint", "(D)I"⟩ ∈ gw := gw_i 958 (by decide +kernel) (by decide +kernel)
theorem k_959 : Cond.code ⟨"SceneEaselModel", "paint", "(D)I"⟩ prog_6_method_30_code 5 (Option.some FieldType.int) ∈ gw := gw_i 959 (by decide +kernel) (by decide +kernel)
theorem k_960 : Cond.constantDouble "SceneEaselModel" 162 (4602678819172646912 : UInt64) ∈ gw := gw_i 960 (by decide +kernel) (by decide +kernel)
theorem k_961 : Cond.methodLink "SceneEaselModel" 178 ⟨"SceneEaselModel", "look", "(DDD)V"⟩ ∈ gw := gw_i 961 (by decide +kernel) (by decide +kernel)
theorem k_963 : Cond.instanceMethod ⟨"SceneEaselModel", "look", "(DDD)V"⟩ ∈ gw := gw_i 963 (by decide +kernel) (by decide +kernel)
theorem k_964 : Cond.code ⟨"SceneEaselModel", "look", "(DDD)V"⟩ prog_6_method_28_code 16 (Option.none : Option FieldType) ∈ gw := gw_i 964 (by decide +kernel) (by decide +kernel)
theorem k_965 : Cond.methodLink "SceneEaselModel" 168 ⟨"SceneEaselModel", "at", "(IID)D"⟩ ∈ gw := gw_i 965 (by decide +kernel) (by decide +kernel)
theorem k_967 : Cond.instanceMethod ⟨"SceneEaselModel", "at", "(IID)D"⟩ ∈ gw := gw_i 967 (by decide +kernel) (by decide +kernel)
theorem k_968 : Cond.code ⟨"SceneEaselModel", "at", "(IID)D"⟩ prog_6_method_23_code 16 (Option.some FieldType.double) ∈ gw := gw_i 968 (by decide +kernel) (by decide +kernel)
theorem k_969 : Cond.constantDouble "SceneEaselModel" 147 (4634204016564240384 : UInt64) ∈ gw := gw_i 969 (by decide +kernel) (by decide +kernel)
theorem k_970 : Cond.methodLink "SceneEaselModel" 172 ⟨"SceneEaselModel", "power", "(D)D"⟩ ∈ gw := gw_i 970 (by decide +kernel) (by decide +kernel)
theorem k_971 : Cond.static ⟨"SceneEaselModel", "power", "(D)D"⟩ ∈ gw := gw_i 971 (by decide +kernel) (by decide +kernel)
theorem k_972 : Cond.code ⟨"SceneEaselModel", "power", "(D)D"⟩ prog_6_method_27_code 2 (Option.some FieldType.double) ∈ gw := gw_i 972 (by decide +kernel) (by decide +kernel)
theorem k_973 : Cond.constantDouble "SceneEaselModel" 160 (13830554455654793216 : UInt64) ∈ gw := gw_i 973 (by decide +kernel) (by decide +kernel)
theorem k_974 : Cond.constantDouble "SceneEaselModel" 164 (4598175219545276416 : UInt64) ∈ gw := gw_i 974 (by decide +kernel) (by decide +kernel)
theorem k_975 : Cond.constantDouble "SceneEaselModel" 166 (4616189618054758400 : UInt64) ∈ gw := gw_i 975 (by decide +kernel) (by decide +kernel)
theorem k_976 : Cond.methodLink "SceneEaselModel" 175 ⟨"SceneEaselModel", "find", "(I)V"⟩ ∈ gw := gw_i 976 (by decide +kernel) (by decide +kernel)
theorem k_978 : Cond.instanceMethod ⟨"SceneEaselModel", "find", "(I)V"⟩ ∈ gw := gw_i 978 (by decide +kernel) (by decide +kernel)
theorem k_979 : Cond.code ⟨"SceneEaselModel", "find", "(I)V"⟩ prog_6_method_29_code 10 (Option.none : Option FieldType) ∈ gw := gw_i 979 (by decide +kernel) (by decide +kernel)
theorem k_980 : Cond.methodLink "SceneEaselLaw" 129 ⟨"SceneEaselModel", "cell", "(II)I"⟩ ∈ gw := gw_i 980 (by decide +kernel) (by decide +kernel)
theorem k_981 : Cond.instanceMethod ⟨"SceneEaselModel", "cell", "(II)I"⟩ ∈ gw := gw_i 981 (by decide +kernel) (by decide +kernel)
theorem k_982 : Cond.selects "SceneEaselModel" ⟨"SceneEaselModel", "cell", "(II)I"⟩ ⟨"SceneEaselModel", "cell", "(II)I"⟩ ∈ gw := gw_i 982 (by decide +kernel) (by decide +kernel)
theorem k_983 : Cond.code ⟨"SceneEaselModel", "cell", "(II)I"⟩ prog_6_method_31_code 3 (Option.some FieldType.int) ∈ gw := gw_i 983 (by decide +kernel) (by decide +kernel)
theorem k_984 : Cond.methodLink "SceneEaselLaw" 133 ⟨"SceneEaselModel", "top", "(DDD)I"⟩ ∈ gw := gw_i 984 (by decide +kernel) (by decide +kernel)
theorem k_985 : Cond.instanceMethod ⟨"SceneEaselModel", "top", "(DDD)I"⟩ ∈ gw := gw_i 985 (by decide +kernel) (by decide +kernel)
theorem k_986 : Cond.selects "SceneEaselModel" ⟨"SceneEaselModel", "top", "(DDD)I"⟩ ⟨"SceneEaselModel", "top", "(DDD)I"⟩ ∈ gw := gw_i 986 (by decide +kernel) (by decide +kernel)
theorem k_987 : Cond.code ⟨"SceneEaselModel", "top", "(DDD)I"⟩ prog_6_method_32_code 7 (Option.some FieldType.int) ∈ gw := gw_i 987 (by decide +kernel) (by decide +kernel)
theorem k_988 : Cond.constantDouble "SceneEaselModel" 185 (13875379345695965184 : UInt64) ∈ gw := gw_i 988 (by decide +kernel) (by decide +kernel)
theorem k_989 : Cond.methodLink "SceneEaselLaw" 137 ⟨"SceneEaselModel", "around", "(IID)D"⟩ ∈ gw := gw_i 989 (by decide +kernel) (by decide +kernel)
theorem k_990 : Cond.instanceMethod ⟨"SceneEaselModel", "around", "(IID)D"⟩ ∈ gw := gw_i 990 (by decide +kernel) (by decide +kernel)
theorem k_991 : Cond.selects "SceneEaselModel" ⟨"SceneEaselModel", "around", "(IID)D"⟩ ⟨"SceneEaselModel", "around", "(IID)D"⟩ ∈ gw := gw_i 991 (by decide +kernel) (by decide +kernel)
theorem k_992 : Cond.code ⟨"SceneEaselModel", "around", "(IID)D"⟩ prog_6_method_36_code 6 (Option.some FieldType.double) ∈ gw := gw_i 992 (by decide +kernel) (by decide +kernel)
theorem k_993 : Cond.methodLink "SceneEaselModel" 199 ⟨"SceneEaselModel", "box", "(ID)V"⟩ ∈ gw := gw_i 993 (by decide +kernel) (by decide +kernel)
theorem k_995 : Cond.instanceMethod ⟨"SceneEaselModel", "box", "(ID)V"⟩ ∈ gw := gw_i 995 (by decide +kernel) (by decide +kernel)
theorem k_996 : Cond.code ⟨"SceneEaselModel", "box", "(ID)V"⟩ prog_6_method_35_code 14 (Option.none : Option FieldType) ∈ gw := gw_i 996 (by decide +kernel) (by decide +kernel)
theorem k_997 : Cond.constantDouble "SceneEaselModel" 191 (4741671816366391296 : UInt64) ∈ gw := gw_i 997 (by decide +kernel) (by decide +kernel)
theorem k_998 : Cond.constantDouble "SceneEaselModel" 193 (13965043853221167104 : UInt64) ∈ gw := gw_i 998 (by decide +kernel) (by decide +kernel)
theorem k_999 : Cond.methodLink "SceneEaselModel" 195 ⟨"SceneEaselModel", "layOut", "(IDDD)V"⟩ ∈ gw := gw_i 999 (by decide +kernel) (by decide +kernel)
theorem k_1001 : Cond.instanceMethod ⟨"SceneEaselModel", "layOut", "(IDDD)V"⟩ ∈ gw := gw_i 1001 (by decide +kernel) (by decide +kernel)
theorem k_1002 : Cond.code ⟨"SceneEaselModel", "layOut", "(IDDD)V"⟩ prog_6_method_33_code 17 (Option.none : Option FieldType) ∈ gw := gw_i 1002 (by decide +kernel) (by decide +kernel)
theorem k_1003 : Cond.methodLink "SceneEaselModel" 187 ⟨"SceneEaselModel", "widen", "(ID)V"⟩ ∈ gw := gw_i 1003 (by decide +kernel) (by decide +kernel)
theorem k_1005 : Cond.instanceMethod ⟨"SceneEaselModel", "widen", "(ID)V"⟩ ∈ gw := gw_i 1005 (by decide +kernel) (by decide +kernel)
theorem k_1006 : Cond.code ⟨"SceneEaselModel", "widen", "(ID)V"⟩ prog_6_method_34_code 4 (Option.none : Option FieldType) ∈ gw := gw_i 1006 (by decide +kernel) (by decide +kernel)
theorem k_1007 : Cond.methodLink "SceneEaselLaw" 140 ⟨"SceneEaselModel", "told", "(II)I"⟩ ∈ gw := gw_i 1007 (by decide +kernel) (by decide +kernel)
theorem k_1008 : Cond.instanceMethod ⟨"SceneEaselModel", "told", "(II)I"⟩ ∈ gw := gw_i 1008 (by decide +kernel) (by decide +kernel)
theorem k_1009 : Cond.selects "SceneEaselModel" ⟨"SceneEaselModel", "told", "(II)I"⟩ ⟨"SceneEaselModel", "told", "(II)I"⟩ ∈ gw := gw_i 1009 (by decide +kernel) (by decide +kernel)
theorem k_1010 : Cond.code ⟨"SceneEaselModel", "told", "(II)I"⟩ prog_6_method_38_code 3 (Option.some FieldType.int) ∈ gw := gw_i 1010 (by decide +kernel) (by decide +kernel)
theorem k_1011 : Cond.methodLink "SceneEaselModel" 202 ⟨"SceneEaselModel", "keysOf", "(I)I"⟩ ∈ gw := gw_i 1011 (by decide +kernel) (by decide +kernel)
theorem k_1013 : Cond.instanceMethod ⟨"SceneEaselModel", "keysOf", "(I)I"⟩ ∈ gw := gw_i 1013 (by decide +kernel) (by decide +kernel)
theorem k_1014 : Cond.code ⟨"SceneEaselModel", "keysOf", "(I)I"⟩ prog_6_method_37_code 2 (Option.some FieldType.int) ∈ gw := gw_i 1014 (by decide +kernel) (by decide +kernel)
theorem k_1015 : Cond.methodLink "SceneEaselLaw" 144 ⟨"SceneEaselModel", "count", "(I)I"⟩ ∈ gw := gw_i 1015 (by decide +kernel) (by decide +kernel)
theorem k_1016 : Cond.instanceMethod ⟨"SceneEaselModel", "count", "(I)I"⟩ ∈ gw := gw_i 1016 (by decide +kernel) (by decide +kernel)
theorem k_1017 : Cond.selects "SceneEaselModel" ⟨"SceneEaselModel", "count", "(I)I"⟩ ⟨"SceneEaselModel", "count", "(I)I"⟩ ∈ gw := gw_i 1017 (by decide +kernel) (by decide +kernel)
theorem k_1018 : Cond.code ⟨"SceneEaselModel", "count", "(I)I"⟩ prog_6_method_39_code 5 (Option.some FieldType.int) ∈ gw := gw_i 1018 (by decide +kernel) (by decide +kernel)
theorem k_1019 : Cond.constantDouble "SceneEaselLaw" 86 (4593671619917905920 : UInt64) ∈ gw := gw_i 1019 (by decide +kernel) (by decide +kernel)
theorem k_1020 : Cond.arrayClass FieldType.long ∈ gw := gw_i 1020 (by decide +kernel) (by decide +kernel)
theorem k_1024 : Cond.selects "[Ljava/lang/Object;" ⟨"java/lang/Object", "getClass", "()Ljava/lang/Class;"⟩ ⟨"java/lang/Object", "getClass", "()Ljava/lang/Class;"⟩ ∈ gw := gw_i 1024 (by decide +kernel) (by decide +kernel)
end
section
/-! classes and their fields, by program -/
abbrev R_Ex : String := "SceneEasel$Extent"
def F_Ex : u_T := fun k => match k with
  | 0 => ("SceneEasel$Extent", "empty", "Z", false)
  | 1 => ("SceneEasel$Extent", "leastA", "D", false)
  | 2 => ("SceneEasel$Extent", "leastB", "D", false)
  | 3 => ("SceneEasel$Extent", "greatestA", "D", false)
  | _ => ("SceneEasel$Extent", "greatestB", "D", false)
def t_Ex : Nat → FieldType := fun k => match k with
  | 0 => .boolean
  | 1 => .double
  | 2 => .double
  | 3 => .double
  | _ => .double
theorem n_Ex : ∀ a, a < 5 → ∀ b, b < 5 → a ≠ b → (F_Ex a).2.1 ≠ (F_Ex b).2.1 := by decide +kernel
theorem t_Ex_ok : ∀ k, k < 5 → parseFieldDescriptor (F_Ex k).2.2.1 = some (t_Ex k) := by decide +kernel
set_option maxRecDepth 20000 in
theorem i_Ex : ∀ w ∈ u_ws R_Ex F_Ex 5, w ∈ gw := gw_r [137, 139, 141, 143, 145] (by decide +kernel) (by decide +kernel)
abbrev R_No : String := "SceneEasel$Node"
def F_No : u_T := fun k => match k with
  | 0 => ("SceneEasel$Node", "number", "I", true)
  | 1 => ("SceneEasel$Node", "kind", "I", true)
  | 2 => ("SceneEasel$Node", "colour", "I", true)
  | 3 => ("SceneEasel$Node", "children", "Ljava/util/ArrayList;", true)
  | 4 => ("SceneEasel$Node", "tracks", "[LSceneEasel$Track;", true)
  | 5 => ("SceneEasel$Node", "extent", "LSceneEasel$Extent;", true)
  | 6 => ("SceneEasel$Node", "parent", "LSceneEasel$Node;", false)
  | 7 => ("SceneEasel$Node", "hidden", "Z", false)
  | 8 => ("SceneEasel$Node", "p", "D", false)
  | 9 => ("SceneEasel$Node", "q", "D", false)
  | 10 => ("SceneEasel$Node", "x", "D", false)
  | 11 => ("SceneEasel$Node", "y", "D", false)
  | 12 => ("SceneEasel$Node", "turn", "I", false)
  | 13 => ("SceneEasel$Node", "stretch", "I", false)
  | 14 => ("SceneEasel$Node", "mode", "I", false)
  | 15 => ("SceneEasel$Node", "step", "D", false)
  | 16 => ("SceneEasel$Node", "nowX", "D", false)
  | 17 => ("SceneEasel$Node", "nowY", "D", false)
  | 18 => ("SceneEasel$Node", "nowStretch", "I", false)
  | _ => ("SceneEasel$Node", "nowColour", "I", false)
def t_No : Nat → FieldType := fun k => match k with
  | 0 => .int
  | 1 => .int
  | 2 => .int
  | 3 => .object "java/util/ArrayList"
  | 4 => .array (.object "SceneEasel$Track")
  | 5 => .object "SceneEasel$Extent"
  | 6 => .object "SceneEasel$Node"
  | 7 => .boolean
  | 8 => .double
  | 9 => .double
  | 10 => .double
  | 11 => .double
  | 12 => .int
  | 13 => .int
  | 14 => .int
  | 15 => .double
  | 16 => .double
  | 17 => .double
  | 18 => .int
  | _ => .int
theorem n_No : ∀ a, a < 20 → ∀ b, b < 20 → a ≠ b → (F_No a).2.1 ≠ (F_No b).2.1 := by decide +kernel
theorem t_No_ok : ∀ k, k < 20 → parseFieldDescriptor (F_No k).2.2.1 = some (t_No k) := by decide +kernel
set_option maxRecDepth 20000 in
theorem i_No : ∀ w ∈ u_ws R_No F_No 20, w ∈ gw := gw_r [202, 204, 206, 208, 210, 212, 214, 216, 218, 220, 222, 224, 226, 228, 230, 232, 234, 236, 238, 240] (by decide +kernel) (by decide +kernel)
abbrev R_Tr : String := "SceneEasel$Track"
def F_Tr : u_T := fun k => match k with
  | 0 => ("SceneEasel$Track", "times", "[D", true)
  | 1 => ("SceneEasel$Track", "values", "[D", true)
  | _ => ("SceneEasel$Track", "size", "I", false)
def t_Tr : Nat → FieldType := fun k => match k with
  | 0 => .array .double
  | 1 => .array .double
  | _ => .int
theorem n_Tr : ∀ a, a < 3 → ∀ b, b < 3 → a ≠ b → (F_Tr a).2.1 ≠ (F_Tr b).2.1 := by decide +kernel
theorem t_Tr_ok : ∀ k, k < 3 → parseFieldDescriptor (F_Tr k).2.2.1 = some (t_Tr k) := by decide +kernel
set_option maxRecDepth 20000 in
theorem i_Tr : ∀ w ∈ u_ws R_Tr F_Tr 3, w ∈ gw := gw_r [158, 160, 162] (by decide +kernel) (by decide +kernel)
abbrev R_Ea : String := "SceneEasel"
def F_Ea : u_T := fun k => match k with
  | 0 => ("SceneEasel", "root", "LSceneEasel$Node;", true)
  | 1 => ("SceneEasel", "nodes", "[LSceneEasel$Node;", true)
  | 2 => ("SceneEasel", "cells", "[I", true)
  | _ => ("SceneEasel", "paintings", "I", false)
def t_Ea : Nat → FieldType := fun k => match k with
  | 0 => .object "SceneEasel$Node"
  | 1 => .array (.object "SceneEasel$Node")
  | 2 => .array .int
  | _ => .int
theorem n_Ea : ∀ a, a < 4 → ∀ b, b < 4 → a ≠ b → (F_Ea a).2.1 ≠ (F_Ea b).2.1 := by decide +kernel
theorem t_Ea_ok : ∀ k, k < 4 → parseFieldDescriptor (F_Ea k).2.2.1 = some (t_Ea k) := by decide +kernel
set_option maxRecDepth 20000 in
theorem i_Ea : ∀ w ∈ u_ws R_Ea F_Ea 4, w ∈ gw := gw_r [247, 249, 251, 253] (by decide +kernel) (by decide +kernel)
abbrev R_Al : String := "java/util/ArrayList"
def F_Al : u_T := fun k => match k with
  | 0 => ("java/util/AbstractList", "modCount", "I", false)
  | 1 => ("java/util/ArrayList", "elementData", "[Ljava/lang/Object;", false)
  | _ => ("java/util/ArrayList", "size", "I", false)
def t_Al : Nat → FieldType := fun k => match k with
  | 0 => .int
  | 1 => .array (.object "java/lang/Object")
  | _ => .int
theorem n_Al : ∀ a, a < 3 → ∀ b, b < 3 → a ≠ b → (F_Al a).2.1 ≠ (F_Al b).2.1 := by decide +kernel
theorem t_Al_ok : ∀ k, k < 3 → parseFieldDescriptor (F_Al k).2.2.1 = some (t_Al k) := by decide +kernel
set_option maxRecDepth 20000 in
theorem i_Al : ∀ w ∈ u_ws R_Al F_Al 3, w ∈ gw := gw_r [118, 114, 116] (by decide +kernel) (by decide +kernel)
abbrev R_Mo : String := "SceneEaselModel"
def F_Mo : u_T := fun k => match k with
  | 0 => ("SceneEaselModel", "there", "[Z", true)
  | 1 => ("SceneEaselModel", "hidden", "[Z", true)
  | 2 => ("SceneEaselModel", "has", "[Z", true)
  | 3 => ("SceneEaselModel", "boxed", "[Z", true)
  | 4 => ("SceneEaselModel", "kind", "[I", true)
  | 5 => ("SceneEaselModel", "mode", "[I", true)
  | 6 => ("SceneEaselModel", "parent", "[I", true)
  | 7 => ("SceneEaselModel", "count", "[I", true)
  | 8 => ("SceneEaselModel", "child", "[I", true)
  | 9 => ("SceneEaselModel", "turn", "[I", true)
  | 10 => ("SceneEaselModel", "keys", "[I", true)
  | 11 => ("SceneEaselModel", "order", "[I", true)
  | 12 => ("SceneEaselModel", "top", "[I", true)
  | 13 => ("SceneEaselModel", "deep", "[I", true)
  | 14 => ("SceneEaselModel", "step", "[D", true)
  | 15 => ("SceneEaselModel", "p", "[D", true)
  | 16 => ("SceneEaselModel", "q", "[D", true)
  | 17 => ("SceneEaselModel", "base", "[D", true)
  | 18 => ("SceneEaselModel", "time", "[D", true)
  | 19 => ("SceneEaselModel", "value", "[D", true)
  | 20 => ("SceneEaselModel", "a", "[D", true)
  | 21 => ("SceneEaselModel", "b", "[D", true)
  | 22 => ("SceneEaselModel", "low", "[D", true)
  | 23 => ("SceneEaselModel", "high", "[D", true)
  | 24 => ("SceneEaselModel", "cells", "[I", true)
  | 25 => ("SceneEaselModel", "nodes", "I", false)
  | 26 => ("SceneEaselModel", "painted", "I", false)
  | _ => ("SceneEaselModel", "thrown", "I", false)
def t_Mo : Nat → FieldType := fun k => match k with
  | 0 => .array .boolean
  | 1 => .array .boolean
  | 2 => .array .boolean
  | 3 => .array .boolean
  | 4 => .array .int
  | 5 => .array .int
  | 6 => .array .int
  | 7 => .array .int
  | 8 => .array .int
  | 9 => .array .int
  | 10 => .array .int
  | 11 => .array .int
  | 12 => .array .int
  | 13 => .array .int
  | 14 => .array .double
  | 15 => .array .double
  | 16 => .array .double
  | 17 => .array .double
  | 18 => .array .double
  | 19 => .array .double
  | 20 => .array .double
  | 21 => .array .double
  | 22 => .array .double
  | 23 => .array .double
  | 24 => .array .int
  | 25 => .int
  | 26 => .int
  | _ => .int
theorem n_Mo : ∀ a, a < 28 → ∀ b, b < 28 → a ≠ b → (F_Mo a).2.1 ≠ (F_Mo b).2.1 := by decide +kernel
theorem t_Mo_ok : ∀ k, k < 28 → parseFieldDescriptor (F_Mo k).2.2.1 = some (t_Mo k) := by decide +kernel
set_option maxRecDepth 20000 in
theorem i_Mo : ∀ w ∈ u_ws R_Mo F_Mo 28, w ∈ gw := gw_r [801, 803, 805, 807, 809, 811, 813, 815, 817, 819, 821, 823, 825, 827, 829, 831, 833, 835, 837, 839, 841, 843, 845, 847, 849, 851, 853, 855] (by decide +kernel) (by decide +kernel)
abbrev cls : List vw_C := [(R_Ex, F_Ex, 5), (R_No, F_No, 20), (R_Tr, F_Tr, 3), (R_Ea, F_Ea, 4), (R_Al, F_Al, 3), (R_Mo, F_Mo, 28)]
abbrev b_Ea_init : ByteArray := prog_1_method_1_code
abbrev y_Ea_init : MethodName := ⟨"SceneEasel", "<init>", "()V"⟩
abbrev c_Ea_init : Cond := Cond.code y_Ea_init b_Ea_init 1 none
abbrev w_Ea_init : List Cond := c_Ea_init :: gw
abbrev b_Oj_init : ByteArray := object_method_1_code
abbrev y_Oj_init : MethodName := ⟨"java/lang/Object", "<init>", "()V"⟩
abbrev c_Oj_init : Cond := Cond.code y_Oj_init b_Oj_init 1 none
abbrev w_Oj_init : List Cond := c_Oj_init :: gw
abbrev b_No_init : ByteArray := prog_3_method_1_code
abbrev y_No_init : MethodName := ⟨"SceneEasel$Node", "<init>", "(III)V"⟩
abbrev c_No_init : Cond := Cond.code y_No_init b_No_init 5 none
abbrev w_No_init : List Cond := c_No_init :: gw
abbrev b_Al_init : ByteArray := prog_20_method_2_code
abbrev y_Al_init : MethodName := ⟨"java/util/ArrayList", "<init>", "()V"⟩
abbrev c_Al_init : Cond := Cond.code y_Al_init b_Al_init 1 none
abbrev w_Al_init : List Cond := c_Al_init :: gw
abbrev b_Ab_init : ByteArray := prog_19_method_1_code
abbrev y_Ab_init : MethodName := ⟨"java/util/AbstractList", "<init>", "()V"⟩
abbrev c_Ab_init : Cond := Cond.code y_Ab_init b_Ab_init 1 none
abbrev w_Ab_init : List Cond := c_Ab_init :: gw
abbrev b_Ac_init : ByteArray := prog_18_method_1_code
abbrev y_Ac_init : MethodName := ⟨"java/util/AbstractCollection", "<init>", "()V"⟩
abbrev c_Ac_init : Cond := Cond.code y_Ac_init b_Ac_init 1 none
abbrev w_Ac_init : List Cond := c_Ac_init :: gw
abbrev b_Ex_init : ByteArray := prog_2_method_1_code
abbrev y_Ex_init : MethodName := ⟨"SceneEasel$Extent", "<init>", "()V"⟩
abbrev c_Ex_init : Cond := Cond.code y_Ex_init b_Ex_init 1 none
abbrev w_Ex_init : List Cond := c_Ex_init :: gw
abbrev b_Tr_init : ByteArray := prog_4_method_1_code
abbrev y_Tr_init : MethodName := ⟨"SceneEasel$Track", "<init>", "()V"⟩
abbrev c_Tr_init : Cond := Cond.code y_Tr_init b_Tr_init 1 none
abbrev w_Tr_init : List Cond := c_Tr_init :: gw
abbrev b_Ea_count : ByteArray := prog_1_method_17_code
abbrev y_Ea_count : MethodName := ⟨"SceneEasel", "count", "(I)I"⟩
abbrev c_Ea_count : Cond := Cond.code y_Ea_count b_Ea_count 2 (some .int)
abbrev w_Ea_count : List Cond := c_Ea_count :: gw
abbrev b_Ea_nodesThere : ByteArray := prog_1_method_30_code
abbrev y_Ea_nodesThere : MethodName := ⟨"SceneEasel", "nodesThere", "()I"⟩
abbrev c_Ea_nodesThere : Cond := Cond.code y_Ea_nodesThere b_Ea_nodesThere 3 (some .int)
abbrev w_Ea_nodesThere : List Cond := c_Ea_nodesThere :: gw
abbrev b_Ea_framesThere : ByteArray := prog_1_method_31_code
abbrev y_Ea_framesThere : MethodName := ⟨"SceneEasel", "framesThere", "()I"⟩
abbrev c_Ea_framesThere : Cond := Cond.code y_Ea_framesThere b_Ea_framesThere 3 (some .int)
abbrev w_Ea_framesThere : List Cond := c_Ea_framesThere :: gw
abbrev b_No_frames : ByteArray := prog_3_method_7_code
abbrev y_No_frames : MethodName := ⟨"SceneEasel$Node", "frames", "()I"⟩
abbrev c_No_frames : Cond := Cond.code y_No_frames b_No_frames 3 (some .int)
abbrev w_No_frames : List Cond := c_No_frames :: gw
abbrev b_Ea_deepestIn : ByteArray := prog_1_method_32_code
abbrev y_Ea_deepestIn : MethodName := ⟨"SceneEasel", "deepestIn", "(LSceneEasel$Node;)I"⟩
abbrev c_Ea_deepestIn : Cond := Cond.code y_Ea_deepestIn b_Ea_deepestIn 4 (some .int)
abbrev w_Ea_deepestIn : List Cond := c_Ea_deepestIn :: gw
abbrev b_No_isIn : ByteArray := prog_3_method_6_code
abbrev y_No_isIn : MethodName := ⟨"SceneEasel$Node", "isIn", "(LSceneEasel$Node;)Z"⟩
abbrev c_No_isIn : Cond := Cond.code y_No_isIn b_No_isIn 3 (some .boolean)
abbrev w_No_isIn : List Cond := c_No_isIn :: gw
abbrev b_No_depth : ByteArray := prog_3_method_5_code
abbrev y_No_depth : MethodName := ⟨"SceneEasel$Node", "depth", "()I"⟩
abbrev c_No_depth : Cond := Cond.code y_No_depth b_No_depth 3 (some .int)
abbrev w_No_depth : List Cond := c_No_depth :: gw
abbrev b_Ma_max : ByteArray := prog_13_method_65_code
abbrev y_Ma_max : MethodName := ⟨"java/lang/Math", "max", "(II)I"⟩
abbrev c_Ma_max : Cond := Cond.code y_Ma_max b_Ma_max 2 (some .int)
abbrev w_Ma_max : List Cond := c_Ma_max :: gw
abbrev b_Ea_node : ByteArray := prog_1_method_2_code
abbrev y_Ea_node : MethodName := ⟨"SceneEasel", "node", "(III)I"⟩
abbrev c_Ea_node : Cond := Cond.code y_Ea_node b_Ea_node 7 (some .int)
abbrev w_Ea_node : List Cond := c_Ea_node :: gw
abbrev b_Ea_requireGroup : ByteArray := prog_1_method_20_code
abbrev y_Ea_requireGroup : MethodName := ⟨"SceneEasel", "requireGroup", "(I)LSceneEasel$Node;"⟩
abbrev c_Ea_requireGroup : Cond := Cond.code y_Ea_requireGroup b_Ea_requireGroup 3 (some (.object "SceneEasel$Node"))
abbrev w_Ea_requireGroup : List Cond := c_Ea_requireGroup :: gw
abbrev b_Ea_requireNode : ByteArray := prog_1_method_18_code
abbrev y_Ea_requireNode : MethodName := ⟨"SceneEasel", "requireNode", "(I)LSceneEasel$Node;"⟩
abbrev c_Ea_requireNode : Cond := Cond.code y_Ea_requireNode b_Ea_requireNode 2 (some (.object "SceneEasel$Node"))
abbrev w_Ea_requireNode : List Cond := c_Ea_requireNode :: gw
abbrev b_Ea_requireWithin : ByteArray := prog_1_method_22_code
abbrev y_Ea_requireWithin : MethodName := ⟨"SceneEasel", "requireWithin", "(III)V"⟩
abbrev c_Ea_requireWithin : Cond := Cond.code y_Ea_requireWithin b_Ea_requireWithin 3 none
abbrev w_Ea_requireWithin : List Cond := c_Ea_requireWithin :: gw
abbrev b_Ea_leastFreeNumber : ByteArray := prog_1_method_29_code
abbrev y_Ea_leastFreeNumber : MethodName := ⟨"SceneEasel", "leastFreeNumber", "()I"⟩
abbrev c_Ea_leastFreeNumber : Cond := Cond.code y_Ea_leastFreeNumber b_Ea_leastFreeNumber 2 (some .int)
abbrev w_Ea_leastFreeNumber : List Cond := c_Ea_leastFreeNumber :: gw
abbrev b_No_hangInto : ByteArray := prog_3_method_2_code
abbrev y_No_hangInto : MethodName := ⟨"SceneEasel$Node", "hangInto", "(LSceneEasel$Node;)V"⟩
abbrev c_No_hangInto : Cond := Cond.code y_No_hangInto b_No_hangInto 2 none
abbrev w_No_hangInto : List Cond := c_No_hangInto :: gw
abbrev b_Al_add1 : ByteArray := prog_20_method_25_code
abbrev y_Al_add1 : MethodName := ⟨"java/util/ArrayList", "add", "(Ljava/lang/Object;)Z"⟩
abbrev c_Al_add1 : Cond := Cond.code y_Al_add1 b_Al_add1 2 (some .boolean)
abbrev w_Al_add1 : List Cond := c_Al_add1 :: gw
abbrev b_Al_add2 : ByteArray := prog_20_method_24_code
abbrev y_Al_add2 : MethodName := ⟨"java/util/ArrayList", "add", "(Ljava/lang/Object;[Ljava/lang/Object;I)V"⟩
abbrev c_Al_add2 : Cond := Cond.code y_Al_add2 b_Al_add2 4 none
abbrev w_Al_add2 : List Cond := c_Al_add2 :: gw
abbrev b_Al_grow1 : ByteArray := prog_20_method_7_code
abbrev y_Al_grow1 : MethodName := ⟨"java/util/ArrayList", "grow", "()[Ljava/lang/Object;"⟩
abbrev c_Al_grow1 : Cond := Cond.code y_Al_grow1 b_Al_grow1 1 (some (.array (.object "java/lang/Object")))
abbrev w_Al_grow1 : List Cond := c_Al_grow1 :: gw
abbrev b_Al_grow2 : ByteArray := prog_20_method_6_code
abbrev y_Al_grow2 : MethodName := ⟨"java/util/ArrayList", "grow", "(I)[Ljava/lang/Object;"⟩
abbrev c_Al_grow2 : Cond := Cond.code y_Al_grow2 b_Al_grow2 4 (some (.array (.object "java/lang/Object")))
abbrev w_Al_grow2 : List Cond := c_Al_grow2 :: gw
abbrev b_As_newLength : ByteArray := prog_28_method_27_code
abbrev y_As_newLength : MethodName := ⟨"jdk/internal/util/ArraysSupport", "newLength", "(III)I"⟩
abbrev c_As_newLength : Cond := Cond.code y_As_newLength b_As_newLength 4 (some .int)
abbrev w_As_newLength : List Cond := c_As_newLength :: gw
abbrev b_As_hugeLength : ByteArray := prog_28_method_28_code
abbrev y_As_hugeLength : MethodName := ⟨"jdk/internal/util/ArraysSupport", "hugeLength", "(II)I"⟩
abbrev c_As_hugeLength : Cond := Cond.code y_As_hugeLength b_As_hugeLength 3 (some .int)
abbrev w_As_hugeLength : List Cond := c_As_hugeLength :: gw
abbrev b_Ar_copyOf1 : ByteArray := prog_21_method_119_code
abbrev y_Ar_copyOf1 : MethodName := ⟨"java/util/Arrays", "copyOf", "([Ljava/lang/Object;I)[Ljava/lang/Object;"⟩
abbrev c_Ar_copyOf1 : Cond := Cond.code y_Ar_copyOf1 b_Ar_copyOf1 2 (some (.array (.object "java/lang/Object")))
abbrev w_Ar_copyOf1 : List Cond := c_Ar_copyOf1 :: gw
abbrev b_Ar_copyOf2 : ByteArray := prog_21_method_120_code
abbrev y_Ar_copyOf2 : MethodName := ⟨"java/util/Arrays", "copyOf", "([Ljava/lang/Object;ILjava/lang/Class;)[Ljava/lang/Object;"⟩
abbrev c_Ar_copyOf2 : Cond := Cond.code y_Ar_copyOf2 b_Ar_copyOf2 4 (some (.array (.object "java/lang/Object")))
abbrev w_Ar_copyOf2 : List Cond := c_Ar_copyOf2 :: gw
abbrev b_Ma_min : ByteArray := prog_13_method_69_code
abbrev y_Ma_min : MethodName := ⟨"java/lang/Math", "min", "(II)I"⟩
abbrev c_Ma_min : Cond := Cond.code y_Ma_min b_Ma_min 2 (some .int)
abbrev w_Ma_min : List Cond := c_Ma_min :: gw
abbrev b_Ea_lengths : ByteArray := prog_1_method_3_code
abbrev y_Ea_lengths : MethodName := ⟨"SceneEasel", "lengths", "(IDD)V"⟩
abbrev c_Ea_lengths : Cond := Cond.code y_Ea_lengths b_Ea_lengths 7 none
abbrev w_Ea_lengths : List Cond := c_Ea_lengths :: gw
abbrev b_Ea_requireShape : ByteArray := prog_1_method_21_code
abbrev y_Ea_requireShape : MethodName := ⟨"SceneEasel", "requireShape", "(I)LSceneEasel$Node;"⟩
abbrev c_Ea_requireShape : Cond := Cond.code y_Ea_requireShape b_Ea_requireShape 3 (some (.object "SceneEasel$Node"))
abbrev w_Ea_requireShape : List Cond := c_Ea_requireShape :: gw
abbrev b_Ea_requireLength : ByteArray := prog_1_method_25_code
abbrev y_Ea_requireLength : MethodName := ⟨"SceneEasel", "requireLength", "(D)V"⟩
abbrev c_Ea_requireLength : Cond := Cond.code y_Ea_requireLength b_Ea_requireLength 2 none
abbrev w_Ea_requireLength : List Cond := c_Ea_requireLength :: gw
abbrev b_Ea_requireBetween : ByteArray := prog_1_method_23_code
abbrev y_Ea_requireBetween : MethodName := ⟨"SceneEasel", "requireBetween", "(DDD)V"⟩
abbrev c_Ea_requireBetween : Cond := Cond.code y_Ea_requireBetween b_Ea_requireBetween 6 none
abbrev w_Ea_requireBetween : List Cond := c_Ea_requireBetween :: gw
abbrev b_Ea_requireMultiple : ByteArray := prog_1_method_28_code
abbrev y_Ea_requireMultiple : MethodName := ⟨"SceneEasel", "requireMultiple", "(DI)V"⟩
abbrev c_Ea_requireMultiple : Cond := Cond.code y_Ea_requireMultiple b_Ea_requireMultiple 5 none
abbrev w_Ea_requireMultiple : List Cond := c_Ea_requireMultiple :: gw
abbrev b_Ea_place : ByteArray := prog_1_method_4_code
abbrev y_Ea_place : MethodName := ⟨"SceneEasel", "place", "(IDD)V"⟩
abbrev c_Ea_place : Cond := Cond.code y_Ea_place b_Ea_place 7 none
abbrev w_Ea_place : List Cond := c_Ea_place :: gw
abbrev b_Ea_requireInner : ByteArray := prog_1_method_19_code
abbrev y_Ea_requireInner : MethodName := ⟨"SceneEasel", "requireInner", "(I)LSceneEasel$Node;"⟩
abbrev c_Ea_requireInner : Cond := Cond.code y_Ea_requireInner b_Ea_requireInner 3 (some (.object "SceneEasel$Node"))
abbrev w_Ea_requireInner : List Cond := c_Ea_requireInner :: gw
abbrev b_Ea_requirePlace : ByteArray := prog_1_method_26_code
abbrev y_Ea_requirePlace : MethodName := ⟨"SceneEasel", "requirePlace", "(D)V"⟩
abbrev c_Ea_requirePlace : Cond := Cond.code y_Ea_requirePlace b_Ea_requirePlace 2 none
abbrev w_Ea_requirePlace : List Cond := c_Ea_requirePlace :: gw
abbrev b_Ea_lay : ByteArray := prog_1_method_5_code
abbrev y_Ea_lay : MethodName := ⟨"SceneEasel", "lay", "(III)V"⟩
abbrev c_Ea_lay : Cond := Cond.code y_Ea_lay b_Ea_lay 5 none
abbrev w_Ea_lay : List Cond := c_Ea_lay :: gw
abbrev b_Ea_mode : ByteArray := prog_1_method_6_code
abbrev y_Ea_mode : MethodName := ⟨"SceneEasel", "mode", "(IID)V"⟩
abbrev c_Ea_mode : Cond := Cond.code y_Ea_mode b_Ea_mode 6 none
abbrev w_Ea_mode : List Cond := c_Ea_mode :: gw
abbrev b_Ea_hide : ByteArray := prog_1_method_7_code
abbrev y_Ea_hide : MethodName := ⟨"SceneEasel", "hide", "(IZ)V"⟩
abbrev c_Ea_hide : Cond := Cond.code y_Ea_hide b_Ea_hide 3 none
abbrev w_Ea_hide : List Cond := c_Ea_hide :: gw
abbrev b_Ea_key : ByteArray := prog_1_method_8_code
abbrev y_Ea_key : MethodName := ⟨"SceneEasel", "key", "(IIDD)I"⟩
abbrev c_Ea_key : Cond := Cond.code y_Ea_key b_Ea_key 9 (some .int)
abbrev w_Ea_key : List Cond := c_Ea_key :: gw
abbrev b_Ea_requireTime : ByteArray := prog_1_method_24_code
abbrev y_Ea_requireTime : MethodName := ⟨"SceneEasel", "requireTime", "(D)V"⟩
abbrev c_Ea_requireTime : Cond := Cond.code y_Ea_requireTime b_Ea_requireTime 2 none
abbrev w_Ea_requireTime : List Cond := c_Ea_requireTime :: gw
abbrev b_Ea_requireValue : ByteArray := prog_1_method_27_code
abbrev y_Ea_requireValue : MethodName := ⟨"SceneEasel", "requireValue", "(ID)V"⟩
abbrev c_Ea_requireValue : Cond := Cond.code y_Ea_requireValue b_Ea_requireValue 3 none
abbrev w_Ea_requireValue : List Cond := c_Ea_requireValue :: gw
abbrev b_Tr_put : ByteArray := prog_4_method_2_code
abbrev y_Tr_put : MethodName := ⟨"SceneEasel$Track", "put", "(DD)Z"⟩
abbrev c_Tr_put : Cond := Cond.code y_Tr_put b_Tr_put 6 (some .boolean)
abbrev w_Tr_put : List Cond := c_Tr_put :: gw
abbrev b_Tr_makeRoom : ByteArray := prog_4_method_3_code
abbrev y_Tr_makeRoom : MethodName := ⟨"SceneEasel$Track", "makeRoom", "(I)V"⟩
abbrev c_Tr_makeRoom : Cond := Cond.code y_Tr_makeRoom b_Tr_makeRoom 3 none
abbrev w_Tr_makeRoom : List Cond := c_Tr_makeRoom :: gw
abbrev b_Ea_unkey : ByteArray := prog_1_method_9_code
abbrev y_Ea_unkey : MethodName := ⟨"SceneEasel", "unkey", "(II)V"⟩
abbrev c_Ea_unkey : Cond := Cond.code y_Ea_unkey b_Ea_unkey 5 none
abbrev w_Ea_unkey : List Cond := c_Ea_unkey :: gw
abbrev b_Ea_into : ByteArray := prog_1_method_10_code
abbrev y_Ea_into : MethodName := ⟨"SceneEasel", "into", "(II)V"⟩
abbrev c_Ea_into : Cond := Cond.code y_Ea_into b_Ea_into 5 none
abbrev w_Ea_into : List Cond := c_Ea_into :: gw
abbrev b_Ea_levelsOf : ByteArray := prog_1_method_33_code
abbrev y_Ea_levelsOf : MethodName := ⟨"SceneEasel", "levelsOf", "(LSceneEasel$Node;)I"⟩
abbrev c_Ea_levelsOf : Cond := Cond.code y_Ea_levelsOf b_Ea_levelsOf 2 (some .int)
abbrev w_Ea_levelsOf : List Cond := c_Ea_levelsOf :: gw
abbrev b_No_unhang : ByteArray := prog_3_method_3_code
abbrev y_No_unhang : MethodName := ⟨"SceneEasel$Node", "unhang", "()V"⟩
abbrev c_No_unhang : Cond := Cond.code y_No_unhang b_No_unhang 2 none
abbrev w_No_unhang : List Cond := c_No_unhang :: gw
abbrev b_No_rank : ByteArray := prog_3_method_4_code
abbrev y_No_rank : MethodName := ⟨"SceneEasel$Node", "rank", "()I"⟩
abbrev c_No_rank : Cond := Cond.code y_No_rank b_No_rank 2 (some .int)
abbrev w_No_rank : List Cond := c_No_rank :: gw
abbrev b_Al_size : ByteArray := prog_20_method_8_code
abbrev y_Al_size : MethodName := ⟨"java/util/ArrayList", "size", "()I"⟩
abbrev c_Al_size : Cond := Cond.code y_Al_size b_Al_size 1 (some .int)
abbrev w_Al_size : List Cond := c_Al_size :: gw
abbrev b_Al_get : ByteArray := prog_20_method_20_code
abbrev y_Al_get : MethodName := ⟨"java/util/ArrayList", "get", "(I)Ljava/lang/Object;"⟩
abbrev c_Al_get : Cond := Cond.code y_Al_get b_Al_get 2 (some (.object "java/lang/Object"))
abbrev w_Al_get : List Cond := c_Al_get :: gw
abbrev b_Ob_checkIndex : ByteArray := prog_25_method_17_code
abbrev y_Ob_checkIndex : MethodName := ⟨"java/util/Objects", "checkIndex", "(II)I"⟩
abbrev c_Ob_checkIndex : Cond := Cond.code y_Ob_checkIndex b_Ob_checkIndex 2 (some .int)
abbrev w_Ob_checkIndex : List Cond := c_Ob_checkIndex :: gw
abbrev b_Pr_checkIndex : ByteArray := prog_29_method_11_code
abbrev y_Pr_checkIndex : MethodName := ⟨"jdk/internal/util/Preconditions", "checkIndex", "(IILjava/util/function/BiFunction;)I"⟩
abbrev c_Pr_checkIndex : Cond := Cond.code y_Pr_checkIndex b_Pr_checkIndex 3 (some .int)
abbrev w_Pr_checkIndex : List Cond := c_Pr_checkIndex :: gw
abbrev b_Al_elementData : ByteArray := prog_20_method_18_code
abbrev y_Al_elementData : MethodName := ⟨"java/util/ArrayList", "elementData", "(I)Ljava/lang/Object;"⟩
abbrev c_Al_elementData : Cond := Cond.code y_Al_elementData b_Al_elementData 2 (some (.object "java/lang/Object"))
abbrev w_Al_elementData : List Cond := c_Al_elementData :: gw
abbrev b_Al_remove : ByteArray := prog_20_method_29_code
abbrev y_Al_remove : MethodName := ⟨"java/util/ArrayList", "remove", "(I)Ljava/lang/Object;"⟩
abbrev c_Al_remove : Cond := Cond.code y_Al_remove b_Al_remove 4 (some (.object "java/lang/Object"))
abbrev w_Al_remove : List Cond := c_Al_remove :: gw
abbrev b_Al_fastRemove : ByteArray := prog_20_method_39_code
abbrev y_Al_fastRemove : MethodName := ⟨"java/util/ArrayList", "fastRemove", "([Ljava/lang/Object;I)V"⟩
abbrev c_Al_fastRemove : Cond := Cond.code y_Al_fastRemove b_Al_fastRemove 4 none
abbrev w_Al_fastRemove : List Cond := c_Al_fastRemove :: gw
abbrev b_Ea_remove : ByteArray := prog_1_method_11_code
abbrev y_Ea_remove : MethodName := ⟨"SceneEasel", "remove", "(I)I"⟩
abbrev c_Ea_remove : Cond := Cond.code y_Ea_remove b_Ea_remove 5 (some .int)
abbrev w_Ea_remove : List Cond := c_Ea_remove :: gw
abbrev b_Ea_paint : ByteArray := prog_1_method_12_code
abbrev y_Ea_paint : MethodName := ⟨"SceneEasel", "paint", "(D)I"⟩
abbrev c_Ea_paint : Cond := Cond.code y_Ea_paint b_Ea_paint 7 (some .int)
abbrev w_Ea_paint : List Cond := c_Ea_paint :: gw
abbrev b_Ea_settle : ByteArray := prog_1_method_34_code
abbrev y_Ea_settle : MethodName := ⟨"SceneEasel", "settle", "(D)V"⟩
abbrev c_Ea_settle : Cond := Cond.code y_Ea_settle b_Ea_settle 4 none
abbrev w_Ea_settle : List Cond := c_Ea_settle :: gw
abbrev b_No_settleAt : ByteArray := prog_3_method_8_code
abbrev y_No_settleAt : MethodName := ⟨"SceneEasel$Node", "settleAt", "(D)V"⟩
abbrev c_No_settleAt : Cond := Cond.code y_No_settleAt b_No_settleAt 3 none
abbrev w_No_settleAt : List Cond := c_No_settleAt :: gw
abbrev b_Tr_gliding : ByteArray := prog_4_method_6_code
abbrev y_Tr_gliding : MethodName := ⟨"SceneEasel$Track", "gliding", "(DD)D"⟩
abbrev c_Tr_gliding : Cond := Cond.code y_Tr_gliding b_Tr_gliding 8 (some .double)
abbrev w_Tr_gliding : List Cond := c_Tr_gliding :: gw
abbrev b_Tr_frameFor : ByteArray := prog_4_method_4_code
abbrev y_Tr_frameFor : MethodName := ⟨"SceneEasel$Track", "frameFor", "(D)I"⟩
abbrev c_Tr_frameFor : Cond := Cond.code y_Tr_frameFor b_Tr_frameFor 5 (some .int)
abbrev w_Tr_frameFor : List Cond := c_Tr_frameFor :: gw
abbrev b_Ea_rounded : ByteArray := prog_1_method_36_code
abbrev y_Ea_rounded : MethodName := ⟨"SceneEasel", "rounded", "(D)D"⟩
abbrev c_Ea_rounded : Cond := Cond.code y_Ea_rounded b_Ea_rounded 2 (some .double)
abbrev w_Ea_rounded : List Cond := c_Ea_rounded :: gw
abbrev b_Ea_floorOf : ByteArray := prog_1_method_35_code
abbrev y_Ea_floorOf : MethodName := ⟨"SceneEasel", "floorOf", "(D)D"⟩
abbrev c_Ea_floorOf : Cond := Cond.code y_Ea_floorOf b_Ea_floorOf 4 (some .double)
abbrev w_Ea_floorOf : List Cond := c_Ea_floorOf :: gw
abbrev b_Tr_jumping : ByteArray := prog_4_method_5_code
abbrev y_Tr_jumping : MethodName := ⟨"SceneEasel$Track", "jumping", "(DD)D"⟩
abbrev c_Tr_jumping : Cond := Cond.code y_Tr_jumping b_Tr_jumping 5 (some .double)
abbrev w_Tr_jumping : List Cond := c_Tr_jumping :: gw
abbrev b_No_topInside : ByteArray := prog_3_method_10_code
abbrev y_No_topInside : MethodName := ⟨"SceneEasel$Node", "topInside", "(DD)LSceneEasel$Node;"⟩
abbrev c_No_topInside : Cond := Cond.code y_No_topInside b_No_topInside 12 (some (.object "SceneEasel$Node"))
abbrev w_No_topInside : List Cond := c_No_topInside :: gw
abbrev b_No_inTile : ByteArray := prog_3_method_12_code
abbrev y_No_inTile : MethodName := ⟨"SceneEasel$Node", "inTile", "(D)D"⟩
abbrev c_No_inTile : Cond := Cond.code y_No_inTile b_No_inTile 3 (some .double)
abbrev w_No_inTile : List Cond := c_No_inTile :: gw
abbrev b_No_firstHas : ByteArray := prog_3_method_11_code
abbrev y_No_firstHas : MethodName := ⟨"SceneEasel$Node", "firstHas", "(DD)Z"⟩
abbrev c_No_firstHas : Cond := Cond.code y_No_firstHas b_No_firstHas 5 (some .boolean)
abbrev w_No_firstHas : List Cond := c_No_firstHas :: gw
abbrev b_Al_isEmpty : ByteArray := prog_20_method_9_code
abbrev y_Al_isEmpty : MethodName := ⟨"java/util/ArrayList", "isEmpty", "()Z"⟩
abbrev c_Al_isEmpty : Cond := Cond.code y_Al_isEmpty b_Al_isEmpty 1 (some .boolean)
abbrev w_Al_isEmpty : List Cond := c_Al_isEmpty :: gw
abbrev b_No_topAt : ByteArray := prog_3_method_9_code
abbrev y_No_topAt : MethodName := ⟨"SceneEasel$Node", "topAt", "(DD)LSceneEasel$Node;"⟩
abbrev c_No_topAt : Cond := Cond.code y_No_topAt b_No_topAt 12 (some (.object "SceneEasel$Node"))
abbrev w_No_topAt : List Cond := c_No_topAt :: gw
abbrev b_Ea_powerOfTwo : ByteArray := prog_1_method_37_code
abbrev y_Ea_powerOfTwo : MethodName := ⟨"SceneEasel", "powerOfTwo", "(I)D"⟩
abbrev c_Ea_powerOfTwo : Cond := Cond.code y_Ea_powerOfTwo b_Ea_powerOfTwo 4 (some .double)
abbrev w_Ea_powerOfTwo : List Cond := c_Ea_powerOfTwo :: gw
abbrev b_No_covers : ByteArray := prog_3_method_13_code
abbrev y_No_covers : MethodName := ⟨"SceneEasel$Node", "covers", "(DD)Z"⟩
abbrev c_No_covers : Cond := Cond.code y_No_covers b_No_covers 5 (some .boolean)
abbrev w_No_covers : List Cond := c_No_covers :: gw
abbrev b_Ea_cell : ByteArray := prog_1_method_13_code
abbrev y_Ea_cell : MethodName := ⟨"SceneEasel", "cell", "(II)I"⟩
abbrev c_Ea_cell : Cond := Cond.code y_Ea_cell b_Ea_cell 3 (some .int)
abbrev w_Ea_cell : List Cond := c_Ea_cell :: gw
abbrev b_Ea_top : ByteArray := prog_1_method_14_code
abbrev y_Ea_top : MethodName := ⟨"SceneEasel", "top", "(DDD)I"⟩
abbrev c_Ea_top : Cond := Cond.code y_Ea_top b_Ea_top 8 (some .int)
abbrev w_Ea_top : List Cond := c_Ea_top :: gw
abbrev b_Ea_around : ByteArray := prog_1_method_15_code
abbrev y_Ea_around : MethodName := ⟨"SceneEasel", "around", "(IID)D"⟩
abbrev c_Ea_around : Cond := Cond.code y_Ea_around b_Ea_around 6 (some .double)
abbrev w_Ea_around : List Cond := c_Ea_around :: gw
abbrev b_No_measureInside : ByteArray := prog_3_method_15_code
abbrev y_No_measureInside : MethodName := ⟨"SceneEasel$Node", "measureInside", "()V"⟩
abbrev c_No_measureInside : Cond := Cond.code y_No_measureInside b_No_measureInside 3 none
abbrev w_No_measureInside : List Cond := c_No_measureInside :: gw
abbrev b_Ex_clear : ByteArray := prog_2_method_2_code
abbrev y_Ex_clear : MethodName := ⟨"SceneEasel$Extent", "clear", "()V"⟩
abbrev c_Ex_clear : Cond := Cond.code y_Ex_clear b_Ex_clear 1 none
abbrev w_Ex_clear : List Cond := c_Ex_clear :: gw
abbrev b_No_measure : ByteArray := prog_3_method_14_code
abbrev y_No_measure : MethodName := ⟨"SceneEasel$Node", "measure", "()V"⟩
abbrev c_No_measure : Cond := Cond.code y_No_measure b_No_measure 1 none
abbrev w_No_measure : List Cond := c_No_measure :: gw
abbrev b_Ex_span : ByteArray := prog_2_method_3_code
abbrev y_Ex_span : MethodName := ⟨"SceneEasel$Extent", "span", "(DDDD)V"⟩
abbrev c_Ex_span : Cond := Cond.code y_Ex_span b_Ex_span 9 none
abbrev w_Ex_span : List Cond := c_Ex_span :: gw
abbrev b_No_layOutExtent : ByteArray := prog_3_method_16_code
abbrev y_No_layOutExtent : MethodName := ⟨"SceneEasel$Node", "layOutExtent", "()V"⟩
abbrev c_No_layOutExtent : Cond := Cond.code y_No_layOutExtent b_No_layOutExtent 2 none
abbrev w_No_layOutExtent : List Cond := c_No_layOutExtent :: gw
abbrev b_Ex_scale : ByteArray := prog_2_method_5_code
abbrev y_Ex_scale : MethodName := ⟨"SceneEasel$Extent", "scale", "(D)V"⟩
abbrev c_Ex_scale : Cond := Cond.code y_Ex_scale b_Ex_scale 3 none
abbrev w_Ex_scale : List Cond := c_Ex_scale :: gw
abbrev b_Ex_turnOnce : ByteArray := prog_2_method_6_code
abbrev y_Ex_turnOnce : MethodName := ⟨"SceneEasel$Extent", "turnOnce", "()V"⟩
abbrev c_Ex_turnOnce : Cond := Cond.code y_Ex_turnOnce b_Ex_turnOnce 1 none
abbrev w_Ex_turnOnce : List Cond := c_Ex_turnOnce :: gw
abbrev b_Ex_shift : ByteArray := prog_2_method_7_code
abbrev y_Ex_shift : MethodName := ⟨"SceneEasel$Extent", "shift", "(DD)V"⟩
abbrev c_Ex_shift : Cond := Cond.code y_Ex_shift b_Ex_shift 5 none
abbrev w_Ex_shift : List Cond := c_Ex_shift :: gw
abbrev b_Ex_join : ByteArray := prog_2_method_4_code
abbrev y_Ex_join : MethodName := ⟨"SceneEasel$Extent", "join", "(LSceneEasel$Extent;)V"⟩
abbrev c_Ex_join : Cond := Cond.code y_Ex_join b_Ex_join 2 none
abbrev w_Ex_join : List Cond := c_Ex_join :: gw
abbrev b_Ex_side : ByteArray := prog_2_method_8_code
abbrev y_Ex_side : MethodName := ⟨"SceneEasel$Extent", "side", "(I)D"⟩
abbrev c_Ex_side : Cond := Cond.code y_Ex_side b_Ex_side 4 (some .double)
abbrev w_Ex_side : List Cond := c_Ex_side :: gw
abbrev b_Ea_told : ByteArray := prog_1_method_16_code
abbrev y_Ea_told : MethodName := ⟨"SceneEasel", "told", "(II)I"⟩
abbrev c_Ea_told : Cond := Cond.code y_Ea_told b_Ea_told 4 (some .int)
abbrev w_Ea_told : List Cond := c_Ea_told :: gw
abbrev b_Mo_init : ByteArray := prog_6_method_1_code
abbrev y_Mo_init : MethodName := ⟨"SceneEaselModel", "<init>", "()V"⟩
abbrev c_Mo_init : Cond := Cond.code y_Mo_init b_Mo_init 1 none
abbrev w_Mo_init : List Cond := c_Mo_init :: gw
abbrev b_Mo_sortNodes : ByteArray := prog_6_method_9_code
abbrev y_Mo_sortNodes : MethodName := ⟨"SceneEaselModel", "sortNodes", "()V"⟩
abbrev c_Mo_sortNodes : Cond := Cond.code y_Mo_sortNodes b_Mo_sortNodes 5 none
abbrev w_Mo_sortNodes : List Cond := c_Mo_sortNodes :: gw
abbrev b_Mo_thrown : ByteArray := prog_6_method_2_code
abbrev y_Mo_thrown : MethodName := ⟨"SceneEaselModel", "thrown", "()I"⟩
abbrev c_Mo_thrown : Cond := Cond.code y_Mo_thrown b_Mo_thrown 1 (some .int)
abbrev w_Mo_thrown : List Cond := c_Mo_thrown :: gw
abbrev b_Mo_node : ByteArray := prog_6_method_14_code
abbrev y_Mo_node : MethodName := ⟨"SceneEaselModel", "node", "(III)I"⟩
abbrev c_Mo_node : Cond := Cond.code y_Mo_node b_Mo_node 6 (some .int)
abbrev w_Mo_node : List Cond := c_Mo_node :: gw
abbrev b_Mo_isGroup : ByteArray := prog_6_method_8_code
abbrev y_Mo_isGroup : MethodName := ⟨"SceneEaselModel", "isGroup", "(I)Z"⟩
abbrev c_Mo_isGroup : Cond := Cond.code y_Mo_isGroup b_Mo_isGroup 2 (some .boolean)
abbrev w_Mo_isGroup : List Cond := c_Mo_isGroup :: gw
abbrev b_Mo_is : ByteArray := prog_6_method_6_code
abbrev y_Mo_is : MethodName := ⟨"SceneEaselModel", "is", "(I)Z"⟩
abbrev c_Mo_is : Cond := Cond.code y_Mo_is b_Mo_is 2 (some .boolean)
abbrev w_Mo_is : List Cond := c_Mo_is :: gw
abbrev b_Mo_bad : ByteArray := prog_6_method_5_code
abbrev y_Mo_bad : MethodName := ⟨"SceneEaselModel", "bad", "(Z)Z"⟩
abbrev c_Mo_bad : Cond := Cond.code y_Mo_bad b_Mo_bad 2 (some .boolean)
abbrev w_Mo_bad : List Cond := c_Mo_bad :: gw
abbrev b_Mo_enter : ByteArray := prog_6_method_13_code
abbrev y_Mo_enter : MethodName := ⟨"SceneEaselModel", "enter", "(II)V"⟩
abbrev c_Mo_enter : Cond := Cond.code y_Mo_enter b_Mo_enter 3 none
abbrev w_Mo_enter : List Cond := c_Mo_enter :: gw
abbrev b_Mo_lengths : ByteArray := prog_6_method_15_code
abbrev y_Mo_lengths : MethodName := ⟨"SceneEaselModel", "lengths", "(IDD)V"⟩
abbrev c_Mo_lengths : Cond := Cond.code y_Mo_lengths b_Mo_lengths 6 none
abbrev w_Mo_lengths : List Cond := c_Mo_lengths :: gw
abbrev b_Mo_in : ByteArray := prog_6_method_3_code
abbrev y_Mo_in : MethodName := ⟨"SceneEaselModel", "in", "(DDD)Z"⟩
abbrev c_Mo_in : Cond := Cond.code y_Mo_in b_Mo_in 6 (some .boolean)
abbrev w_Mo_in : List Cond := c_Mo_in :: gw
abbrev b_Mo_place : ByteArray := prog_6_method_16_code
abbrev y_Mo_place : MethodName := ⟨"SceneEaselModel", "place", "(IDD)V"⟩
abbrev c_Mo_place : Cond := Cond.code y_Mo_place b_Mo_place 6 none
abbrev w_Mo_place : List Cond := c_Mo_place :: gw
abbrev b_Mo_isOther : ByteArray := prog_6_method_7_code
abbrev y_Mo_isOther : MethodName := ⟨"SceneEaselModel", "isOther", "(I)Z"⟩
abbrev c_Mo_isOther : Cond := Cond.code y_Mo_isOther b_Mo_isOther 2 (some .boolean)
abbrev w_Mo_isOther : List Cond := c_Mo_isOther :: gw
abbrev b_Mo_lay : ByteArray := prog_6_method_17_code
abbrev y_Mo_lay : MethodName := ⟨"SceneEaselModel", "lay", "(III)V"⟩
abbrev c_Mo_lay : Cond := Cond.code y_Mo_lay b_Mo_lay 4 none
abbrev w_Mo_lay : List Cond := c_Mo_lay :: gw
abbrev b_Mo_mode : ByteArray := prog_6_method_18_code
abbrev y_Mo_mode : MethodName := ⟨"SceneEaselModel", "mode", "(IID)V"⟩
abbrev c_Mo_mode : Cond := Cond.code y_Mo_mode b_Mo_mode 5 none
abbrev w_Mo_mode : List Cond := c_Mo_mode :: gw
abbrev b_Mo_hide : ByteArray := prog_6_method_19_code
abbrev y_Mo_hide : MethodName := ⟨"SceneEaselModel", "hide", "(IZ)V"⟩
abbrev c_Mo_hide : Cond := Cond.code y_Mo_hide b_Mo_hide 3 none
abbrev w_Mo_hide : List Cond := c_Mo_hide :: gw
abbrev b_Mo_key : ByteArray := prog_6_method_21_code
abbrev y_Mo_key : MethodName := ⟨"SceneEaselModel", "key", "(IIDD)I"⟩
abbrev c_Mo_key : Cond := Cond.code y_Mo_key b_Mo_key 11 (some .int)
abbrev w_Mo_key : List Cond := c_Mo_key :: gw
abbrev b_Mo_fits : ByteArray := prog_6_method_20_code
abbrev y_Mo_fits : MethodName := ⟨"SceneEaselModel", "fits", "(ID)Z"⟩
abbrev c_Mo_fits : Cond := Cond.code y_Mo_fits b_Mo_fits 3 (some .boolean)
abbrev w_Mo_fits : List Cond := c_Mo_fits :: gw
abbrev b_Mo_floor : ByteArray := prog_6_method_4_code
abbrev y_Mo_floor : MethodName := ⟨"SceneEaselModel", "floor", "(D)D"⟩
abbrev c_Mo_floor : Cond := Cond.code y_Mo_floor b_Mo_floor 4 (some .double)
abbrev w_Mo_floor : List Cond := c_Mo_floor :: gw
abbrev b_Mo_unkey : ByteArray := prog_6_method_22_code
abbrev y_Mo_unkey : MethodName := ⟨"SceneEaselModel", "unkey", "(II)V"⟩
abbrev c_Mo_unkey : Cond := Cond.code y_Mo_unkey b_Mo_unkey 3 none
abbrev w_Mo_unkey : List Cond := c_Mo_unkey :: gw
abbrev b_Mo_into : ByteArray := prog_6_method_25_code
abbrev y_Mo_into : MethodName := ⟨"SceneEaselModel", "into", "(II)V"⟩
abbrev c_Mo_into : Cond := Cond.code y_Mo_into b_Mo_into 3 none
abbrev w_Mo_into : List Cond := c_Mo_into :: gw
abbrev b_Mo_within : ByteArray := prog_6_method_10_code
abbrev y_Mo_within : MethodName := ⟨"SceneEaselModel", "within", "(II)Z"⟩
abbrev c_Mo_within : Cond := Cond.code y_Mo_within b_Mo_within 4 (some .boolean)
abbrev w_Mo_within : List Cond := c_Mo_within :: gw
abbrev b_Mo_height : ByteArray := prog_6_method_24_code
abbrev y_Mo_height : MethodName := ⟨"SceneEaselModel", "height", "(I)I"⟩
abbrev c_Mo_height : Cond := Cond.code y_Mo_height b_Mo_height 5 (some .int)
abbrev w_Mo_height : List Cond := c_Mo_height :: gw
abbrev b_Mo_leave : ByteArray := prog_6_method_12_code
abbrev y_Mo_leave : MethodName := ⟨"SceneEaselModel", "leave", "(I)V"⟩
abbrev c_Mo_leave : Cond := Cond.code y_Mo_leave b_Mo_leave 4 none
abbrev w_Mo_leave : List Cond := c_Mo_leave :: gw
abbrev b_Mo_placeOf : ByteArray := prog_6_method_11_code
abbrev y_Mo_placeOf : MethodName := ⟨"SceneEaselModel", "placeOf", "(I)I"⟩
abbrev c_Mo_placeOf : Cond := Cond.code y_Mo_placeOf b_Mo_placeOf 3 (some .int)
abbrev w_Mo_placeOf : List Cond := c_Mo_placeOf :: gw
abbrev b_Mo_remove : ByteArray := prog_6_method_26_code
abbrev y_Mo_remove : MethodName := ⟨"SceneEaselModel", "remove", "(I)I"⟩
abbrev c_Mo_remove : Cond := Cond.code y_Mo_remove b_Mo_remove 5 (some .int)
abbrev w_Mo_remove : List Cond := c_Mo_remove :: gw
abbrev b_Mo_paint : ByteArray := prog_6_method_30_code
abbrev y_Mo_paint : MethodName := ⟨"SceneEaselModel", "paint", "(D)I"⟩
abbrev c_Mo_paint : Cond := Cond.code y_Mo_paint b_Mo_paint 5 (some .int)
abbrev w_Mo_paint : List Cond := c_Mo_paint :: gw
abbrev b_Mo_look : ByteArray := prog_6_method_28_code
abbrev y_Mo_look : MethodName := ⟨"SceneEaselModel", "look", "(DDD)V"⟩
abbrev c_Mo_look : Cond := Cond.code y_Mo_look b_Mo_look 16 none
abbrev w_Mo_look : List Cond := c_Mo_look :: gw
abbrev b_Mo_at : ByteArray := prog_6_method_23_code
abbrev y_Mo_at : MethodName := ⟨"SceneEaselModel", "at", "(IID)D"⟩
abbrev c_Mo_at : Cond := Cond.code y_Mo_at b_Mo_at 16 (some .double)
abbrev w_Mo_at : List Cond := c_Mo_at :: gw
abbrev b_Mo_power : ByteArray := prog_6_method_27_code
abbrev y_Mo_power : MethodName := ⟨"SceneEaselModel", "power", "(D)D"⟩
abbrev c_Mo_power : Cond := Cond.code y_Mo_power b_Mo_power 2 (some .double)
abbrev w_Mo_power : List Cond := c_Mo_power :: gw
abbrev b_Mo_find : ByteArray := prog_6_method_29_code
abbrev y_Mo_find : MethodName := ⟨"SceneEaselModel", "find", "(I)V"⟩
abbrev c_Mo_find : Cond := Cond.code y_Mo_find b_Mo_find 10 none
abbrev w_Mo_find : List Cond := c_Mo_find :: gw
abbrev b_Mo_cell : ByteArray := prog_6_method_31_code
abbrev y_Mo_cell : MethodName := ⟨"SceneEaselModel", "cell", "(II)I"⟩
abbrev c_Mo_cell : Cond := Cond.code y_Mo_cell b_Mo_cell 3 (some .int)
abbrev w_Mo_cell : List Cond := c_Mo_cell :: gw
abbrev b_Mo_top : ByteArray := prog_6_method_32_code
abbrev y_Mo_top : MethodName := ⟨"SceneEaselModel", "top", "(DDD)I"⟩
abbrev c_Mo_top : Cond := Cond.code y_Mo_top b_Mo_top 7 (some .int)
abbrev w_Mo_top : List Cond := c_Mo_top :: gw
abbrev b_Mo_around : ByteArray := prog_6_method_36_code
abbrev y_Mo_around : MethodName := ⟨"SceneEaselModel", "around", "(IID)D"⟩
abbrev c_Mo_around : Cond := Cond.code y_Mo_around b_Mo_around 6 (some .double)
abbrev w_Mo_around : List Cond := c_Mo_around :: gw
abbrev b_Mo_box : ByteArray := prog_6_method_35_code
abbrev y_Mo_box : MethodName := ⟨"SceneEaselModel", "box", "(ID)V"⟩
abbrev c_Mo_box : Cond := Cond.code y_Mo_box b_Mo_box 14 none
abbrev w_Mo_box : List Cond := c_Mo_box :: gw
abbrev b_Mo_layOut : ByteArray := prog_6_method_33_code
abbrev y_Mo_layOut : MethodName := ⟨"SceneEaselModel", "layOut", "(IDDD)V"⟩
abbrev c_Mo_layOut : Cond := Cond.code y_Mo_layOut b_Mo_layOut 17 none
abbrev w_Mo_layOut : List Cond := c_Mo_layOut :: gw
abbrev b_Mo_widen : ByteArray := prog_6_method_34_code
abbrev y_Mo_widen : MethodName := ⟨"SceneEaselModel", "widen", "(ID)V"⟩
abbrev c_Mo_widen : Cond := Cond.code y_Mo_widen b_Mo_widen 4 none
abbrev w_Mo_widen : List Cond := c_Mo_widen :: gw
abbrev b_Mo_told : ByteArray := prog_6_method_38_code
abbrev y_Mo_told : MethodName := ⟨"SceneEaselModel", "told", "(II)I"⟩
abbrev c_Mo_told : Cond := Cond.code y_Mo_told b_Mo_told 3 (some .int)
abbrev w_Mo_told : List Cond := c_Mo_told :: gw
abbrev b_Mo_keysOf : ByteArray := prog_6_method_37_code
abbrev y_Mo_keysOf : MethodName := ⟨"SceneEaselModel", "keysOf", "(I)I"⟩
abbrev c_Mo_keysOf : Cond := Cond.code y_Mo_keysOf b_Mo_keysOf 2 (some .int)
abbrev w_Mo_keysOf : List Cond := c_Mo_keysOf :: gw
abbrev b_Mo_count : ByteArray := prog_6_method_39_code
abbrev y_Mo_count : MethodName := ⟨"SceneEaselModel", "count", "(I)I"⟩
abbrev c_Mo_count : Cond := Cond.code y_Mo_count b_Mo_count 5 (some .int)
abbrev w_Mo_count : List Cond := c_Mo_count :: gw
abbrev b_La_node : ByteArray := method_3_code
abbrev y_La_node : MethodName := ⟨"SceneEaselLaw", "node", "(LSceneEasel;III[J)I"⟩
abbrev h_La_node : List (Nat × Nat × Nat × Nat) := [(0, 12, 15, 13), (0, 12, 19, 15)]
abbrev c_La_node : Cond := Cond.codeWith y_La_node b_La_node 6 (some .int) h_La_node
abbrev w_La_node : List Cond := c_La_node :: gw
abbrev b_La_lengths : ByteArray := method_4_code
abbrev y_La_lengths : MethodName := ⟨"SceneEaselLaw", "lengths", "(LSceneEasel;IDD)I"⟩
abbrev h_La_lengths : List (Nat × Nat × Nat × Nat) := [(0, 8, 11, 13)]
abbrev c_La_lengths : Cond := Cond.codeWith y_La_lengths b_La_lengths 7 (some .int) h_La_lengths
abbrev w_La_lengths : List Cond := c_La_lengths :: gw
abbrev b_La_place : ByteArray := method_5_code
abbrev y_La_place : MethodName := ⟨"SceneEaselLaw", "place", "(LSceneEasel;IDD)I"⟩
abbrev h_La_place : List (Nat × Nat × Nat × Nat) := [(0, 8, 11, 13)]
abbrev c_La_place : Cond := Cond.codeWith y_La_place b_La_place 7 (some .int) h_La_place
abbrev w_La_place : List Cond := c_La_place :: gw
abbrev b_La_lay : ByteArray := method_6_code
abbrev y_La_lay : MethodName := ⟨"SceneEaselLaw", "lay", "(LSceneEasel;III)I"⟩
abbrev h_La_lay : List (Nat × Nat × Nat × Nat) := [(0, 7, 10, 13)]
abbrev c_La_lay : Cond := Cond.codeWith y_La_lay b_La_lay 5 (some .int) h_La_lay
abbrev w_La_lay : List Cond := c_La_lay :: gw
abbrev b_La_mode : ByteArray := method_7_code
abbrev y_La_mode : MethodName := ⟨"SceneEaselLaw", "mode", "(LSceneEasel;IID)I"⟩
abbrev h_La_mode : List (Nat × Nat × Nat × Nat) := [(0, 7, 10, 13)]
abbrev c_La_mode : Cond := Cond.codeWith y_La_mode b_La_mode 6 (some .int) h_La_mode
abbrev w_La_mode : List Cond := c_La_mode :: gw
abbrev b_La_hide : ByteArray := method_8_code
abbrev y_La_hide : MethodName := ⟨"SceneEaselLaw", "hide", "(LSceneEasel;IZ)I"⟩
abbrev h_La_hide : List (Nat × Nat × Nat × Nat) := [(0, 6, 9, 13)]
abbrev c_La_hide : Cond := Cond.codeWith y_La_hide b_La_hide 4 (some .int) h_La_hide
abbrev w_La_hide : List Cond := c_La_hide :: gw
abbrev b_La_key : ByteArray := method_9_code
abbrev y_La_key : MethodName := ⟨"SceneEaselLaw", "key", "(LSceneEasel;IIDD[J)I"⟩
abbrev h_La_key : List (Nat × Nat × Nat × Nat) := [(0, 14, 17, 13), (0, 14, 21, 15)]
abbrev c_La_key : Cond := Cond.codeWith y_La_key b_La_key 9 (some .int) h_La_key
abbrev w_La_key : List Cond := c_La_key :: gw
abbrev b_La_unkey : ByteArray := method_10_code
abbrev y_La_unkey : MethodName := ⟨"SceneEaselLaw", "unkey", "(LSceneEasel;II)I"⟩
abbrev h_La_unkey : List (Nat × Nat × Nat × Nat) := [(0, 6, 9, 13), (0, 6, 12, 44)]
abbrev c_La_unkey : Cond := Cond.codeWith y_La_unkey b_La_unkey 4 (some .int) h_La_unkey
abbrev w_La_unkey : List Cond := c_La_unkey :: gw
abbrev b_La_into : ByteArray := method_11_code
abbrev y_La_into : MethodName := ⟨"SceneEaselLaw", "into", "(LSceneEasel;II)I"⟩
abbrev h_La_into : List (Nat × Nat × Nat × Nat) := [(0, 6, 9, 13), (0, 6, 12, 15)]
abbrev c_La_into : Cond := Cond.codeWith y_La_into b_La_into 4 (some .int) h_La_into
abbrev w_La_into : List Cond := c_La_into :: gw
abbrev b_La_remove : ByteArray := method_12_code
abbrev y_La_remove : MethodName := ⟨"SceneEaselLaw", "remove", "(LSceneEasel;I[J)I"⟩
abbrev h_La_remove : List (Nat × Nat × Nat × Nat) := [(0, 9, 12, 13)]
abbrev c_La_remove : Cond := Cond.codeWith y_La_remove b_La_remove 4 (some .int) h_La_remove
abbrev w_La_remove : List Cond := c_La_remove :: gw
abbrev b_La_paint : ByteArray := method_13_code
abbrev y_La_paint : MethodName := ⟨"SceneEaselLaw", "paint", "(LSceneEasel;D[J)I"⟩
abbrev h_La_paint : List (Nat × Nat × Nat × Nat) := [(0, 9, 12, 13)]
abbrev c_La_paint : Cond := Cond.codeWith y_La_paint b_La_paint 5 (some .int) h_La_paint
abbrev w_La_paint : List Cond := c_La_paint :: gw
abbrev b_La_cell : ByteArray := method_14_code
abbrev y_La_cell : MethodName := ⟨"SceneEaselLaw", "cell", "(LSceneEasel;II[J)I"⟩
abbrev h_La_cell : List (Nat × Nat × Nat × Nat) := [(0, 10, 13, 13)]
abbrev c_La_cell : Cond := Cond.codeWith y_La_cell b_La_cell 5 (some .int) h_La_cell
abbrev w_La_cell : List Cond := c_La_cell :: gw
abbrev b_La_top : ByteArray := method_15_code
abbrev y_La_top : MethodName := ⟨"SceneEaselLaw", "top", "(LSceneEasel;DDD[J)I"⟩
abbrev h_La_top : List (Nat × Nat × Nat × Nat) := [(0, 13, 16, 13), (0, 13, 20, 44)]
abbrev c_La_top : Cond := Cond.codeWith y_La_top b_La_top 9 (some .int) h_La_top
abbrev w_La_top : List Cond := c_La_top :: gw
abbrev b_La_around : ByteArray := method_16_code
abbrev y_La_around : MethodName := ⟨"SceneEaselLaw", "around", "(LSceneEasel;IID[D)I"⟩
abbrev h_La_around : List (Nat × Nat × Nat × Nat) := [(0, 11, 14, 13), (0, 11, 18, 44)]
abbrev c_La_around : Cond := Cond.codeWith y_La_around b_La_around 7 (some .int) h_La_around
abbrev w_La_around : List Cond := c_La_around :: gw
abbrev b_La_told : ByteArray := method_17_code
abbrev y_La_told : MethodName := ⟨"SceneEaselLaw", "told", "(LSceneEasel;II[J)I"⟩
abbrev h_La_told : List (Nat × Nat × Nat × Nat) := [(0, 10, 13, 13)]
abbrev c_La_told : Cond := Cond.codeWith y_La_told b_La_told 5 (some .int) h_La_told
abbrev w_La_told : List Cond := c_La_told :: gw
end
section
/-! decode rows, by program -/
theorem d_No_init_0 : decode b_No_init 0 = .ok (.aload_n 0, 1) := by decide +kernel
theorem d_No_init_1 : decode b_No_init 1 = .ok (.invokespecial 3, 3) := by decide +kernel
theorem d_No_init_4 : decode b_No_init 4 = .ok (.aload_n 0, 1) := by decide +kernel
theorem d_No_init_5 : decode b_No_init 5 = .ok (.new 9, 3) := by decide +kernel
theorem d_No_init_8 : decode b_No_init 8 = .ok (.dup, 1) := by decide +kernel
theorem d_No_init_9 : decode b_No_init 9 = .ok (.invokespecial 11, 3) := by decide +kernel
theorem d_No_init_12 : decode b_No_init 12 = .ok (.putfield 12, 3) := by decide +kernel
theorem d_No_init_15 : decode b_No_init 15 = .ok (.aload_n 0, 1) := by decide +kernel
theorem d_No_init_16 : decode b_No_init 16 = .ok (.iconst 4, 1) := by decide +kernel
theorem d_No_init_17 : decode b_No_init 17 = .ok (.anewarray 18, 3) := by decide +kernel
theorem d_No_init_20 : decode b_No_init 20 = .ok (.putfield 20, 3) := by decide +kernel
theorem d_No_init_23 : decode b_No_init 23 = .ok (.aload_n 0, 1) := by decide +kernel
theorem d_No_init_24 : decode b_No_init 24 = .ok (.new 24, 3) := by decide +kernel
theorem d_No_init_27 : decode b_No_init 27 = .ok (.dup, 1) := by decide +kernel
theorem d_No_init_28 : decode b_No_init 28 = .ok (.invokespecial 26, 3) := by decide +kernel
theorem d_No_init_31 : decode b_No_init 31 = .ok (.putfield 27, 3) := by decide +kernel
theorem d_No_init_34 : decode b_No_init 34 = .ok (.aload_n 0, 1) := by decide +kernel
theorem d_No_init_35 : decode b_No_init 35 = .ok (.dconst 1, 1) := by decide +kernel
theorem d_No_init_36 : decode b_No_init 36 = .ok (.putfield 31, 3) := by decide +kernel
theorem d_No_init_39 : decode b_No_init 39 = .ok (.aload_n 0, 1) := by decide +kernel
theorem d_No_init_40 : decode b_No_init 40 = .ok (.dconst 1, 1) := by decide +kernel
theorem d_No_init_41 : decode b_No_init 41 = .ok (.putfield 35, 3) := by decide +kernel
theorem d_No_init_44 : decode b_No_init 44 = .ok (.aload_n 0, 1) := by decide +kernel
theorem d_No_init_45 : decode b_No_init 45 = .ok (.dconst 1, 1) := by decide +kernel
theorem d_No_init_46 : decode b_No_init 46 = .ok (.putfield 38, 3) := by decide +kernel
theorem d_No_init_49 : decode b_No_init 49 = .ok (.aload_n 0, 1) := by decide +kernel
theorem d_No_init_50 : decode b_No_init 50 = .ok (.iload_n 1, 1) := by decide +kernel
theorem d_No_init_51 : decode b_No_init 51 = .ok (.putfield 41, 3) := by decide +kernel
theorem d_No_init_54 : decode b_No_init 54 = .ok (.aload_n 0, 1) := by decide +kernel
theorem d_No_init_55 : decode b_No_init 55 = .ok (.iload_n 2, 1) := by decide +kernel
theorem d_No_init_56 : decode b_No_init 56 = .ok (.putfield 45, 3) := by decide +kernel
theorem d_No_init_59 : decode b_No_init 59 = .ok (.aload_n 0, 1) := by decide +kernel
theorem d_No_init_60 : decode b_No_init 60 = .ok (.iload_n 3, 1) := by decide +kernel
theorem d_No_init_61 : decode b_No_init 61 = .ok (.putfield 48, 3) := by decide +kernel
theorem d_No_init_64 : decode b_No_init 64 = .ok (.iconst 0, 1) := by decide +kernel
theorem d_No_init_65 : decode b_No_init 65 = .ok (.istore 4, 2) := by decide +kernel
theorem d_No_init_67 : decode b_No_init 67 = .ok (.iload 4, 2) := by decide +kernel
theorem d_No_init_69 : decode b_No_init 69 = .ok (.iconst 4, 1) := by decide +kernel
theorem d_No_init_70 : decode b_No_init 70 = .ok (.if_icmp .ge 23, 3) := by decide +kernel
theorem d_No_init_73 : decode b_No_init 73 = .ok (.aload_n 0, 1) := by decide +kernel
theorem d_No_init_74 : decode b_No_init 74 = .ok (.getfield 20, 3) := by decide +kernel
theorem d_No_init_77 : decode b_No_init 77 = .ok (.iload 4, 2) := by decide +kernel
theorem d_No_init_79 : decode b_No_init 79 = .ok (.new 18, 3) := by decide +kernel
theorem d_No_init_82 : decode b_No_init 82 = .ok (.dup, 1) := by decide +kernel
theorem d_No_init_83 : decode b_No_init 83 = .ok (.invokespecial 51, 3) := by decide +kernel
theorem d_No_init_86 : decode b_No_init 86 = .ok (.aastore, 1) := by decide +kernel
theorem d_No_init_87 : decode b_No_init 87 = .ok (.iinc 4 1, 3) := by decide +kernel
theorem d_No_init_90 : decode b_No_init 90 = .ok (.goto (-23), 3) := by decide +kernel
theorem d_No_init_93 : decode b_No_init 93 = .ok (.return_, 1) := by decide +kernel
theorem d_Al_init_0 : decode b_Al_init 0 = .ok (.aload_n 0, 1) := by decide +kernel
theorem d_Al_init_1 : decode b_Al_init 1 = .ok (.invokespecial 1, 3) := by decide +kernel
theorem d_Al_init_4 : decode b_Al_init 4 = .ok (.aload_n 0, 1) := by decide +kernel
theorem d_Al_init_5 : decode b_Al_init 5 = .ok (.getstatic 39, 3) := by decide +kernel
theorem d_Al_init_8 : decode b_Al_init 8 = .ok (.putfield 9, 3) := by decide +kernel
theorem d_Al_init_11 : decode b_Al_init 11 = .ok (.return_, 1) := by decide +kernel
theorem d_Ab_init_0 : decode b_Ab_init 0 = .ok (.aload_n 0, 1) := by decide +kernel
theorem d_Ab_init_1 : decode b_Ab_init 1 = .ok (.invokespecial 1, 3) := by decide +kernel
theorem d_Ab_init_4 : decode b_Ab_init 4 = .ok (.aload_n 0, 1) := by decide +kernel
theorem d_Ab_init_5 : decode b_Ab_init 5 = .ok (.iconst 0, 1) := by decide +kernel
theorem d_Ab_init_6 : decode b_Ab_init 6 = .ok (.putfield 7, 3) := by decide +kernel
theorem d_Ab_init_9 : decode b_Ab_init 9 = .ok (.return_, 1) := by decide +kernel
theorem d_Ac_init_0 : decode b_Ac_init 0 = .ok (.aload_n 0, 1) := by decide +kernel
theorem d_Ac_init_1 : decode b_Ac_init 1 = .ok (.invokespecial 1, 3) := by decide +kernel
theorem d_Ac_init_4 : decode b_Ac_init 4 = .ok (.return_, 1) := by decide +kernel
theorem d_Ex_init_0 : decode b_Ex_init 0 = .ok (.aload_n 0, 1) := by decide +kernel
theorem d_Ex_init_1 : decode b_Ex_init 1 = .ok (.invokespecial 1, 3) := by decide +kernel
theorem d_Ex_init_4 : decode b_Ex_init 4 = .ok (.aload_n 0, 1) := by decide +kernel
theorem d_Ex_init_5 : decode b_Ex_init 5 = .ok (.iconst 1, 1) := by decide +kernel
theorem d_Ex_init_6 : decode b_Ex_init 6 = .ok (.putfield 7, 3) := by decide +kernel
theorem d_Ex_init_9 : decode b_Ex_init 9 = .ok (.return_, 1) := by decide +kernel
theorem d_Tr_init_0 : decode b_Tr_init 0 = .ok (.aload_n 0, 1) := by decide +kernel
theorem d_Tr_init_1 : decode b_Tr_init 1 = .ok (.invokespecial 3, 3) := by decide +kernel
theorem d_Tr_init_4 : decode b_Tr_init 4 = .ok (.aload_n 0, 1) := by decide +kernel
theorem d_Tr_init_5 : decode b_Tr_init 5 = .ok (.iconst 4, 1) := by decide +kernel
theorem d_Tr_init_6 : decode b_Tr_init 6 = .ok (.newarray .double, 2) := by decide +kernel
theorem d_Tr_init_8 : decode b_Tr_init 8 = .ok (.putfield 9, 3) := by decide +kernel
theorem d_Tr_init_11 : decode b_Tr_init 11 = .ok (.aload_n 0, 1) := by decide +kernel
theorem d_Tr_init_12 : decode b_Tr_init 12 = .ok (.iconst 4, 1) := by decide +kernel
theorem d_Tr_init_13 : decode b_Tr_init 13 = .ok (.newarray .double, 2) := by decide +kernel
theorem d_Tr_init_15 : decode b_Tr_init 15 = .ok (.putfield 15, 3) := by decide +kernel
theorem d_Tr_init_18 : decode b_Tr_init 18 = .ok (.return_, 1) := by decide +kernel
theorem d_No_frames_0 : decode b_No_frames 0 = .ok (.iconst 0, 1) := by decide +kernel
theorem d_No_frames_1 : decode b_No_frames 1 = .ok (.istore_n 1, 1) := by decide +kernel
theorem d_No_frames_2 : decode b_No_frames 2 = .ok (.iconst 0, 1) := by decide +kernel
theorem d_No_frames_3 : decode b_No_frames 3 = .ok (.istore_n 2, 1) := by decide +kernel
theorem d_No_frames_4 : decode b_No_frames 4 = .ok (.iload_n 2, 1) := by decide +kernel
theorem d_No_frames_5 : decode b_No_frames 5 = .ok (.iconst 4, 1) := by decide +kernel
theorem d_No_frames_6 : decode b_No_frames 6 = .ok (.if_icmp .ge 21, 3) := by decide +kernel
theorem d_No_frames_9 : decode b_No_frames 9 = .ok (.iload_n 1, 1) := by decide +kernel
theorem d_No_frames_10 : decode b_No_frames 10 = .ok (.aload_n 0, 1) := by decide +kernel
theorem d_No_frames_11 : decode b_No_frames 11 = .ok (.getfield 20, 3) := by decide +kernel
theorem d_No_frames_14 : decode b_No_frames 14 = .ok (.iload_n 2, 1) := by decide +kernel
theorem d_No_frames_15 : decode b_No_frames 15 = .ok (.aaload, 1) := by decide +kernel
theorem d_No_frames_16 : decode b_No_frames 16 = .ok (.getfield 74, 3) := by decide +kernel
theorem d_No_frames_19 : decode b_No_frames 19 = .ok (.iadd, 1) := by decide +kernel
theorem d_No_frames_20 : decode b_No_frames 20 = .ok (.istore_n 1, 1) := by decide +kernel
theorem d_No_frames_21 : decode b_No_frames 21 = .ok (.iinc 2 1, 3) := by decide +kernel
theorem d_No_frames_24 : decode b_No_frames 24 = .ok (.goto (-20), 3) := by decide +kernel
theorem d_No_frames_27 : decode b_No_frames 27 = .ok (.iload_n 1, 1) := by decide +kernel
theorem d_No_frames_28 : decode b_No_frames 28 = .ok (.ireturn, 1) := by decide +kernel
theorem d_No_isIn_0 : decode b_No_isIn 0 = .ok (.aload_n 0, 1) := by decide +kernel
theorem d_No_isIn_1 : decode b_No_isIn 1 = .ok (.astore_n 2, 1) := by decide +kernel
theorem d_No_isIn_2 : decode b_No_isIn 2 = .ok (.aload_n 2, 1) := by decide +kernel
theorem d_No_isIn_3 : decode b_No_isIn 3 = .ok (.ifnull 18, 3) := by decide +kernel
theorem d_No_isIn_6 : decode b_No_isIn 6 = .ok (.aload_n 2, 1) := by decide +kernel
theorem d_No_isIn_7 : decode b_No_isIn 7 = .ok (.aload_n 1, 1) := by decide +kernel
theorem d_No_isIn_8 : decode b_No_isIn 8 = .ok (.if_acmp .ne 5, 3) := by decide +kernel
theorem d_No_isIn_11 : decode b_No_isIn 11 = .ok (.iconst 1, 1) := by decide +kernel
theorem d_No_isIn_12 : decode b_No_isIn 12 = .ok (.ireturn, 1) := by decide +kernel
theorem d_No_isIn_13 : decode b_No_isIn 13 = .ok (.aload_n 2, 1) := by decide +kernel
theorem d_No_isIn_14 : decode b_No_isIn 14 = .ok (.getfield 52, 3) := by decide +kernel
theorem d_No_isIn_17 : decode b_No_isIn 17 = .ok (.astore_n 2, 1) := by decide +kernel
theorem d_No_isIn_18 : decode b_No_isIn 18 = .ok (.goto (-16), 3) := by decide +kernel
theorem d_No_isIn_21 : decode b_No_isIn 21 = .ok (.iconst 0, 1) := by decide +kernel
theorem d_No_isIn_22 : decode b_No_isIn 22 = .ok (.ireturn, 1) := by decide +kernel
theorem d_No_depth_0 : decode b_No_depth 0 = .ok (.iconst 0, 1) := by decide +kernel
theorem d_No_depth_1 : decode b_No_depth 1 = .ok (.istore_n 1, 1) := by decide +kernel
theorem d_No_depth_2 : decode b_No_depth 2 = .ok (.aload_n 0, 1) := by decide +kernel
theorem d_No_depth_3 : decode b_No_depth 3 = .ok (.getfield 52, 3) := by decide +kernel
theorem d_No_depth_6 : decode b_No_depth 6 = .ok (.astore_n 2, 1) := by decide +kernel
theorem d_No_depth_7 : decode b_No_depth 7 = .ok (.aload_n 2, 1) := by decide +kernel
theorem d_No_depth_8 : decode b_No_depth 8 = .ok (.ifnull 14, 3) := by decide +kernel
theorem d_No_depth_11 : decode b_No_depth 11 = .ok (.iinc 1 1, 3) := by decide +kernel
theorem d_No_depth_14 : decode b_No_depth 14 = .ok (.aload_n 2, 1) := by decide +kernel
theorem d_No_depth_15 : decode b_No_depth 15 = .ok (.getfield 52, 3) := by decide +kernel
theorem d_No_depth_18 : decode b_No_depth 18 = .ok (.astore_n 2, 1) := by decide +kernel
theorem d_No_depth_19 : decode b_No_depth 19 = .ok (.goto (-12), 3) := by decide +kernel
theorem d_No_depth_22 : decode b_No_depth 22 = .ok (.iload_n 1, 1) := by decide +kernel
theorem d_No_depth_23 : decode b_No_depth 23 = .ok (.ireturn, 1) := by decide +kernel
theorem d_Ma_max_0 : decode b_Ma_max 0 = .ok (.iload_n 0, 1) := by decide +kernel
theorem d_Ma_max_1 : decode b_Ma_max 1 = .ok (.iload_n 1, 1) := by decide +kernel
theorem d_Ma_max_2 : decode b_Ma_max 2 = .ok (.if_icmp .lt 7, 3) := by decide +kernel
theorem d_Ma_max_5 : decode b_Ma_max 5 = .ok (.iload_n 0, 1) := by decide +kernel
theorem d_Ma_max_6 : decode b_Ma_max 6 = .ok (.goto 4, 3) := by decide +kernel
theorem d_Ma_max_9 : decode b_Ma_max 9 = .ok (.iload_n 1, 1) := by decide +kernel
theorem d_Ma_max_10 : decode b_Ma_max 10 = .ok (.ireturn, 1) := by decide +kernel
theorem d_No_hangInto_0 : decode b_No_hangInto 0 = .ok (.aload_n 0, 1) := by decide +kernel
theorem d_No_hangInto_1 : decode b_No_hangInto 1 = .ok (.aload_n 1, 1) := by decide +kernel
theorem d_No_hangInto_2 : decode b_No_hangInto 2 = .ok (.putfield 52, 3) := by decide +kernel
theorem d_No_hangInto_5 : decode b_No_hangInto 5 = .ok (.aload_n 1, 1) := by decide +kernel
theorem d_No_hangInto_6 : decode b_No_hangInto 6 = .ok (.getfield 12, 3) := by decide +kernel
theorem d_No_hangInto_9 : decode b_No_hangInto 9 = .ok (.aload_n 0, 1) := by decide +kernel
theorem d_No_hangInto_10 : decode b_No_hangInto 10 = .ok (.invokevirtual 56, 3) := by decide +kernel
theorem d_No_hangInto_13 : decode b_No_hangInto 13 = .ok (.pop, 1) := by decide +kernel
theorem d_No_hangInto_14 : decode b_No_hangInto 14 = .ok (.return_, 1) := by decide +kernel
theorem d_Al_add1_0 : decode b_Al_add1 0 = .ok (.aload_n 0, 1) := by decide +kernel
theorem d_Al_add1_1 : decode b_Al_add1 1 = .ok (.dup, 1) := by decide +kernel
theorem d_Al_add1_2 : decode b_Al_add1 2 = .ok (.getfield 63, 3) := by decide +kernel
theorem d_Al_add1_5 : decode b_Al_add1 5 = .ok (.iconst 1, 1) := by decide +kernel
theorem d_Al_add1_6 : decode b_Al_add1 6 = .ok (.iadd, 1) := by decide +kernel
theorem d_Al_add1_7 : decode b_Al_add1 7 = .ok (.putfield 63, 3) := by decide +kernel
theorem d_Al_add1_10 : decode b_Al_add1 10 = .ok (.aload_n 0, 1) := by decide +kernel
theorem d_Al_add1_11 : decode b_Al_add1 11 = .ok (.aload_n 1, 1) := by decide +kernel
theorem d_Al_add1_12 : decode b_Al_add1 12 = .ok (.aload_n 0, 1) := by decide +kernel
theorem d_Al_add1_13 : decode b_Al_add1 13 = .ok (.getfield 9, 3) := by decide +kernel
theorem d_Al_add1_16 : decode b_Al_add1 16 = .ok (.aload_n 0, 1) := by decide +kernel
theorem d_Al_add1_17 : decode b_Al_add1 17 = .ok (.getfield 48, 3) := by decide +kernel
theorem d_Al_add1_20 : decode b_Al_add1 20 = .ok (.invokevirtual 131, 3) := by decide +kernel
theorem d_Al_add1_23 : decode b_Al_add1 23 = .ok (.iconst 1, 1) := by decide +kernel
theorem d_Al_add1_24 : decode b_Al_add1 24 = .ok (.ireturn, 1) := by decide +kernel
theorem d_Al_add2_0 : decode b_Al_add2 0 = .ok (.iload_n 3, 1) := by decide +kernel
theorem d_Al_add2_1 : decode b_Al_add2 1 = .ok (.aload_n 2, 1) := by decide +kernel
theorem d_Al_add2_2 : decode b_Al_add2 2 = .ok (.arraylength, 1) := by decide +kernel
theorem d_Al_add2_3 : decode b_Al_add2 3 = .ok (.if_icmp .ne 8, 3) := by decide +kernel
theorem d_Al_add2_6 : decode b_Al_add2 6 = .ok (.aload_n 0, 1) := by decide +kernel
theorem d_Al_add2_7 : decode b_Al_add2 7 = .ok (.invokevirtual 129, 3) := by decide +kernel
theorem d_Al_add2_10 : decode b_Al_add2 10 = .ok (.astore_n 2, 1) := by decide +kernel
theorem d_Al_add2_11 : decode b_Al_add2 11 = .ok (.aload_n 2, 1) := by decide +kernel
theorem d_Al_add2_12 : decode b_Al_add2 12 = .ok (.iload_n 3, 1) := by decide +kernel
theorem d_Al_add2_13 : decode b_Al_add2 13 = .ok (.aload_n 1, 1) := by decide +kernel
theorem d_Al_add2_14 : decode b_Al_add2 14 = .ok (.aastore, 1) := by decide +kernel
theorem d_Al_add2_15 : decode b_Al_add2 15 = .ok (.aload_n 0, 1) := by decide +kernel
theorem d_Al_add2_16 : decode b_Al_add2 16 = .ok (.iload_n 3, 1) := by decide +kernel
theorem d_Al_add2_17 : decode b_Al_add2 17 = .ok (.iconst 1, 1) := by decide +kernel
theorem d_Al_add2_18 : decode b_Al_add2 18 = .ok (.iadd, 1) := by decide +kernel
theorem d_Al_add2_19 : decode b_Al_add2 19 = .ok (.putfield 48, 3) := by decide +kernel
theorem d_Al_add2_22 : decode b_Al_add2 22 = .ok (.return_, 1) := by decide +kernel
theorem d_Al_grow1_0 : decode b_Al_grow1 0 = .ok (.aload_n 0, 1) := by decide +kernel
theorem d_Al_grow1_1 : decode b_Al_grow1 1 = .ok (.aload_n 0, 1) := by decide +kernel
theorem d_Al_grow1_2 : decode b_Al_grow1 2 = .ok (.getfield 48, 3) := by decide +kernel
theorem d_Al_grow1_5 : decode b_Al_grow1 5 = .ok (.iconst 1, 1) := by decide +kernel
theorem d_Al_grow1_6 : decode b_Al_grow1 6 = .ok (.iadd, 1) := by decide +kernel
theorem d_Al_grow1_7 : decode b_Al_grow1 7 = .ok (.invokevirtual 69, 3) := by decide +kernel
theorem d_Al_grow1_10 : decode b_Al_grow1 10 = .ok (.areturn, 1) := by decide +kernel
theorem d_Al_grow2_0 : decode b_Al_grow2 0 = .ok (.aload_n 0, 1) := by decide +kernel
theorem d_Al_grow2_1 : decode b_Al_grow2 1 = .ok (.getfield 9, 3) := by decide +kernel
theorem d_Al_grow2_4 : decode b_Al_grow2 4 = .ok (.arraylength, 1) := by decide +kernel
theorem d_Al_grow2_5 : decode b_Al_grow2 5 = .ok (.istore_n 2, 1) := by decide +kernel
theorem d_Al_grow2_6 : decode b_Al_grow2 6 = .ok (.iload_n 2, 1) := by decide +kernel
theorem d_Al_grow2_7 : decode b_Al_grow2 7 = .ok (.ifCond .gt 13, 3) := by decide +kernel
theorem d_Al_grow2_10 : decode b_Al_grow2 10 = .ok (.aload_n 0, 1) := by decide +kernel
theorem d_Al_grow2_11 : decode b_Al_grow2 11 = .ok (.getfield 9, 3) := by decide +kernel
theorem d_Al_grow2_14 : decode b_Al_grow2 14 = .ok (.getstatic 39, 3) := by decide +kernel
theorem d_Al_grow2_17 : decode b_Al_grow2 17 = .ok (.if_acmp .eq 28, 3) := by decide +kernel
theorem d_Al_grow2_20 : decode b_Al_grow2 20 = .ok (.iload_n 2, 1) := by decide +kernel
theorem d_Al_grow2_21 : decode b_Al_grow2 21 = .ok (.iload_n 1, 1) := by decide +kernel
theorem d_Al_grow2_22 : decode b_Al_grow2 22 = .ok (.iload_n 2, 1) := by decide +kernel
theorem d_Al_grow2_23 : decode b_Al_grow2 23 = .ok (.isub, 1) := by decide +kernel
theorem d_Al_grow2_24 : decode b_Al_grow2 24 = .ok (.iload_n 2, 1) := by decide +kernel
theorem d_Al_grow2_25 : decode b_Al_grow2 25 = .ok (.iconst 1, 1) := by decide +kernel
theorem d_Al_grow2_26 : decode b_Al_grow2 26 = .ok (.ishr, 1) := by decide +kernel
theorem d_Al_grow2_27 : decode b_Al_grow2 27 = .ok (.invokestatic 73, 3) := by decide +kernel
theorem d_Al_grow2_30 : decode b_Al_grow2 30 = .ok (.istore_n 3, 1) := by decide +kernel
theorem d_Al_grow2_31 : decode b_Al_grow2 31 = .ok (.aload_n 0, 1) := by decide +kernel
theorem d_Al_grow2_32 : decode b_Al_grow2 32 = .ok (.aload_n 0, 1) := by decide +kernel
theorem d_Al_grow2_33 : decode b_Al_grow2 33 = .ok (.getfield 9, 3) := by decide +kernel
theorem d_Al_grow2_36 : decode b_Al_grow2 36 = .ok (.iload_n 3, 1) := by decide +kernel
theorem d_Al_grow2_37 : decode b_Al_grow2 37 = .ok (.invokestatic 66, 3) := by decide +kernel
theorem d_Al_grow2_40 : decode b_Al_grow2 40 = .ok (.dup_x1, 1) := by decide +kernel
theorem d_Al_grow2_41 : decode b_Al_grow2 41 = .ok (.putfield 9, 3) := by decide +kernel
theorem d_Al_grow2_44 : decode b_Al_grow2 44 = .ok (.areturn, 1) := by decide +kernel
theorem d_Al_grow2_45 : decode b_Al_grow2 45 = .ok (.aload_n 0, 1) := by decide +kernel
theorem d_Al_grow2_46 : decode b_Al_grow2 46 = .ok (.bipush 10, 2) := by decide +kernel
theorem d_Al_grow2_48 : decode b_Al_grow2 48 = .ok (.iload_n 1, 1) := by decide +kernel
theorem d_Al_grow2_49 : decode b_Al_grow2 49 = .ok (.invokestatic 79, 3) := by decide +kernel
theorem d_Al_grow2_52 : decode b_Al_grow2 52 = .ok (.anewarray 7, 3) := by decide +kernel
theorem d_Al_grow2_55 : decode b_Al_grow2 55 = .ok (.dup_x1, 1) := by decide +kernel
theorem d_Al_grow2_56 : decode b_Al_grow2 56 = .ok (.putfield 9, 3) := by decide +kernel
theorem d_Al_grow2_59 : decode b_Al_grow2 59 = .ok (.areturn, 1) := by decide +kernel
theorem d_As_newLength_0 : decode b_As_newLength 0 = .ok (.iload_n 0, 1) := by decide +kernel
theorem d_As_newLength_1 : decode b_As_newLength 1 = .ok (.iload_n 1, 1) := by decide +kernel
theorem d_As_newLength_2 : decode b_As_newLength 2 = .ok (.iload_n 2, 1) := by decide +kernel
theorem d_As_newLength_3 : decode b_As_newLength 3 = .ok (.invokestatic 194, 3) := by decide +kernel
theorem d_As_newLength_6 : decode b_As_newLength 6 = .ok (.iadd, 1) := by decide +kernel
theorem d_As_newLength_7 : decode b_As_newLength 7 = .ok (.istore_n 3, 1) := by decide +kernel
theorem d_As_newLength_8 : decode b_As_newLength 8 = .ok (.iconst 0, 1) := by decide +kernel
theorem d_As_newLength_9 : decode b_As_newLength 9 = .ok (.iload_n 3, 1) := by decide +kernel
theorem d_As_newLength_10 : decode b_As_newLength 10 = .ok (.if_icmp .ge 11, 3) := by decide +kernel
theorem d_As_newLength_13 : decode b_As_newLength 13 = .ok (.iload_n 3, 1) := by decide +kernel
theorem d_As_newLength_14 : decode b_As_newLength 14 = .ok (.ldc 200, 2) := by decide +kernel
theorem d_As_newLength_16 : decode b_As_newLength 16 = .ok (.if_icmp .gt 5, 3) := by decide +kernel
theorem d_As_newLength_19 : decode b_As_newLength 19 = .ok (.iload_n 3, 1) := by decide +kernel
theorem d_As_newLength_20 : decode b_As_newLength 20 = .ok (.ireturn, 1) := by decide +kernel
theorem d_As_newLength_21 : decode b_As_newLength 21 = .ok (.iload_n 0, 1) := by decide +kernel
theorem d_As_newLength_22 : decode b_As_newLength 22 = .ok (.iload_n 1, 1) := by decide +kernel
theorem d_As_newLength_23 : decode b_As_newLength 23 = .ok (.invokestatic 201, 3) := by decide +kernel
theorem d_As_newLength_26 : decode b_As_newLength 26 = .ok (.ireturn, 1) := by decide +kernel
theorem d_As_hugeLength_0 : decode b_As_hugeLength 0 = .ok (.iload_n 0, 1) := by decide +kernel
theorem d_As_hugeLength_1 : decode b_As_hugeLength 1 = .ok (.iload_n 1, 1) := by decide +kernel
theorem d_As_hugeLength_2 : decode b_As_hugeLength 2 = .ok (.iadd, 1) := by decide +kernel
theorem d_As_hugeLength_3 : decode b_As_hugeLength 3 = .ok (.istore_n 2, 1) := by decide +kernel
theorem d_As_hugeLength_4 : decode b_As_hugeLength 4 = .ok (.iload_n 2, 1) := by decide +kernel
theorem d_As_hugeLength_5 : decode b_As_hugeLength 5 = .ok (.ifCond .ge 44, 3) := by decide +kernel
theorem d_As_hugeLength_8 : decode b_As_hugeLength 8 = .ok (.new 204, 3) := by decide +kernel
theorem d_As_hugeLength_11 : decode b_As_hugeLength 11 = .ok (.dup, 1) := by decide +kernel
theorem d_As_hugeLength_12 : decode b_As_hugeLength 12 = .ok (.new 89, 3) := by decide +kernel
theorem d_As_hugeLength_15 : decode b_As_hugeLength 15 = .ok (.dup, 1) := by decide +kernel
theorem d_As_hugeLength_16 : decode b_As_hugeLength 16 = .ok (.invokespecial 91, 3) := by decide +kernel
theorem d_As_hugeLength_19 : decode b_As_hugeLength 19 = .ok (.ldc 206, 2) := by decide +kernel
theorem d_As_hugeLength_21 : decode b_As_hugeLength 21 = .ok (.invokevirtual 94, 3) := by decide +kernel
theorem d_As_hugeLength_24 : decode b_As_hugeLength 24 = .ok (.iload_n 0, 1) := by decide +kernel
theorem d_As_hugeLength_25 : decode b_As_hugeLength 25 = .ok (.invokevirtual 98, 3) := by decide +kernel
theorem d_As_hugeLength_28 : decode b_As_hugeLength 28 = .ok (.ldc 208, 2) := by decide +kernel
theorem d_As_hugeLength_30 : decode b_As_hugeLength 30 = .ok (.invokevirtual 94, 3) := by decide +kernel
theorem d_As_hugeLength_33 : decode b_As_hugeLength 33 = .ok (.iload_n 1, 1) := by decide +kernel
theorem d_As_hugeLength_34 : decode b_As_hugeLength 34 = .ok (.invokevirtual 98, 3) := by decide +kernel
theorem d_As_hugeLength_37 : decode b_As_hugeLength 37 = .ok (.ldc 210, 2) := by decide +kernel
theorem d_As_hugeLength_39 : decode b_As_hugeLength 39 = .ok (.invokevirtual 94, 3) := by decide +kernel
theorem d_As_hugeLength_42 : decode b_As_hugeLength 42 = .ok (.invokevirtual 101, 3) := by decide +kernel
theorem d_As_hugeLength_45 : decode b_As_hugeLength 45 = .ok (.invokespecial 212, 3) := by decide +kernel
theorem d_As_hugeLength_48 : decode b_As_hugeLength 48 = .ok (.athrow, 1) := by decide +kernel
theorem d_As_hugeLength_49 : decode b_As_hugeLength 49 = .ok (.iload_n 2, 1) := by decide +kernel
theorem d_As_hugeLength_50 : decode b_As_hugeLength 50 = .ok (.ldc 200, 2) := by decide +kernel
theorem d_As_hugeLength_52 : decode b_As_hugeLength 52 = .ok (.if_icmp .gt 6, 3) := by decide +kernel
theorem d_As_hugeLength_55 : decode b_As_hugeLength 55 = .ok (.ldc 200, 2) := by decide +kernel
theorem d_As_hugeLength_57 : decode b_As_hugeLength 57 = .ok (.ireturn, 1) := by decide +kernel
theorem d_As_hugeLength_58 : decode b_As_hugeLength 58 = .ok (.iload_n 2, 1) := by decide +kernel
theorem d_As_hugeLength_59 : decode b_As_hugeLength 59 = .ok (.ireturn, 1) := by decide +kernel
theorem d_Ar_copyOf1_0 : decode b_Ar_copyOf1 0 = .ok (.aload_n 0, 1) := by decide +kernel
theorem d_Ar_copyOf1_1 : decode b_Ar_copyOf1 1 = .ok (.iload_n 1, 1) := by decide +kernel
theorem d_Ar_copyOf1_2 : decode b_Ar_copyOf1 2 = .ok (.aload_n 0, 1) := by decide +kernel
theorem d_Ar_copyOf1_3 : decode b_Ar_copyOf1 3 = .ok (.invokevirtual 86, 3) := by decide +kernel
theorem d_Ar_copyOf1_6 : decode b_Ar_copyOf1 6 = .ok (.invokestatic 300, 3) := by decide +kernel
theorem d_Ar_copyOf1_9 : decode b_Ar_copyOf1 9 = .ok (.areturn, 1) := by decide +kernel
theorem d_Ar_copyOf2_0 : decode b_Ar_copyOf2 0 = .ok (.aload_n 2, 1) := by decide +kernel
theorem d_Ar_copyOf2_1 : decode b_Ar_copyOf2 1 = .ok (.ldc 110, 2) := by decide +kernel
theorem d_Ar_copyOf2_3 : decode b_Ar_copyOf2 3 = .ok (.if_acmp .ne 10, 3) := by decide +kernel
theorem d_Ar_copyOf2_6 : decode b_Ar_copyOf2 6 = .ok (.iload_n 1, 1) := by decide +kernel
theorem d_Ar_copyOf2_7 : decode b_Ar_copyOf2 7 = .ok (.anewarray 2, 3) := by decide +kernel
theorem d_Ar_copyOf2_10 : decode b_Ar_copyOf2 10 = .ok (.goto 14, 3) := by decide +kernel
theorem d_Ar_copyOf2_13 : decode b_Ar_copyOf2 13 = .ok (.aload_n 2, 1) := by decide +kernel
theorem d_Ar_copyOf2_14 : decode b_Ar_copyOf2 14 = .ok (.invokevirtual 90, 3) := by decide +kernel
theorem d_Ar_copyOf2_17 : decode b_Ar_copyOf2 17 = .ok (.iload_n 1, 1) := by decide +kernel
theorem d_Ar_copyOf2_18 : decode b_Ar_copyOf2 18 = .ok (.invokestatic 95, 3) := by decide +kernel
theorem d_Ar_copyOf2_21 : decode b_Ar_copyOf2 21 = .ok (.checkcast 110, 3) := by decide +kernel
theorem d_Ar_copyOf2_24 : decode b_Ar_copyOf2 24 = .ok (.astore_n 3, 1) := by decide +kernel
theorem d_Ar_copyOf2_25 : decode b_Ar_copyOf2 25 = .ok (.aload_n 0, 1) := by decide +kernel
theorem d_Ar_copyOf2_26 : decode b_Ar_copyOf2 26 = .ok (.iconst 0, 1) := by decide +kernel
theorem d_Ar_copyOf2_27 : decode b_Ar_copyOf2 27 = .ok (.aload_n 3, 1) := by decide +kernel
theorem d_Ar_copyOf2_28 : decode b_Ar_copyOf2 28 = .ok (.iconst 0, 1) := by decide +kernel
theorem d_Ar_copyOf2_29 : decode b_Ar_copyOf2 29 = .ok (.aload_n 0, 1) := by decide +kernel
theorem d_Ar_copyOf2_30 : decode b_Ar_copyOf2 30 = .ok (.arraylength, 1) := by decide +kernel
theorem d_Ar_copyOf2_31 : decode b_Ar_copyOf2 31 = .ok (.iload_n 1, 1) := by decide +kernel
theorem d_Ar_copyOf2_32 : decode b_Ar_copyOf2 32 = .ok (.invokestatic 304, 3) := by decide +kernel
theorem d_Ar_copyOf2_35 : decode b_Ar_copyOf2 35 = .ok (.invokestatic 150, 3) := by decide +kernel
theorem d_Ar_copyOf2_38 : decode b_Ar_copyOf2 38 = .ok (.aload_n 3, 1) := by decide +kernel
theorem d_Ar_copyOf2_39 : decode b_Ar_copyOf2 39 = .ok (.areturn, 1) := by decide +kernel
theorem d_Ma_min_0 : decode b_Ma_min 0 = .ok (.iload_n 0, 1) := by decide +kernel
theorem d_Ma_min_1 : decode b_Ma_min 1 = .ok (.iload_n 1, 1) := by decide +kernel
theorem d_Ma_min_2 : decode b_Ma_min 2 = .ok (.if_icmp .gt 7, 3) := by decide +kernel
theorem d_Ma_min_5 : decode b_Ma_min 5 = .ok (.iload_n 0, 1) := by decide +kernel
theorem d_Ma_min_6 : decode b_Ma_min 6 = .ok (.goto 4, 3) := by decide +kernel
theorem d_Ma_min_9 : decode b_Ma_min 9 = .ok (.iload_n 1, 1) := by decide +kernel
theorem d_Ma_min_10 : decode b_Ma_min 10 = .ok (.ireturn, 1) := by decide +kernel
theorem d_Tr_put_0 : decode b_Tr_put 0 = .ok (.iconst 0, 1) := by decide +kernel
theorem d_Tr_put_1 : decode b_Tr_put 1 = .ok (.istore 5, 2) := by decide +kernel
theorem d_Tr_put_3 : decode b_Tr_put 3 = .ok (.iload 5, 2) := by decide +kernel
theorem d_Tr_put_5 : decode b_Tr_put 5 = .ok (.aload_n 0, 1) := by decide +kernel
theorem d_Tr_put_6 : decode b_Tr_put 6 = .ok (.getfield 18, 3) := by decide +kernel
theorem d_Tr_put_9 : decode b_Tr_put 9 = .ok (.if_icmp .ge 21, 3) := by decide +kernel
theorem d_Tr_put_12 : decode b_Tr_put 12 = .ok (.aload_n 0, 1) := by decide +kernel
theorem d_Tr_put_13 : decode b_Tr_put 13 = .ok (.getfield 9, 3) := by decide +kernel
theorem d_Tr_put_16 : decode b_Tr_put 16 = .ok (.iload 5, 2) := by decide +kernel
theorem d_Tr_put_18 : decode b_Tr_put 18 = .ok (.daload, 1) := by decide +kernel
theorem d_Tr_put_19 : decode b_Tr_put 19 = .ok (.dload_n 1, 1) := by decide +kernel
theorem d_Tr_put_20 : decode b_Tr_put 20 = .ok (.dcmp .g, 1) := by decide +kernel
theorem d_Tr_put_21 : decode b_Tr_put 21 = .ok (.ifCond .ge 9, 3) := by decide +kernel
theorem d_Tr_put_24 : decode b_Tr_put 24 = .ok (.iinc 5 1, 3) := by decide +kernel
theorem d_Tr_put_27 : decode b_Tr_put 27 = .ok (.goto (-24), 3) := by decide +kernel
theorem d_Tr_put_30 : decode b_Tr_put 30 = .ok (.iload 5, 2) := by decide +kernel
theorem d_Tr_put_32 : decode b_Tr_put 32 = .ok (.aload_n 0, 1) := by decide +kernel
theorem d_Tr_put_33 : decode b_Tr_put 33 = .ok (.getfield 18, 3) := by decide +kernel
theorem d_Tr_put_36 : decode b_Tr_put 36 = .ok (.if_icmp .eq 15, 3) := by decide +kernel
theorem d_Tr_put_39 : decode b_Tr_put 39 = .ok (.aload_n 0, 1) := by decide +kernel
theorem d_Tr_put_40 : decode b_Tr_put 40 = .ok (.getfield 9, 3) := by decide +kernel
theorem d_Tr_put_43 : decode b_Tr_put 43 = .ok (.iload 5, 2) := by decide +kernel
theorem d_Tr_put_45 : decode b_Tr_put 45 = .ok (.daload, 1) := by decide +kernel
theorem d_Tr_put_46 : decode b_Tr_put 46 = .ok (.dload_n 1, 1) := by decide +kernel
theorem d_Tr_put_47 : decode b_Tr_put 47 = .ok (.dcmp .l, 1) := by decide +kernel
theorem d_Tr_put_48 : decode b_Tr_put 48 = .ok (.ifCond .eq 19, 3) := by decide +kernel
theorem d_Tr_put_51 : decode b_Tr_put 51 = .ok (.aload_n 0, 1) := by decide +kernel
theorem d_Tr_put_52 : decode b_Tr_put 52 = .ok (.getfield 18, 3) := by decide +kernel
theorem d_Tr_put_55 : decode b_Tr_put 55 = .ok (.iconst 4, 1) := by decide +kernel
theorem d_Tr_put_56 : decode b_Tr_put 56 = .ok (.if_icmp .ne 5, 3) := by decide +kernel
theorem d_Tr_put_59 : decode b_Tr_put 59 = .ok (.iconst 0, 1) := by decide +kernel
theorem d_Tr_put_60 : decode b_Tr_put 60 = .ok (.ireturn, 1) := by decide +kernel
theorem d_Tr_put_61 : decode b_Tr_put 61 = .ok (.aload_n 0, 1) := by decide +kernel
theorem d_Tr_put_62 : decode b_Tr_put 62 = .ok (.iload 5, 2) := by decide +kernel
theorem d_Tr_put_64 : decode b_Tr_put 64 = .ok (.invokevirtual 22, 3) := by decide +kernel
theorem d_Tr_put_67 : decode b_Tr_put 67 = .ok (.aload_n 0, 1) := by decide +kernel
theorem d_Tr_put_68 : decode b_Tr_put 68 = .ok (.getfield 9, 3) := by decide +kernel
theorem d_Tr_put_71 : decode b_Tr_put 71 = .ok (.iload 5, 2) := by decide +kernel
theorem d_Tr_put_73 : decode b_Tr_put 73 = .ok (.dload_n 1, 1) := by decide +kernel
theorem d_Tr_put_74 : decode b_Tr_put 74 = .ok (.dastore, 1) := by decide +kernel
theorem d_Tr_put_75 : decode b_Tr_put 75 = .ok (.aload_n 0, 1) := by decide +kernel
theorem d_Tr_put_76 : decode b_Tr_put 76 = .ok (.getfield 15, 3) := by decide +kernel
theorem d_Tr_put_79 : decode b_Tr_put 79 = .ok (.iload 5, 2) := by decide +kernel
theorem d_Tr_put_81 : decode b_Tr_put 81 = .ok (.dload_n 3, 1) := by decide +kernel
theorem d_Tr_put_82 : decode b_Tr_put 82 = .ok (.dastore, 1) := by decide +kernel
theorem d_Tr_put_83 : decode b_Tr_put 83 = .ok (.iconst 1, 1) := by decide +kernel
theorem d_Tr_put_84 : decode b_Tr_put 84 = .ok (.ireturn, 1) := by decide +kernel
theorem d_Tr_makeRoom_0 : decode b_Tr_makeRoom 0 = .ok (.aload_n 0, 1) := by decide +kernel
theorem d_Tr_makeRoom_1 : decode b_Tr_makeRoom 1 = .ok (.getfield 18, 3) := by decide +kernel
theorem d_Tr_makeRoom_4 : decode b_Tr_makeRoom 4 = .ok (.istore_n 2, 1) := by decide +kernel
theorem d_Tr_makeRoom_5 : decode b_Tr_makeRoom 5 = .ok (.iload_n 2, 1) := by decide +kernel
theorem d_Tr_makeRoom_6 : decode b_Tr_makeRoom 6 = .ok (.iload_n 1, 1) := by decide +kernel
theorem d_Tr_makeRoom_7 : decode b_Tr_makeRoom 7 = .ok (.if_icmp .le 37, 3) := by decide +kernel
theorem d_Tr_makeRoom_10 : decode b_Tr_makeRoom 10 = .ok (.aload_n 0, 1) := by decide +kernel
theorem d_Tr_makeRoom_11 : decode b_Tr_makeRoom 11 = .ok (.getfield 9, 3) := by decide +kernel
theorem d_Tr_makeRoom_14 : decode b_Tr_makeRoom 14 = .ok (.iload_n 2, 1) := by decide +kernel
theorem d_Tr_makeRoom_15 : decode b_Tr_makeRoom 15 = .ok (.aload_n 0, 1) := by decide +kernel
theorem d_Tr_makeRoom_16 : decode b_Tr_makeRoom 16 = .ok (.getfield 9, 3) := by decide +kernel
theorem d_Tr_makeRoom_19 : decode b_Tr_makeRoom 19 = .ok (.iload_n 2, 1) := by decide +kernel
theorem d_Tr_makeRoom_20 : decode b_Tr_makeRoom 20 = .ok (.iconst 1, 1) := by decide +kernel
theorem d_Tr_makeRoom_21 : decode b_Tr_makeRoom 21 = .ok (.isub, 1) := by decide +kernel
theorem d_Tr_makeRoom_22 : decode b_Tr_makeRoom 22 = .ok (.daload, 1) := by decide +kernel
theorem d_Tr_makeRoom_23 : decode b_Tr_makeRoom 23 = .ok (.dastore, 1) := by decide +kernel
theorem d_Tr_makeRoom_24 : decode b_Tr_makeRoom 24 = .ok (.aload_n 0, 1) := by decide +kernel
theorem d_Tr_makeRoom_25 : decode b_Tr_makeRoom 25 = .ok (.getfield 15, 3) := by decide +kernel
theorem d_Tr_makeRoom_28 : decode b_Tr_makeRoom 28 = .ok (.iload_n 2, 1) := by decide +kernel
theorem d_Tr_makeRoom_29 : decode b_Tr_makeRoom 29 = .ok (.aload_n 0, 1) := by decide +kernel
theorem d_Tr_makeRoom_30 : decode b_Tr_makeRoom 30 = .ok (.getfield 15, 3) := by decide +kernel
theorem d_Tr_makeRoom_33 : decode b_Tr_makeRoom 33 = .ok (.iload_n 2, 1) := by decide +kernel
theorem d_Tr_makeRoom_34 : decode b_Tr_makeRoom 34 = .ok (.iconst 1, 1) := by decide +kernel
theorem d_Tr_makeRoom_35 : decode b_Tr_makeRoom 35 = .ok (.isub, 1) := by decide +kernel
theorem d_Tr_makeRoom_36 : decode b_Tr_makeRoom 36 = .ok (.daload, 1) := by decide +kernel
theorem d_Tr_makeRoom_37 : decode b_Tr_makeRoom 37 = .ok (.dastore, 1) := by decide +kernel
theorem d_Tr_makeRoom_38 : decode b_Tr_makeRoom 38 = .ok (.iinc 2 (-1), 3) := by decide +kernel
theorem d_Tr_makeRoom_41 : decode b_Tr_makeRoom 41 = .ok (.goto (-36), 3) := by decide +kernel
theorem d_Tr_makeRoom_44 : decode b_Tr_makeRoom 44 = .ok (.aload_n 0, 1) := by decide +kernel
theorem d_Tr_makeRoom_45 : decode b_Tr_makeRoom 45 = .ok (.dup, 1) := by decide +kernel
theorem d_Tr_makeRoom_46 : decode b_Tr_makeRoom 46 = .ok (.getfield 18, 3) := by decide +kernel
theorem d_Tr_makeRoom_49 : decode b_Tr_makeRoom 49 = .ok (.iconst 1, 1) := by decide +kernel
theorem d_Tr_makeRoom_50 : decode b_Tr_makeRoom 50 = .ok (.iadd, 1) := by decide +kernel
theorem d_Tr_makeRoom_51 : decode b_Tr_makeRoom 51 = .ok (.putfield 18, 3) := by decide +kernel
theorem d_Tr_makeRoom_54 : decode b_Tr_makeRoom 54 = .ok (.return_, 1) := by decide +kernel
theorem d_No_unhang_0 : decode b_No_unhang 0 = .ok (.aload_n 0, 1) := by decide +kernel
theorem d_No_unhang_1 : decode b_No_unhang 1 = .ok (.invokevirtual 60, 3) := by decide +kernel
theorem d_No_unhang_4 : decode b_No_unhang 4 = .ok (.istore_n 1, 1) := by decide +kernel
theorem d_No_unhang_5 : decode b_No_unhang 5 = .ok (.aload_n 0, 1) := by decide +kernel
theorem d_No_unhang_6 : decode b_No_unhang 6 = .ok (.getfield 52, 3) := by decide +kernel
theorem d_No_unhang_9 : decode b_No_unhang 9 = .ok (.ifnull 34, 3) := by decide +kernel
theorem d_No_unhang_12 : decode b_No_unhang 12 = .ok (.iload_n 1, 1) := by decide +kernel
theorem d_No_unhang_13 : decode b_No_unhang 13 = .ok (.aload_n 0, 1) := by decide +kernel
theorem d_No_unhang_14 : decode b_No_unhang 14 = .ok (.getfield 52, 3) := by decide +kernel
theorem d_No_unhang_17 : decode b_No_unhang 17 = .ok (.getfield 12, 3) := by decide +kernel
theorem d_No_unhang_20 : decode b_No_unhang 20 = .ok (.invokevirtual 64, 3) := by decide +kernel
theorem d_No_unhang_23 : decode b_No_unhang 23 = .ok (.if_icmp .ge 20, 3) := by decide +kernel
theorem d_No_unhang_26 : decode b_No_unhang 26 = .ok (.aload_n 0, 1) := by decide +kernel
theorem d_No_unhang_27 : decode b_No_unhang 27 = .ok (.getfield 52, 3) := by decide +kernel
theorem d_No_unhang_30 : decode b_No_unhang 30 = .ok (.getfield 12, 3) := by decide +kernel
theorem d_No_unhang_33 : decode b_No_unhang 33 = .ok (.iload_n 1, 1) := by decide +kernel
theorem d_No_unhang_34 : decode b_No_unhang 34 = .ok (.invokevirtual 67, 3) := by decide +kernel
theorem d_No_unhang_37 : decode b_No_unhang 37 = .ok (.pop, 1) := by decide +kernel
theorem d_No_unhang_38 : decode b_No_unhang 38 = .ok (.aload_n 0, 1) := by decide +kernel
theorem d_No_unhang_39 : decode b_No_unhang 39 = .ok (.aconst_null, 1) := by decide +kernel
theorem d_No_unhang_40 : decode b_No_unhang 40 = .ok (.putfield 52, 3) := by decide +kernel
theorem d_No_unhang_43 : decode b_No_unhang 43 = .ok (.return_, 1) := by decide +kernel
theorem d_No_rank_0 : decode b_No_rank 0 = .ok (.iconst 0, 1) := by decide +kernel
theorem d_No_rank_1 : decode b_No_rank 1 = .ok (.istore_n 1, 1) := by decide +kernel
theorem d_No_rank_2 : decode b_No_rank 2 = .ok (.aload_n 0, 1) := by decide +kernel
theorem d_No_rank_3 : decode b_No_rank 3 = .ok (.getfield 52, 3) := by decide +kernel
theorem d_No_rank_6 : decode b_No_rank 6 = .ok (.ifnull 38, 3) := by decide +kernel
theorem d_No_rank_9 : decode b_No_rank 9 = .ok (.iload_n 1, 1) := by decide +kernel
theorem d_No_rank_10 : decode b_No_rank 10 = .ok (.aload_n 0, 1) := by decide +kernel
theorem d_No_rank_11 : decode b_No_rank 11 = .ok (.getfield 52, 3) := by decide +kernel
theorem d_No_rank_14 : decode b_No_rank 14 = .ok (.getfield 12, 3) := by decide +kernel
theorem d_No_rank_17 : decode b_No_rank 17 = .ok (.invokevirtual 64, 3) := by decide +kernel
theorem d_No_rank_20 : decode b_No_rank 20 = .ok (.if_icmp .ge 24, 3) := by decide +kernel
theorem d_No_rank_23 : decode b_No_rank 23 = .ok (.aload_n 0, 1) := by decide +kernel
theorem d_No_rank_24 : decode b_No_rank 24 = .ok (.getfield 52, 3) := by decide +kernel
theorem d_No_rank_27 : decode b_No_rank 27 = .ok (.getfield 12, 3) := by decide +kernel
theorem d_No_rank_30 : decode b_No_rank 30 = .ok (.iload_n 1, 1) := by decide +kernel
theorem d_No_rank_31 : decode b_No_rank 31 = .ok (.invokevirtual 71, 3) := by decide +kernel
theorem d_No_rank_34 : decode b_No_rank 34 = .ok (.aload_n 0, 1) := by decide +kernel
theorem d_No_rank_35 : decode b_No_rank 35 = .ok (.if_acmp .eq 9, 3) := by decide +kernel
theorem d_No_rank_38 : decode b_No_rank 38 = .ok (.iinc 1 1, 3) := by decide +kernel
theorem d_No_rank_41 : decode b_No_rank 41 = .ok (.goto (-32), 3) := by decide +kernel
theorem d_No_rank_44 : decode b_No_rank 44 = .ok (.iload_n 1, 1) := by decide +kernel
theorem d_No_rank_45 : decode b_No_rank 45 = .ok (.ireturn, 1) := by decide +kernel
theorem d_Al_size_0 : decode b_Al_size 0 = .ok (.aload_n 0, 1) := by decide +kernel
theorem d_Al_size_1 : decode b_Al_size 1 = .ok (.getfield 48, 3) := by decide +kernel
theorem d_Al_size_4 : decode b_Al_size 4 = .ok (.ireturn, 1) := by decide +kernel
theorem d_Al_get_0 : decode b_Al_get 0 = .ok (.iload_n 1, 1) := by decide +kernel
theorem d_Al_get_1 : decode b_Al_get 1 = .ok (.aload_n 0, 1) := by decide +kernel
theorem d_Al_get_2 : decode b_Al_get 2 = .ok (.getfield 48, 3) := by decide +kernel
theorem d_Al_get_5 : decode b_Al_get 5 = .ok (.invokestatic 118, 3) := by decide +kernel
theorem d_Al_get_8 : decode b_Al_get 8 = .ok (.pop, 1) := by decide +kernel
theorem d_Al_get_9 : decode b_Al_get 9 = .ok (.aload_n 0, 1) := by decide +kernel
theorem d_Al_get_10 : decode b_Al_get 10 = .ok (.iload_n 1, 1) := by decide +kernel
theorem d_Al_get_11 : decode b_Al_get 11 = .ok (.invokevirtual 123, 3) := by decide +kernel
theorem d_Al_get_14 : decode b_Al_get 14 = .ok (.areturn, 1) := by decide +kernel
theorem d_Ob_checkIndex_0 : decode b_Ob_checkIndex 0 = .ok (.iload_n 0, 1) := by decide +kernel
theorem d_Ob_checkIndex_1 : decode b_Ob_checkIndex 1 = .ok (.iload_n 1, 1) := by decide +kernel
theorem d_Ob_checkIndex_2 : decode b_Ob_checkIndex 2 = .ok (.aconst_null, 1) := by decide +kernel
theorem d_Ob_checkIndex_3 : decode b_Ob_checkIndex 3 = .ok (.invokestatic 105, 3) := by decide +kernel
theorem d_Ob_checkIndex_6 : decode b_Ob_checkIndex 6 = .ok (.ireturn, 1) := by decide +kernel
theorem d_Pr_checkIndex_0 : decode b_Pr_checkIndex 0 = .ok (.iload_n 0, 1) := by decide +kernel
theorem d_Pr_checkIndex_1 : decode b_Pr_checkIndex 1 = .ok (.ifCond .lt 8, 3) := by decide +kernel
theorem d_Pr_checkIndex_4 : decode b_Pr_checkIndex 4 = .ok (.iload_n 0, 1) := by decide +kernel
theorem d_Pr_checkIndex_5 : decode b_Pr_checkIndex 5 = .ok (.iload_n 1, 1) := by decide +kernel
theorem d_Pr_checkIndex_6 : decode b_Pr_checkIndex 6 = .ok (.if_icmp .lt 10, 3) := by decide +kernel
theorem d_Pr_checkIndex_9 : decode b_Pr_checkIndex 9 = .ok (.aload_n 2, 1) := by decide +kernel
theorem d_Pr_checkIndex_10 : decode b_Pr_checkIndex 10 = .ok (.iload_n 0, 1) := by decide +kernel
theorem d_Pr_checkIndex_11 : decode b_Pr_checkIndex 11 = .ok (.iload_n 1, 1) := by decide +kernel
theorem d_Pr_checkIndex_12 : decode b_Pr_checkIndex 12 = .ok (.invokestatic 95, 3) := by decide +kernel
theorem d_Pr_checkIndex_15 : decode b_Pr_checkIndex 15 = .ok (.athrow, 1) := by decide +kernel
theorem d_Pr_checkIndex_16 : decode b_Pr_checkIndex 16 = .ok (.iload_n 0, 1) := by decide +kernel
theorem d_Pr_checkIndex_17 : decode b_Pr_checkIndex 17 = .ok (.ireturn, 1) := by decide +kernel
theorem d_Al_elementData_0 : decode b_Al_elementData 0 = .ok (.aload_n 0, 1) := by decide +kernel
theorem d_Al_elementData_1 : decode b_Al_elementData 1 = .ok (.getfield 9, 3) := by decide +kernel
theorem d_Al_elementData_4 : decode b_Al_elementData 4 = .ok (.iload_n 1, 1) := by decide +kernel
theorem d_Al_elementData_5 : decode b_Al_elementData 5 = .ok (.aaload, 1) := by decide +kernel
theorem d_Al_elementData_6 : decode b_Al_elementData 6 = .ok (.areturn, 1) := by decide +kernel
theorem d_Al_remove_0 : decode b_Al_remove 0 = .ok (.iload_n 1, 1) := by decide +kernel
theorem d_Al_remove_1 : decode b_Al_remove 1 = .ok (.aload_n 0, 1) := by decide +kernel
theorem d_Al_remove_2 : decode b_Al_remove 2 = .ok (.getfield 48, 3) := by decide +kernel
theorem d_Al_remove_5 : decode b_Al_remove 5 = .ok (.invokestatic 118, 3) := by decide +kernel
theorem d_Al_remove_8 : decode b_Al_remove 8 = .ok (.pop, 1) := by decide +kernel
theorem d_Al_remove_9 : decode b_Al_remove 9 = .ok (.aload_n 0, 1) := by decide +kernel
theorem d_Al_remove_10 : decode b_Al_remove 10 = .ok (.getfield 9, 3) := by decide +kernel
theorem d_Al_remove_13 : decode b_Al_remove 13 = .ok (.astore_n 2, 1) := by decide +kernel
theorem d_Al_remove_14 : decode b_Al_remove 14 = .ok (.aload_n 2, 1) := by decide +kernel
theorem d_Al_remove_15 : decode b_Al_remove 15 = .ok (.iload_n 1, 1) := by decide +kernel
theorem d_Al_remove_16 : decode b_Al_remove 16 = .ok (.aaload, 1) := by decide +kernel
theorem d_Al_remove_17 : decode b_Al_remove 17 = .ok (.astore_n 3, 1) := by decide +kernel
theorem d_Al_remove_18 : decode b_Al_remove 18 = .ok (.aload_n 0, 1) := by decide +kernel
theorem d_Al_remove_19 : decode b_Al_remove 19 = .ok (.aload_n 2, 1) := by decide +kernel
theorem d_Al_remove_20 : decode b_Al_remove 20 = .ok (.iload_n 1, 1) := by decide +kernel
theorem d_Al_remove_21 : decode b_Al_remove 21 = .ok (.invokevirtual 144, 3) := by decide +kernel
theorem d_Al_remove_24 : decode b_Al_remove 24 = .ok (.aload_n 3, 1) := by decide +kernel
theorem d_Al_remove_25 : decode b_Al_remove 25 = .ok (.areturn, 1) := by decide +kernel
theorem d_Al_fastRemove_0 : decode b_Al_fastRemove 0 = .ok (.aload_n 0, 1) := by decide +kernel
theorem d_Al_fastRemove_1 : decode b_Al_fastRemove 1 = .ok (.dup, 1) := by decide +kernel
theorem d_Al_fastRemove_2 : decode b_Al_fastRemove 2 = .ok (.getfield 63, 3) := by decide +kernel
theorem d_Al_fastRemove_5 : decode b_Al_fastRemove 5 = .ok (.iconst 1, 1) := by decide +kernel
theorem d_Al_fastRemove_6 : decode b_Al_fastRemove 6 = .ok (.iadd, 1) := by decide +kernel
theorem d_Al_fastRemove_7 : decode b_Al_fastRemove 7 = .ok (.putfield 63, 3) := by decide +kernel
theorem d_Al_fastRemove_10 : decode b_Al_fastRemove 10 = .ok (.aload_n 0, 1) := by decide +kernel
theorem d_Al_fastRemove_11 : decode b_Al_fastRemove 11 = .ok (.getfield 48, 3) := by decide +kernel
theorem d_Al_fastRemove_14 : decode b_Al_fastRemove 14 = .ok (.iconst 1, 1) := by decide +kernel
theorem d_Al_fastRemove_15 : decode b_Al_fastRemove 15 = .ok (.isub, 1) := by decide +kernel
theorem d_Al_fastRemove_16 : decode b_Al_fastRemove 16 = .ok (.dup, 1) := by decide +kernel
theorem d_Al_fastRemove_17 : decode b_Al_fastRemove 17 = .ok (.istore_n 3, 1) := by decide +kernel
theorem d_Al_fastRemove_18 : decode b_Al_fastRemove 18 = .ok (.iload_n 2, 1) := by decide +kernel
theorem d_Al_fastRemove_19 : decode b_Al_fastRemove 19 = .ok (.if_icmp .le 15, 3) := by decide +kernel
theorem d_Al_fastRemove_22 : decode b_Al_fastRemove 22 = .ok (.aload_n 1, 1) := by decide +kernel
theorem d_Al_fastRemove_23 : decode b_Al_fastRemove 23 = .ok (.iload_n 2, 1) := by decide +kernel
theorem d_Al_fastRemove_24 : decode b_Al_fastRemove 24 = .ok (.iconst 1, 1) := by decide +kernel
theorem d_Al_fastRemove_25 : decode b_Al_fastRemove 25 = .ok (.iadd, 1) := by decide +kernel
theorem d_Al_fastRemove_26 : decode b_Al_fastRemove 26 = .ok (.aload_n 1, 1) := by decide +kernel
theorem d_Al_fastRemove_27 : decode b_Al_fastRemove 27 = .ok (.iload_n 2, 1) := by decide +kernel
theorem d_Al_fastRemove_28 : decode b_Al_fastRemove 28 = .ok (.iload_n 3, 1) := by decide +kernel
theorem d_Al_fastRemove_29 : decode b_Al_fastRemove 29 = .ok (.iload_n 2, 1) := by decide +kernel
theorem d_Al_fastRemove_30 : decode b_Al_fastRemove 30 = .ok (.isub, 1) := by decide +kernel
theorem d_Al_fastRemove_31 : decode b_Al_fastRemove 31 = .ok (.invokestatic 112, 3) := by decide +kernel
theorem d_Al_fastRemove_34 : decode b_Al_fastRemove 34 = .ok (.aload_n 1, 1) := by decide +kernel
theorem d_Al_fastRemove_35 : decode b_Al_fastRemove 35 = .ok (.aload_n 0, 1) := by decide +kernel
theorem d_Al_fastRemove_36 : decode b_Al_fastRemove 36 = .ok (.iload_n 3, 1) := by decide +kernel
theorem d_Al_fastRemove_37 : decode b_Al_fastRemove 37 = .ok (.dup_x1, 1) := by decide +kernel
theorem d_Al_fastRemove_38 : decode b_Al_fastRemove 38 = .ok (.putfield 48, 3) := by decide +kernel
theorem d_Al_fastRemove_41 : decode b_Al_fastRemove 41 = .ok (.aconst_null, 1) := by decide +kernel
theorem d_Al_fastRemove_42 : decode b_Al_fastRemove 42 = .ok (.aastore, 1) := by decide +kernel
theorem d_Al_fastRemove_43 : decode b_Al_fastRemove 43 = .ok (.return_, 1) := by decide +kernel
theorem d_No_settleAt_0 : decode b_No_settleAt 0 = .ok (.aload_n 0, 1) := by decide +kernel
theorem d_No_settleAt_1 : decode b_No_settleAt 1 = .ok (.aload_n 0, 1) := by decide +kernel
theorem d_No_settleAt_2 : decode b_No_settleAt 2 = .ok (.getfield 20, 3) := by decide +kernel
theorem d_No_settleAt_5 : decode b_No_settleAt 5 = .ok (.iconst 0, 1) := by decide +kernel
theorem d_No_settleAt_6 : decode b_No_settleAt 6 = .ok (.aaload, 1) := by decide +kernel
theorem d_No_settleAt_7 : decode b_No_settleAt 7 = .ok (.dload_n 1, 1) := by decide +kernel
theorem d_No_settleAt_8 : decode b_No_settleAt 8 = .ok (.aload_n 0, 1) := by decide +kernel
theorem d_No_settleAt_9 : decode b_No_settleAt 9 = .ok (.getfield 76, 3) := by decide +kernel
theorem d_No_settleAt_12 : decode b_No_settleAt 12 = .ok (.invokevirtual 79, 3) := by decide +kernel
theorem d_No_settleAt_15 : decode b_No_settleAt 15 = .ok (.putfield 83, 3) := by decide +kernel
theorem d_No_settleAt_18 : decode b_No_settleAt 18 = .ok (.aload_n 0, 1) := by decide +kernel
theorem d_No_settleAt_19 : decode b_No_settleAt 19 = .ok (.aload_n 0, 1) := by decide +kernel
theorem d_No_settleAt_20 : decode b_No_settleAt 20 = .ok (.getfield 20, 3) := by decide +kernel
theorem d_No_settleAt_23 : decode b_No_settleAt 23 = .ok (.iconst 1, 1) := by decide +kernel
theorem d_No_settleAt_24 : decode b_No_settleAt 24 = .ok (.aaload, 1) := by decide +kernel
theorem d_No_settleAt_25 : decode b_No_settleAt 25 = .ok (.dload_n 1, 1) := by decide +kernel
theorem d_No_settleAt_26 : decode b_No_settleAt 26 = .ok (.aload_n 0, 1) := by decide +kernel
theorem d_No_settleAt_27 : decode b_No_settleAt 27 = .ok (.getfield 86, 3) := by decide +kernel
theorem d_No_settleAt_30 : decode b_No_settleAt 30 = .ok (.invokevirtual 79, 3) := by decide +kernel
theorem d_No_settleAt_33 : decode b_No_settleAt 33 = .ok (.putfield 89, 3) := by decide +kernel
theorem d_No_settleAt_36 : decode b_No_settleAt 36 = .ok (.aload_n 0, 1) := by decide +kernel
theorem d_No_settleAt_37 : decode b_No_settleAt 37 = .ok (.aload_n 0, 1) := by decide +kernel
theorem d_No_settleAt_38 : decode b_No_settleAt 38 = .ok (.getfield 20, 3) := by decide +kernel
theorem d_No_settleAt_41 : decode b_No_settleAt 41 = .ok (.iconst 2, 1) := by decide +kernel
theorem d_No_settleAt_42 : decode b_No_settleAt 42 = .ok (.aaload, 1) := by decide +kernel
theorem d_No_settleAt_43 : decode b_No_settleAt 43 = .ok (.dload_n 1, 1) := by decide +kernel
theorem d_No_settleAt_44 : decode b_No_settleAt 44 = .ok (.aload_n 0, 1) := by decide +kernel
theorem d_No_settleAt_45 : decode b_No_settleAt 45 = .ok (.getfield 92, 3) := by decide +kernel
theorem d_No_settleAt_48 : decode b_No_settleAt 48 = .ok (.i2d, 1) := by decide +kernel
theorem d_No_settleAt_49 : decode b_No_settleAt 49 = .ok (.invokevirtual 95, 3) := by decide +kernel
theorem d_No_settleAt_52 : decode b_No_settleAt 52 = .ok (.d2i, 1) := by decide +kernel
theorem d_No_settleAt_53 : decode b_No_settleAt 53 = .ok (.putfield 98, 3) := by decide +kernel
theorem d_No_settleAt_56 : decode b_No_settleAt 56 = .ok (.aload_n 0, 1) := by decide +kernel
theorem d_No_settleAt_57 : decode b_No_settleAt 57 = .ok (.aload_n 0, 1) := by decide +kernel
theorem d_No_settleAt_58 : decode b_No_settleAt 58 = .ok (.getfield 20, 3) := by decide +kernel
theorem d_No_settleAt_61 : decode b_No_settleAt 61 = .ok (.iconst 3, 1) := by decide +kernel
theorem d_No_settleAt_62 : decode b_No_settleAt 62 = .ok (.aaload, 1) := by decide +kernel
theorem d_No_settleAt_63 : decode b_No_settleAt 63 = .ok (.dload_n 1, 1) := by decide +kernel
theorem d_No_settleAt_64 : decode b_No_settleAt 64 = .ok (.aload_n 0, 1) := by decide +kernel
theorem d_No_settleAt_65 : decode b_No_settleAt 65 = .ok (.getfield 48, 3) := by decide +kernel
theorem d_No_settleAt_68 : decode b_No_settleAt 68 = .ok (.i2d, 1) := by decide +kernel
theorem d_No_settleAt_69 : decode b_No_settleAt 69 = .ok (.invokevirtual 95, 3) := by decide +kernel
theorem d_No_settleAt_72 : decode b_No_settleAt 72 = .ok (.d2i, 1) := by decide +kernel
theorem d_No_settleAt_73 : decode b_No_settleAt 73 = .ok (.putfield 101, 3) := by decide +kernel
theorem d_No_settleAt_76 : decode b_No_settleAt 76 = .ok (.return_, 1) := by decide +kernel
theorem d_Tr_gliding_0 : decode b_Tr_gliding 0 = .ok (.aload_n 0, 1) := by decide +kernel
theorem d_Tr_gliding_1 : decode b_Tr_gliding 1 = .ok (.getfield 18, 3) := by decide +kernel
theorem d_Tr_gliding_4 : decode b_Tr_gliding 4 = .ok (.ifCond .ne 5, 3) := by decide +kernel
theorem d_Tr_gliding_7 : decode b_Tr_gliding 7 = .ok (.dload_n 3, 1) := by decide +kernel
theorem d_Tr_gliding_8 : decode b_Tr_gliding 8 = .ok (.dreturn, 1) := by decide +kernel
theorem d_Tr_gliding_9 : decode b_Tr_gliding 9 = .ok (.aload_n 0, 1) := by decide +kernel
theorem d_Tr_gliding_10 : decode b_Tr_gliding 10 = .ok (.dload_n 1, 1) := by decide +kernel
theorem d_Tr_gliding_11 : decode b_Tr_gliding 11 = .ok (.invokevirtual 26, 3) := by decide +kernel
theorem d_Tr_gliding_14 : decode b_Tr_gliding 14 = .ok (.istore 5, 2) := by decide +kernel
theorem d_Tr_gliding_16 : decode b_Tr_gliding 16 = .ok (.iload 5, 2) := by decide +kernel
theorem d_Tr_gliding_18 : decode b_Tr_gliding 18 = .ok (.iconst 1, 1) := by decide +kernel
theorem d_Tr_gliding_19 : decode b_Tr_gliding 19 = .ok (.iadd, 1) := by decide +kernel
theorem d_Tr_gliding_20 : decode b_Tr_gliding 20 = .ok (.aload_n 0, 1) := by decide +kernel
theorem d_Tr_gliding_21 : decode b_Tr_gliding 21 = .ok (.getfield 18, 3) := by decide +kernel
theorem d_Tr_gliding_24 : decode b_Tr_gliding 24 = .ok (.if_icmp .ge 15, 3) := by decide +kernel
theorem d_Tr_gliding_27 : decode b_Tr_gliding 27 = .ok (.dload_n 1, 1) := by decide +kernel
theorem d_Tr_gliding_28 : decode b_Tr_gliding 28 = .ok (.aload_n 0, 1) := by decide +kernel
theorem d_Tr_gliding_29 : decode b_Tr_gliding 29 = .ok (.getfield 9, 3) := by decide +kernel
theorem d_Tr_gliding_32 : decode b_Tr_gliding 32 = .ok (.iload 5, 2) := by decide +kernel
theorem d_Tr_gliding_34 : decode b_Tr_gliding 34 = .ok (.daload, 1) := by decide +kernel
theorem d_Tr_gliding_35 : decode b_Tr_gliding 35 = .ok (.dcmp .g, 1) := by decide +kernel
theorem d_Tr_gliding_36 : decode b_Tr_gliding 36 = .ok (.ifCond .gt 11, 3) := by decide +kernel
theorem d_Tr_gliding_39 : decode b_Tr_gliding 39 = .ok (.aload_n 0, 1) := by decide +kernel
theorem d_Tr_gliding_40 : decode b_Tr_gliding 40 = .ok (.getfield 15, 3) := by decide +kernel
theorem d_Tr_gliding_43 : decode b_Tr_gliding 43 = .ok (.iload 5, 2) := by decide +kernel
theorem d_Tr_gliding_45 : decode b_Tr_gliding 45 = .ok (.daload, 1) := by decide +kernel
theorem d_Tr_gliding_46 : decode b_Tr_gliding 46 = .ok (.dreturn, 1) := by decide +kernel
theorem d_Tr_gliding_47 : decode b_Tr_gliding 47 = .ok (.aload_n 0, 1) := by decide +kernel
theorem d_Tr_gliding_48 : decode b_Tr_gliding 48 = .ok (.getfield 9, 3) := by decide +kernel
theorem d_Tr_gliding_51 : decode b_Tr_gliding 51 = .ok (.iload 5, 2) := by decide +kernel
theorem d_Tr_gliding_53 : decode b_Tr_gliding 53 = .ok (.iconst 1, 1) := by decide +kernel
theorem d_Tr_gliding_54 : decode b_Tr_gliding 54 = .ok (.iadd, 1) := by decide +kernel
theorem d_Tr_gliding_55 : decode b_Tr_gliding 55 = .ok (.daload, 1) := by decide +kernel
theorem d_Tr_gliding_56 : decode b_Tr_gliding 56 = .ok (.aload_n 0, 1) := by decide +kernel
theorem d_Tr_gliding_57 : decode b_Tr_gliding 57 = .ok (.getfield 9, 3) := by decide +kernel
theorem d_Tr_gliding_60 : decode b_Tr_gliding 60 = .ok (.iload 5, 2) := by decide +kernel
theorem d_Tr_gliding_62 : decode b_Tr_gliding 62 = .ok (.daload, 1) := by decide +kernel
theorem d_Tr_gliding_63 : decode b_Tr_gliding 63 = .ok (.dsub, 1) := by decide +kernel
theorem d_Tr_gliding_64 : decode b_Tr_gliding 64 = .ok (.dstore 6, 2) := by decide +kernel
theorem d_Tr_gliding_66 : decode b_Tr_gliding 66 = .ok (.dload 6, 2) := by decide +kernel
theorem d_Tr_gliding_68 : decode b_Tr_gliding 68 = .ok (.dconst 0, 1) := by decide +kernel
theorem d_Tr_gliding_69 : decode b_Tr_gliding 69 = .ok (.dcmp .g, 1) := by decide +kernel
theorem d_Tr_gliding_70 : decode b_Tr_gliding 70 = .ok (.ifCond .gt 11, 3) := by decide +kernel
theorem d_Tr_gliding_73 : decode b_Tr_gliding 73 = .ok (.aload_n 0, 1) := by decide +kernel
theorem d_Tr_gliding_74 : decode b_Tr_gliding 74 = .ok (.getfield 15, 3) := by decide +kernel
theorem d_Tr_gliding_77 : decode b_Tr_gliding 77 = .ok (.iload 5, 2) := by decide +kernel
theorem d_Tr_gliding_79 : decode b_Tr_gliding 79 = .ok (.daload, 1) := by decide +kernel
theorem d_Tr_gliding_80 : decode b_Tr_gliding 80 = .ok (.dreturn, 1) := by decide +kernel
theorem d_Tr_gliding_81 : decode b_Tr_gliding 81 = .ok (.aload_n 0, 1) := by decide +kernel
theorem d_Tr_gliding_82 : decode b_Tr_gliding 82 = .ok (.getfield 15, 3) := by decide +kernel
theorem d_Tr_gliding_85 : decode b_Tr_gliding 85 = .ok (.iload 5, 2) := by decide +kernel
theorem d_Tr_gliding_87 : decode b_Tr_gliding 87 = .ok (.daload, 1) := by decide +kernel
theorem d_Tr_gliding_88 : decode b_Tr_gliding 88 = .ok (.aload_n 0, 1) := by decide +kernel
theorem d_Tr_gliding_89 : decode b_Tr_gliding 89 = .ok (.getfield 15, 3) := by decide +kernel
theorem d_Tr_gliding_92 : decode b_Tr_gliding 92 = .ok (.iload 5, 2) := by decide +kernel
theorem d_Tr_gliding_94 : decode b_Tr_gliding 94 = .ok (.iconst 1, 1) := by decide +kernel
theorem d_Tr_gliding_95 : decode b_Tr_gliding 95 = .ok (.iadd, 1) := by decide +kernel
theorem d_Tr_gliding_96 : decode b_Tr_gliding 96 = .ok (.daload, 1) := by decide +kernel
theorem d_Tr_gliding_97 : decode b_Tr_gliding 97 = .ok (.aload_n 0, 1) := by decide +kernel
theorem d_Tr_gliding_98 : decode b_Tr_gliding 98 = .ok (.getfield 15, 3) := by decide +kernel
theorem d_Tr_gliding_101 : decode b_Tr_gliding 101 = .ok (.iload 5, 2) := by decide +kernel
theorem d_Tr_gliding_103 : decode b_Tr_gliding 103 = .ok (.daload, 1) := by decide +kernel
theorem d_Tr_gliding_104 : decode b_Tr_gliding 104 = .ok (.dsub, 1) := by decide +kernel
theorem d_Tr_gliding_105 : decode b_Tr_gliding 105 = .ok (.dload_n 1, 1) := by decide +kernel
theorem d_Tr_gliding_106 : decode b_Tr_gliding 106 = .ok (.aload_n 0, 1) := by decide +kernel
theorem d_Tr_gliding_107 : decode b_Tr_gliding 107 = .ok (.getfield 9, 3) := by decide +kernel
theorem d_Tr_gliding_110 : decode b_Tr_gliding 110 = .ok (.iload 5, 2) := by decide +kernel
theorem d_Tr_gliding_112 : decode b_Tr_gliding 112 = .ok (.daload, 1) := by decide +kernel
theorem d_Tr_gliding_113 : decode b_Tr_gliding 113 = .ok (.dsub, 1) := by decide +kernel
theorem d_Tr_gliding_114 : decode b_Tr_gliding 114 = .ok (.dmul, 1) := by decide +kernel
theorem d_Tr_gliding_115 : decode b_Tr_gliding 115 = .ok (.dload 6, 2) := by decide +kernel
theorem d_Tr_gliding_117 : decode b_Tr_gliding 117 = .ok (.ddiv, 1) := by decide +kernel
theorem d_Tr_gliding_118 : decode b_Tr_gliding 118 = .ok (.invokestatic 30, 3) := by decide +kernel
theorem d_Tr_gliding_121 : decode b_Tr_gliding 121 = .ok (.dadd, 1) := by decide +kernel
theorem d_Tr_gliding_122 : decode b_Tr_gliding 122 = .ok (.dreturn, 1) := by decide +kernel
theorem d_Tr_frameFor_0 : decode b_Tr_frameFor 0 = .ok (.iconst 0, 1) := by decide +kernel
theorem d_Tr_frameFor_1 : decode b_Tr_frameFor 1 = .ok (.istore_n 3, 1) := by decide +kernel
theorem d_Tr_frameFor_2 : decode b_Tr_frameFor 2 = .ok (.iconst 1, 1) := by decide +kernel
theorem d_Tr_frameFor_3 : decode b_Tr_frameFor 3 = .ok (.istore 4, 2) := by decide +kernel
theorem d_Tr_frameFor_5 : decode b_Tr_frameFor 5 = .ok (.iload 4, 2) := by decide +kernel
theorem d_Tr_frameFor_7 : decode b_Tr_frameFor 7 = .ok (.aload_n 0, 1) := by decide +kernel
theorem d_Tr_frameFor_8 : decode b_Tr_frameFor 8 = .ok (.getfield 18, 3) := by decide +kernel
theorem d_Tr_frameFor_11 : decode b_Tr_frameFor 11 = .ok (.if_icmp .ge 24, 3) := by decide +kernel
theorem d_Tr_frameFor_14 : decode b_Tr_frameFor 14 = .ok (.aload_n 0, 1) := by decide +kernel
theorem d_Tr_frameFor_15 : decode b_Tr_frameFor 15 = .ok (.getfield 9, 3) := by decide +kernel
theorem d_Tr_frameFor_18 : decode b_Tr_frameFor 18 = .ok (.iload 4, 2) := by decide +kernel
theorem d_Tr_frameFor_20 : decode b_Tr_frameFor 20 = .ok (.daload, 1) := by decide +kernel
theorem d_Tr_frameFor_21 : decode b_Tr_frameFor 21 = .ok (.dload_n 1, 1) := by decide +kernel
theorem d_Tr_frameFor_22 : decode b_Tr_frameFor 22 = .ok (.dcmp .g, 1) := by decide +kernel
theorem d_Tr_frameFor_23 : decode b_Tr_frameFor 23 = .ok (.ifCond .gt 6, 3) := by decide +kernel
theorem d_Tr_frameFor_26 : decode b_Tr_frameFor 26 = .ok (.iload 4, 2) := by decide +kernel
theorem d_Tr_frameFor_28 : decode b_Tr_frameFor 28 = .ok (.istore_n 3, 1) := by decide +kernel
theorem d_Tr_frameFor_29 : decode b_Tr_frameFor 29 = .ok (.iinc 4 1, 3) := by decide +kernel
theorem d_Tr_frameFor_32 : decode b_Tr_frameFor 32 = .ok (.goto (-27), 3) := by decide +kernel
theorem d_Tr_frameFor_35 : decode b_Tr_frameFor 35 = .ok (.iload_n 3, 1) := by decide +kernel
theorem d_Tr_frameFor_36 : decode b_Tr_frameFor 36 = .ok (.ireturn, 1) := by decide +kernel
theorem d_Tr_jumping_0 : decode b_Tr_jumping 0 = .ok (.aload_n 0, 1) := by decide +kernel
theorem d_Tr_jumping_1 : decode b_Tr_jumping 1 = .ok (.getfield 18, 3) := by decide +kernel
theorem d_Tr_jumping_4 : decode b_Tr_jumping 4 = .ok (.ifCond .ne 7, 3) := by decide +kernel
theorem d_Tr_jumping_7 : decode b_Tr_jumping 7 = .ok (.dload_n 3, 1) := by decide +kernel
theorem d_Tr_jumping_8 : decode b_Tr_jumping 8 = .ok (.goto 13, 3) := by decide +kernel
theorem d_Tr_jumping_11 : decode b_Tr_jumping 11 = .ok (.aload_n 0, 1) := by decide +kernel
theorem d_Tr_jumping_12 : decode b_Tr_jumping 12 = .ok (.getfield 15, 3) := by decide +kernel
theorem d_Tr_jumping_15 : decode b_Tr_jumping 15 = .ok (.aload_n 0, 1) := by decide +kernel
theorem d_Tr_jumping_16 : decode b_Tr_jumping 16 = .ok (.dload_n 1, 1) := by decide +kernel
theorem d_Tr_jumping_17 : decode b_Tr_jumping 17 = .ok (.invokevirtual 26, 3) := by decide +kernel
theorem d_Tr_jumping_20 : decode b_Tr_jumping 20 = .ok (.daload, 1) := by decide +kernel
theorem d_Tr_jumping_21 : decode b_Tr_jumping 21 = .ok (.dreturn, 1) := by decide +kernel
theorem d_No_topInside_0 : decode b_No_topInside 0 = .ok (.aload_n 0, 1) := by decide +kernel
theorem d_No_topInside_1 : decode b_No_topInside 1 = .ok (.getfield 123, 3) := by decide +kernel
theorem d_No_topInside_4 : decode b_No_topInside 4 = .ok (.iconst 2, 1) := by decide +kernel
theorem d_No_topInside_5 : decode b_No_topInside 5 = .ok (.if_icmp .ne 11, 3) := by decide +kernel
theorem d_No_topInside_8 : decode b_No_topInside 8 = .ok (.aload_n 0, 1) := by decide +kernel
theorem d_No_topInside_9 : decode b_No_topInside 9 = .ok (.dload_n 1, 1) := by decide +kernel
theorem d_No_topInside_10 : decode b_No_topInside 10 = .ok (.invokevirtual 126, 3) := by decide +kernel
theorem d_No_topInside_13 : decode b_No_topInside 13 = .ok (.goto 4, 3) := by decide +kernel
theorem d_No_topInside_16 : decode b_No_topInside 16 = .ok (.dload_n 1, 1) := by decide +kernel
theorem d_No_topInside_17 : decode b_No_topInside 17 = .ok (.dstore 5, 2) := by decide +kernel
theorem d_No_topInside_19 : decode b_No_topInside 19 = .ok (.aload_n 0, 1) := by decide +kernel
theorem d_No_topInside_20 : decode b_No_topInside 20 = .ok (.getfield 123, 3) := by decide +kernel
theorem d_No_topInside_23 : decode b_No_topInside 23 = .ok (.iconst 2, 1) := by decide +kernel
theorem d_No_topInside_24 : decode b_No_topInside 24 = .ok (.if_icmp .ne 11, 3) := by decide +kernel
theorem d_No_topInside_27 : decode b_No_topInside 27 = .ok (.aload_n 0, 1) := by decide +kernel
theorem d_No_topInside_28 : decode b_No_topInside 28 = .ok (.dload_n 3, 1) := by decide +kernel
theorem d_No_topInside_29 : decode b_No_topInside 29 = .ok (.invokevirtual 126, 3) := by decide +kernel
theorem d_No_topInside_32 : decode b_No_topInside 32 = .ok (.goto 4, 3) := by decide +kernel
theorem d_No_topInside_35 : decode b_No_topInside 35 = .ok (.dload_n 3, 1) := by decide +kernel
theorem d_No_topInside_36 : decode b_No_topInside 36 = .ok (.dstore 7, 2) := by decide +kernel
theorem d_No_topInside_38 : decode b_No_topInside 38 = .ok (.aload_n 0, 1) := by decide +kernel
theorem d_No_topInside_39 : decode b_No_topInside 39 = .ok (.getfield 123, 3) := by decide +kernel
theorem d_No_topInside_42 : decode b_No_topInside 42 = .ok (.iconst 1, 1) := by decide +kernel
theorem d_No_topInside_43 : decode b_No_topInside 43 = .ok (.if_icmp .ne 16, 3) := by decide +kernel
theorem d_No_topInside_46 : decode b_No_topInside 46 = .ok (.aload_n 0, 1) := by decide +kernel
theorem d_No_topInside_47 : decode b_No_topInside 47 = .ok (.dload 5, 2) := by decide +kernel
theorem d_No_topInside_49 : decode b_No_topInside 49 = .ok (.dload 7, 2) := by decide +kernel
theorem d_No_topInside_51 : decode b_No_topInside 51 = .ok (.invokevirtual 130, 3) := by decide +kernel
theorem d_No_topInside_54 : decode b_No_topInside 54 = .ok (.ifCond .ne 5, 3) := by decide +kernel
theorem d_No_topInside_57 : decode b_No_topInside 57 = .ok (.aconst_null, 1) := by decide +kernel
theorem d_No_topInside_58 : decode b_No_topInside 58 = .ok (.areturn, 1) := by decide +kernel
theorem d_No_topInside_59 : decode b_No_topInside 59 = .ok (.aload_n 0, 1) := by decide +kernel
theorem d_No_topInside_60 : decode b_No_topInside 60 = .ok (.getfield 123, 3) := by decide +kernel
theorem d_No_topInside_63 : decode b_No_topInside 63 = .ok (.iconst 1, 1) := by decide +kernel
theorem d_No_topInside_64 : decode b_No_topInside 64 = .ok (.if_icmp .ne 7, 3) := by decide +kernel
theorem d_No_topInside_67 : decode b_No_topInside 67 = .ok (.iconst 1, 1) := by decide +kernel
theorem d_No_topInside_68 : decode b_No_topInside 68 = .ok (.goto 4, 3) := by decide +kernel
theorem d_No_topInside_71 : decode b_No_topInside 71 = .ok (.iconst 0, 1) := by decide +kernel
theorem d_No_topInside_72 : decode b_No_topInside 72 = .ok (.istore 9, 2) := by decide +kernel
theorem d_No_topInside_74 : decode b_No_topInside 74 = .ok (.aconst_null, 1) := by decide +kernel
theorem d_No_topInside_75 : decode b_No_topInside 75 = .ok (.astore 10, 2) := by decide +kernel
theorem d_No_topInside_77 : decode b_No_topInside 77 = .ok (.aload_n 0, 1) := by decide +kernel
theorem d_No_topInside_78 : decode b_No_topInside 78 = .ok (.getfield 12, 3) := by decide +kernel
theorem d_No_topInside_81 : decode b_No_topInside 81 = .ok (.invokevirtual 64, 3) := by decide +kernel
theorem d_No_topInside_84 : decode b_No_topInside 84 = .ok (.iconst 1, 1) := by decide +kernel
theorem d_No_topInside_85 : decode b_No_topInside 85 = .ok (.isub, 1) := by decide +kernel
theorem d_No_topInside_86 : decode b_No_topInside 86 = .ok (.istore 11, 2) := by decide +kernel
theorem d_No_topInside_88 : decode b_No_topInside 88 = .ok (.iload 11, 2) := by decide +kernel
theorem d_No_topInside_90 : decode b_No_topInside 90 = .ok (.iload 9, 2) := by decide +kernel
theorem d_No_topInside_92 : decode b_No_topInside 92 = .ok (.if_icmp .lt 35, 3) := by decide +kernel
theorem d_No_topInside_95 : decode b_No_topInside 95 = .ok (.aload 10, 2) := by decide +kernel
theorem d_No_topInside_97 : decode b_No_topInside 97 = .ok (.ifnonnull 30, 3) := by decide +kernel
theorem d_No_topInside_100 : decode b_No_topInside 100 = .ok (.aload_n 0, 1) := by decide +kernel
theorem d_No_topInside_101 : decode b_No_topInside 101 = .ok (.getfield 12, 3) := by decide +kernel
theorem d_No_topInside_104 : decode b_No_topInside 104 = .ok (.iload 11, 2) := by decide +kernel
theorem d_No_topInside_106 : decode b_No_topInside 106 = .ok (.invokevirtual 71, 3) := by decide +kernel
theorem d_No_topInside_109 : decode b_No_topInside 109 = .ok (.checkcast 13, 3) := by decide +kernel
theorem d_No_topInside_112 : decode b_No_topInside 112 = .ok (.dload 5, 2) := by decide +kernel
theorem d_No_topInside_114 : decode b_No_topInside 114 = .ok (.dload 7, 2) := by decide +kernel
theorem d_No_topInside_116 : decode b_No_topInside 116 = .ok (.invokevirtual 133, 3) := by decide +kernel
theorem d_No_topInside_119 : decode b_No_topInside 119 = .ok (.astore 10, 2) := by decide +kernel
theorem d_No_topInside_121 : decode b_No_topInside 121 = .ok (.iinc 11 (-1), 3) := by decide +kernel
theorem d_No_topInside_124 : decode b_No_topInside 124 = .ok (.goto (-36), 3) := by decide +kernel
theorem d_No_topInside_127 : decode b_No_topInside 127 = .ok (.aload 10, 2) := by decide +kernel
theorem d_No_topInside_129 : decode b_No_topInside 129 = .ok (.areturn, 1) := by decide +kernel
theorem d_No_inTile_0 : decode b_No_inTile 0 = .ok (.aload_n 0, 1) := by decide +kernel
theorem d_No_inTile_1 : decode b_No_inTile 1 = .ok (.getfield 38, 3) := by decide +kernel
theorem d_No_inTile_4 : decode b_No_inTile 4 = .ok (.dconst 1, 1) := by decide +kernel
theorem d_No_inTile_5 : decode b_No_inTile 5 = .ok (.dcmp .l, 1) := by decide +kernel
theorem d_No_inTile_6 : decode b_No_inTile 6 = .ok (.ifCond .lt 22, 3) := by decide +kernel
theorem d_No_inTile_9 : decode b_No_inTile 9 = .ok (.dload_n 1, 1) := by decide +kernel
theorem d_No_inTile_10 : decode b_No_inTile 10 = .ok (.aload_n 0, 1) := by decide +kernel
theorem d_No_inTile_11 : decode b_No_inTile 11 = .ok (.getfield 38, 3) := by decide +kernel
theorem d_No_inTile_14 : decode b_No_inTile 14 = .ok (.dload_n 1, 1) := by decide +kernel
theorem d_No_inTile_15 : decode b_No_inTile 15 = .ok (.aload_n 0, 1) := by decide +kernel
theorem d_No_inTile_16 : decode b_No_inTile 16 = .ok (.getfield 38, 3) := by decide +kernel
theorem d_No_inTile_19 : decode b_No_inTile 19 = .ok (.ddiv, 1) := by decide +kernel
theorem d_No_inTile_20 : decode b_No_inTile 20 = .ok (.invokestatic 140, 3) := by decide +kernel
theorem d_No_inTile_23 : decode b_No_inTile 23 = .ok (.dmul, 1) := by decide +kernel
theorem d_No_inTile_24 : decode b_No_inTile 24 = .ok (.dsub, 1) := by decide +kernel
theorem d_No_inTile_25 : decode b_No_inTile 25 = .ok (.goto 4, 3) := by decide +kernel
theorem d_No_inTile_28 : decode b_No_inTile 28 = .ok (.dload_n 1, 1) := by decide +kernel
theorem d_No_inTile_29 : decode b_No_inTile 29 = .ok (.dreturn, 1) := by decide +kernel
theorem d_No_firstHas_0 : decode b_No_firstHas 0 = .ok (.aload_n 0, 1) := by decide +kernel
theorem d_No_firstHas_1 : decode b_No_firstHas 1 = .ok (.getfield 12, 3) := by decide +kernel
theorem d_No_firstHas_4 : decode b_No_firstHas 4 = .ok (.invokevirtual 136, 3) := by decide +kernel
theorem d_No_firstHas_7 : decode b_No_firstHas 7 = .ok (.ifCond .ne 26, 3) := by decide +kernel
theorem d_No_firstHas_10 : decode b_No_firstHas 10 = .ok (.aload_n 0, 1) := by decide +kernel
theorem d_No_firstHas_11 : decode b_No_firstHas 11 = .ok (.getfield 12, 3) := by decide +kernel
theorem d_No_firstHas_14 : decode b_No_firstHas 14 = .ok (.iconst 0, 1) := by decide +kernel
theorem d_No_firstHas_15 : decode b_No_firstHas 15 = .ok (.invokevirtual 71, 3) := by decide +kernel
theorem d_No_firstHas_18 : decode b_No_firstHas 18 = .ok (.checkcast 13, 3) := by decide +kernel
theorem d_No_firstHas_21 : decode b_No_firstHas 21 = .ok (.dload_n 1, 1) := by decide +kernel
theorem d_No_firstHas_22 : decode b_No_firstHas 22 = .ok (.dload_n 3, 1) := by decide +kernel
theorem d_No_firstHas_23 : decode b_No_firstHas 23 = .ok (.invokevirtual 133, 3) := by decide +kernel
theorem d_No_firstHas_26 : decode b_No_firstHas 26 = .ok (.ifnull 7, 3) := by decide +kernel
theorem d_No_firstHas_29 : decode b_No_firstHas 29 = .ok (.iconst 1, 1) := by decide +kernel
theorem d_No_firstHas_30 : decode b_No_firstHas 30 = .ok (.goto 4, 3) := by decide +kernel
theorem d_No_firstHas_33 : decode b_No_firstHas 33 = .ok (.iconst 0, 1) := by decide +kernel
theorem d_No_firstHas_34 : decode b_No_firstHas 34 = .ok (.ireturn, 1) := by decide +kernel
theorem d_Al_isEmpty_0 : decode b_Al_isEmpty 0 = .ok (.aload_n 0, 1) := by decide +kernel
theorem d_Al_isEmpty_1 : decode b_Al_isEmpty 1 = .ok (.getfield 48, 3) := by decide +kernel
theorem d_Al_isEmpty_4 : decode b_Al_isEmpty 4 = .ok (.ifCond .ne 7, 3) := by decide +kernel
theorem d_Al_isEmpty_7 : decode b_Al_isEmpty 7 = .ok (.iconst 1, 1) := by decide +kernel
theorem d_Al_isEmpty_8 : decode b_Al_isEmpty 8 = .ok (.goto 4, 3) := by decide +kernel
theorem d_Al_isEmpty_11 : decode b_Al_isEmpty 11 = .ok (.iconst 0, 1) := by decide +kernel
theorem d_Al_isEmpty_12 : decode b_Al_isEmpty 12 = .ok (.ireturn, 1) := by decide +kernel
theorem d_No_topAt_0 : decode b_No_topAt 0 = .ok (.aload_n 0, 1) := by decide +kernel
theorem d_No_topAt_1 : decode b_No_topAt 1 = .ok (.getfield 104, 3) := by decide +kernel
theorem d_No_topAt_4 : decode b_No_topAt 4 = .ok (.ifCond .eq 5, 3) := by decide +kernel
theorem d_No_topAt_7 : decode b_No_topAt 7 = .ok (.aconst_null, 1) := by decide +kernel
theorem d_No_topAt_8 : decode b_No_topAt 8 = .ok (.areturn, 1) := by decide +kernel
theorem d_No_topAt_9 : decode b_No_topAt 9 = .ok (.dload_n 1, 1) := by decide +kernel
theorem d_No_topAt_10 : decode b_No_topAt 10 = .ok (.aload_n 0, 1) := by decide +kernel
theorem d_No_topAt_11 : decode b_No_topAt 11 = .ok (.getfield 83, 3) := by decide +kernel
theorem d_No_topAt_14 : decode b_No_topAt 14 = .ok (.dsub, 1) := by decide +kernel
theorem d_No_topAt_15 : decode b_No_topAt 15 = .ok (.dstore 5, 2) := by decide +kernel
theorem d_No_topAt_17 : decode b_No_topAt 17 = .ok (.dload_n 3, 1) := by decide +kernel
theorem d_No_topAt_18 : decode b_No_topAt 18 = .ok (.aload_n 0, 1) := by decide +kernel
theorem d_No_topAt_19 : decode b_No_topAt 19 = .ok (.getfield 89, 3) := by decide +kernel
theorem d_No_topAt_22 : decode b_No_topAt 22 = .ok (.dsub, 1) := by decide +kernel
theorem d_No_topAt_23 : decode b_No_topAt 23 = .ok (.dstore 7, 2) := by decide +kernel
theorem d_No_topAt_25 : decode b_No_topAt 25 = .ok (.iconst 0, 1) := by decide +kernel
theorem d_No_topAt_26 : decode b_No_topAt 26 = .ok (.istore 9, 2) := by decide +kernel
theorem d_No_topAt_28 : decode b_No_topAt 28 = .ok (.iload 9, 2) := by decide +kernel
theorem d_No_topAt_30 : decode b_No_topAt 30 = .ok (.aload_n 0, 1) := by decide +kernel
theorem d_No_topAt_31 : decode b_No_topAt 31 = .ok (.getfield 108, 3) := by decide +kernel
theorem d_No_topAt_34 : decode b_No_topAt 34 = .ok (.if_icmp .ge 22, 3) := by decide +kernel
theorem d_No_topAt_37 : decode b_No_topAt 37 = .ok (.dload 5, 2) := by decide +kernel
theorem d_No_topAt_39 : decode b_No_topAt 39 = .ok (.dneg, 1) := by decide +kernel
theorem d_No_topAt_40 : decode b_No_topAt 40 = .ok (.dstore 10, 2) := by decide +kernel
theorem d_No_topAt_42 : decode b_No_topAt 42 = .ok (.dload 7, 2) := by decide +kernel
theorem d_No_topAt_44 : decode b_No_topAt 44 = .ok (.dstore 5, 2) := by decide +kernel
theorem d_No_topAt_46 : decode b_No_topAt 46 = .ok (.dload 10, 2) := by decide +kernel
theorem d_No_topAt_48 : decode b_No_topAt 48 = .ok (.dstore 7, 2) := by decide +kernel
theorem d_No_topAt_50 : decode b_No_topAt 50 = .ok (.iinc 9 1, 3) := by decide +kernel
theorem d_No_topAt_53 : decode b_No_topAt 53 = .ok (.goto (-25), 3) := by decide +kernel
theorem d_No_topAt_56 : decode b_No_topAt 56 = .ok (.aload_n 0, 1) := by decide +kernel
theorem d_No_topAt_57 : decode b_No_topAt 57 = .ok (.getfield 98, 3) := by decide +kernel
theorem d_No_topAt_60 : decode b_No_topAt 60 = .ok (.ineg, 1) := by decide +kernel
theorem d_No_topAt_61 : decode b_No_topAt 61 = .ok (.invokestatic 111, 3) := by decide +kernel
theorem d_No_topAt_64 : decode b_No_topAt 64 = .ok (.dstore 9, 2) := by decide +kernel
theorem d_No_topAt_66 : decode b_No_topAt 66 = .ok (.aload_n 0, 1) := by decide +kernel
theorem d_No_topAt_67 : decode b_No_topAt 67 = .ok (.getfield 45, 3) := by decide +kernel
theorem d_No_topAt_70 : decode b_No_topAt 70 = .ok (.ifCond .ne 18, 3) := by decide +kernel
theorem d_No_topAt_73 : decode b_No_topAt 73 = .ok (.aload_n 0, 1) := by decide +kernel
theorem d_No_topAt_74 : decode b_No_topAt 74 = .ok (.dload 5, 2) := by decide +kernel
theorem d_No_topAt_76 : decode b_No_topAt 76 = .ok (.dload 9, 2) := by decide +kernel
theorem d_No_topAt_78 : decode b_No_topAt 78 = .ok (.dmul, 1) := by decide +kernel
theorem d_No_topAt_79 : decode b_No_topAt 79 = .ok (.dload 7, 2) := by decide +kernel
theorem d_No_topAt_81 : decode b_No_topAt 81 = .ok (.dload 9, 2) := by decide +kernel
theorem d_No_topAt_83 : decode b_No_topAt 83 = .ok (.dmul, 1) := by decide +kernel
theorem d_No_topAt_84 : decode b_No_topAt 84 = .ok (.invokevirtual 115, 3) := by decide +kernel
theorem d_No_topAt_87 : decode b_No_topAt 87 = .ok (.areturn, 1) := by decide +kernel
theorem d_No_topAt_88 : decode b_No_topAt 88 = .ok (.aload_n 0, 1) := by decide +kernel
theorem d_No_topAt_89 : decode b_No_topAt 89 = .ok (.dload 5, 2) := by decide +kernel
theorem d_No_topAt_91 : decode b_No_topAt 91 = .ok (.dload 9, 2) := by decide +kernel
theorem d_No_topAt_93 : decode b_No_topAt 93 = .ok (.dmul, 1) := by decide +kernel
theorem d_No_topAt_94 : decode b_No_topAt 94 = .ok (.dload 7, 2) := by decide +kernel
theorem d_No_topAt_96 : decode b_No_topAt 96 = .ok (.dload 9, 2) := by decide +kernel
theorem d_No_topAt_98 : decode b_No_topAt 98 = .ok (.dmul, 1) := by decide +kernel
theorem d_No_topAt_99 : decode b_No_topAt 99 = .ok (.invokevirtual 119, 3) := by decide +kernel
theorem d_No_topAt_102 : decode b_No_topAt 102 = .ok (.ifCond .eq 7, 3) := by decide +kernel
theorem d_No_topAt_105 : decode b_No_topAt 105 = .ok (.aload_n 0, 1) := by decide +kernel
theorem d_No_topAt_106 : decode b_No_topAt 106 = .ok (.goto 4, 3) := by decide +kernel
theorem d_No_topAt_109 : decode b_No_topAt 109 = .ok (.aconst_null, 1) := by decide +kernel
theorem d_No_topAt_110 : decode b_No_topAt 110 = .ok (.areturn, 1) := by decide +kernel
theorem d_No_covers_0 : decode b_No_covers 0 = .ok (.aload_n 0, 1) := by decide +kernel
theorem d_No_covers_1 : decode b_No_covers 1 = .ok (.getfield 45, 3) := by decide +kernel
theorem d_No_covers_4 : decode b_No_covers 4 = .ok (.lookupswitch 90 #[(1, 28), (2, 64)], 28) := by decide +kernel
theorem d_No_covers_32 : decode b_No_covers 32 = .ok (.dconst 0, 1) := by decide +kernel
theorem d_No_covers_33 : decode b_No_covers 33 = .ok (.dload_n 1, 1) := by decide +kernel
theorem d_No_covers_34 : decode b_No_covers 34 = .ok (.dcmp .g, 1) := by decide +kernel
theorem d_No_covers_35 : decode b_No_covers 35 = .ok (.ifCond .gt 31, 3) := by decide +kernel
theorem d_No_covers_38 : decode b_No_covers 38 = .ok (.dload_n 1, 1) := by decide +kernel
theorem d_No_covers_39 : decode b_No_covers 39 = .ok (.aload_n 0, 1) := by decide +kernel
theorem d_No_covers_40 : decode b_No_covers 40 = .ok (.getfield 31, 3) := by decide +kernel
theorem d_No_covers_43 : decode b_No_covers 43 = .ok (.dcmp .g, 1) := by decide +kernel
theorem d_No_covers_44 : decode b_No_covers 44 = .ok (.ifCond .gt 22, 3) := by decide +kernel
theorem d_No_covers_47 : decode b_No_covers 47 = .ok (.dconst 0, 1) := by decide +kernel
theorem d_No_covers_48 : decode b_No_covers 48 = .ok (.dload_n 3, 1) := by decide +kernel
theorem d_No_covers_49 : decode b_No_covers 49 = .ok (.dcmp .g, 1) := by decide +kernel
theorem d_No_covers_50 : decode b_No_covers 50 = .ok (.ifCond .gt 16, 3) := by decide +kernel
theorem d_No_covers_53 : decode b_No_covers 53 = .ok (.dload_n 3, 1) := by decide +kernel
theorem d_No_covers_54 : decode b_No_covers 54 = .ok (.aload_n 0, 1) := by decide +kernel
theorem d_No_covers_55 : decode b_No_covers 55 = .ok (.getfield 35, 3) := by decide +kernel
theorem d_No_covers_58 : decode b_No_covers 58 = .ok (.dcmp .g, 1) := by decide +kernel
theorem d_No_covers_59 : decode b_No_covers 59 = .ok (.ifCond .gt 7, 3) := by decide +kernel
theorem d_No_covers_62 : decode b_No_covers 62 = .ok (.iconst 1, 1) := by decide +kernel
theorem d_No_covers_63 : decode b_No_covers 63 = .ok (.goto 4, 3) := by decide +kernel
theorem d_No_covers_66 : decode b_No_covers 66 = .ok (.iconst 0, 1) := by decide +kernel
theorem d_No_covers_67 : decode b_No_covers 67 = .ok (.ireturn, 1) := by decide +kernel
theorem d_No_covers_68 : decode b_No_covers 68 = .ok (.dload_n 1, 1) := by decide +kernel
theorem d_No_covers_69 : decode b_No_covers 69 = .ok (.dload_n 1, 1) := by decide +kernel
theorem d_No_covers_70 : decode b_No_covers 70 = .ok (.dmul, 1) := by decide +kernel
theorem d_No_covers_71 : decode b_No_covers 71 = .ok (.dload_n 3, 1) := by decide +kernel
theorem d_No_covers_72 : decode b_No_covers 72 = .ok (.dload_n 3, 1) := by decide +kernel
theorem d_No_covers_73 : decode b_No_covers 73 = .ok (.dmul, 1) := by decide +kernel
theorem d_No_covers_74 : decode b_No_covers 74 = .ok (.dadd, 1) := by decide +kernel
theorem d_No_covers_75 : decode b_No_covers 75 = .ok (.aload_n 0, 1) := by decide +kernel
theorem d_No_covers_76 : decode b_No_covers 76 = .ok (.getfield 31, 3) := by decide +kernel
theorem d_No_covers_79 : decode b_No_covers 79 = .ok (.aload_n 0, 1) := by decide +kernel
theorem d_No_covers_80 : decode b_No_covers 80 = .ok (.getfield 31, 3) := by decide +kernel
theorem d_No_covers_83 : decode b_No_covers 83 = .ok (.dmul, 1) := by decide +kernel
theorem d_No_covers_84 : decode b_No_covers 84 = .ok (.dcmp .g, 1) := by decide +kernel
theorem d_No_covers_85 : decode b_No_covers 85 = .ok (.ifCond .gt 7, 3) := by decide +kernel
theorem d_No_covers_88 : decode b_No_covers 88 = .ok (.iconst 1, 1) := by decide +kernel
theorem d_No_covers_89 : decode b_No_covers 89 = .ok (.goto 4, 3) := by decide +kernel
theorem d_No_covers_92 : decode b_No_covers 92 = .ok (.iconst 0, 1) := by decide +kernel
theorem d_No_covers_93 : decode b_No_covers 93 = .ok (.ireturn, 1) := by decide +kernel
theorem d_No_covers_94 : decode b_No_covers 94 = .ok (.dconst 0, 1) := by decide +kernel
theorem d_No_covers_95 : decode b_No_covers 95 = .ok (.dload_n 1, 1) := by decide +kernel
theorem d_No_covers_96 : decode b_No_covers 96 = .ok (.dcmp .g, 1) := by decide +kernel
theorem d_No_covers_97 : decode b_No_covers 97 = .ok (.ifCond .gt 39, 3) := by decide +kernel
theorem d_No_covers_100 : decode b_No_covers 100 = .ok (.dconst 0, 1) := by decide +kernel
theorem d_No_covers_101 : decode b_No_covers 101 = .ok (.dload_n 3, 1) := by decide +kernel
theorem d_No_covers_102 : decode b_No_covers 102 = .ok (.dcmp .g, 1) := by decide +kernel
theorem d_No_covers_103 : decode b_No_covers 103 = .ok (.ifCond .gt 33, 3) := by decide +kernel
theorem d_No_covers_106 : decode b_No_covers 106 = .ok (.dload_n 1, 1) := by decide +kernel
theorem d_No_covers_107 : decode b_No_covers 107 = .ok (.aload_n 0, 1) := by decide +kernel
theorem d_No_covers_108 : decode b_No_covers 108 = .ok (.getfield 35, 3) := by decide +kernel
theorem d_No_covers_111 : decode b_No_covers 111 = .ok (.dmul, 1) := by decide +kernel
theorem d_No_covers_112 : decode b_No_covers 112 = .ok (.dload_n 3, 1) := by decide +kernel
theorem d_No_covers_113 : decode b_No_covers 113 = .ok (.aload_n 0, 1) := by decide +kernel
theorem d_No_covers_114 : decode b_No_covers 114 = .ok (.getfield 31, 3) := by decide +kernel
theorem d_No_covers_117 : decode b_No_covers 117 = .ok (.dmul, 1) := by decide +kernel
theorem d_No_covers_118 : decode b_No_covers 118 = .ok (.dadd, 1) := by decide +kernel
theorem d_No_covers_119 : decode b_No_covers 119 = .ok (.aload_n 0, 1) := by decide +kernel
theorem d_No_covers_120 : decode b_No_covers 120 = .ok (.getfield 31, 3) := by decide +kernel
theorem d_No_covers_123 : decode b_No_covers 123 = .ok (.aload_n 0, 1) := by decide +kernel
theorem d_No_covers_124 : decode b_No_covers 124 = .ok (.getfield 35, 3) := by decide +kernel
theorem d_No_covers_127 : decode b_No_covers 127 = .ok (.dmul, 1) := by decide +kernel
theorem d_No_covers_128 : decode b_No_covers 128 = .ok (.dcmp .g, 1) := by decide +kernel
theorem d_No_covers_129 : decode b_No_covers 129 = .ok (.ifCond .gt 7, 3) := by decide +kernel
theorem d_No_covers_132 : decode b_No_covers 132 = .ok (.iconst 1, 1) := by decide +kernel
theorem d_No_covers_133 : decode b_No_covers 133 = .ok (.goto 4, 3) := by decide +kernel
theorem d_No_covers_136 : decode b_No_covers 136 = .ok (.iconst 0, 1) := by decide +kernel
theorem d_No_covers_137 : decode b_No_covers 137 = .ok (.ireturn, 1) := by decide +kernel
theorem d_No_measureInside_0 : decode b_No_measureInside 0 = .ok (.aload_n 0, 1) := by decide +kernel
theorem d_No_measureInside_1 : decode b_No_measureInside 1 = .ok (.getfield 27, 3) := by decide +kernel
theorem d_No_measureInside_4 : decode b_No_measureInside 4 = .ok (.invokevirtual 156, 3) := by decide +kernel
theorem d_No_measureInside_7 : decode b_No_measureInside 7 = .ok (.iconst 0, 1) := by decide +kernel
theorem d_No_measureInside_8 : decode b_No_measureInside 8 = .ok (.istore_n 1, 1) := by decide +kernel
theorem d_No_measureInside_9 : decode b_No_measureInside 9 = .ok (.iload_n 1, 1) := by decide +kernel
theorem d_No_measureInside_10 : decode b_No_measureInside 10 = .ok (.aload_n 0, 1) := by decide +kernel
theorem d_No_measureInside_11 : decode b_No_measureInside 11 = .ok (.getfield 12, 3) := by decide +kernel
theorem d_No_measureInside_14 : decode b_No_measureInside 14 = .ok (.invokevirtual 64, 3) := by decide +kernel
theorem d_No_measureInside_17 : decode b_No_measureInside 17 = .ok (.if_icmp .ge 43, 3) := by decide +kernel
theorem d_No_measureInside_20 : decode b_No_measureInside 20 = .ok (.aload_n 0, 1) := by decide +kernel
theorem d_No_measureInside_21 : decode b_No_measureInside 21 = .ok (.getfield 12, 3) := by decide +kernel
theorem d_No_measureInside_24 : decode b_No_measureInside 24 = .ok (.iload_n 1, 1) := by decide +kernel
theorem d_No_measureInside_25 : decode b_No_measureInside 25 = .ok (.invokevirtual 71, 3) := by decide +kernel
theorem d_No_measureInside_28 : decode b_No_measureInside 28 = .ok (.checkcast 13, 3) := by decide +kernel
theorem d_No_measureInside_31 : decode b_No_measureInside 31 = .ok (.astore_n 2, 1) := by decide +kernel
theorem d_No_measureInside_32 : decode b_No_measureInside 32 = .ok (.aload_n 2, 1) := by decide +kernel
theorem d_No_measureInside_33 : decode b_No_measureInside 33 = .ok (.getfield 104, 3) := by decide +kernel
theorem d_No_measureInside_36 : decode b_No_measureInside 36 = .ok (.ifCond .ne 18, 3) := by decide +kernel
theorem d_No_measureInside_39 : decode b_No_measureInside 39 = .ok (.aload_n 2, 1) := by decide +kernel
theorem d_No_measureInside_40 : decode b_No_measureInside 40 = .ok (.invokevirtual 159, 3) := by decide +kernel
theorem d_No_measureInside_43 : decode b_No_measureInside 43 = .ok (.aload_n 0, 1) := by decide +kernel
theorem d_No_measureInside_44 : decode b_No_measureInside 44 = .ok (.getfield 27, 3) := by decide +kernel
theorem d_No_measureInside_47 : decode b_No_measureInside 47 = .ok (.aload_n 2, 1) := by decide +kernel
theorem d_No_measureInside_48 : decode b_No_measureInside 48 = .ok (.getfield 27, 3) := by decide +kernel
theorem d_No_measureInside_51 : decode b_No_measureInside 51 = .ok (.invokevirtual 162, 3) := by decide +kernel
theorem d_No_measureInside_54 : decode b_No_measureInside 54 = .ok (.iinc 1 1, 3) := by decide +kernel
theorem d_No_measureInside_57 : decode b_No_measureInside 57 = .ok (.goto (-48), 3) := by decide +kernel
theorem d_No_measureInside_60 : decode b_No_measureInside 60 = .ok (.return_, 1) := by decide +kernel
theorem d_Ex_clear_0 : decode b_Ex_clear 0 = .ok (.aload_n 0, 1) := by decide +kernel
theorem d_Ex_clear_1 : decode b_Ex_clear 1 = .ok (.iconst 1, 1) := by decide +kernel
theorem d_Ex_clear_2 : decode b_Ex_clear 2 = .ok (.putfield 7, 3) := by decide +kernel
theorem d_Ex_clear_5 : decode b_Ex_clear 5 = .ok (.return_, 1) := by decide +kernel
theorem d_No_measure_0 : decode b_No_measure 0 = .ok (.aload_n 0, 1) := by decide +kernel
theorem d_No_measure_1 : decode b_No_measure 1 = .ok (.getfield 45, 3) := by decide +kernel
theorem d_No_measure_4 : decode b_No_measure 4 = .ok (.ifCond .ne 10, 3) := by decide +kernel
theorem d_No_measure_7 : decode b_No_measure 7 = .ok (.aload_n 0, 1) := by decide +kernel
theorem d_No_measure_8 : decode b_No_measure 8 = .ok (.invokevirtual 143, 3) := by decide +kernel
theorem d_No_measure_11 : decode b_No_measure 11 = .ok (.goto 56, 3) := by decide +kernel
theorem d_No_measure_14 : decode b_No_measure 14 = .ok (.aload_n 0, 1) := by decide +kernel
theorem d_No_measure_15 : decode b_No_measure 15 = .ok (.getfield 45, 3) := by decide +kernel
theorem d_No_measure_18 : decode b_No_measure 18 = .ok (.iconst 2, 1) := by decide +kernel
theorem d_No_measure_19 : decode b_No_measure 19 = .ok (.if_icmp .ne 31, 3) := by decide +kernel
theorem d_No_measure_22 : decode b_No_measure 22 = .ok (.aload_n 0, 1) := by decide +kernel
theorem d_No_measure_23 : decode b_No_measure 23 = .ok (.getfield 27, 3) := by decide +kernel
theorem d_No_measure_26 : decode b_No_measure 26 = .ok (.aload_n 0, 1) := by decide +kernel
theorem d_No_measure_27 : decode b_No_measure 27 = .ok (.getfield 31, 3) := by decide +kernel
theorem d_No_measure_30 : decode b_No_measure 30 = .ok (.dneg, 1) := by decide +kernel
theorem d_No_measure_31 : decode b_No_measure 31 = .ok (.aload_n 0, 1) := by decide +kernel
theorem d_No_measure_32 : decode b_No_measure 32 = .ok (.getfield 31, 3) := by decide +kernel
theorem d_No_measure_35 : decode b_No_measure 35 = .ok (.dneg, 1) := by decide +kernel
theorem d_No_measure_36 : decode b_No_measure 36 = .ok (.aload_n 0, 1) := by decide +kernel
theorem d_No_measure_37 : decode b_No_measure 37 = .ok (.getfield 31, 3) := by decide +kernel
theorem d_No_measure_40 : decode b_No_measure 40 = .ok (.aload_n 0, 1) := by decide +kernel
theorem d_No_measure_41 : decode b_No_measure 41 = .ok (.getfield 31, 3) := by decide +kernel
theorem d_No_measure_44 : decode b_No_measure 44 = .ok (.invokevirtual 146, 3) := by decide +kernel
theorem d_No_measure_47 : decode b_No_measure 47 = .ok (.goto 20, 3) := by decide +kernel
theorem d_No_measure_50 : decode b_No_measure 50 = .ok (.aload_n 0, 1) := by decide +kernel
theorem d_No_measure_51 : decode b_No_measure 51 = .ok (.getfield 27, 3) := by decide +kernel
theorem d_No_measure_54 : decode b_No_measure 54 = .ok (.dconst 0, 1) := by decide +kernel
theorem d_No_measure_55 : decode b_No_measure 55 = .ok (.dconst 0, 1) := by decide +kernel
theorem d_No_measure_56 : decode b_No_measure 56 = .ok (.aload_n 0, 1) := by decide +kernel
theorem d_No_measure_57 : decode b_No_measure 57 = .ok (.getfield 31, 3) := by decide +kernel
theorem d_No_measure_60 : decode b_No_measure 60 = .ok (.aload_n 0, 1) := by decide +kernel
theorem d_No_measure_61 : decode b_No_measure 61 = .ok (.getfield 35, 3) := by decide +kernel
theorem d_No_measure_64 : decode b_No_measure 64 = .ok (.invokevirtual 146, 3) := by decide +kernel
theorem d_No_measure_67 : decode b_No_measure 67 = .ok (.aload_n 0, 1) := by decide +kernel
theorem d_No_measure_68 : decode b_No_measure 68 = .ok (.getfield 27, 3) := by decide +kernel
theorem d_No_measure_71 : decode b_No_measure 71 = .ok (.getfield 150, 3) := by decide +kernel
theorem d_No_measure_74 : decode b_No_measure 74 = .ok (.ifCond .ne 7, 3) := by decide +kernel
theorem d_No_measure_77 : decode b_No_measure 77 = .ok (.aload_n 0, 1) := by decide +kernel
theorem d_No_measure_78 : decode b_No_measure 78 = .ok (.invokevirtual 153, 3) := by decide +kernel
theorem d_No_measure_81 : decode b_No_measure 81 = .ok (.return_, 1) := by decide +kernel
theorem d_Ex_span_0 : decode b_Ex_span 0 = .ok (.aload_n 0, 1) := by decide +kernel
theorem d_Ex_span_1 : decode b_Ex_span 1 = .ok (.iconst 0, 1) := by decide +kernel
theorem d_Ex_span_2 : decode b_Ex_span 2 = .ok (.putfield 7, 3) := by decide +kernel
theorem d_Ex_span_5 : decode b_Ex_span 5 = .ok (.aload_n 0, 1) := by decide +kernel
theorem d_Ex_span_6 : decode b_Ex_span 6 = .ok (.dload_n 1, 1) := by decide +kernel
theorem d_Ex_span_7 : decode b_Ex_span 7 = .ok (.putfield 13, 3) := by decide +kernel
theorem d_Ex_span_10 : decode b_Ex_span 10 = .ok (.aload_n 0, 1) := by decide +kernel
theorem d_Ex_span_11 : decode b_Ex_span 11 = .ok (.dload_n 3, 1) := by decide +kernel
theorem d_Ex_span_12 : decode b_Ex_span 12 = .ok (.putfield 17, 3) := by decide +kernel
theorem d_Ex_span_15 : decode b_Ex_span 15 = .ok (.aload_n 0, 1) := by decide +kernel
theorem d_Ex_span_16 : decode b_Ex_span 16 = .ok (.dload 5, 2) := by decide +kernel
theorem d_Ex_span_18 : decode b_Ex_span 18 = .ok (.putfield 20, 3) := by decide +kernel
theorem d_Ex_span_21 : decode b_Ex_span 21 = .ok (.aload_n 0, 1) := by decide +kernel
theorem d_Ex_span_22 : decode b_Ex_span 22 = .ok (.dload 7, 2) := by decide +kernel
theorem d_Ex_span_24 : decode b_Ex_span 24 = .ok (.putfield 23, 3) := by decide +kernel
theorem d_Ex_span_27 : decode b_Ex_span 27 = .ok (.return_, 1) := by decide +kernel
theorem d_No_layOutExtent_0 : decode b_No_layOutExtent 0 = .ok (.aload_n 0, 1) := by decide +kernel
theorem d_No_layOutExtent_1 : decode b_No_layOutExtent 1 = .ok (.getfield 27, 3) := by decide +kernel
theorem d_No_layOutExtent_4 : decode b_No_layOutExtent 4 = .ok (.aload_n 0, 1) := by decide +kernel
theorem d_No_layOutExtent_5 : decode b_No_layOutExtent 5 = .ok (.getfield 98, 3) := by decide +kernel
theorem d_No_layOutExtent_8 : decode b_No_layOutExtent 8 = .ok (.invokestatic 111, 3) := by decide +kernel
theorem d_No_layOutExtent_11 : decode b_No_layOutExtent 11 = .ok (.invokevirtual 166, 3) := by decide +kernel
theorem d_No_layOutExtent_14 : decode b_No_layOutExtent 14 = .ok (.iconst 0, 1) := by decide +kernel
theorem d_No_layOutExtent_15 : decode b_No_layOutExtent 15 = .ok (.istore_n 1, 1) := by decide +kernel
theorem d_No_layOutExtent_16 : decode b_No_layOutExtent 16 = .ok (.iload_n 1, 1) := by decide +kernel
theorem d_No_layOutExtent_17 : decode b_No_layOutExtent 17 = .ok (.aload_n 0, 1) := by decide +kernel
theorem d_No_layOutExtent_18 : decode b_No_layOutExtent 18 = .ok (.getfield 108, 3) := by decide +kernel
theorem d_No_layOutExtent_21 : decode b_No_layOutExtent 21 = .ok (.if_icmp .ge 16, 3) := by decide +kernel
theorem d_No_layOutExtent_24 : decode b_No_layOutExtent 24 = .ok (.aload_n 0, 1) := by decide +kernel
theorem d_No_layOutExtent_25 : decode b_No_layOutExtent 25 = .ok (.getfield 27, 3) := by decide +kernel
theorem d_No_layOutExtent_28 : decode b_No_layOutExtent 28 = .ok (.invokevirtual 170, 3) := by decide +kernel
theorem d_No_layOutExtent_31 : decode b_No_layOutExtent 31 = .ok (.iinc 1 1, 3) := by decide +kernel
theorem d_No_layOutExtent_34 : decode b_No_layOutExtent 34 = .ok (.goto (-18), 3) := by decide +kernel
theorem d_No_layOutExtent_37 : decode b_No_layOutExtent 37 = .ok (.aload_n 0, 1) := by decide +kernel
theorem d_No_layOutExtent_38 : decode b_No_layOutExtent 38 = .ok (.getfield 27, 3) := by decide +kernel
theorem d_No_layOutExtent_41 : decode b_No_layOutExtent 41 = .ok (.aload_n 0, 1) := by decide +kernel
theorem d_No_layOutExtent_42 : decode b_No_layOutExtent 42 = .ok (.getfield 83, 3) := by decide +kernel
theorem d_No_layOutExtent_45 : decode b_No_layOutExtent 45 = .ok (.aload_n 0, 1) := by decide +kernel
theorem d_No_layOutExtent_46 : decode b_No_layOutExtent 46 = .ok (.getfield 89, 3) := by decide +kernel
theorem d_No_layOutExtent_49 : decode b_No_layOutExtent 49 = .ok (.invokevirtual 173, 3) := by decide +kernel
theorem d_No_layOutExtent_52 : decode b_No_layOutExtent 52 = .ok (.return_, 1) := by decide +kernel
theorem d_Ex_scale_0 : decode b_Ex_scale 0 = .ok (.aload_n 0, 1) := by decide +kernel
theorem d_Ex_scale_1 : decode b_Ex_scale 1 = .ok (.aload_n 0, 1) := by decide +kernel
theorem d_Ex_scale_2 : decode b_Ex_scale 2 = .ok (.getfield 13, 3) := by decide +kernel
theorem d_Ex_scale_5 : decode b_Ex_scale 5 = .ok (.dload_n 1, 1) := by decide +kernel
theorem d_Ex_scale_6 : decode b_Ex_scale 6 = .ok (.dmul, 1) := by decide +kernel
theorem d_Ex_scale_7 : decode b_Ex_scale 7 = .ok (.aload_n 0, 1) := by decide +kernel
theorem d_Ex_scale_8 : decode b_Ex_scale 8 = .ok (.getfield 17, 3) := by decide +kernel
theorem d_Ex_scale_11 : decode b_Ex_scale 11 = .ok (.dload_n 1, 1) := by decide +kernel
theorem d_Ex_scale_12 : decode b_Ex_scale 12 = .ok (.dmul, 1) := by decide +kernel
theorem d_Ex_scale_13 : decode b_Ex_scale 13 = .ok (.aload_n 0, 1) := by decide +kernel
theorem d_Ex_scale_14 : decode b_Ex_scale 14 = .ok (.getfield 20, 3) := by decide +kernel
theorem d_Ex_scale_17 : decode b_Ex_scale 17 = .ok (.dload_n 1, 1) := by decide +kernel
theorem d_Ex_scale_18 : decode b_Ex_scale 18 = .ok (.dmul, 1) := by decide +kernel
theorem d_Ex_scale_19 : decode b_Ex_scale 19 = .ok (.aload_n 0, 1) := by decide +kernel
theorem d_Ex_scale_20 : decode b_Ex_scale 20 = .ok (.getfield 23, 3) := by decide +kernel
theorem d_Ex_scale_23 : decode b_Ex_scale 23 = .ok (.dload_n 1, 1) := by decide +kernel
theorem d_Ex_scale_24 : decode b_Ex_scale 24 = .ok (.dmul, 1) := by decide +kernel
theorem d_Ex_scale_25 : decode b_Ex_scale 25 = .ok (.invokevirtual 26, 3) := by decide +kernel
theorem d_Ex_scale_28 : decode b_Ex_scale 28 = .ok (.return_, 1) := by decide +kernel
theorem d_Ex_turnOnce_0 : decode b_Ex_turnOnce 0 = .ok (.aload_n 0, 1) := by decide +kernel
theorem d_Ex_turnOnce_1 : decode b_Ex_turnOnce 1 = .ok (.aload_n 0, 1) := by decide +kernel
theorem d_Ex_turnOnce_2 : decode b_Ex_turnOnce 2 = .ok (.getfield 23, 3) := by decide +kernel
theorem d_Ex_turnOnce_5 : decode b_Ex_turnOnce 5 = .ok (.dneg, 1) := by decide +kernel
theorem d_Ex_turnOnce_6 : decode b_Ex_turnOnce 6 = .ok (.aload_n 0, 1) := by decide +kernel
theorem d_Ex_turnOnce_7 : decode b_Ex_turnOnce 7 = .ok (.getfield 13, 3) := by decide +kernel
theorem d_Ex_turnOnce_10 : decode b_Ex_turnOnce 10 = .ok (.aload_n 0, 1) := by decide +kernel
theorem d_Ex_turnOnce_11 : decode b_Ex_turnOnce 11 = .ok (.getfield 17, 3) := by decide +kernel
theorem d_Ex_turnOnce_14 : decode b_Ex_turnOnce 14 = .ok (.dneg, 1) := by decide +kernel
theorem d_Ex_turnOnce_15 : decode b_Ex_turnOnce 15 = .ok (.aload_n 0, 1) := by decide +kernel
theorem d_Ex_turnOnce_16 : decode b_Ex_turnOnce 16 = .ok (.getfield 20, 3) := by decide +kernel
theorem d_Ex_turnOnce_19 : decode b_Ex_turnOnce 19 = .ok (.invokevirtual 26, 3) := by decide +kernel
theorem d_Ex_turnOnce_22 : decode b_Ex_turnOnce 22 = .ok (.return_, 1) := by decide +kernel
theorem d_Ex_shift_0 : decode b_Ex_shift 0 = .ok (.aload_n 0, 1) := by decide +kernel
theorem d_Ex_shift_1 : decode b_Ex_shift 1 = .ok (.aload_n 0, 1) := by decide +kernel
theorem d_Ex_shift_2 : decode b_Ex_shift 2 = .ok (.getfield 13, 3) := by decide +kernel
theorem d_Ex_shift_5 : decode b_Ex_shift 5 = .ok (.dload_n 1, 1) := by decide +kernel
theorem d_Ex_shift_6 : decode b_Ex_shift 6 = .ok (.dadd, 1) := by decide +kernel
theorem d_Ex_shift_7 : decode b_Ex_shift 7 = .ok (.aload_n 0, 1) := by decide +kernel
theorem d_Ex_shift_8 : decode b_Ex_shift 8 = .ok (.getfield 17, 3) := by decide +kernel
theorem d_Ex_shift_11 : decode b_Ex_shift 11 = .ok (.dload_n 3, 1) := by decide +kernel
theorem d_Ex_shift_12 : decode b_Ex_shift 12 = .ok (.dadd, 1) := by decide +kernel
theorem d_Ex_shift_13 : decode b_Ex_shift 13 = .ok (.aload_n 0, 1) := by decide +kernel
theorem d_Ex_shift_14 : decode b_Ex_shift 14 = .ok (.getfield 20, 3) := by decide +kernel
theorem d_Ex_shift_17 : decode b_Ex_shift 17 = .ok (.dload_n 1, 1) := by decide +kernel
theorem d_Ex_shift_18 : decode b_Ex_shift 18 = .ok (.dadd, 1) := by decide +kernel
theorem d_Ex_shift_19 : decode b_Ex_shift 19 = .ok (.aload_n 0, 1) := by decide +kernel
theorem d_Ex_shift_20 : decode b_Ex_shift 20 = .ok (.getfield 23, 3) := by decide +kernel
theorem d_Ex_shift_23 : decode b_Ex_shift 23 = .ok (.dload_n 3, 1) := by decide +kernel
theorem d_Ex_shift_24 : decode b_Ex_shift 24 = .ok (.dadd, 1) := by decide +kernel
theorem d_Ex_shift_25 : decode b_Ex_shift 25 = .ok (.invokevirtual 26, 3) := by decide +kernel
theorem d_Ex_shift_28 : decode b_Ex_shift 28 = .ok (.return_, 1) := by decide +kernel
theorem d_Ex_join_0 : decode b_Ex_join 0 = .ok (.aload_n 1, 1) := by decide +kernel
theorem d_Ex_join_1 : decode b_Ex_join 1 = .ok (.getfield 7, 3) := by decide +kernel
theorem d_Ex_join_4 : decode b_Ex_join 4 = .ok (.ifCond .eq 4, 3) := by decide +kernel
theorem d_Ex_join_7 : decode b_Ex_join 7 = .ok (.return_, 1) := by decide +kernel
theorem d_Ex_join_8 : decode b_Ex_join 8 = .ok (.aload_n 0, 1) := by decide +kernel
theorem d_Ex_join_9 : decode b_Ex_join 9 = .ok (.getfield 7, 3) := by decide +kernel
theorem d_Ex_join_12 : decode b_Ex_join 12 = .ok (.ifCond .eq 24, 3) := by decide +kernel
theorem d_Ex_join_15 : decode b_Ex_join 15 = .ok (.aload_n 0, 1) := by decide +kernel
theorem d_Ex_join_16 : decode b_Ex_join 16 = .ok (.aload_n 1, 1) := by decide +kernel
theorem d_Ex_join_17 : decode b_Ex_join 17 = .ok (.getfield 13, 3) := by decide +kernel
theorem d_Ex_join_20 : decode b_Ex_join 20 = .ok (.aload_n 1, 1) := by decide +kernel
theorem d_Ex_join_21 : decode b_Ex_join 21 = .ok (.getfield 17, 3) := by decide +kernel
theorem d_Ex_join_24 : decode b_Ex_join 24 = .ok (.aload_n 1, 1) := by decide +kernel
theorem d_Ex_join_25 : decode b_Ex_join 25 = .ok (.getfield 20, 3) := by decide +kernel
theorem d_Ex_join_28 : decode b_Ex_join 28 = .ok (.aload_n 1, 1) := by decide +kernel
theorem d_Ex_join_29 : decode b_Ex_join 29 = .ok (.getfield 23, 3) := by decide +kernel
theorem d_Ex_join_32 : decode b_Ex_join 32 = .ok (.invokevirtual 26, 3) := by decide +kernel
theorem d_Ex_join_35 : decode b_Ex_join 35 = .ok (.return_, 1) := by decide +kernel
theorem d_Ex_join_36 : decode b_Ex_join 36 = .ok (.aload_n 0, 1) := by decide +kernel
theorem d_Ex_join_37 : decode b_Ex_join 37 = .ok (.aload_n 1, 1) := by decide +kernel
theorem d_Ex_join_38 : decode b_Ex_join 38 = .ok (.getfield 13, 3) := by decide +kernel
theorem d_Ex_join_41 : decode b_Ex_join 41 = .ok (.aload_n 0, 1) := by decide +kernel
theorem d_Ex_join_42 : decode b_Ex_join 42 = .ok (.getfield 13, 3) := by decide +kernel
theorem d_Ex_join_45 : decode b_Ex_join 45 = .ok (.dcmp .g, 1) := by decide +kernel
theorem d_Ex_join_46 : decode b_Ex_join 46 = .ok (.ifCond .ge 10, 3) := by decide +kernel
theorem d_Ex_join_49 : decode b_Ex_join 49 = .ok (.aload_n 1, 1) := by decide +kernel
theorem d_Ex_join_50 : decode b_Ex_join 50 = .ok (.getfield 13, 3) := by decide +kernel
theorem d_Ex_join_53 : decode b_Ex_join 53 = .ok (.goto 7, 3) := by decide +kernel
theorem d_Ex_join_56 : decode b_Ex_join 56 = .ok (.aload_n 0, 1) := by decide +kernel
theorem d_Ex_join_57 : decode b_Ex_join 57 = .ok (.getfield 13, 3) := by decide +kernel
theorem d_Ex_join_60 : decode b_Ex_join 60 = .ok (.putfield 13, 3) := by decide +kernel
theorem d_Ex_join_63 : decode b_Ex_join 63 = .ok (.aload_n 0, 1) := by decide +kernel
theorem d_Ex_join_64 : decode b_Ex_join 64 = .ok (.aload_n 1, 1) := by decide +kernel
theorem d_Ex_join_65 : decode b_Ex_join 65 = .ok (.getfield 17, 3) := by decide +kernel
theorem d_Ex_join_68 : decode b_Ex_join 68 = .ok (.aload_n 0, 1) := by decide +kernel
theorem d_Ex_join_69 : decode b_Ex_join 69 = .ok (.getfield 17, 3) := by decide +kernel
theorem d_Ex_join_72 : decode b_Ex_join 72 = .ok (.dcmp .g, 1) := by decide +kernel
theorem d_Ex_join_73 : decode b_Ex_join 73 = .ok (.ifCond .ge 10, 3) := by decide +kernel
theorem d_Ex_join_76 : decode b_Ex_join 76 = .ok (.aload_n 1, 1) := by decide +kernel
theorem d_Ex_join_77 : decode b_Ex_join 77 = .ok (.getfield 17, 3) := by decide +kernel
theorem d_Ex_join_80 : decode b_Ex_join 80 = .ok (.goto 7, 3) := by decide +kernel
theorem d_Ex_join_83 : decode b_Ex_join 83 = .ok (.aload_n 0, 1) := by decide +kernel
theorem d_Ex_join_84 : decode b_Ex_join 84 = .ok (.getfield 17, 3) := by decide +kernel
theorem d_Ex_join_87 : decode b_Ex_join 87 = .ok (.putfield 17, 3) := by decide +kernel
theorem d_Ex_join_90 : decode b_Ex_join 90 = .ok (.aload_n 0, 1) := by decide +kernel
theorem d_Ex_join_91 : decode b_Ex_join 91 = .ok (.aload_n 1, 1) := by decide +kernel
theorem d_Ex_join_92 : decode b_Ex_join 92 = .ok (.getfield 20, 3) := by decide +kernel
theorem d_Ex_join_95 : decode b_Ex_join 95 = .ok (.aload_n 0, 1) := by decide +kernel
theorem d_Ex_join_96 : decode b_Ex_join 96 = .ok (.getfield 20, 3) := by decide +kernel
theorem d_Ex_join_99 : decode b_Ex_join 99 = .ok (.dcmp .l, 1) := by decide +kernel
theorem d_Ex_join_100 : decode b_Ex_join 100 = .ok (.ifCond .le 10, 3) := by decide +kernel
theorem d_Ex_join_103 : decode b_Ex_join 103 = .ok (.aload_n 1, 1) := by decide +kernel
theorem d_Ex_join_104 : decode b_Ex_join 104 = .ok (.getfield 20, 3) := by decide +kernel
theorem d_Ex_join_107 : decode b_Ex_join 107 = .ok (.goto 7, 3) := by decide +kernel
theorem d_Ex_join_110 : decode b_Ex_join 110 = .ok (.aload_n 0, 1) := by decide +kernel
theorem d_Ex_join_111 : decode b_Ex_join 111 = .ok (.getfield 20, 3) := by decide +kernel
theorem d_Ex_join_114 : decode b_Ex_join 114 = .ok (.putfield 20, 3) := by decide +kernel
theorem d_Ex_join_117 : decode b_Ex_join 117 = .ok (.aload_n 0, 1) := by decide +kernel
theorem d_Ex_join_118 : decode b_Ex_join 118 = .ok (.aload_n 1, 1) := by decide +kernel
theorem d_Ex_join_119 : decode b_Ex_join 119 = .ok (.getfield 23, 3) := by decide +kernel
theorem d_Ex_join_122 : decode b_Ex_join 122 = .ok (.aload_n 0, 1) := by decide +kernel
theorem d_Ex_join_123 : decode b_Ex_join 123 = .ok (.getfield 23, 3) := by decide +kernel
theorem d_Ex_join_126 : decode b_Ex_join 126 = .ok (.dcmp .l, 1) := by decide +kernel
theorem d_Ex_join_127 : decode b_Ex_join 127 = .ok (.ifCond .le 10, 3) := by decide +kernel
theorem d_Ex_join_130 : decode b_Ex_join 130 = .ok (.aload_n 1, 1) := by decide +kernel
theorem d_Ex_join_131 : decode b_Ex_join 131 = .ok (.getfield 23, 3) := by decide +kernel
theorem d_Ex_join_134 : decode b_Ex_join 134 = .ok (.goto 7, 3) := by decide +kernel
theorem d_Ex_join_137 : decode b_Ex_join 137 = .ok (.aload_n 0, 1) := by decide +kernel
theorem d_Ex_join_138 : decode b_Ex_join 138 = .ok (.getfield 23, 3) := by decide +kernel
theorem d_Ex_join_141 : decode b_Ex_join 141 = .ok (.putfield 23, 3) := by decide +kernel
theorem d_Ex_join_144 : decode b_Ex_join 144 = .ok (.return_, 1) := by decide +kernel
theorem d_Ex_side_0 : decode b_Ex_side 0 = .ok (.iload_n 1, 1) := by decide +kernel
theorem d_Ex_side_1 : decode b_Ex_side 1 = .ok (.tableswitch 51 0 2 #[27, 35, 43], 27) := by decide +kernel
theorem d_Ex_side_28 : decode b_Ex_side 28 = .ok (.aload_n 0, 1) := by decide +kernel
theorem d_Ex_side_29 : decode b_Ex_side 29 = .ok (.getfield 13, 3) := by decide +kernel
theorem d_Ex_side_32 : decode b_Ex_side 32 = .ok (.dstore_n 2, 1) := by decide +kernel
theorem d_Ex_side_33 : decode b_Ex_side 33 = .ok (.goto 24, 3) := by decide +kernel
theorem d_Ex_side_36 : decode b_Ex_side 36 = .ok (.aload_n 0, 1) := by decide +kernel
theorem d_Ex_side_37 : decode b_Ex_side 37 = .ok (.getfield 17, 3) := by decide +kernel
theorem d_Ex_side_40 : decode b_Ex_side 40 = .ok (.dstore_n 2, 1) := by decide +kernel
theorem d_Ex_side_41 : decode b_Ex_side 41 = .ok (.goto 16, 3) := by decide +kernel
theorem d_Ex_side_44 : decode b_Ex_side 44 = .ok (.aload_n 0, 1) := by decide +kernel
theorem d_Ex_side_45 : decode b_Ex_side 45 = .ok (.getfield 20, 3) := by decide +kernel
theorem d_Ex_side_48 : decode b_Ex_side 48 = .ok (.dstore_n 2, 1) := by decide +kernel
theorem d_Ex_side_49 : decode b_Ex_side 49 = .ok (.goto 8, 3) := by decide +kernel
theorem d_Ex_side_52 : decode b_Ex_side 52 = .ok (.aload_n 0, 1) := by decide +kernel
theorem d_Ex_side_53 : decode b_Ex_side 53 = .ok (.getfield 23, 3) := by decide +kernel
theorem d_Ex_side_56 : decode b_Ex_side 56 = .ok (.dstore_n 2, 1) := by decide +kernel
theorem d_Ex_side_57 : decode b_Ex_side 57 = .ok (.dload_n 2, 1) := by decide +kernel
theorem d_Ex_side_58 : decode b_Ex_side 58 = .ok (.dconst 0, 1) := by decide +kernel
theorem d_Ex_side_59 : decode b_Ex_side 59 = .ok (.dcmp .l, 1) := by decide +kernel
theorem d_Ex_side_60 : decode b_Ex_side 60 = .ok (.ifCond .ne 7, 3) := by decide +kernel
theorem d_Ex_side_63 : decode b_Ex_side 63 = .ok (.dconst 0, 1) := by decide +kernel
theorem d_Ex_side_64 : decode b_Ex_side 64 = .ok (.goto 4, 3) := by decide +kernel
theorem d_Ex_side_67 : decode b_Ex_side 67 = .ok (.dload_n 2, 1) := by decide +kernel
theorem d_Ex_side_68 : decode b_Ex_side 68 = .ok (.dreturn, 1) := by decide +kernel
end
section
/-! decode rows, by program -/
theorem d_Ea_init_0 : decode b_Ea_init 0 = .ok (.aload_n 0, 1) := by decide +kernel
theorem d_Ea_init_1 : decode b_Ea_init 1 = .ok (.invokespecial 1, 3) := by decide +kernel
theorem d_Ea_init_4 : decode b_Ea_init 4 = .ok (.aload_n 0, 1) := by decide +kernel
theorem d_Ea_init_5 : decode b_Ea_init 5 = .ok (.bipush 14, 2) := by decide +kernel
theorem d_Ea_init_7 : decode b_Ea_init 7 = .ok (.anewarray 9, 3) := by decide +kernel
theorem d_Ea_init_10 : decode b_Ea_init 10 = .ok (.putfield 11, 3) := by decide +kernel
theorem d_Ea_init_13 : decode b_Ea_init 13 = .ok (.aload_n 0, 1) := by decide +kernel
theorem d_Ea_init_14 : decode b_Ea_init 14 = .ok (.sipush 192, 3) := by decide +kernel
theorem d_Ea_init_17 : decode b_Ea_init 17 = .ok (.newarray .int, 2) := by decide +kernel
theorem d_Ea_init_19 : decode b_Ea_init 19 = .ok (.putfield 15, 3) := by decide +kernel
theorem d_Ea_init_22 : decode b_Ea_init 22 = .ok (.aload_n 0, 1) := by decide +kernel
theorem d_Ea_init_23 : decode b_Ea_init 23 = .ok (.new 9, 3) := by decide +kernel
theorem d_Ea_init_26 : decode b_Ea_init 26 = .ok (.dup, 1) := by decide +kernel
theorem d_Ea_init_27 : decode b_Ea_init 27 = .ok (.iconst 0, 1) := by decide +kernel
theorem d_Ea_init_28 : decode b_Ea_init 28 = .ok (.iconst 0, 1) := by decide +kernel
theorem d_Ea_init_29 : decode b_Ea_init 29 = .ok (.iconst 1, 1) := by decide +kernel
theorem d_Ea_init_30 : decode b_Ea_init 30 = .ok (.invokespecial 19, 3) := by decide +kernel
theorem d_Ea_init_33 : decode b_Ea_init 33 = .ok (.putfield 22, 3) := by decide +kernel
theorem d_Ea_init_36 : decode b_Ea_init 36 = .ok (.aload_n 0, 1) := by decide +kernel
theorem d_Ea_init_37 : decode b_Ea_init 37 = .ok (.getfield 11, 3) := by decide +kernel
theorem d_Ea_init_40 : decode b_Ea_init 40 = .ok (.iconst 0, 1) := by decide +kernel
theorem d_Ea_init_41 : decode b_Ea_init 41 = .ok (.aload_n 0, 1) := by decide +kernel
theorem d_Ea_init_42 : decode b_Ea_init 42 = .ok (.getfield 22, 3) := by decide +kernel
theorem d_Ea_init_45 : decode b_Ea_init 45 = .ok (.aastore, 1) := by decide +kernel
theorem d_Ea_init_46 : decode b_Ea_init 46 = .ok (.return_, 1) := by decide +kernel
theorem d_Ea_count_0 : decode b_Ea_count 0 = .ok (.iload_n 1, 1) := by decide +kernel
theorem d_Ea_count_1 : decode b_Ea_count 1 = .ok (.tableswitch 55 0 3 #[31, 36, 41, 46], 31) := by decide +kernel
theorem d_Ea_count_32 : decode b_Ea_count 32 = .ok (.aload_n 0, 1) := by decide +kernel
theorem d_Ea_count_33 : decode b_Ea_count 33 = .ok (.invokevirtual 210, 3) := by decide +kernel
theorem d_Ea_count_36 : decode b_Ea_count 36 = .ok (.ireturn, 1) := by decide +kernel
theorem d_Ea_count_37 : decode b_Ea_count 37 = .ok (.aload_n 0, 1) := by decide +kernel
theorem d_Ea_count_38 : decode b_Ea_count 38 = .ok (.invokevirtual 213, 3) := by decide +kernel
theorem d_Ea_count_41 : decode b_Ea_count 41 = .ok (.ireturn, 1) := by decide +kernel
theorem d_Ea_count_42 : decode b_Ea_count 42 = .ok (.aload_n 0, 1) := by decide +kernel
theorem d_Ea_count_43 : decode b_Ea_count 43 = .ok (.getfield 154, 3) := by decide +kernel
theorem d_Ea_count_46 : decode b_Ea_count 46 = .ok (.ireturn, 1) := by decide +kernel
theorem d_Ea_count_47 : decode b_Ea_count 47 = .ok (.aload_n 0, 1) := by decide +kernel
theorem d_Ea_count_48 : decode b_Ea_count 48 = .ok (.aload_n 0, 1) := by decide +kernel
theorem d_Ea_count_49 : decode b_Ea_count 49 = .ok (.getfield 22, 3) := by decide +kernel
theorem d_Ea_count_52 : decode b_Ea_count 52 = .ok (.invokevirtual 216, 3) := by decide +kernel
theorem d_Ea_count_55 : decode b_Ea_count 55 = .ok (.ireturn, 1) := by decide +kernel
theorem d_Ea_count_56 : decode b_Ea_count 56 = .ok (.iconst (-1), 1) := by decide +kernel
theorem d_Ea_count_57 : decode b_Ea_count 57 = .ok (.ireturn, 1) := by decide +kernel
theorem d_Ea_nodesThere_0 : decode b_Ea_nodesThere 0 = .ok (.iconst 0, 1) := by decide +kernel
theorem d_Ea_nodesThere_1 : decode b_Ea_nodesThere 1 = .ok (.istore_n 1, 1) := by decide +kernel
theorem d_Ea_nodesThere_2 : decode b_Ea_nodesThere 2 = .ok (.iconst 0, 1) := by decide +kernel
theorem d_Ea_nodesThere_3 : decode b_Ea_nodesThere 3 = .ok (.istore_n 2, 1) := by decide +kernel
theorem d_Ea_nodesThere_4 : decode b_Ea_nodesThere 4 = .ok (.iload_n 2, 1) := by decide +kernel
theorem d_Ea_nodesThere_5 : decode b_Ea_nodesThere 5 = .ok (.bipush 14, 2) := by decide +kernel
theorem d_Ea_nodesThere_7 : decode b_Ea_nodesThere 7 = .ok (.if_icmp .ge 26, 3) := by decide +kernel
theorem d_Ea_nodesThere_10 : decode b_Ea_nodesThere 10 = .ok (.iload_n 1, 1) := by decide +kernel
theorem d_Ea_nodesThere_11 : decode b_Ea_nodesThere 11 = .ok (.aload_n 0, 1) := by decide +kernel
theorem d_Ea_nodesThere_12 : decode b_Ea_nodesThere 12 = .ok (.getfield 11, 3) := by decide +kernel
theorem d_Ea_nodesThere_15 : decode b_Ea_nodesThere 15 = .ok (.iload_n 2, 1) := by decide +kernel
theorem d_Ea_nodesThere_16 : decode b_Ea_nodesThere 16 = .ok (.aaload, 1) := by decide +kernel
theorem d_Ea_nodesThere_17 : decode b_Ea_nodesThere 17 = .ok (.ifnonnull 7, 3) := by decide +kernel
theorem d_Ea_nodesThere_20 : decode b_Ea_nodesThere 20 = .ok (.iconst 0, 1) := by decide +kernel
theorem d_Ea_nodesThere_21 : decode b_Ea_nodesThere 21 = .ok (.goto 4, 3) := by decide +kernel
theorem d_Ea_nodesThere_24 : decode b_Ea_nodesThere 24 = .ok (.iconst 1, 1) := by decide +kernel
theorem d_Ea_nodesThere_25 : decode b_Ea_nodesThere 25 = .ok (.iadd, 1) := by decide +kernel
theorem d_Ea_nodesThere_26 : decode b_Ea_nodesThere 26 = .ok (.istore_n 1, 1) := by decide +kernel
theorem d_Ea_nodesThere_27 : decode b_Ea_nodesThere 27 = .ok (.iinc 2 1, 3) := by decide +kernel
theorem d_Ea_nodesThere_30 : decode b_Ea_nodesThere 30 = .ok (.goto (-26), 3) := by decide +kernel
theorem d_Ea_nodesThere_33 : decode b_Ea_nodesThere 33 = .ok (.iload_n 1, 1) := by decide +kernel
theorem d_Ea_nodesThere_34 : decode b_Ea_nodesThere 34 = .ok (.ireturn, 1) := by decide +kernel
theorem d_Ea_framesThere_0 : decode b_Ea_framesThere 0 = .ok (.iconst 0, 1) := by decide +kernel
theorem d_Ea_framesThere_1 : decode b_Ea_framesThere 1 = .ok (.istore_n 1, 1) := by decide +kernel
theorem d_Ea_framesThere_2 : decode b_Ea_framesThere 2 = .ok (.iconst 0, 1) := by decide +kernel
theorem d_Ea_framesThere_3 : decode b_Ea_framesThere 3 = .ok (.istore_n 2, 1) := by decide +kernel
theorem d_Ea_framesThere_4 : decode b_Ea_framesThere 4 = .ok (.iload_n 2, 1) := by decide +kernel
theorem d_Ea_framesThere_5 : decode b_Ea_framesThere 5 = .ok (.bipush 14, 2) := by decide +kernel
theorem d_Ea_framesThere_7 : decode b_Ea_framesThere 7 = .ok (.if_icmp .ge 34, 3) := by decide +kernel
theorem d_Ea_framesThere_10 : decode b_Ea_framesThere 10 = .ok (.iload_n 1, 1) := by decide +kernel
theorem d_Ea_framesThere_11 : decode b_Ea_framesThere 11 = .ok (.aload_n 0, 1) := by decide +kernel
theorem d_Ea_framesThere_12 : decode b_Ea_framesThere 12 = .ok (.getfield 11, 3) := by decide +kernel
theorem d_Ea_framesThere_15 : decode b_Ea_framesThere 15 = .ok (.iload_n 2, 1) := by decide +kernel
theorem d_Ea_framesThere_16 : decode b_Ea_framesThere 16 = .ok (.aaload, 1) := by decide +kernel
theorem d_Ea_framesThere_17 : decode b_Ea_framesThere 17 = .ok (.ifnonnull 7, 3) := by decide +kernel
theorem d_Ea_framesThere_20 : decode b_Ea_framesThere 20 = .ok (.iconst 0, 1) := by decide +kernel
theorem d_Ea_framesThere_21 : decode b_Ea_framesThere 21 = .ok (.goto 12, 3) := by decide +kernel
theorem d_Ea_framesThere_24 : decode b_Ea_framesThere 24 = .ok (.aload_n 0, 1) := by decide +kernel
theorem d_Ea_framesThere_25 : decode b_Ea_framesThere 25 = .ok (.getfield 11, 3) := by decide +kernel
theorem d_Ea_framesThere_28 : decode b_Ea_framesThere 28 = .ok (.iload_n 2, 1) := by decide +kernel
theorem d_Ea_framesThere_29 : decode b_Ea_framesThere 29 = .ok (.aaload, 1) := by decide +kernel
theorem d_Ea_framesThere_30 : decode b_Ea_framesThere 30 = .ok (.invokevirtual 207, 3) := by decide +kernel
theorem d_Ea_framesThere_33 : decode b_Ea_framesThere 33 = .ok (.iadd, 1) := by decide +kernel
theorem d_Ea_framesThere_34 : decode b_Ea_framesThere 34 = .ok (.istore_n 1, 1) := by decide +kernel
theorem d_Ea_framesThere_35 : decode b_Ea_framesThere 35 = .ok (.iinc 2 1, 3) := by decide +kernel
theorem d_Ea_framesThere_38 : decode b_Ea_framesThere 38 = .ok (.goto (-34), 3) := by decide +kernel
theorem d_Ea_framesThere_41 : decode b_Ea_framesThere 41 = .ok (.iload_n 1, 1) := by decide +kernel
theorem d_Ea_framesThere_42 : decode b_Ea_framesThere 42 = .ok (.ireturn, 1) := by decide +kernel
theorem d_Ea_deepestIn_0 : decode b_Ea_deepestIn 0 = .ok (.iconst 0, 1) := by decide +kernel
theorem d_Ea_deepestIn_1 : decode b_Ea_deepestIn 1 = .ok (.istore_n 2, 1) := by decide +kernel
theorem d_Ea_deepestIn_2 : decode b_Ea_deepestIn 2 = .ok (.iconst 0, 1) := by decide +kernel
theorem d_Ea_deepestIn_3 : decode b_Ea_deepestIn 3 = .ok (.istore_n 3, 1) := by decide +kernel
theorem d_Ea_deepestIn_4 : decode b_Ea_deepestIn 4 = .ok (.iload_n 3, 1) := by decide +kernel
theorem d_Ea_deepestIn_5 : decode b_Ea_deepestIn 5 = .ok (.bipush 14, 2) := by decide +kernel
theorem d_Ea_deepestIn_7 : decode b_Ea_deepestIn 7 = .ok (.if_icmp .ge 45, 3) := by decide +kernel
theorem d_Ea_deepestIn_10 : decode b_Ea_deepestIn 10 = .ok (.aload_n 0, 1) := by decide +kernel
theorem d_Ea_deepestIn_11 : decode b_Ea_deepestIn 11 = .ok (.getfield 11, 3) := by decide +kernel
theorem d_Ea_deepestIn_14 : decode b_Ea_deepestIn 14 = .ok (.iload_n 3, 1) := by decide +kernel
theorem d_Ea_deepestIn_15 : decode b_Ea_deepestIn 15 = .ok (.aaload, 1) := by decide +kernel
theorem d_Ea_deepestIn_16 : decode b_Ea_deepestIn 16 = .ok (.ifnull 30, 3) := by decide +kernel
theorem d_Ea_deepestIn_19 : decode b_Ea_deepestIn 19 = .ok (.aload_n 0, 1) := by decide +kernel
theorem d_Ea_deepestIn_20 : decode b_Ea_deepestIn 20 = .ok (.getfield 11, 3) := by decide +kernel
theorem d_Ea_deepestIn_23 : decode b_Ea_deepestIn 23 = .ok (.iload_n 3, 1) := by decide +kernel
theorem d_Ea_deepestIn_24 : decode b_Ea_deepestIn 24 = .ok (.aaload, 1) := by decide +kernel
theorem d_Ea_deepestIn_25 : decode b_Ea_deepestIn 25 = .ok (.aload_n 1, 1) := by decide +kernel
theorem d_Ea_deepestIn_26 : decode b_Ea_deepestIn 26 = .ok (.invokevirtual 129, 3) := by decide +kernel
theorem d_Ea_deepestIn_29 : decode b_Ea_deepestIn 29 = .ok (.ifCond .eq 17, 3) := by decide +kernel
theorem d_Ea_deepestIn_32 : decode b_Ea_deepestIn 32 = .ok (.iload_n 2, 1) := by decide +kernel
theorem d_Ea_deepestIn_33 : decode b_Ea_deepestIn 33 = .ok (.aload_n 0, 1) := by decide +kernel
theorem d_Ea_deepestIn_34 : decode b_Ea_deepestIn 34 = .ok (.getfield 11, 3) := by decide +kernel
theorem d_Ea_deepestIn_37 : decode b_Ea_deepestIn 37 = .ok (.iload_n 3, 1) := by decide +kernel
theorem d_Ea_deepestIn_38 : decode b_Ea_deepestIn 38 = .ok (.aaload, 1) := by decide +kernel
theorem d_Ea_deepestIn_39 : decode b_Ea_deepestIn 39 = .ok (.invokevirtual 44, 3) := by decide +kernel
theorem d_Ea_deepestIn_42 : decode b_Ea_deepestIn 42 = .ok (.invokestatic 250, 3) := by decide +kernel
theorem d_Ea_deepestIn_45 : decode b_Ea_deepestIn 45 = .ok (.istore_n 2, 1) := by decide +kernel
theorem d_Ea_deepestIn_46 : decode b_Ea_deepestIn 46 = .ok (.iinc 3 1, 3) := by decide +kernel
theorem d_Ea_deepestIn_49 : decode b_Ea_deepestIn 49 = .ok (.goto (-45), 3) := by decide +kernel
theorem d_Ea_deepestIn_52 : decode b_Ea_deepestIn 52 = .ok (.iload_n 2, 1) := by decide +kernel
theorem d_Ea_deepestIn_53 : decode b_Ea_deepestIn 53 = .ok (.ireturn, 1) := by decide +kernel
theorem d_Ea_node_0 : decode b_Ea_node 0 = .ok (.aload_n 0, 1) := by decide +kernel
theorem d_Ea_node_1 : decode b_Ea_node 1 = .ok (.iload_n 1, 1) := by decide +kernel
theorem d_Ea_node_2 : decode b_Ea_node 2 = .ok (.invokevirtual 26, 3) := by decide +kernel
theorem d_Ea_node_5 : decode b_Ea_node 5 = .ok (.astore 4, 2) := by decide +kernel
theorem d_Ea_node_7 : decode b_Ea_node 7 = .ok (.iload_n 2, 1) := by decide +kernel
theorem d_Ea_node_8 : decode b_Ea_node 8 = .ok (.iconst 0, 1) := by decide +kernel
theorem d_Ea_node_9 : decode b_Ea_node 9 = .ok (.iconst 3, 1) := by decide +kernel
theorem d_Ea_node_10 : decode b_Ea_node 10 = .ok (.invokestatic 30, 3) := by decide +kernel
theorem d_Ea_node_13 : decode b_Ea_node 13 = .ok (.iload_n 3, 1) := by decide +kernel
theorem d_Ea_node_14 : decode b_Ea_node 14 = .ok (.iconst 1, 1) := by decide +kernel
theorem d_Ea_node_15 : decode b_Ea_node 15 = .ok (.bipush 15, 2) := by decide +kernel
theorem d_Ea_node_17 : decode b_Ea_node 17 = .ok (.invokestatic 30, 3) := by decide +kernel
theorem d_Ea_node_20 : decode b_Ea_node 20 = .ok (.aload_n 0, 1) := by decide +kernel
theorem d_Ea_node_21 : decode b_Ea_node 21 = .ok (.invokevirtual 33, 3) := by decide +kernel
theorem d_Ea_node_24 : decode b_Ea_node 24 = .ok (.istore 5, 2) := by decide +kernel
theorem d_Ea_node_26 : decode b_Ea_node 26 = .ok (.iload 5, 2) := by decide +kernel
theorem d_Ea_node_28 : decode b_Ea_node 28 = .ok (.bipush 14, 2) := by decide +kernel
theorem d_Ea_node_30 : decode b_Ea_node 30 = .ok (.if_icmp .ne 13, 3) := by decide +kernel
theorem d_Ea_node_33 : decode b_Ea_node 33 = .ok (.new 37, 3) := by decide +kernel
theorem d_Ea_node_36 : decode b_Ea_node 36 = .ok (.dup, 1) := by decide +kernel
theorem d_Ea_node_37 : decode b_Ea_node 37 = .ok (.ldc 39, 2) := by decide +kernel
theorem d_Ea_node_39 : decode b_Ea_node 39 = .ok (.invokespecial 41, 3) := by decide +kernel
theorem d_Ea_node_42 : decode b_Ea_node 42 = .ok (.athrow, 1) := by decide +kernel
theorem d_Ea_node_43 : decode b_Ea_node 43 = .ok (.aload 4, 2) := by decide +kernel
theorem d_Ea_node_45 : decode b_Ea_node 45 = .ok (.invokevirtual 44, 3) := by decide +kernel
theorem d_Ea_node_48 : decode b_Ea_node 48 = .ok (.iconst 5, 1) := by decide +kernel
theorem d_Ea_node_49 : decode b_Ea_node 49 = .ok (.if_icmp .lt 13, 3) := by decide +kernel
theorem d_Ea_node_52 : decode b_Ea_node 52 = .ok (.new 37, 3) := by decide +kernel
theorem d_Ea_node_55 : decode b_Ea_node 55 = .ok (.dup, 1) := by decide +kernel
theorem d_Ea_node_56 : decode b_Ea_node 56 = .ok (.ldc 47, 2) := by decide +kernel
theorem d_Ea_node_58 : decode b_Ea_node 58 = .ok (.invokespecial 41, 3) := by decide +kernel
theorem d_Ea_node_61 : decode b_Ea_node 61 = .ok (.athrow, 1) := by decide +kernel
theorem d_Ea_node_62 : decode b_Ea_node 62 = .ok (.new 9, 3) := by decide +kernel
theorem d_Ea_node_65 : decode b_Ea_node 65 = .ok (.dup, 1) := by decide +kernel
theorem d_Ea_node_66 : decode b_Ea_node 66 = .ok (.iload 5, 2) := by decide +kernel
theorem d_Ea_node_68 : decode b_Ea_node 68 = .ok (.iload_n 2, 1) := by decide +kernel
theorem d_Ea_node_69 : decode b_Ea_node 69 = .ok (.iload_n 3, 1) := by decide +kernel
theorem d_Ea_node_70 : decode b_Ea_node 70 = .ok (.invokespecial 19, 3) := by decide +kernel
theorem d_Ea_node_73 : decode b_Ea_node 73 = .ok (.astore 6, 2) := by decide +kernel
theorem d_Ea_node_75 : decode b_Ea_node 75 = .ok (.aload_n 0, 1) := by decide +kernel
theorem d_Ea_node_76 : decode b_Ea_node 76 = .ok (.getfield 11, 3) := by decide +kernel
theorem d_Ea_node_79 : decode b_Ea_node 79 = .ok (.iload 5, 2) := by decide +kernel
theorem d_Ea_node_81 : decode b_Ea_node 81 = .ok (.aload 6, 2) := by decide +kernel
theorem d_Ea_node_83 : decode b_Ea_node 83 = .ok (.aastore, 1) := by decide +kernel
theorem d_Ea_node_84 : decode b_Ea_node 84 = .ok (.aload 6, 2) := by decide +kernel
theorem d_Ea_node_86 : decode b_Ea_node 86 = .ok (.aload 4, 2) := by decide +kernel
theorem d_Ea_node_88 : decode b_Ea_node 88 = .ok (.invokevirtual 49, 3) := by decide +kernel
theorem d_Ea_node_91 : decode b_Ea_node 91 = .ok (.iload 5, 2) := by decide +kernel
theorem d_Ea_node_93 : decode b_Ea_node 93 = .ok (.ireturn, 1) := by decide +kernel
theorem d_Ea_requireGroup_0 : decode b_Ea_requireGroup 0 = .ok (.aload_n 0, 1) := by decide +kernel
theorem d_Ea_requireGroup_1 : decode b_Ea_requireGroup 1 = .ok (.iload_n 1, 1) := by decide +kernel
theorem d_Ea_requireGroup_2 : decode b_Ea_requireGroup 2 = .ok (.invokevirtual 166, 3) := by decide +kernel
theorem d_Ea_requireGroup_5 : decode b_Ea_requireGroup 5 = .ok (.astore_n 2, 1) := by decide +kernel
theorem d_Ea_requireGroup_6 : decode b_Ea_requireGroup 6 = .ok (.aload_n 2, 1) := by decide +kernel
theorem d_Ea_requireGroup_7 : decode b_Ea_requireGroup 7 = .ok (.getfield 190, 3) := by decide +kernel
theorem d_Ea_requireGroup_10 : decode b_Ea_requireGroup 10 = .ok (.ifCond .eq 13, 3) := by decide +kernel
theorem d_Ea_requireGroup_13 : decode b_Ea_requireGroup 13 = .ok (.new 219, 3) := by decide +kernel
theorem d_Ea_requireGroup_16 : decode b_Ea_requireGroup 16 = .ok (.dup, 1) := by decide +kernel
theorem d_Ea_requireGroup_17 : decode b_Ea_requireGroup 17 = .ok (.ldc 226, 2) := by decide +kernel
theorem d_Ea_requireGroup_19 : decode b_Ea_requireGroup 19 = .ok (.invokespecial 223, 3) := by decide +kernel
theorem d_Ea_requireGroup_22 : decode b_Ea_requireGroup 22 = .ok (.athrow, 1) := by decide +kernel
theorem d_Ea_requireGroup_23 : decode b_Ea_requireGroup 23 = .ok (.aload_n 2, 1) := by decide +kernel
theorem d_Ea_requireGroup_24 : decode b_Ea_requireGroup 24 = .ok (.areturn, 1) := by decide +kernel
theorem d_Ea_requireNode_0 : decode b_Ea_requireNode 0 = .ok (.iload_n 1, 1) := by decide +kernel
theorem d_Ea_requireNode_1 : decode b_Ea_requireNode 1 = .ok (.ifCond .lt 18, 3) := by decide +kernel
theorem d_Ea_requireNode_4 : decode b_Ea_requireNode 4 = .ok (.iload_n 1, 1) := by decide +kernel
theorem d_Ea_requireNode_5 : decode b_Ea_requireNode 5 = .ok (.bipush 14, 2) := by decide +kernel
theorem d_Ea_requireNode_7 : decode b_Ea_requireNode 7 = .ok (.if_icmp .ge 12, 3) := by decide +kernel
theorem d_Ea_requireNode_10 : decode b_Ea_requireNode 10 = .ok (.aload_n 0, 1) := by decide +kernel
theorem d_Ea_requireNode_11 : decode b_Ea_requireNode 11 = .ok (.getfield 11, 3) := by decide +kernel
theorem d_Ea_requireNode_14 : decode b_Ea_requireNode 14 = .ok (.iload_n 1, 1) := by decide +kernel
theorem d_Ea_requireNode_15 : decode b_Ea_requireNode 15 = .ok (.aaload, 1) := by decide +kernel
theorem d_Ea_requireNode_16 : decode b_Ea_requireNode 16 = .ok (.ifnonnull 13, 3) := by decide +kernel
theorem d_Ea_requireNode_19 : decode b_Ea_requireNode 19 = .ok (.new 219, 3) := by decide +kernel
theorem d_Ea_requireNode_22 : decode b_Ea_requireNode 22 = .ok (.dup, 1) := by decide +kernel
theorem d_Ea_requireNode_23 : decode b_Ea_requireNode 23 = .ok (.ldc 221, 2) := by decide +kernel
theorem d_Ea_requireNode_25 : decode b_Ea_requireNode 25 = .ok (.invokespecial 223, 3) := by decide +kernel
theorem d_Ea_requireNode_28 : decode b_Ea_requireNode 28 = .ok (.athrow, 1) := by decide +kernel
theorem d_Ea_requireNode_29 : decode b_Ea_requireNode 29 = .ok (.aload_n 0, 1) := by decide +kernel
theorem d_Ea_requireNode_30 : decode b_Ea_requireNode 30 = .ok (.getfield 11, 3) := by decide +kernel
theorem d_Ea_requireNode_33 : decode b_Ea_requireNode 33 = .ok (.iload_n 1, 1) := by decide +kernel
theorem d_Ea_requireNode_34 : decode b_Ea_requireNode 34 = .ok (.aaload, 1) := by decide +kernel
theorem d_Ea_requireNode_35 : decode b_Ea_requireNode 35 = .ok (.areturn, 1) := by decide +kernel
theorem d_Ea_requireWithin_0 : decode b_Ea_requireWithin 0 = .ok (.iload_n 0, 1) := by decide +kernel
theorem d_Ea_requireWithin_1 : decode b_Ea_requireWithin 1 = .ok (.iload_n 1, 1) := by decide +kernel
theorem d_Ea_requireWithin_2 : decode b_Ea_requireWithin 2 = .ok (.if_icmp .lt 8, 3) := by decide +kernel
theorem d_Ea_requireWithin_5 : decode b_Ea_requireWithin 5 = .ok (.iload_n 0, 1) := by decide +kernel
theorem d_Ea_requireWithin_6 : decode b_Ea_requireWithin 6 = .ok (.iload_n 2, 1) := by decide +kernel
theorem d_Ea_requireWithin_7 : decode b_Ea_requireWithin 7 = .ok (.if_icmp .le 13, 3) := by decide +kernel
theorem d_Ea_requireWithin_10 : decode b_Ea_requireWithin 10 = .ok (.new 219, 3) := by decide +kernel
theorem d_Ea_requireWithin_13 : decode b_Ea_requireWithin 13 = .ok (.dup, 1) := by decide +kernel
theorem d_Ea_requireWithin_14 : decode b_Ea_requireWithin 14 = .ok (.ldc 230, 2) := by decide +kernel
theorem d_Ea_requireWithin_16 : decode b_Ea_requireWithin 16 = .ok (.invokespecial 223, 3) := by decide +kernel
theorem d_Ea_requireWithin_19 : decode b_Ea_requireWithin 19 = .ok (.athrow, 1) := by decide +kernel
theorem d_Ea_requireWithin_20 : decode b_Ea_requireWithin 20 = .ok (.return_, 1) := by decide +kernel
theorem d_Ea_leastFreeNumber_0 : decode b_Ea_leastFreeNumber 0 = .ok (.iconst 0, 1) := by decide +kernel
theorem d_Ea_leastFreeNumber_1 : decode b_Ea_leastFreeNumber 1 = .ok (.istore_n 1, 1) := by decide +kernel
theorem d_Ea_leastFreeNumber_2 : decode b_Ea_leastFreeNumber 2 = .ok (.iload_n 1, 1) := by decide +kernel
theorem d_Ea_leastFreeNumber_3 : decode b_Ea_leastFreeNumber 3 = .ok (.bipush 14, 2) := by decide +kernel
theorem d_Ea_leastFreeNumber_5 : decode b_Ea_leastFreeNumber 5 = .ok (.if_icmp .ge 18, 3) := by decide +kernel
theorem d_Ea_leastFreeNumber_8 : decode b_Ea_leastFreeNumber 8 = .ok (.aload_n 0, 1) := by decide +kernel
theorem d_Ea_leastFreeNumber_9 : decode b_Ea_leastFreeNumber 9 = .ok (.getfield 11, 3) := by decide +kernel
theorem d_Ea_leastFreeNumber_12 : decode b_Ea_leastFreeNumber 12 = .ok (.iload_n 1, 1) := by decide +kernel
theorem d_Ea_leastFreeNumber_13 : decode b_Ea_leastFreeNumber 13 = .ok (.aaload, 1) := by decide +kernel
theorem d_Ea_leastFreeNumber_14 : decode b_Ea_leastFreeNumber 14 = .ok (.ifnull 9, 3) := by decide +kernel
theorem d_Ea_leastFreeNumber_17 : decode b_Ea_leastFreeNumber 17 = .ok (.iinc 1 1, 3) := by decide +kernel
theorem d_Ea_leastFreeNumber_20 : decode b_Ea_leastFreeNumber 20 = .ok (.goto (-18), 3) := by decide +kernel
theorem d_Ea_leastFreeNumber_23 : decode b_Ea_leastFreeNumber 23 = .ok (.iload_n 1, 1) := by decide +kernel
theorem d_Ea_leastFreeNumber_24 : decode b_Ea_leastFreeNumber 24 = .ok (.ireturn, 1) := by decide +kernel
theorem d_Ea_lengths_0 : decode b_Ea_lengths 0 = .ok (.aload_n 0, 1) := by decide +kernel
theorem d_Ea_lengths_1 : decode b_Ea_lengths 1 = .ok (.iload_n 1, 1) := by decide +kernel
theorem d_Ea_lengths_2 : decode b_Ea_lengths 2 = .ok (.invokevirtual 53, 3) := by decide +kernel
theorem d_Ea_lengths_5 : decode b_Ea_lengths 5 = .ok (.astore 6, 2) := by decide +kernel
theorem d_Ea_lengths_7 : decode b_Ea_lengths 7 = .ok (.dload_n 2, 1) := by decide +kernel
theorem d_Ea_lengths_8 : decode b_Ea_lengths 8 = .ok (.invokestatic 56, 3) := by decide +kernel
theorem d_Ea_lengths_11 : decode b_Ea_lengths 11 = .ok (.dload 4, 2) := by decide +kernel
theorem d_Ea_lengths_13 : decode b_Ea_lengths 13 = .ok (.invokestatic 56, 3) := by decide +kernel
theorem d_Ea_lengths_16 : decode b_Ea_lengths 16 = .ok (.aload 6, 2) := by decide +kernel
theorem d_Ea_lengths_18 : decode b_Ea_lengths 18 = .ok (.dload_n 2, 1) := by decide +kernel
theorem d_Ea_lengths_19 : decode b_Ea_lengths 19 = .ok (.putfield 60, 3) := by decide +kernel
theorem d_Ea_lengths_22 : decode b_Ea_lengths 22 = .ok (.aload 6, 2) := by decide +kernel
theorem d_Ea_lengths_24 : decode b_Ea_lengths 24 = .ok (.dload 4, 2) := by decide +kernel
theorem d_Ea_lengths_26 : decode b_Ea_lengths 26 = .ok (.putfield 64, 3) := by decide +kernel
theorem d_Ea_lengths_29 : decode b_Ea_lengths 29 = .ok (.return_, 1) := by decide +kernel
theorem d_Ea_requireShape_0 : decode b_Ea_requireShape 0 = .ok (.aload_n 0, 1) := by decide +kernel
theorem d_Ea_requireShape_1 : decode b_Ea_requireShape 1 = .ok (.iload_n 1, 1) := by decide +kernel
theorem d_Ea_requireShape_2 : decode b_Ea_requireShape 2 = .ok (.invokevirtual 166, 3) := by decide +kernel
theorem d_Ea_requireShape_5 : decode b_Ea_requireShape 5 = .ok (.astore_n 2, 1) := by decide +kernel
theorem d_Ea_requireShape_6 : decode b_Ea_requireShape 6 = .ok (.aload_n 2, 1) := by decide +kernel
theorem d_Ea_requireShape_7 : decode b_Ea_requireShape 7 = .ok (.getfield 190, 3) := by decide +kernel
theorem d_Ea_requireShape_10 : decode b_Ea_requireShape 10 = .ok (.ifCond .ne 13, 3) := by decide +kernel
theorem d_Ea_requireShape_13 : decode b_Ea_requireShape 13 = .ok (.new 219, 3) := by decide +kernel
theorem d_Ea_requireShape_16 : decode b_Ea_requireShape 16 = .ok (.dup, 1) := by decide +kernel
theorem d_Ea_requireShape_17 : decode b_Ea_requireShape 17 = .ok (.ldc 228, 2) := by decide +kernel
theorem d_Ea_requireShape_19 : decode b_Ea_requireShape 19 = .ok (.invokespecial 223, 3) := by decide +kernel
theorem d_Ea_requireShape_22 : decode b_Ea_requireShape 22 = .ok (.athrow, 1) := by decide +kernel
theorem d_Ea_requireShape_23 : decode b_Ea_requireShape 23 = .ok (.aload_n 2, 1) := by decide +kernel
theorem d_Ea_requireShape_24 : decode b_Ea_requireShape 24 = .ok (.areturn, 1) := by decide +kernel
theorem d_Ea_requireLength_0 : decode b_Ea_requireLength 0 = .ok (.dload_n 0, 1) := by decide +kernel
theorem d_Ea_requireLength_1 : decode b_Ea_requireLength 1 = .ok (.ldc2_w 232, 3) := by decide +kernel
theorem d_Ea_requireLength_4 : decode b_Ea_requireLength 4 = .ok (.ldc2_w 234, 3) := by decide +kernel
theorem d_Ea_requireLength_7 : decode b_Ea_requireLength 7 = .ok (.invokestatic 88, 3) := by decide +kernel
theorem d_Ea_requireLength_10 : decode b_Ea_requireLength 10 = .ok (.dload_n 0, 1) := by decide +kernel
theorem d_Ea_requireLength_11 : decode b_Ea_requireLength 11 = .ok (.bipush 8, 2) := by decide +kernel
theorem d_Ea_requireLength_13 : decode b_Ea_requireLength 13 = .ok (.invokestatic 236, 3) := by decide +kernel
theorem d_Ea_requireLength_16 : decode b_Ea_requireLength 16 = .ok (.return_, 1) := by decide +kernel
theorem d_Ea_requireBetween_0 : decode b_Ea_requireBetween 0 = .ok (.dload_n 0, 1) := by decide +kernel
theorem d_Ea_requireBetween_1 : decode b_Ea_requireBetween 1 = .ok (.dload_n 2, 1) := by decide +kernel
theorem d_Ea_requireBetween_2 : decode b_Ea_requireBetween 2 = .ok (.dcmp .l, 1) := by decide +kernel
theorem d_Ea_requireBetween_3 : decode b_Ea_requireBetween 3 = .ok (.ifCond .lt 10, 3) := by decide +kernel
theorem d_Ea_requireBetween_6 : decode b_Ea_requireBetween 6 = .ok (.dload_n 0, 1) := by decide +kernel
theorem d_Ea_requireBetween_7 : decode b_Ea_requireBetween 7 = .ok (.dload 4, 2) := by decide +kernel
theorem d_Ea_requireBetween_9 : decode b_Ea_requireBetween 9 = .ok (.dcmp .g, 1) := by decide +kernel
theorem d_Ea_requireBetween_10 : decode b_Ea_requireBetween 10 = .ok (.ifCond .le 13, 3) := by decide +kernel
theorem d_Ea_requireBetween_13 : decode b_Ea_requireBetween 13 = .ok (.new 219, 3) := by decide +kernel
theorem d_Ea_requireBetween_16 : decode b_Ea_requireBetween 16 = .ok (.dup, 1) := by decide +kernel
theorem d_Ea_requireBetween_17 : decode b_Ea_requireBetween 17 = .ok (.ldc 230, 2) := by decide +kernel
theorem d_Ea_requireBetween_19 : decode b_Ea_requireBetween 19 = .ok (.invokespecial 223, 3) := by decide +kernel
theorem d_Ea_requireBetween_22 : decode b_Ea_requireBetween 22 = .ok (.athrow, 1) := by decide +kernel
theorem d_Ea_requireBetween_23 : decode b_Ea_requireBetween 23 = .ok (.return_, 1) := by decide +kernel
theorem d_Ea_requireMultiple_0 : decode b_Ea_requireMultiple 0 = .ok (.dload_n 0, 1) := by decide +kernel
theorem d_Ea_requireMultiple_1 : decode b_Ea_requireMultiple 1 = .ok (.iload_n 2, 1) := by decide +kernel
theorem d_Ea_requireMultiple_2 : decode b_Ea_requireMultiple 2 = .ok (.i2d, 1) := by decide +kernel
theorem d_Ea_requireMultiple_3 : decode b_Ea_requireMultiple 3 = .ok (.dmul, 1) := by decide +kernel
theorem d_Ea_requireMultiple_4 : decode b_Ea_requireMultiple 4 = .ok (.dstore_n 3, 1) := by decide +kernel
theorem d_Ea_requireMultiple_5 : decode b_Ea_requireMultiple 5 = .ok (.dload_n 3, 1) := by decide +kernel
theorem d_Ea_requireMultiple_6 : decode b_Ea_requireMultiple 6 = .ok (.dload_n 3, 1) := by decide +kernel
theorem d_Ea_requireMultiple_7 : decode b_Ea_requireMultiple 7 = .ok (.d2i, 1) := by decide +kernel
theorem d_Ea_requireMultiple_8 : decode b_Ea_requireMultiple 8 = .ok (.i2d, 1) := by decide +kernel
theorem d_Ea_requireMultiple_9 : decode b_Ea_requireMultiple 9 = .ok (.dcmp .l, 1) := by decide +kernel
theorem d_Ea_requireMultiple_10 : decode b_Ea_requireMultiple 10 = .ok (.ifCond .eq 13, 3) := by decide +kernel
theorem d_Ea_requireMultiple_13 : decode b_Ea_requireMultiple 13 = .ok (.new 219, 3) := by decide +kernel
theorem d_Ea_requireMultiple_16 : decode b_Ea_requireMultiple 16 = .ok (.dup, 1) := by decide +kernel
theorem d_Ea_requireMultiple_17 : decode b_Ea_requireMultiple 17 = .ok (.ldc 248, 2) := by decide +kernel
theorem d_Ea_requireMultiple_19 : decode b_Ea_requireMultiple 19 = .ok (.invokespecial 223, 3) := by decide +kernel
theorem d_Ea_requireMultiple_22 : decode b_Ea_requireMultiple 22 = .ok (.athrow, 1) := by decide +kernel
theorem d_Ea_requireMultiple_23 : decode b_Ea_requireMultiple 23 = .ok (.return_, 1) := by decide +kernel
theorem d_Ea_place_0 : decode b_Ea_place 0 = .ok (.aload_n 0, 1) := by decide +kernel
theorem d_Ea_place_1 : decode b_Ea_place 1 = .ok (.iload_n 1, 1) := by decide +kernel
theorem d_Ea_place_2 : decode b_Ea_place 2 = .ok (.invokevirtual 67, 3) := by decide +kernel
theorem d_Ea_place_5 : decode b_Ea_place 5 = .ok (.astore 6, 2) := by decide +kernel
theorem d_Ea_place_7 : decode b_Ea_place 7 = .ok (.dload_n 2, 1) := by decide +kernel
theorem d_Ea_place_8 : decode b_Ea_place 8 = .ok (.invokestatic 70, 3) := by decide +kernel
theorem d_Ea_place_11 : decode b_Ea_place 11 = .ok (.dload 4, 2) := by decide +kernel
theorem d_Ea_place_13 : decode b_Ea_place 13 = .ok (.invokestatic 70, 3) := by decide +kernel
theorem d_Ea_place_16 : decode b_Ea_place 16 = .ok (.aload 6, 2) := by decide +kernel
theorem d_Ea_place_18 : decode b_Ea_place 18 = .ok (.dload_n 2, 1) := by decide +kernel
theorem d_Ea_place_19 : decode b_Ea_place 19 = .ok (.putfield 73, 3) := by decide +kernel
theorem d_Ea_place_22 : decode b_Ea_place 22 = .ok (.aload 6, 2) := by decide +kernel
theorem d_Ea_place_24 : decode b_Ea_place 24 = .ok (.dload 4, 2) := by decide +kernel
theorem d_Ea_place_26 : decode b_Ea_place 26 = .ok (.putfield 76, 3) := by decide +kernel
theorem d_Ea_place_29 : decode b_Ea_place 29 = .ok (.return_, 1) := by decide +kernel
theorem d_Ea_requireInner_0 : decode b_Ea_requireInner 0 = .ok (.aload_n 0, 1) := by decide +kernel
theorem d_Ea_requireInner_1 : decode b_Ea_requireInner 1 = .ok (.iload_n 1, 1) := by decide +kernel
theorem d_Ea_requireInner_2 : decode b_Ea_requireInner 2 = .ok (.invokevirtual 166, 3) := by decide +kernel
theorem d_Ea_requireInner_5 : decode b_Ea_requireInner 5 = .ok (.astore_n 2, 1) := by decide +kernel
theorem d_Ea_requireInner_6 : decode b_Ea_requireInner 6 = .ok (.aload_n 2, 1) := by decide +kernel
theorem d_Ea_requireInner_7 : decode b_Ea_requireInner 7 = .ok (.aload_n 0, 1) := by decide +kernel
theorem d_Ea_requireInner_8 : decode b_Ea_requireInner 8 = .ok (.getfield 22, 3) := by decide +kernel
theorem d_Ea_requireInner_11 : decode b_Ea_requireInner 11 = .ok (.if_acmp .ne 13, 3) := by decide +kernel
theorem d_Ea_requireInner_14 : decode b_Ea_requireInner 14 = .ok (.new 219, 3) := by decide +kernel
theorem d_Ea_requireInner_17 : decode b_Ea_requireInner 17 = .ok (.dup, 1) := by decide +kernel
theorem d_Ea_requireInner_18 : decode b_Ea_requireInner 18 = .ok (.ldc 224, 2) := by decide +kernel
theorem d_Ea_requireInner_20 : decode b_Ea_requireInner 20 = .ok (.invokespecial 223, 3) := by decide +kernel
theorem d_Ea_requireInner_23 : decode b_Ea_requireInner 23 = .ok (.athrow, 1) := by decide +kernel
theorem d_Ea_requireInner_24 : decode b_Ea_requireInner 24 = .ok (.aload_n 2, 1) := by decide +kernel
theorem d_Ea_requireInner_25 : decode b_Ea_requireInner 25 = .ok (.areturn, 1) := by decide +kernel
theorem d_Ea_requirePlace_0 : decode b_Ea_requirePlace 0 = .ok (.dload_n 0, 1) := by decide +kernel
theorem d_Ea_requirePlace_1 : decode b_Ea_requirePlace 1 = .ok (.ldc2_w 240, 3) := by decide +kernel
theorem d_Ea_requirePlace_4 : decode b_Ea_requirePlace 4 = .ok (.ldc2_w 234, 3) := by decide +kernel
theorem d_Ea_requirePlace_7 : decode b_Ea_requirePlace 7 = .ok (.invokestatic 88, 3) := by decide +kernel
theorem d_Ea_requirePlace_10 : decode b_Ea_requirePlace 10 = .ok (.dload_n 0, 1) := by decide +kernel
theorem d_Ea_requirePlace_11 : decode b_Ea_requirePlace 11 = .ok (.bipush 8, 2) := by decide +kernel
theorem d_Ea_requirePlace_13 : decode b_Ea_requirePlace 13 = .ok (.invokestatic 236, 3) := by decide +kernel
theorem d_Ea_requirePlace_16 : decode b_Ea_requirePlace 16 = .ok (.return_, 1) := by decide +kernel
theorem d_Ea_lay_0 : decode b_Ea_lay 0 = .ok (.aload_n 0, 1) := by decide +kernel
theorem d_Ea_lay_1 : decode b_Ea_lay 1 = .ok (.iload_n 1, 1) := by decide +kernel
theorem d_Ea_lay_2 : decode b_Ea_lay 2 = .ok (.invokevirtual 67, 3) := by decide +kernel
theorem d_Ea_lay_5 : decode b_Ea_lay 5 = .ok (.astore 4, 2) := by decide +kernel
theorem d_Ea_lay_7 : decode b_Ea_lay 7 = .ok (.iload_n 2, 1) := by decide +kernel
theorem d_Ea_lay_8 : decode b_Ea_lay 8 = .ok (.iconst 0, 1) := by decide +kernel
theorem d_Ea_lay_9 : decode b_Ea_lay 9 = .ok (.iconst 3, 1) := by decide +kernel
theorem d_Ea_lay_10 : decode b_Ea_lay 10 = .ok (.invokestatic 30, 3) := by decide +kernel
theorem d_Ea_lay_13 : decode b_Ea_lay 13 = .ok (.iload_n 3, 1) := by decide +kernel
theorem d_Ea_lay_14 : decode b_Ea_lay 14 = .ok (.bipush (-2), 2) := by decide +kernel
theorem d_Ea_lay_16 : decode b_Ea_lay 16 = .ok (.iconst 2, 1) := by decide +kernel
theorem d_Ea_lay_17 : decode b_Ea_lay 17 = .ok (.invokestatic 30, 3) := by decide +kernel
theorem d_Ea_lay_20 : decode b_Ea_lay 20 = .ok (.aload 4, 2) := by decide +kernel
theorem d_Ea_lay_22 : decode b_Ea_lay 22 = .ok (.iload_n 2, 1) := by decide +kernel
theorem d_Ea_lay_23 : decode b_Ea_lay 23 = .ok (.putfield 79, 3) := by decide +kernel
theorem d_Ea_lay_26 : decode b_Ea_lay 26 = .ok (.aload 4, 2) := by decide +kernel
theorem d_Ea_lay_28 : decode b_Ea_lay 28 = .ok (.iload_n 3, 1) := by decide +kernel
theorem d_Ea_lay_29 : decode b_Ea_lay 29 = .ok (.putfield 83, 3) := by decide +kernel
theorem d_Ea_lay_32 : decode b_Ea_lay 32 = .ok (.return_, 1) := by decide +kernel
theorem d_Ea_mode_0 : decode b_Ea_mode 0 = .ok (.aload_n 0, 1) := by decide +kernel
theorem d_Ea_mode_1 : decode b_Ea_mode 1 = .ok (.iload_n 1, 1) := by decide +kernel
theorem d_Ea_mode_2 : decode b_Ea_mode 2 = .ok (.invokevirtual 26, 3) := by decide +kernel
theorem d_Ea_mode_5 : decode b_Ea_mode 5 = .ok (.astore 5, 2) := by decide +kernel
theorem d_Ea_mode_7 : decode b_Ea_mode 7 = .ok (.iload_n 2, 1) := by decide +kernel
theorem d_Ea_mode_8 : decode b_Ea_mode 8 = .ok (.iconst 0, 1) := by decide +kernel
theorem d_Ea_mode_9 : decode b_Ea_mode 9 = .ok (.iconst 2, 1) := by decide +kernel
theorem d_Ea_mode_10 : decode b_Ea_mode 10 = .ok (.invokestatic 30, 3) := by decide +kernel
theorem d_Ea_mode_13 : decode b_Ea_mode 13 = .ok (.dload_n 3, 1) := by decide +kernel
theorem d_Ea_mode_14 : decode b_Ea_mode 14 = .ok (.dconst 1, 1) := by decide +kernel
theorem d_Ea_mode_15 : decode b_Ea_mode 15 = .ok (.ldc2_w 86, 3) := by decide +kernel
theorem d_Ea_mode_18 : decode b_Ea_mode 18 = .ok (.invokestatic 88, 3) := by decide +kernel
theorem d_Ea_mode_21 : decode b_Ea_mode 21 = .ok (.aload 5, 2) := by decide +kernel
theorem d_Ea_mode_23 : decode b_Ea_mode 23 = .ok (.iload_n 2, 1) := by decide +kernel
theorem d_Ea_mode_24 : decode b_Ea_mode 24 = .ok (.putfield 92, 3) := by decide +kernel
theorem d_Ea_mode_27 : decode b_Ea_mode 27 = .ok (.aload 5, 2) := by decide +kernel
theorem d_Ea_mode_29 : decode b_Ea_mode 29 = .ok (.dload_n 3, 1) := by decide +kernel
theorem d_Ea_mode_30 : decode b_Ea_mode 30 = .ok (.putfield 95, 3) := by decide +kernel
theorem d_Ea_mode_33 : decode b_Ea_mode 33 = .ok (.return_, 1) := by decide +kernel
theorem d_Ea_hide_0 : decode b_Ea_hide 0 = .ok (.aload_n 0, 1) := by decide +kernel
theorem d_Ea_hide_1 : decode b_Ea_hide 1 = .ok (.iload_n 1, 1) := by decide +kernel
theorem d_Ea_hide_2 : decode b_Ea_hide 2 = .ok (.invokevirtual 67, 3) := by decide +kernel
theorem d_Ea_hide_5 : decode b_Ea_hide 5 = .ok (.iload_n 2, 1) := by decide +kernel
theorem d_Ea_hide_6 : decode b_Ea_hide 6 = .ok (.putfield 98, 3) := by decide +kernel
theorem d_Ea_hide_9 : decode b_Ea_hide 9 = .ok (.return_, 1) := by decide +kernel
theorem d_Ea_key_0 : decode b_Ea_key 0 = .ok (.aload_n 0, 1) := by decide +kernel
theorem d_Ea_key_1 : decode b_Ea_key 1 = .ok (.iload_n 1, 1) := by decide +kernel
theorem d_Ea_key_2 : decode b_Ea_key 2 = .ok (.invokevirtual 67, 3) := by decide +kernel
theorem d_Ea_key_5 : decode b_Ea_key 5 = .ok (.astore 7, 2) := by decide +kernel
theorem d_Ea_key_7 : decode b_Ea_key 7 = .ok (.iload_n 2, 1) := by decide +kernel
theorem d_Ea_key_8 : decode b_Ea_key 8 = .ok (.iconst 0, 1) := by decide +kernel
theorem d_Ea_key_9 : decode b_Ea_key 9 = .ok (.iconst 3, 1) := by decide +kernel
theorem d_Ea_key_10 : decode b_Ea_key 10 = .ok (.invokestatic 30, 3) := by decide +kernel
theorem d_Ea_key_13 : decode b_Ea_key 13 = .ok (.dload_n 3, 1) := by decide +kernel
theorem d_Ea_key_14 : decode b_Ea_key 14 = .ok (.invokestatic 102, 3) := by decide +kernel
theorem d_Ea_key_17 : decode b_Ea_key 17 = .ok (.iload_n 2, 1) := by decide +kernel
theorem d_Ea_key_18 : decode b_Ea_key 18 = .ok (.dload 5, 2) := by decide +kernel
theorem d_Ea_key_20 : decode b_Ea_key 20 = .ok (.invokestatic 105, 3) := by decide +kernel
theorem d_Ea_key_23 : decode b_Ea_key 23 = .ok (.aload 7, 2) := by decide +kernel
theorem d_Ea_key_25 : decode b_Ea_key 25 = .ok (.getfield 109, 3) := by decide +kernel
theorem d_Ea_key_28 : decode b_Ea_key 28 = .ok (.iload_n 2, 1) := by decide +kernel
theorem d_Ea_key_29 : decode b_Ea_key 29 = .ok (.aaload, 1) := by decide +kernel
theorem d_Ea_key_30 : decode b_Ea_key 30 = .ok (.astore 8, 2) := by decide +kernel
theorem d_Ea_key_32 : decode b_Ea_key 32 = .ok (.aload 8, 2) := by decide +kernel
theorem d_Ea_key_34 : decode b_Ea_key 34 = .ok (.dload_n 3, 1) := by decide +kernel
theorem d_Ea_key_35 : decode b_Ea_key 35 = .ok (.dload 5, 2) := by decide +kernel
theorem d_Ea_key_37 : decode b_Ea_key 37 = .ok (.invokevirtual 113, 3) := by decide +kernel
theorem d_Ea_key_40 : decode b_Ea_key 40 = .ok (.ifCond .ne 13, 3) := by decide +kernel
theorem d_Ea_key_43 : decode b_Ea_key 43 = .ok (.new 37, 3) := by decide +kernel
theorem d_Ea_key_46 : decode b_Ea_key 46 = .ok (.dup, 1) := by decide +kernel
theorem d_Ea_key_47 : decode b_Ea_key 47 = .ok (.ldc 119, 2) := by decide +kernel
theorem d_Ea_key_49 : decode b_Ea_key 49 = .ok (.invokespecial 41, 3) := by decide +kernel
theorem d_Ea_key_52 : decode b_Ea_key 52 = .ok (.athrow, 1) := by decide +kernel
theorem d_Ea_key_53 : decode b_Ea_key 53 = .ok (.aload 8, 2) := by decide +kernel
theorem d_Ea_key_55 : decode b_Ea_key 55 = .ok (.getfield 121, 3) := by decide +kernel
theorem d_Ea_key_58 : decode b_Ea_key 58 = .ok (.ireturn, 1) := by decide +kernel
theorem d_Ea_requireTime_0 : decode b_Ea_requireTime 0 = .ok (.dload_n 0, 1) := by decide +kernel
theorem d_Ea_requireTime_1 : decode b_Ea_requireTime 1 = .ok (.dconst 0, 1) := by decide +kernel
theorem d_Ea_requireTime_2 : decode b_Ea_requireTime 2 = .ok (.ldc2_w 159, 3) := by decide +kernel
theorem d_Ea_requireTime_5 : decode b_Ea_requireTime 5 = .ok (.invokestatic 88, 3) := by decide +kernel
theorem d_Ea_requireTime_8 : decode b_Ea_requireTime 8 = .ok (.return_, 1) := by decide +kernel
theorem d_Ea_requireValue_0 : decode b_Ea_requireValue 0 = .ok (.iload_n 0, 1) := by decide +kernel
theorem d_Ea_requireValue_1 : decode b_Ea_requireValue 1 = .ok (.iconst 2, 1) := by decide +kernel
theorem d_Ea_requireValue_2 : decode b_Ea_requireValue 2 = .ok (.if_icmp .ne 21, 3) := by decide +kernel
theorem d_Ea_requireValue_5 : decode b_Ea_requireValue 5 = .ok (.dload_n 1, 1) := by decide +kernel
theorem d_Ea_requireValue_6 : decode b_Ea_requireValue 6 = .ok (.ldc2_w 242, 3) := by decide +kernel
theorem d_Ea_requireValue_9 : decode b_Ea_requireValue 9 = .ok (.ldc2_w 244, 3) := by decide +kernel
theorem d_Ea_requireValue_12 : decode b_Ea_requireValue 12 = .ok (.invokestatic 88, 3) := by decide +kernel
theorem d_Ea_requireValue_15 : decode b_Ea_requireValue 15 = .ok (.dload_n 1, 1) := by decide +kernel
theorem d_Ea_requireValue_16 : decode b_Ea_requireValue 16 = .ok (.iconst 1, 1) := by decide +kernel
theorem d_Ea_requireValue_17 : decode b_Ea_requireValue 17 = .ok (.invokestatic 236, 3) := by decide +kernel
theorem d_Ea_requireValue_20 : decode b_Ea_requireValue 20 = .ok (.goto 28, 3) := by decide +kernel
theorem d_Ea_requireValue_23 : decode b_Ea_requireValue 23 = .ok (.iload_n 0, 1) := by decide +kernel
theorem d_Ea_requireValue_24 : decode b_Ea_requireValue 24 = .ok (.iconst 3, 1) := by decide +kernel
theorem d_Ea_requireValue_25 : decode b_Ea_requireValue 25 = .ok (.if_icmp .ne 19, 3) := by decide +kernel
theorem d_Ea_requireValue_28 : decode b_Ea_requireValue 28 = .ok (.dload_n 1, 1) := by decide +kernel
theorem d_Ea_requireValue_29 : decode b_Ea_requireValue 29 = .ok (.dconst 1, 1) := by decide +kernel
theorem d_Ea_requireValue_30 : decode b_Ea_requireValue 30 = .ok (.ldc2_w 246, 3) := by decide +kernel
theorem d_Ea_requireValue_33 : decode b_Ea_requireValue 33 = .ok (.invokestatic 88, 3) := by decide +kernel
theorem d_Ea_requireValue_36 : decode b_Ea_requireValue 36 = .ok (.dload_n 1, 1) := by decide +kernel
theorem d_Ea_requireValue_37 : decode b_Ea_requireValue 37 = .ok (.iconst 1, 1) := by decide +kernel
theorem d_Ea_requireValue_38 : decode b_Ea_requireValue 38 = .ok (.invokestatic 236, 3) := by decide +kernel
theorem d_Ea_requireValue_41 : decode b_Ea_requireValue 41 = .ok (.goto 7, 3) := by decide +kernel
theorem d_Ea_requireValue_44 : decode b_Ea_requireValue 44 = .ok (.dload_n 1, 1) := by decide +kernel
theorem d_Ea_requireValue_45 : decode b_Ea_requireValue 45 = .ok (.invokestatic 70, 3) := by decide +kernel
theorem d_Ea_requireValue_48 : decode b_Ea_requireValue 48 = .ok (.return_, 1) := by decide +kernel
theorem d_Ea_unkey_0 : decode b_Ea_unkey 0 = .ok (.aload_n 0, 1) := by decide +kernel
theorem d_Ea_unkey_1 : decode b_Ea_unkey 1 = .ok (.iload_n 1, 1) := by decide +kernel
theorem d_Ea_unkey_2 : decode b_Ea_unkey 2 = .ok (.invokevirtual 67, 3) := by decide +kernel
theorem d_Ea_unkey_5 : decode b_Ea_unkey 5 = .ok (.astore_n 3, 1) := by decide +kernel
theorem d_Ea_unkey_6 : decode b_Ea_unkey 6 = .ok (.iload_n 2, 1) := by decide +kernel
theorem d_Ea_unkey_7 : decode b_Ea_unkey 7 = .ok (.iconst 0, 1) := by decide +kernel
theorem d_Ea_unkey_8 : decode b_Ea_unkey 8 = .ok (.iconst 3, 1) := by decide +kernel
theorem d_Ea_unkey_9 : decode b_Ea_unkey 9 = .ok (.invokestatic 30, 3) := by decide +kernel
theorem d_Ea_unkey_12 : decode b_Ea_unkey 12 = .ok (.aload_n 3, 1) := by decide +kernel
theorem d_Ea_unkey_13 : decode b_Ea_unkey 13 = .ok (.getfield 109, 3) := by decide +kernel
theorem d_Ea_unkey_16 : decode b_Ea_unkey 16 = .ok (.iload_n 2, 1) := by decide +kernel
theorem d_Ea_unkey_17 : decode b_Ea_unkey 17 = .ok (.aaload, 1) := by decide +kernel
theorem d_Ea_unkey_18 : decode b_Ea_unkey 18 = .ok (.astore 4, 2) := by decide +kernel
theorem d_Ea_unkey_20 : decode b_Ea_unkey 20 = .ok (.aload 4, 2) := by decide +kernel
theorem d_Ea_unkey_22 : decode b_Ea_unkey 22 = .ok (.getfield 121, 3) := by decide +kernel
theorem d_Ea_unkey_25 : decode b_Ea_unkey 25 = .ok (.ifCond .ne 13, 3) := by decide +kernel
theorem d_Ea_unkey_28 : decode b_Ea_unkey 28 = .ok (.new 124, 3) := by decide +kernel
theorem d_Ea_unkey_31 : decode b_Ea_unkey 31 = .ok (.dup, 1) := by decide +kernel
theorem d_Ea_unkey_32 : decode b_Ea_unkey 32 = .ok (.ldc 126, 2) := by decide +kernel
theorem d_Ea_unkey_34 : decode b_Ea_unkey 34 = .ok (.invokespecial 128, 3) := by decide +kernel
theorem d_Ea_unkey_37 : decode b_Ea_unkey 37 = .ok (.athrow, 1) := by decide +kernel
theorem d_Ea_unkey_38 : decode b_Ea_unkey 38 = .ok (.aload 4, 2) := by decide +kernel
theorem d_Ea_unkey_40 : decode b_Ea_unkey 40 = .ok (.iconst 0, 1) := by decide +kernel
theorem d_Ea_unkey_41 : decode b_Ea_unkey 41 = .ok (.putfield 121, 3) := by decide +kernel
theorem d_Ea_unkey_44 : decode b_Ea_unkey 44 = .ok (.return_, 1) := by decide +kernel
theorem d_Ea_into_0 : decode b_Ea_into 0 = .ok (.aload_n 0, 1) := by decide +kernel
theorem d_Ea_into_1 : decode b_Ea_into 1 = .ok (.iload_n 1, 1) := by decide +kernel
theorem d_Ea_into_2 : decode b_Ea_into 2 = .ok (.invokevirtual 67, 3) := by decide +kernel
theorem d_Ea_into_5 : decode b_Ea_into 5 = .ok (.astore_n 3, 1) := by decide +kernel
theorem d_Ea_into_6 : decode b_Ea_into 6 = .ok (.aload_n 0, 1) := by decide +kernel
theorem d_Ea_into_7 : decode b_Ea_into 7 = .ok (.iload_n 2, 1) := by decide +kernel
theorem d_Ea_into_8 : decode b_Ea_into 8 = .ok (.invokevirtual 26, 3) := by decide +kernel
theorem d_Ea_into_11 : decode b_Ea_into 11 = .ok (.astore 4, 2) := by decide +kernel
theorem d_Ea_into_13 : decode b_Ea_into 13 = .ok (.aload 4, 2) := by decide +kernel
theorem d_Ea_into_15 : decode b_Ea_into 15 = .ok (.aload_n 3, 1) := by decide +kernel
theorem d_Ea_into_16 : decode b_Ea_into 16 = .ok (.invokevirtual 129, 3) := by decide +kernel
theorem d_Ea_into_19 : decode b_Ea_into 19 = .ok (.ifCond .eq 13, 3) := by decide +kernel
theorem d_Ea_into_22 : decode b_Ea_into 22 = .ok (.new 37, 3) := by decide +kernel
theorem d_Ea_into_25 : decode b_Ea_into 25 = .ok (.dup, 1) := by decide +kernel
theorem d_Ea_into_26 : decode b_Ea_into 26 = .ok (.ldc 133, 2) := by decide +kernel
theorem d_Ea_into_28 : decode b_Ea_into 28 = .ok (.invokespecial 41, 3) := by decide +kernel
theorem d_Ea_into_31 : decode b_Ea_into 31 = .ok (.athrow, 1) := by decide +kernel
theorem d_Ea_into_32 : decode b_Ea_into 32 = .ok (.aload 4, 2) := by decide +kernel
theorem d_Ea_into_34 : decode b_Ea_into 34 = .ok (.invokevirtual 44, 3) := by decide +kernel
theorem d_Ea_into_37 : decode b_Ea_into 37 = .ok (.aload_n 0, 1) := by decide +kernel
theorem d_Ea_into_38 : decode b_Ea_into 38 = .ok (.aload_n 3, 1) := by decide +kernel
theorem d_Ea_into_39 : decode b_Ea_into 39 = .ok (.invokevirtual 135, 3) := by decide +kernel
theorem d_Ea_into_42 : decode b_Ea_into 42 = .ok (.iadd, 1) := by decide +kernel
theorem d_Ea_into_43 : decode b_Ea_into 43 = .ok (.iconst 5, 1) := by decide +kernel
theorem d_Ea_into_44 : decode b_Ea_into 44 = .ok (.if_icmp .le 13, 3) := by decide +kernel
theorem d_Ea_into_47 : decode b_Ea_into 47 = .ok (.new 37, 3) := by decide +kernel
theorem d_Ea_into_50 : decode b_Ea_into 50 = .ok (.dup, 1) := by decide +kernel
theorem d_Ea_into_51 : decode b_Ea_into 51 = .ok (.ldc 47, 2) := by decide +kernel
theorem d_Ea_into_53 : decode b_Ea_into 53 = .ok (.invokespecial 41, 3) := by decide +kernel
theorem d_Ea_into_56 : decode b_Ea_into 56 = .ok (.athrow, 1) := by decide +kernel
theorem d_Ea_into_57 : decode b_Ea_into 57 = .ok (.aload_n 3, 1) := by decide +kernel
theorem d_Ea_into_58 : decode b_Ea_into 58 = .ok (.invokevirtual 139, 3) := by decide +kernel
theorem d_Ea_into_61 : decode b_Ea_into 61 = .ok (.aload_n 3, 1) := by decide +kernel
theorem d_Ea_into_62 : decode b_Ea_into 62 = .ok (.aload 4, 2) := by decide +kernel
theorem d_Ea_into_64 : decode b_Ea_into 64 = .ok (.invokevirtual 49, 3) := by decide +kernel
theorem d_Ea_into_67 : decode b_Ea_into 67 = .ok (.return_, 1) := by decide +kernel
theorem d_Ea_levelsOf_0 : decode b_Ea_levelsOf 0 = .ok (.aload_n 0, 1) := by decide +kernel
theorem d_Ea_levelsOf_1 : decode b_Ea_levelsOf 1 = .ok (.aload_n 1, 1) := by decide +kernel
theorem d_Ea_levelsOf_2 : decode b_Ea_levelsOf 2 = .ok (.invokevirtual 216, 3) := by decide +kernel
theorem d_Ea_levelsOf_5 : decode b_Ea_levelsOf 5 = .ok (.aload_n 1, 1) := by decide +kernel
theorem d_Ea_levelsOf_6 : decode b_Ea_levelsOf 6 = .ok (.invokevirtual 44, 3) := by decide +kernel
theorem d_Ea_levelsOf_9 : decode b_Ea_levelsOf 9 = .ok (.isub, 1) := by decide +kernel
theorem d_Ea_levelsOf_10 : decode b_Ea_levelsOf 10 = .ok (.iconst 1, 1) := by decide +kernel
theorem d_Ea_levelsOf_11 : decode b_Ea_levelsOf 11 = .ok (.iadd, 1) := by decide +kernel
theorem d_Ea_levelsOf_12 : decode b_Ea_levelsOf 12 = .ok (.ireturn, 1) := by decide +kernel
theorem d_Ea_remove_0 : decode b_Ea_remove 0 = .ok (.aload_n 0, 1) := by decide +kernel
theorem d_Ea_remove_1 : decode b_Ea_remove 1 = .ok (.iload_n 1, 1) := by decide +kernel
theorem d_Ea_remove_2 : decode b_Ea_remove 2 = .ok (.invokevirtual 67, 3) := by decide +kernel
theorem d_Ea_remove_5 : decode b_Ea_remove 5 = .ok (.astore_n 2, 1) := by decide +kernel
theorem d_Ea_remove_6 : decode b_Ea_remove 6 = .ok (.iconst 0, 1) := by decide +kernel
theorem d_Ea_remove_7 : decode b_Ea_remove 7 = .ok (.istore_n 3, 1) := by decide +kernel
theorem d_Ea_remove_8 : decode b_Ea_remove 8 = .ok (.iconst 0, 1) := by decide +kernel
theorem d_Ea_remove_9 : decode b_Ea_remove 9 = .ok (.istore 4, 2) := by decide +kernel
theorem d_Ea_remove_11 : decode b_Ea_remove 11 = .ok (.iload 4, 2) := by decide +kernel
theorem d_Ea_remove_13 : decode b_Ea_remove 13 = .ok (.bipush 14, 2) := by decide +kernel
theorem d_Ea_remove_15 : decode b_Ea_remove 15 = .ok (.if_icmp .ge 44, 3) := by decide +kernel
theorem d_Ea_remove_18 : decode b_Ea_remove 18 = .ok (.aload_n 0, 1) := by decide +kernel
theorem d_Ea_remove_19 : decode b_Ea_remove 19 = .ok (.getfield 11, 3) := by decide +kernel
theorem d_Ea_remove_22 : decode b_Ea_remove 22 = .ok (.iload 4, 2) := by decide +kernel
theorem d_Ea_remove_24 : decode b_Ea_remove 24 = .ok (.aaload, 1) := by decide +kernel
theorem d_Ea_remove_25 : decode b_Ea_remove 25 = .ok (.ifnull 28, 3) := by decide +kernel
theorem d_Ea_remove_28 : decode b_Ea_remove 28 = .ok (.aload_n 0, 1) := by decide +kernel
theorem d_Ea_remove_29 : decode b_Ea_remove 29 = .ok (.getfield 11, 3) := by decide +kernel
theorem d_Ea_remove_32 : decode b_Ea_remove 32 = .ok (.iload 4, 2) := by decide +kernel
theorem d_Ea_remove_34 : decode b_Ea_remove 34 = .ok (.aaload, 1) := by decide +kernel
theorem d_Ea_remove_35 : decode b_Ea_remove 35 = .ok (.aload_n 2, 1) := by decide +kernel
theorem d_Ea_remove_36 : decode b_Ea_remove 36 = .ok (.invokevirtual 129, 3) := by decide +kernel
theorem d_Ea_remove_39 : decode b_Ea_remove 39 = .ok (.ifCond .eq 14, 3) := by decide +kernel
theorem d_Ea_remove_42 : decode b_Ea_remove 42 = .ok (.aload_n 0, 1) := by decide +kernel
theorem d_Ea_remove_43 : decode b_Ea_remove 43 = .ok (.getfield 11, 3) := by decide +kernel
theorem d_Ea_remove_46 : decode b_Ea_remove 46 = .ok (.iload 4, 2) := by decide +kernel
theorem d_Ea_remove_48 : decode b_Ea_remove 48 = .ok (.aconst_null, 1) := by decide +kernel
theorem d_Ea_remove_49 : decode b_Ea_remove 49 = .ok (.aastore, 1) := by decide +kernel
theorem d_Ea_remove_50 : decode b_Ea_remove 50 = .ok (.iinc 3 1, 3) := by decide +kernel
theorem d_Ea_remove_53 : decode b_Ea_remove 53 = .ok (.iinc 4 1, 3) := by decide +kernel
theorem d_Ea_remove_56 : decode b_Ea_remove 56 = .ok (.goto (-45), 3) := by decide +kernel
theorem d_Ea_remove_59 : decode b_Ea_remove 59 = .ok (.aload_n 2, 1) := by decide +kernel
theorem d_Ea_remove_60 : decode b_Ea_remove 60 = .ok (.invokevirtual 139, 3) := by decide +kernel
theorem d_Ea_remove_63 : decode b_Ea_remove 63 = .ok (.iload_n 3, 1) := by decide +kernel
theorem d_Ea_remove_64 : decode b_Ea_remove 64 = .ok (.ireturn, 1) := by decide +kernel
theorem d_Ea_paint_0 : decode b_Ea_paint 0 = .ok (.dload_n 1, 1) := by decide +kernel
theorem d_Ea_paint_1 : decode b_Ea_paint 1 = .ok (.invokestatic 102, 3) := by decide +kernel
theorem d_Ea_paint_4 : decode b_Ea_paint 4 = .ok (.aload_n 0, 1) := by decide +kernel
theorem d_Ea_paint_5 : decode b_Ea_paint 5 = .ok (.dload_n 1, 1) := by decide +kernel
theorem d_Ea_paint_6 : decode b_Ea_paint 6 = .ok (.invokevirtual 142, 3) := by decide +kernel
theorem d_Ea_paint_9 : decode b_Ea_paint 9 = .ok (.iconst 0, 1) := by decide +kernel
theorem d_Ea_paint_10 : decode b_Ea_paint 10 = .ok (.istore_n 3, 1) := by decide +kernel
theorem d_Ea_paint_11 : decode b_Ea_paint 11 = .ok (.iconst 0, 1) := by decide +kernel
theorem d_Ea_paint_12 : decode b_Ea_paint 12 = .ok (.istore 4, 2) := by decide +kernel
theorem d_Ea_paint_14 : decode b_Ea_paint 14 = .ok (.iload 4, 2) := by decide +kernel
theorem d_Ea_paint_16 : decode b_Ea_paint 16 = .ok (.bipush 12, 2) := by decide +kernel
theorem d_Ea_paint_18 : decode b_Ea_paint 18 = .ok (.if_icmp .ge 88, 3) := by decide +kernel
theorem d_Ea_paint_21 : decode b_Ea_paint 21 = .ok (.iconst 0, 1) := by decide +kernel
theorem d_Ea_paint_22 : decode b_Ea_paint 22 = .ok (.istore 5, 2) := by decide +kernel
theorem d_Ea_paint_24 : decode b_Ea_paint 24 = .ok (.iload 5, 2) := by decide +kernel
theorem d_Ea_paint_26 : decode b_Ea_paint 26 = .ok (.bipush 16, 2) := by decide +kernel
theorem d_Ea_paint_28 : decode b_Ea_paint 28 = .ok (.if_icmp .ge 72, 3) := by decide +kernel
theorem d_Ea_paint_31 : decode b_Ea_paint 31 = .ok (.aload_n 0, 1) := by decide +kernel
theorem d_Ea_paint_32 : decode b_Ea_paint 32 = .ok (.getfield 22, 3) := by decide +kernel
theorem d_Ea_paint_35 : decode b_Ea_paint 35 = .ok (.iload 5, 2) := by decide +kernel
theorem d_Ea_paint_37 : decode b_Ea_paint 37 = .ok (.i2d, 1) := by decide +kernel
theorem d_Ea_paint_38 : decode b_Ea_paint 38 = .ok (.ldc2_w 145, 3) := by decide +kernel
theorem d_Ea_paint_41 : decode b_Ea_paint 41 = .ok (.dadd, 1) := by decide +kernel
theorem d_Ea_paint_42 : decode b_Ea_paint 42 = .ok (.iload 4, 2) := by decide +kernel
theorem d_Ea_paint_44 : decode b_Ea_paint 44 = .ok (.i2d, 1) := by decide +kernel
theorem d_Ea_paint_45 : decode b_Ea_paint 45 = .ok (.ldc2_w 145, 3) := by decide +kernel
theorem d_Ea_paint_48 : decode b_Ea_paint 48 = .ok (.dadd, 1) := by decide +kernel
theorem d_Ea_paint_49 : decode b_Ea_paint 49 = .ok (.invokevirtual 147, 3) := by decide +kernel
theorem d_Ea_paint_52 : decode b_Ea_paint 52 = .ok (.astore 6, 2) := by decide +kernel
theorem d_Ea_paint_54 : decode b_Ea_paint 54 = .ok (.aload_n 0, 1) := by decide +kernel
theorem d_Ea_paint_55 : decode b_Ea_paint 55 = .ok (.getfield 15, 3) := by decide +kernel
theorem d_Ea_paint_58 : decode b_Ea_paint 58 = .ok (.iload 4, 2) := by decide +kernel
theorem d_Ea_paint_60 : decode b_Ea_paint 60 = .ok (.bipush 16, 2) := by decide +kernel
theorem d_Ea_paint_62 : decode b_Ea_paint 62 = .ok (.imul, 1) := by decide +kernel
theorem d_Ea_paint_63 : decode b_Ea_paint 63 = .ok (.iload 5, 2) := by decide +kernel
theorem d_Ea_paint_65 : decode b_Ea_paint 65 = .ok (.iadd, 1) := by decide +kernel
theorem d_Ea_paint_66 : decode b_Ea_paint 66 = .ok (.aload 6, 2) := by decide +kernel
theorem d_Ea_paint_68 : decode b_Ea_paint 68 = .ok (.ifnonnull 7, 3) := by decide +kernel
theorem d_Ea_paint_71 : decode b_Ea_paint 71 = .ok (.iconst 0, 1) := by decide +kernel
theorem d_Ea_paint_72 : decode b_Ea_paint 72 = .ok (.goto 8, 3) := by decide +kernel
theorem d_Ea_paint_75 : decode b_Ea_paint 75 = .ok (.aload 6, 2) := by decide +kernel
theorem d_Ea_paint_77 : decode b_Ea_paint 77 = .ok (.getfield 151, 3) := by decide +kernel
theorem d_Ea_paint_80 : decode b_Ea_paint 80 = .ok (.iastore, 1) := by decide +kernel
theorem d_Ea_paint_81 : decode b_Ea_paint 81 = .ok (.iload_n 3, 1) := by decide +kernel
theorem d_Ea_paint_82 : decode b_Ea_paint 82 = .ok (.aload 6, 2) := by decide +kernel
theorem d_Ea_paint_84 : decode b_Ea_paint 84 = .ok (.ifnonnull 7, 3) := by decide +kernel
theorem d_Ea_paint_87 : decode b_Ea_paint 87 = .ok (.iconst 0, 1) := by decide +kernel
theorem d_Ea_paint_88 : decode b_Ea_paint 88 = .ok (.goto 4, 3) := by decide +kernel
theorem d_Ea_paint_91 : decode b_Ea_paint 91 = .ok (.iconst 1, 1) := by decide +kernel
theorem d_Ea_paint_92 : decode b_Ea_paint 92 = .ok (.iadd, 1) := by decide +kernel
theorem d_Ea_paint_93 : decode b_Ea_paint 93 = .ok (.istore_n 3, 1) := by decide +kernel
theorem d_Ea_paint_94 : decode b_Ea_paint 94 = .ok (.iinc 5 1, 3) := by decide +kernel
theorem d_Ea_paint_97 : decode b_Ea_paint 97 = .ok (.goto (-73), 3) := by decide +kernel
theorem d_Ea_paint_100 : decode b_Ea_paint 100 = .ok (.iinc 4 1, 3) := by decide +kernel
theorem d_Ea_paint_103 : decode b_Ea_paint 103 = .ok (.goto (-89), 3) := by decide +kernel
theorem d_Ea_paint_106 : decode b_Ea_paint 106 = .ok (.aload_n 0, 1) := by decide +kernel
theorem d_Ea_paint_107 : decode b_Ea_paint 107 = .ok (.dup, 1) := by decide +kernel
theorem d_Ea_paint_108 : decode b_Ea_paint 108 = .ok (.getfield 154, 3) := by decide +kernel
theorem d_Ea_paint_111 : decode b_Ea_paint 111 = .ok (.iconst 1, 1) := by decide +kernel
theorem d_Ea_paint_112 : decode b_Ea_paint 112 = .ok (.iadd, 1) := by decide +kernel
theorem d_Ea_paint_113 : decode b_Ea_paint 113 = .ok (.putfield 154, 3) := by decide +kernel
theorem d_Ea_paint_116 : decode b_Ea_paint 116 = .ok (.iload_n 3, 1) := by decide +kernel
theorem d_Ea_paint_117 : decode b_Ea_paint 117 = .ok (.ireturn, 1) := by decide +kernel
theorem d_Ea_settle_0 : decode b_Ea_settle 0 = .ok (.iconst 0, 1) := by decide +kernel
theorem d_Ea_settle_1 : decode b_Ea_settle 1 = .ok (.istore_n 3, 1) := by decide +kernel
theorem d_Ea_settle_2 : decode b_Ea_settle 2 = .ok (.iload_n 3, 1) := by decide +kernel
theorem d_Ea_settle_3 : decode b_Ea_settle 3 = .ok (.bipush 14, 2) := by decide +kernel
theorem d_Ea_settle_5 : decode b_Ea_settle 5 = .ok (.if_icmp .ge 28, 3) := by decide +kernel
theorem d_Ea_settle_8 : decode b_Ea_settle 8 = .ok (.aload_n 0, 1) := by decide +kernel
theorem d_Ea_settle_9 : decode b_Ea_settle 9 = .ok (.getfield 11, 3) := by decide +kernel
theorem d_Ea_settle_12 : decode b_Ea_settle 12 = .ok (.iload_n 3, 1) := by decide +kernel
theorem d_Ea_settle_13 : decode b_Ea_settle 13 = .ok (.aaload, 1) := by decide +kernel
theorem d_Ea_settle_14 : decode b_Ea_settle 14 = .ok (.ifnull 13, 3) := by decide +kernel
theorem d_Ea_settle_17 : decode b_Ea_settle 17 = .ok (.aload_n 0, 1) := by decide +kernel
theorem d_Ea_settle_18 : decode b_Ea_settle 18 = .ok (.getfield 11, 3) := by decide +kernel
theorem d_Ea_settle_21 : decode b_Ea_settle 21 = .ok (.iload_n 3, 1) := by decide +kernel
theorem d_Ea_settle_22 : decode b_Ea_settle 22 = .ok (.aaload, 1) := by decide +kernel
theorem d_Ea_settle_23 : decode b_Ea_settle 23 = .ok (.dload_n 1, 1) := by decide +kernel
theorem d_Ea_settle_24 : decode b_Ea_settle 24 = .ok (.invokevirtual 256, 3) := by decide +kernel
theorem d_Ea_settle_27 : decode b_Ea_settle 27 = .ok (.iinc 3 1, 3) := by decide +kernel
theorem d_Ea_settle_30 : decode b_Ea_settle 30 = .ok (.goto (-28), 3) := by decide +kernel
theorem d_Ea_settle_33 : decode b_Ea_settle 33 = .ok (.return_, 1) := by decide +kernel
theorem d_Ea_rounded_0 : decode b_Ea_rounded 0 = .ok (.dload_n 0, 1) := by decide +kernel
theorem d_Ea_rounded_1 : decode b_Ea_rounded 1 = .ok (.ldc2_w 259, 3) := by decide +kernel
theorem d_Ea_rounded_4 : decode b_Ea_rounded 4 = .ok (.dmul, 1) := by decide +kernel
theorem d_Ea_rounded_5 : decode b_Ea_rounded 5 = .ok (.invokestatic 261, 3) := by decide +kernel
theorem d_Ea_rounded_8 : decode b_Ea_rounded 8 = .ok (.ldc2_w 259, 3) := by decide +kernel
theorem d_Ea_rounded_11 : decode b_Ea_rounded 11 = .ok (.ddiv, 1) := by decide +kernel
theorem d_Ea_rounded_12 : decode b_Ea_rounded 12 = .ok (.dreturn, 1) := by decide +kernel
theorem d_Ea_floorOf_0 : decode b_Ea_floorOf 0 = .ok (.dload_n 0, 1) := by decide +kernel
theorem d_Ea_floorOf_1 : decode b_Ea_floorOf 1 = .ok (.d2l, 1) := by decide +kernel
theorem d_Ea_floorOf_2 : decode b_Ea_floorOf 2 = .ok (.l2d, 1) := by decide +kernel
theorem d_Ea_floorOf_3 : decode b_Ea_floorOf 3 = .ok (.dstore_n 2, 1) := by decide +kernel
theorem d_Ea_floorOf_4 : decode b_Ea_floorOf 4 = .ok (.dload_n 2, 1) := by decide +kernel
theorem d_Ea_floorOf_5 : decode b_Ea_floorOf 5 = .ok (.dload_n 0, 1) := by decide +kernel
theorem d_Ea_floorOf_6 : decode b_Ea_floorOf 6 = .ok (.dcmp .l, 1) := by decide +kernel
theorem d_Ea_floorOf_7 : decode b_Ea_floorOf 7 = .ok (.ifCond .le 9, 3) := by decide +kernel
theorem d_Ea_floorOf_10 : decode b_Ea_floorOf 10 = .ok (.dload_n 2, 1) := by decide +kernel
theorem d_Ea_floorOf_11 : decode b_Ea_floorOf 11 = .ok (.dconst 1, 1) := by decide +kernel
theorem d_Ea_floorOf_12 : decode b_Ea_floorOf 12 = .ok (.dsub, 1) := by decide +kernel
theorem d_Ea_floorOf_13 : decode b_Ea_floorOf 13 = .ok (.goto 4, 3) := by decide +kernel
theorem d_Ea_floorOf_16 : decode b_Ea_floorOf 16 = .ok (.dload_n 2, 1) := by decide +kernel
theorem d_Ea_floorOf_17 : decode b_Ea_floorOf 17 = .ok (.dreturn, 1) := by decide +kernel
theorem d_Ea_powerOfTwo_0 : decode b_Ea_powerOfTwo 0 = .ok (.dconst 1, 1) := by decide +kernel
theorem d_Ea_powerOfTwo_1 : decode b_Ea_powerOfTwo 1 = .ok (.dstore_n 1, 1) := by decide +kernel
theorem d_Ea_powerOfTwo_2 : decode b_Ea_powerOfTwo 2 = .ok (.iconst 0, 1) := by decide +kernel
theorem d_Ea_powerOfTwo_3 : decode b_Ea_powerOfTwo 3 = .ok (.istore_n 3, 1) := by decide +kernel
theorem d_Ea_powerOfTwo_4 : decode b_Ea_powerOfTwo 4 = .ok (.iload_n 3, 1) := by decide +kernel
theorem d_Ea_powerOfTwo_5 : decode b_Ea_powerOfTwo 5 = .ok (.iload_n 0, 1) := by decide +kernel
theorem d_Ea_powerOfTwo_6 : decode b_Ea_powerOfTwo 6 = .ok (.if_icmp .ge 15, 3) := by decide +kernel
theorem d_Ea_powerOfTwo_9 : decode b_Ea_powerOfTwo 9 = .ok (.dload_n 1, 1) := by decide +kernel
theorem d_Ea_powerOfTwo_10 : decode b_Ea_powerOfTwo 10 = .ok (.ldc2_w 244, 3) := by decide +kernel
theorem d_Ea_powerOfTwo_13 : decode b_Ea_powerOfTwo 13 = .ok (.dmul, 1) := by decide +kernel
theorem d_Ea_powerOfTwo_14 : decode b_Ea_powerOfTwo 14 = .ok (.dstore_n 1, 1) := by decide +kernel
theorem d_Ea_powerOfTwo_15 : decode b_Ea_powerOfTwo 15 = .ok (.iinc 3 1, 3) := by decide +kernel
theorem d_Ea_powerOfTwo_18 : decode b_Ea_powerOfTwo 18 = .ok (.goto (-14), 3) := by decide +kernel
theorem d_Ea_powerOfTwo_21 : decode b_Ea_powerOfTwo 21 = .ok (.iconst 0, 1) := by decide +kernel
theorem d_Ea_powerOfTwo_22 : decode b_Ea_powerOfTwo 22 = .ok (.istore_n 3, 1) := by decide +kernel
theorem d_Ea_powerOfTwo_23 : decode b_Ea_powerOfTwo 23 = .ok (.iload_n 3, 1) := by decide +kernel
theorem d_Ea_powerOfTwo_24 : decode b_Ea_powerOfTwo 24 = .ok (.iload_n 0, 1) := by decide +kernel
theorem d_Ea_powerOfTwo_25 : decode b_Ea_powerOfTwo 25 = .ok (.if_icmp .le 15, 3) := by decide +kernel
theorem d_Ea_powerOfTwo_28 : decode b_Ea_powerOfTwo 28 = .ok (.dload_n 1, 1) := by decide +kernel
theorem d_Ea_powerOfTwo_29 : decode b_Ea_powerOfTwo 29 = .ok (.ldc2_w 145, 3) := by decide +kernel
theorem d_Ea_powerOfTwo_32 : decode b_Ea_powerOfTwo 32 = .ok (.dmul, 1) := by decide +kernel
theorem d_Ea_powerOfTwo_33 : decode b_Ea_powerOfTwo 33 = .ok (.dstore_n 1, 1) := by decide +kernel
theorem d_Ea_powerOfTwo_34 : decode b_Ea_powerOfTwo 34 = .ok (.iinc 3 (-1), 3) := by decide +kernel
theorem d_Ea_powerOfTwo_37 : decode b_Ea_powerOfTwo 37 = .ok (.goto (-14), 3) := by decide +kernel
theorem d_Ea_powerOfTwo_40 : decode b_Ea_powerOfTwo 40 = .ok (.dload_n 1, 1) := by decide +kernel
theorem d_Ea_powerOfTwo_41 : decode b_Ea_powerOfTwo 41 = .ok (.dreturn, 1) := by decide +kernel
theorem d_Ea_cell_0 : decode b_Ea_cell 0 = .ok (.iload_n 1, 1) := by decide +kernel
theorem d_Ea_cell_1 : decode b_Ea_cell 1 = .ok (.iconst 0, 1) := by decide +kernel
theorem d_Ea_cell_2 : decode b_Ea_cell 2 = .ok (.bipush 15, 2) := by decide +kernel
theorem d_Ea_cell_4 : decode b_Ea_cell 4 = .ok (.invokestatic 30, 3) := by decide +kernel
theorem d_Ea_cell_7 : decode b_Ea_cell 7 = .ok (.iload_n 2, 1) := by decide +kernel
theorem d_Ea_cell_8 : decode b_Ea_cell 8 = .ok (.iconst 0, 1) := by decide +kernel
theorem d_Ea_cell_9 : decode b_Ea_cell 9 = .ok (.bipush 11, 2) := by decide +kernel
theorem d_Ea_cell_11 : decode b_Ea_cell 11 = .ok (.invokestatic 30, 3) := by decide +kernel
theorem d_Ea_cell_14 : decode b_Ea_cell 14 = .ok (.aload_n 0, 1) := by decide +kernel
theorem d_Ea_cell_15 : decode b_Ea_cell 15 = .ok (.getfield 15, 3) := by decide +kernel
theorem d_Ea_cell_18 : decode b_Ea_cell 18 = .ok (.iload_n 2, 1) := by decide +kernel
theorem d_Ea_cell_19 : decode b_Ea_cell 19 = .ok (.bipush 16, 2) := by decide +kernel
theorem d_Ea_cell_21 : decode b_Ea_cell 21 = .ok (.imul, 1) := by decide +kernel
theorem d_Ea_cell_22 : decode b_Ea_cell 22 = .ok (.iload_n 1, 1) := by decide +kernel
theorem d_Ea_cell_23 : decode b_Ea_cell 23 = .ok (.iadd, 1) := by decide +kernel
theorem d_Ea_cell_24 : decode b_Ea_cell 24 = .ok (.iaload, 1) := by decide +kernel
theorem d_Ea_cell_25 : decode b_Ea_cell 25 = .ok (.ireturn, 1) := by decide +kernel
theorem d_Ea_top_0 : decode b_Ea_top 0 = .ok (.dload_n 1, 1) := by decide +kernel
theorem d_Ea_top_1 : decode b_Ea_top 1 = .ok (.ldc2_w 157, 3) := by decide +kernel
theorem d_Ea_top_4 : decode b_Ea_top 4 = .ok (.ldc2_w 159, 3) := by decide +kernel
theorem d_Ea_top_7 : decode b_Ea_top 7 = .ok (.invokestatic 88, 3) := by decide +kernel
theorem d_Ea_top_10 : decode b_Ea_top 10 = .ok (.dload_n 3, 1) := by decide +kernel
theorem d_Ea_top_11 : decode b_Ea_top 11 = .ok (.ldc2_w 157, 3) := by decide +kernel
theorem d_Ea_top_14 : decode b_Ea_top 14 = .ok (.ldc2_w 159, 3) := by decide +kernel
theorem d_Ea_top_17 : decode b_Ea_top 17 = .ok (.invokestatic 88, 3) := by decide +kernel
theorem d_Ea_top_20 : decode b_Ea_top 20 = .ok (.dload 5, 2) := by decide +kernel
theorem d_Ea_top_22 : decode b_Ea_top 22 = .ok (.invokestatic 102, 3) := by decide +kernel
theorem d_Ea_top_25 : decode b_Ea_top 25 = .ok (.aload_n 0, 1) := by decide +kernel
theorem d_Ea_top_26 : decode b_Ea_top 26 = .ok (.dload 5, 2) := by decide +kernel
theorem d_Ea_top_28 : decode b_Ea_top 28 = .ok (.invokevirtual 142, 3) := by decide +kernel
theorem d_Ea_top_31 : decode b_Ea_top 31 = .ok (.aload_n 0, 1) := by decide +kernel
theorem d_Ea_top_32 : decode b_Ea_top 32 = .ok (.getfield 22, 3) := by decide +kernel
theorem d_Ea_top_35 : decode b_Ea_top 35 = .ok (.dload_n 1, 1) := by decide +kernel
theorem d_Ea_top_36 : decode b_Ea_top 36 = .ok (.dload_n 3, 1) := by decide +kernel
theorem d_Ea_top_37 : decode b_Ea_top 37 = .ok (.invokevirtual 147, 3) := by decide +kernel
theorem d_Ea_top_40 : decode b_Ea_top 40 = .ok (.astore 7, 2) := by decide +kernel
theorem d_Ea_top_42 : decode b_Ea_top 42 = .ok (.aload 7, 2) := by decide +kernel
theorem d_Ea_top_44 : decode b_Ea_top 44 = .ok (.ifnonnull 13, 3) := by decide +kernel
theorem d_Ea_top_47 : decode b_Ea_top 47 = .ok (.new 124, 3) := by decide +kernel
theorem d_Ea_top_50 : decode b_Ea_top 50 = .ok (.dup, 1) := by decide +kernel
theorem d_Ea_top_51 : decode b_Ea_top 51 = .ok (.ldc 161, 2) := by decide +kernel
theorem d_Ea_top_53 : decode b_Ea_top 53 = .ok (.invokespecial 128, 3) := by decide +kernel
theorem d_Ea_top_56 : decode b_Ea_top 56 = .ok (.athrow, 1) := by decide +kernel
theorem d_Ea_top_57 : decode b_Ea_top 57 = .ok (.aload 7, 2) := by decide +kernel
theorem d_Ea_top_59 : decode b_Ea_top 59 = .ok (.getfield 163, 3) := by decide +kernel
theorem d_Ea_top_62 : decode b_Ea_top 62 = .ok (.ireturn, 1) := by decide +kernel
theorem d_Ea_around_0 : decode b_Ea_around 0 = .ok (.aload_n 0, 1) := by decide +kernel
theorem d_Ea_around_1 : decode b_Ea_around 1 = .ok (.iload_n 1, 1) := by decide +kernel
theorem d_Ea_around_2 : decode b_Ea_around 2 = .ok (.invokevirtual 166, 3) := by decide +kernel
theorem d_Ea_around_5 : decode b_Ea_around 5 = .ok (.astore 5, 2) := by decide +kernel
theorem d_Ea_around_7 : decode b_Ea_around 7 = .ok (.iload_n 2, 1) := by decide +kernel
theorem d_Ea_around_8 : decode b_Ea_around 8 = .ok (.iconst 0, 1) := by decide +kernel
theorem d_Ea_around_9 : decode b_Ea_around 9 = .ok (.iconst 3, 1) := by decide +kernel
theorem d_Ea_around_10 : decode b_Ea_around 10 = .ok (.invokestatic 30, 3) := by decide +kernel
theorem d_Ea_around_13 : decode b_Ea_around 13 = .ok (.dload_n 3, 1) := by decide +kernel
theorem d_Ea_around_14 : decode b_Ea_around 14 = .ok (.invokestatic 102, 3) := by decide +kernel
theorem d_Ea_around_17 : decode b_Ea_around 17 = .ok (.aload_n 0, 1) := by decide +kernel
theorem d_Ea_around_18 : decode b_Ea_around 18 = .ok (.dload_n 3, 1) := by decide +kernel
theorem d_Ea_around_19 : decode b_Ea_around 19 = .ok (.invokevirtual 142, 3) := by decide +kernel
theorem d_Ea_around_22 : decode b_Ea_around 22 = .ok (.aload 5, 2) := by decide +kernel
theorem d_Ea_around_24 : decode b_Ea_around 24 = .ok (.aload_n 0, 1) := by decide +kernel
theorem d_Ea_around_25 : decode b_Ea_around 25 = .ok (.getfield 22, 3) := by decide +kernel
theorem d_Ea_around_28 : decode b_Ea_around 28 = .ok (.if_acmp .ne 11, 3) := by decide +kernel
theorem d_Ea_around_31 : decode b_Ea_around 31 = .ok (.aload 5, 2) := by decide +kernel
theorem d_Ea_around_33 : decode b_Ea_around 33 = .ok (.invokevirtual 169, 3) := by decide +kernel
theorem d_Ea_around_36 : decode b_Ea_around 36 = .ok (.goto 8, 3) := by decide +kernel
theorem d_Ea_around_39 : decode b_Ea_around 39 = .ok (.aload 5, 2) := by decide +kernel
theorem d_Ea_around_41 : decode b_Ea_around 41 = .ok (.invokevirtual 172, 3) := by decide +kernel
theorem d_Ea_around_44 : decode b_Ea_around 44 = .ok (.aload 5, 2) := by decide +kernel
theorem d_Ea_around_46 : decode b_Ea_around 46 = .ok (.getfield 175, 3) := by decide +kernel
theorem d_Ea_around_49 : decode b_Ea_around 49 = .ok (.getfield 179, 3) := by decide +kernel
theorem d_Ea_around_52 : decode b_Ea_around 52 = .ok (.ifCond .eq 13, 3) := by decide +kernel
theorem d_Ea_around_55 : decode b_Ea_around 55 = .ok (.new 124, 3) := by decide +kernel
theorem d_Ea_around_58 : decode b_Ea_around 58 = .ok (.dup, 1) := by decide +kernel
theorem d_Ea_around_59 : decode b_Ea_around 59 = .ok (.ldc 184, 2) := by decide +kernel
theorem d_Ea_around_61 : decode b_Ea_around 61 = .ok (.invokespecial 128, 3) := by decide +kernel
theorem d_Ea_around_64 : decode b_Ea_around 64 = .ok (.athrow, 1) := by decide +kernel
theorem d_Ea_around_65 : decode b_Ea_around 65 = .ok (.aload 5, 2) := by decide +kernel
theorem d_Ea_around_67 : decode b_Ea_around 67 = .ok (.getfield 175, 3) := by decide +kernel
theorem d_Ea_around_70 : decode b_Ea_around 70 = .ok (.iload_n 2, 1) := by decide +kernel
theorem d_Ea_around_71 : decode b_Ea_around 71 = .ok (.invokevirtual 186, 3) := by decide +kernel
theorem d_Ea_around_74 : decode b_Ea_around 74 = .ok (.dreturn, 1) := by decide +kernel
theorem d_Ea_told_0 : decode b_Ea_told 0 = .ok (.aload_n 0, 1) := by decide +kernel
theorem d_Ea_told_1 : decode b_Ea_told 1 = .ok (.iload_n 1, 1) := by decide +kernel
theorem d_Ea_told_2 : decode b_Ea_told 2 = .ok (.invokevirtual 166, 3) := by decide +kernel
theorem d_Ea_told_5 : decode b_Ea_told 5 = .ok (.astore_n 3, 1) := by decide +kernel
theorem d_Ea_told_6 : decode b_Ea_told 6 = .ok (.iload_n 2, 1) := by decide +kernel
theorem d_Ea_told_7 : decode b_Ea_told 7 = .ok (.iconst 0, 1) := by decide +kernel
theorem d_Ea_told_8 : decode b_Ea_told 8 = .ok (.iconst 4, 1) := by decide +kernel
theorem d_Ea_told_9 : decode b_Ea_told 9 = .ok (.invokestatic 30, 3) := by decide +kernel
theorem d_Ea_told_12 : decode b_Ea_told 12 = .ok (.iload_n 2, 1) := by decide +kernel
theorem d_Ea_told_13 : decode b_Ea_told 13 = .ok (.tableswitch 68 0 3 #[31, 36, 55, 63], 31) := by decide +kernel
theorem d_Ea_told_44 : decode b_Ea_told 44 = .ok (.aload_n 3, 1) := by decide +kernel
theorem d_Ea_told_45 : decode b_Ea_told 45 = .ok (.getfield 190, 3) := by decide +kernel
theorem d_Ea_told_48 : decode b_Ea_told 48 = .ok (.ireturn, 1) := by decide +kernel
theorem d_Ea_told_49 : decode b_Ea_told 49 = .ok (.aload_n 3, 1) := by decide +kernel
theorem d_Ea_told_50 : decode b_Ea_told 50 = .ok (.getfield 193, 3) := by decide +kernel
theorem d_Ea_told_53 : decode b_Ea_told 53 = .ok (.ifnonnull 7, 3) := by decide +kernel
theorem d_Ea_told_56 : decode b_Ea_told 56 = .ok (.iconst (-1), 1) := by decide +kernel
theorem d_Ea_told_57 : decode b_Ea_told 57 = .ok (.goto 10, 3) := by decide +kernel
theorem d_Ea_told_60 : decode b_Ea_told 60 = .ok (.aload_n 3, 1) := by decide +kernel
theorem d_Ea_told_61 : decode b_Ea_told 61 = .ok (.getfield 193, 3) := by decide +kernel
theorem d_Ea_told_64 : decode b_Ea_told 64 = .ok (.getfield 163, 3) := by decide +kernel
theorem d_Ea_told_67 : decode b_Ea_told 67 = .ok (.ireturn, 1) := by decide +kernel
theorem d_Ea_told_68 : decode b_Ea_told 68 = .ok (.aload_n 3, 1) := by decide +kernel
theorem d_Ea_told_69 : decode b_Ea_told 69 = .ok (.getfield 196, 3) := by decide +kernel
theorem d_Ea_told_72 : decode b_Ea_told 72 = .ok (.invokevirtual 200, 3) := by decide +kernel
theorem d_Ea_told_75 : decode b_Ea_told 75 = .ok (.ireturn, 1) := by decide +kernel
theorem d_Ea_told_76 : decode b_Ea_told 76 = .ok (.aload_n 3, 1) := by decide +kernel
theorem d_Ea_told_77 : decode b_Ea_told 77 = .ok (.invokevirtual 204, 3) := by decide +kernel
theorem d_Ea_told_80 : decode b_Ea_told 80 = .ok (.ireturn, 1) := by decide +kernel
theorem d_Ea_told_81 : decode b_Ea_told 81 = .ok (.aload_n 3, 1) := by decide +kernel
theorem d_Ea_told_82 : decode b_Ea_told 82 = .ok (.invokevirtual 207, 3) := by decide +kernel
theorem d_Ea_told_85 : decode b_Ea_told 85 = .ok (.ireturn, 1) := by decide +kernel
end
section
/-! decode rows, by program -/
theorem d_Mo_init_0 : decode b_Mo_init 0 = .ok (.aload_n 0, 1) := by decide +kernel
theorem d_Mo_init_1 : decode b_Mo_init 1 = .ok (.invokespecial 1, 3) := by decide +kernel
theorem d_Mo_init_4 : decode b_Mo_init 4 = .ok (.aload_n 0, 1) := by decide +kernel
theorem d_Mo_init_5 : decode b_Mo_init 5 = .ok (.bipush 14, 2) := by decide +kernel
theorem d_Mo_init_7 : decode b_Mo_init 7 = .ok (.newarray .boolean, 2) := by decide +kernel
theorem d_Mo_init_9 : decode b_Mo_init 9 = .ok (.putfield 7, 3) := by decide +kernel
theorem d_Mo_init_12 : decode b_Mo_init 12 = .ok (.aload_n 0, 1) := by decide +kernel
theorem d_Mo_init_13 : decode b_Mo_init 13 = .ok (.bipush 14, 2) := by decide +kernel
theorem d_Mo_init_15 : decode b_Mo_init 15 = .ok (.newarray .boolean, 2) := by decide +kernel
theorem d_Mo_init_17 : decode b_Mo_init 17 = .ok (.putfield 13, 3) := by decide +kernel
theorem d_Mo_init_20 : decode b_Mo_init 20 = .ok (.aload_n 0, 1) := by decide +kernel
theorem d_Mo_init_21 : decode b_Mo_init 21 = .ok (.bipush 14, 2) := by decide +kernel
theorem d_Mo_init_23 : decode b_Mo_init 23 = .ok (.newarray .boolean, 2) := by decide +kernel
theorem d_Mo_init_25 : decode b_Mo_init 25 = .ok (.putfield 16, 3) := by decide +kernel
theorem d_Mo_init_28 : decode b_Mo_init 28 = .ok (.aload_n 0, 1) := by decide +kernel
theorem d_Mo_init_29 : decode b_Mo_init 29 = .ok (.bipush 14, 2) := by decide +kernel
theorem d_Mo_init_31 : decode b_Mo_init 31 = .ok (.newarray .boolean, 2) := by decide +kernel
theorem d_Mo_init_33 : decode b_Mo_init 33 = .ok (.putfield 19, 3) := by decide +kernel
theorem d_Mo_init_36 : decode b_Mo_init 36 = .ok (.aload_n 0, 1) := by decide +kernel
theorem d_Mo_init_37 : decode b_Mo_init 37 = .ok (.bipush 14, 2) := by decide +kernel
theorem d_Mo_init_39 : decode b_Mo_init 39 = .ok (.newarray .int, 2) := by decide +kernel
theorem d_Mo_init_41 : decode b_Mo_init 41 = .ok (.putfield 22, 3) := by decide +kernel
theorem d_Mo_init_44 : decode b_Mo_init 44 = .ok (.aload_n 0, 1) := by decide +kernel
theorem d_Mo_init_45 : decode b_Mo_init 45 = .ok (.bipush 14, 2) := by decide +kernel
theorem d_Mo_init_47 : decode b_Mo_init 47 = .ok (.newarray .int, 2) := by decide +kernel
theorem d_Mo_init_49 : decode b_Mo_init 49 = .ok (.putfield 26, 3) := by decide +kernel
theorem d_Mo_init_52 : decode b_Mo_init 52 = .ok (.aload_n 0, 1) := by decide +kernel
theorem d_Mo_init_53 : decode b_Mo_init 53 = .ok (.bipush 14, 2) := by decide +kernel
theorem d_Mo_init_55 : decode b_Mo_init 55 = .ok (.newarray .int, 2) := by decide +kernel
theorem d_Mo_init_57 : decode b_Mo_init 57 = .ok (.putfield 29, 3) := by decide +kernel
theorem d_Mo_init_60 : decode b_Mo_init 60 = .ok (.aload_n 0, 1) := by decide +kernel
theorem d_Mo_init_61 : decode b_Mo_init 61 = .ok (.bipush 14, 2) := by decide +kernel
theorem d_Mo_init_63 : decode b_Mo_init 63 = .ok (.newarray .int, 2) := by decide +kernel
theorem d_Mo_init_65 : decode b_Mo_init 65 = .ok (.putfield 32, 3) := by decide +kernel
theorem d_Mo_init_68 : decode b_Mo_init 68 = .ok (.aload_n 0, 1) := by decide +kernel
theorem d_Mo_init_69 : decode b_Mo_init 69 = .ok (.sipush 196, 3) := by decide +kernel
theorem d_Mo_init_72 : decode b_Mo_init 72 = .ok (.newarray .int, 2) := by decide +kernel
theorem d_Mo_init_74 : decode b_Mo_init 74 = .ok (.putfield 35, 3) := by decide +kernel
theorem d_Mo_init_77 : decode b_Mo_init 77 = .ok (.aload_n 0, 1) := by decide +kernel
theorem d_Mo_init_78 : decode b_Mo_init 78 = .ok (.bipush 14, 2) := by decide +kernel
theorem d_Mo_init_80 : decode b_Mo_init 80 = .ok (.newarray .int, 2) := by decide +kernel
theorem d_Mo_init_82 : decode b_Mo_init 82 = .ok (.putfield 38, 3) := by decide +kernel
theorem d_Mo_init_85 : decode b_Mo_init 85 = .ok (.aload_n 0, 1) := by decide +kernel
theorem d_Mo_init_86 : decode b_Mo_init 86 = .ok (.bipush 56, 2) := by decide +kernel
theorem d_Mo_init_88 : decode b_Mo_init 88 = .ok (.newarray .int, 2) := by decide +kernel
theorem d_Mo_init_90 : decode b_Mo_init 90 = .ok (.putfield 41, 3) := by decide +kernel
theorem d_Mo_init_93 : decode b_Mo_init 93 = .ok (.aload_n 0, 1) := by decide +kernel
theorem d_Mo_init_94 : decode b_Mo_init 94 = .ok (.bipush 14, 2) := by decide +kernel
theorem d_Mo_init_96 : decode b_Mo_init 96 = .ok (.newarray .int, 2) := by decide +kernel
theorem d_Mo_init_98 : decode b_Mo_init 98 = .ok (.putfield 44, 3) := by decide +kernel
theorem d_Mo_init_101 : decode b_Mo_init 101 = .ok (.aload_n 0, 1) := by decide +kernel
theorem d_Mo_init_102 : decode b_Mo_init 102 = .ok (.bipush 14, 2) := by decide +kernel
theorem d_Mo_init_104 : decode b_Mo_init 104 = .ok (.newarray .int, 2) := by decide +kernel
theorem d_Mo_init_106 : decode b_Mo_init 106 = .ok (.putfield 47, 3) := by decide +kernel
theorem d_Mo_init_109 : decode b_Mo_init 109 = .ok (.aload_n 0, 1) := by decide +kernel
theorem d_Mo_init_110 : decode b_Mo_init 110 = .ok (.bipush 14, 2) := by decide +kernel
theorem d_Mo_init_112 : decode b_Mo_init 112 = .ok (.newarray .int, 2) := by decide +kernel
theorem d_Mo_init_114 : decode b_Mo_init 114 = .ok (.putfield 50, 3) := by decide +kernel
theorem d_Mo_init_117 : decode b_Mo_init 117 = .ok (.aload_n 0, 1) := by decide +kernel
theorem d_Mo_init_118 : decode b_Mo_init 118 = .ok (.bipush 14, 2) := by decide +kernel
theorem d_Mo_init_120 : decode b_Mo_init 120 = .ok (.newarray .double, 2) := by decide +kernel
theorem d_Mo_init_122 : decode b_Mo_init 122 = .ok (.putfield 53, 3) := by decide +kernel
theorem d_Mo_init_125 : decode b_Mo_init 125 = .ok (.aload_n 0, 1) := by decide +kernel
theorem d_Mo_init_126 : decode b_Mo_init 126 = .ok (.bipush 14, 2) := by decide +kernel
theorem d_Mo_init_128 : decode b_Mo_init 128 = .ok (.newarray .double, 2) := by decide +kernel
theorem d_Mo_init_130 : decode b_Mo_init 130 = .ok (.putfield 57, 3) := by decide +kernel
theorem d_Mo_init_133 : decode b_Mo_init 133 = .ok (.aload_n 0, 1) := by decide +kernel
theorem d_Mo_init_134 : decode b_Mo_init 134 = .ok (.bipush 14, 2) := by decide +kernel
theorem d_Mo_init_136 : decode b_Mo_init 136 = .ok (.newarray .double, 2) := by decide +kernel
theorem d_Mo_init_138 : decode b_Mo_init 138 = .ok (.putfield 60, 3) := by decide +kernel
theorem d_Mo_init_141 : decode b_Mo_init 141 = .ok (.aload_n 0, 1) := by decide +kernel
theorem d_Mo_init_142 : decode b_Mo_init 142 = .ok (.bipush 56, 2) := by decide +kernel
theorem d_Mo_init_144 : decode b_Mo_init 144 = .ok (.newarray .double, 2) := by decide +kernel
theorem d_Mo_init_146 : decode b_Mo_init 146 = .ok (.putfield 63, 3) := by decide +kernel
theorem d_Mo_init_149 : decode b_Mo_init 149 = .ok (.aload_n 0, 1) := by decide +kernel
theorem d_Mo_init_150 : decode b_Mo_init 150 = .ok (.sipush 224, 3) := by decide +kernel
theorem d_Mo_init_153 : decode b_Mo_init 153 = .ok (.newarray .double, 2) := by decide +kernel
theorem d_Mo_init_155 : decode b_Mo_init 155 = .ok (.putfield 66, 3) := by decide +kernel
theorem d_Mo_init_158 : decode b_Mo_init 158 = .ok (.aload_n 0, 1) := by decide +kernel
theorem d_Mo_init_159 : decode b_Mo_init 159 = .ok (.sipush 224, 3) := by decide +kernel
theorem d_Mo_init_162 : decode b_Mo_init 162 = .ok (.newarray .double, 2) := by decide +kernel
theorem d_Mo_init_164 : decode b_Mo_init 164 = .ok (.putfield 69, 3) := by decide +kernel
theorem d_Mo_init_167 : decode b_Mo_init 167 = .ok (.aload_n 0, 1) := by decide +kernel
theorem d_Mo_init_168 : decode b_Mo_init 168 = .ok (.bipush 14, 2) := by decide +kernel
theorem d_Mo_init_170 : decode b_Mo_init 170 = .ok (.newarray .double, 2) := by decide +kernel
theorem d_Mo_init_172 : decode b_Mo_init 172 = .ok (.putfield 72, 3) := by decide +kernel
theorem d_Mo_init_175 : decode b_Mo_init 175 = .ok (.aload_n 0, 1) := by decide +kernel
theorem d_Mo_init_176 : decode b_Mo_init 176 = .ok (.bipush 14, 2) := by decide +kernel
theorem d_Mo_init_178 : decode b_Mo_init 178 = .ok (.newarray .double, 2) := by decide +kernel
theorem d_Mo_init_180 : decode b_Mo_init 180 = .ok (.putfield 75, 3) := by decide +kernel
theorem d_Mo_init_183 : decode b_Mo_init 183 = .ok (.aload_n 0, 1) := by decide +kernel
theorem d_Mo_init_184 : decode b_Mo_init 184 = .ok (.bipush 28, 2) := by decide +kernel
theorem d_Mo_init_186 : decode b_Mo_init 186 = .ok (.newarray .double, 2) := by decide +kernel
theorem d_Mo_init_188 : decode b_Mo_init 188 = .ok (.putfield 78, 3) := by decide +kernel
theorem d_Mo_init_191 : decode b_Mo_init 191 = .ok (.aload_n 0, 1) := by decide +kernel
theorem d_Mo_init_192 : decode b_Mo_init 192 = .ok (.bipush 28, 2) := by decide +kernel
theorem d_Mo_init_194 : decode b_Mo_init 194 = .ok (.newarray .double, 2) := by decide +kernel
theorem d_Mo_init_196 : decode b_Mo_init 196 = .ok (.putfield 81, 3) := by decide +kernel
theorem d_Mo_init_199 : decode b_Mo_init 199 = .ok (.aload_n 0, 1) := by decide +kernel
theorem d_Mo_init_200 : decode b_Mo_init 200 = .ok (.sipush 192, 3) := by decide +kernel
theorem d_Mo_init_203 : decode b_Mo_init 203 = .ok (.newarray .int, 2) := by decide +kernel
theorem d_Mo_init_205 : decode b_Mo_init 205 = .ok (.putfield 84, 3) := by decide +kernel
theorem d_Mo_init_208 : decode b_Mo_init 208 = .ok (.aload_n 0, 1) := by decide +kernel
theorem d_Mo_init_209 : decode b_Mo_init 209 = .ok (.getfield 7, 3) := by decide +kernel
theorem d_Mo_init_212 : decode b_Mo_init 212 = .ok (.iconst 0, 1) := by decide +kernel
theorem d_Mo_init_213 : decode b_Mo_init 213 = .ok (.iconst 1, 1) := by decide +kernel
theorem d_Mo_init_214 : decode b_Mo_init 214 = .ok (.bastore, 1) := by decide +kernel
theorem d_Mo_init_215 : decode b_Mo_init 215 = .ok (.aload_n 0, 1) := by decide +kernel
theorem d_Mo_init_216 : decode b_Mo_init 216 = .ok (.getfield 29, 3) := by decide +kernel
theorem d_Mo_init_219 : decode b_Mo_init 219 = .ok (.iconst 0, 1) := by decide +kernel
theorem d_Mo_init_220 : decode b_Mo_init 220 = .ok (.iconst (-1), 1) := by decide +kernel
theorem d_Mo_init_221 : decode b_Mo_init 221 = .ok (.iastore, 1) := by decide +kernel
theorem d_Mo_init_222 : decode b_Mo_init 222 = .ok (.aload_n 0, 1) := by decide +kernel
theorem d_Mo_init_223 : decode b_Mo_init 223 = .ok (.getfield 53, 3) := by decide +kernel
theorem d_Mo_init_226 : decode b_Mo_init 226 = .ok (.iconst 0, 1) := by decide +kernel
theorem d_Mo_init_227 : decode b_Mo_init 227 = .ok (.dconst 1, 1) := by decide +kernel
theorem d_Mo_init_228 : decode b_Mo_init 228 = .ok (.dastore, 1) := by decide +kernel
theorem d_Mo_init_229 : decode b_Mo_init 229 = .ok (.aload_n 0, 1) := by decide +kernel
theorem d_Mo_init_230 : decode b_Mo_init 230 = .ok (.invokevirtual 87, 3) := by decide +kernel
theorem d_Mo_init_233 : decode b_Mo_init 233 = .ok (.return_, 1) := by decide +kernel
theorem d_Mo_sortNodes_0 : decode b_Mo_sortNodes 0 = .ok (.aload_n 0, 1) := by decide +kernel
theorem d_Mo_sortNodes_1 : decode b_Mo_sortNodes 1 = .ok (.iconst 1, 1) := by decide +kernel
theorem d_Mo_sortNodes_2 : decode b_Mo_sortNodes 2 = .ok (.putfield 98, 3) := by decide +kernel
theorem d_Mo_sortNodes_5 : decode b_Mo_sortNodes 5 = .ok (.aload_n 0, 1) := by decide +kernel
theorem d_Mo_sortNodes_6 : decode b_Mo_sortNodes 6 = .ok (.getfield 44, 3) := by decide +kernel
theorem d_Mo_sortNodes_9 : decode b_Mo_sortNodes 9 = .ok (.iconst 0, 1) := by decide +kernel
theorem d_Mo_sortNodes_10 : decode b_Mo_sortNodes 10 = .ok (.iconst 0, 1) := by decide +kernel
theorem d_Mo_sortNodes_11 : decode b_Mo_sortNodes 11 = .ok (.iastore, 1) := by decide +kernel
theorem d_Mo_sortNodes_12 : decode b_Mo_sortNodes 12 = .ok (.aload_n 0, 1) := by decide +kernel
theorem d_Mo_sortNodes_13 : decode b_Mo_sortNodes 13 = .ok (.getfield 50, 3) := by decide +kernel
theorem d_Mo_sortNodes_16 : decode b_Mo_sortNodes 16 = .ok (.iconst 0, 1) := by decide +kernel
theorem d_Mo_sortNodes_17 : decode b_Mo_sortNodes 17 = .ok (.iconst 0, 1) := by decide +kernel
theorem d_Mo_sortNodes_18 : decode b_Mo_sortNodes 18 = .ok (.iastore, 1) := by decide +kernel
theorem d_Mo_sortNodes_19 : decode b_Mo_sortNodes 19 = .ok (.iconst 0, 1) := by decide +kernel
theorem d_Mo_sortNodes_20 : decode b_Mo_sortNodes 20 = .ok (.istore_n 1, 1) := by decide +kernel
theorem d_Mo_sortNodes_21 : decode b_Mo_sortNodes 21 = .ok (.iload_n 1, 1) := by decide +kernel
theorem d_Mo_sortNodes_22 : decode b_Mo_sortNodes 22 = .ok (.aload_n 0, 1) := by decide +kernel
theorem d_Mo_sortNodes_23 : decode b_Mo_sortNodes 23 = .ok (.getfield 98, 3) := by decide +kernel
theorem d_Mo_sortNodes_26 : decode b_Mo_sortNodes 26 = .ok (.if_icmp .ge 83, 3) := by decide +kernel
theorem d_Mo_sortNodes_29 : decode b_Mo_sortNodes 29 = .ok (.aload_n 0, 1) := by decide +kernel
theorem d_Mo_sortNodes_30 : decode b_Mo_sortNodes 30 = .ok (.getfield 44, 3) := by decide +kernel
theorem d_Mo_sortNodes_33 : decode b_Mo_sortNodes 33 = .ok (.iload_n 1, 1) := by decide +kernel
theorem d_Mo_sortNodes_34 : decode b_Mo_sortNodes 34 = .ok (.iaload, 1) := by decide +kernel
theorem d_Mo_sortNodes_35 : decode b_Mo_sortNodes 35 = .ok (.istore_n 2, 1) := by decide +kernel
theorem d_Mo_sortNodes_36 : decode b_Mo_sortNodes 36 = .ok (.iconst 0, 1) := by decide +kernel
theorem d_Mo_sortNodes_37 : decode b_Mo_sortNodes 37 = .ok (.istore_n 3, 1) := by decide +kernel
theorem d_Mo_sortNodes_38 : decode b_Mo_sortNodes 38 = .ok (.iload_n 3, 1) := by decide +kernel
theorem d_Mo_sortNodes_39 : decode b_Mo_sortNodes 39 = .ok (.aload_n 0, 1) := by decide +kernel
theorem d_Mo_sortNodes_40 : decode b_Mo_sortNodes 40 = .ok (.getfield 32, 3) := by decide +kernel
theorem d_Mo_sortNodes_43 : decode b_Mo_sortNodes 43 = .ok (.iload_n 2, 1) := by decide +kernel
theorem d_Mo_sortNodes_44 : decode b_Mo_sortNodes 44 = .ok (.iaload, 1) := by decide +kernel
theorem d_Mo_sortNodes_45 : decode b_Mo_sortNodes 45 = .ok (.if_icmp .ge 58, 3) := by decide +kernel
theorem d_Mo_sortNodes_48 : decode b_Mo_sortNodes 48 = .ok (.aload_n 0, 1) := by decide +kernel
theorem d_Mo_sortNodes_49 : decode b_Mo_sortNodes 49 = .ok (.getfield 35, 3) := by decide +kernel
theorem d_Mo_sortNodes_52 : decode b_Mo_sortNodes 52 = .ok (.iload_n 2, 1) := by decide +kernel
theorem d_Mo_sortNodes_53 : decode b_Mo_sortNodes 53 = .ok (.bipush 14, 2) := by decide +kernel
theorem d_Mo_sortNodes_55 : decode b_Mo_sortNodes 55 = .ok (.imul, 1) := by decide +kernel
theorem d_Mo_sortNodes_56 : decode b_Mo_sortNodes 56 = .ok (.iload_n 3, 1) := by decide +kernel
theorem d_Mo_sortNodes_57 : decode b_Mo_sortNodes 57 = .ok (.iadd, 1) := by decide +kernel
theorem d_Mo_sortNodes_58 : decode b_Mo_sortNodes 58 = .ok (.iaload, 1) := by decide +kernel
theorem d_Mo_sortNodes_59 : decode b_Mo_sortNodes 59 = .ok (.istore 4, 2) := by decide +kernel
theorem d_Mo_sortNodes_61 : decode b_Mo_sortNodes 61 = .ok (.aload_n 0, 1) := by decide +kernel
theorem d_Mo_sortNodes_62 : decode b_Mo_sortNodes 62 = .ok (.getfield 44, 3) := by decide +kernel
theorem d_Mo_sortNodes_65 : decode b_Mo_sortNodes 65 = .ok (.aload_n 0, 1) := by decide +kernel
theorem d_Mo_sortNodes_66 : decode b_Mo_sortNodes 66 = .ok (.getfield 98, 3) := by decide +kernel
theorem d_Mo_sortNodes_69 : decode b_Mo_sortNodes 69 = .ok (.iload 4, 2) := by decide +kernel
theorem d_Mo_sortNodes_71 : decode b_Mo_sortNodes 71 = .ok (.iastore, 1) := by decide +kernel
theorem d_Mo_sortNodes_72 : decode b_Mo_sortNodes 72 = .ok (.aload_n 0, 1) := by decide +kernel
theorem d_Mo_sortNodes_73 : decode b_Mo_sortNodes 73 = .ok (.getfield 50, 3) := by decide +kernel
theorem d_Mo_sortNodes_76 : decode b_Mo_sortNodes 76 = .ok (.iload 4, 2) := by decide +kernel
theorem d_Mo_sortNodes_78 : decode b_Mo_sortNodes 78 = .ok (.aload_n 0, 1) := by decide +kernel
theorem d_Mo_sortNodes_79 : decode b_Mo_sortNodes 79 = .ok (.getfield 50, 3) := by decide +kernel
theorem d_Mo_sortNodes_82 : decode b_Mo_sortNodes 82 = .ok (.iload_n 2, 1) := by decide +kernel
theorem d_Mo_sortNodes_83 : decode b_Mo_sortNodes 83 = .ok (.iaload, 1) := by decide +kernel
theorem d_Mo_sortNodes_84 : decode b_Mo_sortNodes 84 = .ok (.iconst 1, 1) := by decide +kernel
theorem d_Mo_sortNodes_85 : decode b_Mo_sortNodes 85 = .ok (.iadd, 1) := by decide +kernel
theorem d_Mo_sortNodes_86 : decode b_Mo_sortNodes 86 = .ok (.iastore, 1) := by decide +kernel
theorem d_Mo_sortNodes_87 : decode b_Mo_sortNodes 87 = .ok (.aload_n 0, 1) := by decide +kernel
theorem d_Mo_sortNodes_88 : decode b_Mo_sortNodes 88 = .ok (.dup, 1) := by decide +kernel
theorem d_Mo_sortNodes_89 : decode b_Mo_sortNodes 89 = .ok (.getfield 98, 3) := by decide +kernel
theorem d_Mo_sortNodes_92 : decode b_Mo_sortNodes 92 = .ok (.iconst 1, 1) := by decide +kernel
theorem d_Mo_sortNodes_93 : decode b_Mo_sortNodes 93 = .ok (.iadd, 1) := by decide +kernel
theorem d_Mo_sortNodes_94 : decode b_Mo_sortNodes 94 = .ok (.putfield 98, 3) := by decide +kernel
theorem d_Mo_sortNodes_97 : decode b_Mo_sortNodes 97 = .ok (.iinc 3 1, 3) := by decide +kernel
theorem d_Mo_sortNodes_100 : decode b_Mo_sortNodes 100 = .ok (.goto (-62), 3) := by decide +kernel
theorem d_Mo_sortNodes_103 : decode b_Mo_sortNodes 103 = .ok (.iinc 1 1, 3) := by decide +kernel
theorem d_Mo_sortNodes_106 : decode b_Mo_sortNodes 106 = .ok (.goto (-85), 3) := by decide +kernel
theorem d_Mo_sortNodes_109 : decode b_Mo_sortNodes 109 = .ok (.return_, 1) := by decide +kernel
theorem d_Mo_thrown_0 : decode b_Mo_thrown 0 = .ok (.aload_n 0, 1) := by decide +kernel
theorem d_Mo_thrown_1 : decode b_Mo_thrown 1 = .ok (.getfield 90, 3) := by decide +kernel
theorem d_Mo_thrown_4 : decode b_Mo_thrown 4 = .ok (.ireturn, 1) := by decide +kernel
theorem d_Mo_node_0 : decode b_Mo_node 0 = .ok (.aload_n 0, 1) := by decide +kernel
theorem d_Mo_node_1 : decode b_Mo_node 1 = .ok (.aload_n 0, 1) := by decide +kernel
theorem d_Mo_node_2 : decode b_Mo_node 2 = .ok (.iload_n 1, 1) := by decide +kernel
theorem d_Mo_node_3 : decode b_Mo_node 3 = .ok (.invokevirtual 105, 3) := by decide +kernel
theorem d_Mo_node_6 : decode b_Mo_node 6 = .ok (.ifCond .eq 26, 3) := by decide +kernel
theorem d_Mo_node_9 : decode b_Mo_node 9 = .ok (.iload_n 2, 1) := by decide +kernel
theorem d_Mo_node_10 : decode b_Mo_node 10 = .ok (.ifCond .lt 22, 3) := by decide +kernel
theorem d_Mo_node_13 : decode b_Mo_node 13 = .ok (.iload_n 2, 1) := by decide +kernel
theorem d_Mo_node_14 : decode b_Mo_node 14 = .ok (.iconst 4, 1) := by decide +kernel
theorem d_Mo_node_15 : decode b_Mo_node 15 = .ok (.if_icmp .ge 17, 3) := by decide +kernel
theorem d_Mo_node_18 : decode b_Mo_node 18 = .ok (.iload_n 3, 1) := by decide +kernel
theorem d_Mo_node_19 : decode b_Mo_node 19 = .ok (.ifCond .le 13, 3) := by decide +kernel
theorem d_Mo_node_22 : decode b_Mo_node 22 = .ok (.iload_n 3, 1) := by decide +kernel
theorem d_Mo_node_23 : decode b_Mo_node 23 = .ok (.bipush 16, 2) := by decide +kernel
theorem d_Mo_node_25 : decode b_Mo_node 25 = .ok (.if_icmp .ge 7, 3) := by decide +kernel
theorem d_Mo_node_28 : decode b_Mo_node 28 = .ok (.iconst 1, 1) := by decide +kernel
theorem d_Mo_node_29 : decode b_Mo_node 29 = .ok (.goto 4, 3) := by decide +kernel
theorem d_Mo_node_32 : decode b_Mo_node 32 = .ok (.iconst 0, 1) := by decide +kernel
theorem d_Mo_node_33 : decode b_Mo_node 33 = .ok (.invokevirtual 108, 3) := by decide +kernel
theorem d_Mo_node_36 : decode b_Mo_node 36 = .ok (.ifCond .eq 5, 3) := by decide +kernel
theorem d_Mo_node_39 : decode b_Mo_node 39 = .ok (.iconst 0, 1) := by decide +kernel
theorem d_Mo_node_40 : decode b_Mo_node 40 = .ok (.ireturn, 1) := by decide +kernel
theorem d_Mo_node_41 : decode b_Mo_node 41 = .ok (.aload_n 0, 1) := by decide +kernel
theorem d_Mo_node_42 : decode b_Mo_node 42 = .ok (.getfield 98, 3) := by decide +kernel
theorem d_Mo_node_45 : decode b_Mo_node 45 = .ok (.bipush 14, 2) := by decide +kernel
theorem d_Mo_node_47 : decode b_Mo_node 47 = .ok (.if_icmp .eq 13, 3) := by decide +kernel
theorem d_Mo_node_50 : decode b_Mo_node 50 = .ok (.aload_n 0, 1) := by decide +kernel
theorem d_Mo_node_51 : decode b_Mo_node 51 = .ok (.getfield 50, 3) := by decide +kernel
theorem d_Mo_node_54 : decode b_Mo_node 54 = .ok (.iload_n 1, 1) := by decide +kernel
theorem d_Mo_node_55 : decode b_Mo_node 55 = .ok (.iaload, 1) := by decide +kernel
theorem d_Mo_node_56 : decode b_Mo_node 56 = .ok (.iconst 5, 1) := by decide +kernel
theorem d_Mo_node_57 : decode b_Mo_node 57 = .ok (.if_icmp .ne 10, 3) := by decide +kernel
theorem d_Mo_node_60 : decode b_Mo_node 60 = .ok (.aload_n 0, 1) := by decide +kernel
theorem d_Mo_node_61 : decode b_Mo_node 61 = .ok (.iconst 2, 1) := by decide +kernel
theorem d_Mo_node_62 : decode b_Mo_node 62 = .ok (.putfield 90, 3) := by decide +kernel
theorem d_Mo_node_65 : decode b_Mo_node 65 = .ok (.iconst 0, 1) := by decide +kernel
theorem d_Mo_node_66 : decode b_Mo_node 66 = .ok (.ireturn, 1) := by decide +kernel
theorem d_Mo_node_67 : decode b_Mo_node 67 = .ok (.iconst 1, 1) := by decide +kernel
theorem d_Mo_node_68 : decode b_Mo_node 68 = .ok (.istore 4, 2) := by decide +kernel
theorem d_Mo_node_70 : decode b_Mo_node 70 = .ok (.aload_n 0, 1) := by decide +kernel
theorem d_Mo_node_71 : decode b_Mo_node 71 = .ok (.getfield 7, 3) := by decide +kernel
theorem d_Mo_node_74 : decode b_Mo_node 74 = .ok (.iload 4, 2) := by decide +kernel
theorem d_Mo_node_76 : decode b_Mo_node 76 = .ok (.baload, 1) := by decide +kernel
theorem d_Mo_node_77 : decode b_Mo_node 77 = .ok (.ifCond .eq 9, 3) := by decide +kernel
theorem d_Mo_node_80 : decode b_Mo_node 80 = .ok (.iinc 4 1, 3) := by decide +kernel
theorem d_Mo_node_83 : decode b_Mo_node 83 = .ok (.goto (-13), 3) := by decide +kernel
theorem d_Mo_node_86 : decode b_Mo_node 86 = .ok (.aload_n 0, 1) := by decide +kernel
theorem d_Mo_node_87 : decode b_Mo_node 87 = .ok (.getfield 7, 3) := by decide +kernel
theorem d_Mo_node_90 : decode b_Mo_node 90 = .ok (.iload 4, 2) := by decide +kernel
theorem d_Mo_node_92 : decode b_Mo_node 92 = .ok (.iconst 1, 1) := by decide +kernel
theorem d_Mo_node_93 : decode b_Mo_node 93 = .ok (.bastore, 1) := by decide +kernel
theorem d_Mo_node_94 : decode b_Mo_node 94 = .ok (.aload_n 0, 1) := by decide +kernel
theorem d_Mo_node_95 : decode b_Mo_node 95 = .ok (.getfield 13, 3) := by decide +kernel
theorem d_Mo_node_98 : decode b_Mo_node 98 = .ok (.iload 4, 2) := by decide +kernel
theorem d_Mo_node_100 : decode b_Mo_node 100 = .ok (.iconst 0, 1) := by decide +kernel
theorem d_Mo_node_101 : decode b_Mo_node 101 = .ok (.bastore, 1) := by decide +kernel
theorem d_Mo_node_102 : decode b_Mo_node 102 = .ok (.aload_n 0, 1) := by decide +kernel
theorem d_Mo_node_103 : decode b_Mo_node 103 = .ok (.getfield 22, 3) := by decide +kernel
theorem d_Mo_node_106 : decode b_Mo_node 106 = .ok (.iload 4, 2) := by decide +kernel
theorem d_Mo_node_108 : decode b_Mo_node 108 = .ok (.iload_n 2, 1) := by decide +kernel
theorem d_Mo_node_109 : decode b_Mo_node 109 = .ok (.iastore, 1) := by decide +kernel
theorem d_Mo_node_110 : decode b_Mo_node 110 = .ok (.aload_n 0, 1) := by decide +kernel
theorem d_Mo_node_111 : decode b_Mo_node 111 = .ok (.getfield 26, 3) := by decide +kernel
theorem d_Mo_node_114 : decode b_Mo_node 114 = .ok (.iload 4, 2) := by decide +kernel
theorem d_Mo_node_116 : decode b_Mo_node 116 = .ok (.iconst 0, 1) := by decide +kernel
theorem d_Mo_node_117 : decode b_Mo_node 117 = .ok (.iastore, 1) := by decide +kernel
theorem d_Mo_node_118 : decode b_Mo_node 118 = .ok (.aload_n 0, 1) := by decide +kernel
theorem d_Mo_node_119 : decode b_Mo_node 119 = .ok (.getfield 53, 3) := by decide +kernel
theorem d_Mo_node_122 : decode b_Mo_node 122 = .ok (.iload 4, 2) := by decide +kernel
theorem d_Mo_node_124 : decode b_Mo_node 124 = .ok (.dconst 1, 1) := by decide +kernel
theorem d_Mo_node_125 : decode b_Mo_node 125 = .ok (.dastore, 1) := by decide +kernel
theorem d_Mo_node_126 : decode b_Mo_node 126 = .ok (.aload_n 0, 1) := by decide +kernel
theorem d_Mo_node_127 : decode b_Mo_node 127 = .ok (.getfield 32, 3) := by decide +kernel
theorem d_Mo_node_130 : decode b_Mo_node 130 = .ok (.iload 4, 2) := by decide +kernel
theorem d_Mo_node_132 : decode b_Mo_node 132 = .ok (.iconst 0, 1) := by decide +kernel
theorem d_Mo_node_133 : decode b_Mo_node 133 = .ok (.iastore, 1) := by decide +kernel
theorem d_Mo_node_134 : decode b_Mo_node 134 = .ok (.aload_n 0, 1) := by decide +kernel
theorem d_Mo_node_135 : decode b_Mo_node 135 = .ok (.getfield 38, 3) := by decide +kernel
theorem d_Mo_node_138 : decode b_Mo_node 138 = .ok (.iload 4, 2) := by decide +kernel
theorem d_Mo_node_140 : decode b_Mo_node 140 = .ok (.iconst 0, 1) := by decide +kernel
theorem d_Mo_node_141 : decode b_Mo_node 141 = .ok (.iastore, 1) := by decide +kernel
theorem d_Mo_node_142 : decode b_Mo_node 142 = .ok (.aload_n 0, 1) := by decide +kernel
theorem d_Mo_node_143 : decode b_Mo_node 143 = .ok (.getfield 57, 3) := by decide +kernel
theorem d_Mo_node_146 : decode b_Mo_node 146 = .ok (.iload 4, 2) := by decide +kernel
theorem d_Mo_node_148 : decode b_Mo_node 148 = .ok (.dconst 1, 1) := by decide +kernel
theorem d_Mo_node_149 : decode b_Mo_node 149 = .ok (.dastore, 1) := by decide +kernel
theorem d_Mo_node_150 : decode b_Mo_node 150 = .ok (.aload_n 0, 1) := by decide +kernel
theorem d_Mo_node_151 : decode b_Mo_node 151 = .ok (.getfield 60, 3) := by decide +kernel
theorem d_Mo_node_154 : decode b_Mo_node 154 = .ok (.iload 4, 2) := by decide +kernel
theorem d_Mo_node_156 : decode b_Mo_node 156 = .ok (.dconst 1, 1) := by decide +kernel
theorem d_Mo_node_157 : decode b_Mo_node 157 = .ok (.dastore, 1) := by decide +kernel
theorem d_Mo_node_158 : decode b_Mo_node 158 = .ok (.iconst 0, 1) := by decide +kernel
theorem d_Mo_node_159 : decode b_Mo_node 159 = .ok (.istore 5, 2) := by decide +kernel
theorem d_Mo_node_161 : decode b_Mo_node 161 = .ok (.iload 5, 2) := by decide +kernel
theorem d_Mo_node_163 : decode b_Mo_node 163 = .ok (.iconst 4, 1) := by decide +kernel
theorem d_Mo_node_164 : decode b_Mo_node 164 = .ok (.if_icmp .ge 46, 3) := by decide +kernel
theorem d_Mo_node_167 : decode b_Mo_node 167 = .ok (.aload_n 0, 1) := by decide +kernel
theorem d_Mo_node_168 : decode b_Mo_node 168 = .ok (.getfield 41, 3) := by decide +kernel
theorem d_Mo_node_171 : decode b_Mo_node 171 = .ok (.iload 4, 2) := by decide +kernel
theorem d_Mo_node_173 : decode b_Mo_node 173 = .ok (.iconst 4, 1) := by decide +kernel
theorem d_Mo_node_174 : decode b_Mo_node 174 = .ok (.imul, 1) := by decide +kernel
theorem d_Mo_node_175 : decode b_Mo_node 175 = .ok (.iload 5, 2) := by decide +kernel
theorem d_Mo_node_177 : decode b_Mo_node 177 = .ok (.iadd, 1) := by decide +kernel
theorem d_Mo_node_178 : decode b_Mo_node 178 = .ok (.iconst 0, 1) := by decide +kernel
theorem d_Mo_node_179 : decode b_Mo_node 179 = .ok (.iastore, 1) := by decide +kernel
theorem d_Mo_node_180 : decode b_Mo_node 180 = .ok (.aload_n 0, 1) := by decide +kernel
theorem d_Mo_node_181 : decode b_Mo_node 181 = .ok (.getfield 63, 3) := by decide +kernel
theorem d_Mo_node_184 : decode b_Mo_node 184 = .ok (.iload 4, 2) := by decide +kernel
theorem d_Mo_node_186 : decode b_Mo_node 186 = .ok (.iconst 4, 1) := by decide +kernel
theorem d_Mo_node_187 : decode b_Mo_node 187 = .ok (.imul, 1) := by decide +kernel
theorem d_Mo_node_188 : decode b_Mo_node 188 = .ok (.iload 5, 2) := by decide +kernel
theorem d_Mo_node_190 : decode b_Mo_node 190 = .ok (.iadd, 1) := by decide +kernel
theorem d_Mo_node_191 : decode b_Mo_node 191 = .ok (.iload 5, 2) := by decide +kernel
theorem d_Mo_node_193 : decode b_Mo_node 193 = .ok (.iconst 3, 1) := by decide +kernel
theorem d_Mo_node_194 : decode b_Mo_node 194 = .ok (.if_icmp .ne 8, 3) := by decide +kernel
theorem d_Mo_node_197 : decode b_Mo_node 197 = .ok (.iload_n 3, 1) := by decide +kernel
theorem d_Mo_node_198 : decode b_Mo_node 198 = .ok (.i2d, 1) := by decide +kernel
theorem d_Mo_node_199 : decode b_Mo_node 199 = .ok (.goto 4, 3) := by decide +kernel
theorem d_Mo_node_202 : decode b_Mo_node 202 = .ok (.dconst 0, 1) := by decide +kernel
theorem d_Mo_node_203 : decode b_Mo_node 203 = .ok (.dastore, 1) := by decide +kernel
theorem d_Mo_node_204 : decode b_Mo_node 204 = .ok (.iinc 5 1, 3) := by decide +kernel
theorem d_Mo_node_207 : decode b_Mo_node 207 = .ok (.goto (-46), 3) := by decide +kernel
theorem d_Mo_node_210 : decode b_Mo_node 210 = .ok (.aload_n 0, 1) := by decide +kernel
theorem d_Mo_node_211 : decode b_Mo_node 211 = .ok (.iload 4, 2) := by decide +kernel
theorem d_Mo_node_213 : decode b_Mo_node 213 = .ok (.iload_n 1, 1) := by decide +kernel
theorem d_Mo_node_214 : decode b_Mo_node 214 = .ok (.invokevirtual 112, 3) := by decide +kernel
theorem d_Mo_node_217 : decode b_Mo_node 217 = .ok (.iload 4, 2) := by decide +kernel
theorem d_Mo_node_219 : decode b_Mo_node 219 = .ok (.ireturn, 1) := by decide +kernel
theorem d_Mo_isGroup_0 : decode b_Mo_isGroup 0 = .ok (.aload_n 0, 1) := by decide +kernel
theorem d_Mo_isGroup_1 : decode b_Mo_isGroup 1 = .ok (.iload_n 1, 1) := by decide +kernel
theorem d_Mo_isGroup_2 : decode b_Mo_isGroup 2 = .ok (.invokevirtual 94, 3) := by decide +kernel
theorem d_Mo_isGroup_5 : decode b_Mo_isGroup 5 = .ok (.ifCond .eq 16, 3) := by decide +kernel
theorem d_Mo_isGroup_8 : decode b_Mo_isGroup 8 = .ok (.aload_n 0, 1) := by decide +kernel
theorem d_Mo_isGroup_9 : decode b_Mo_isGroup 9 = .ok (.getfield 22, 3) := by decide +kernel
theorem d_Mo_isGroup_12 : decode b_Mo_isGroup 12 = .ok (.iload_n 1, 1) := by decide +kernel
theorem d_Mo_isGroup_13 : decode b_Mo_isGroup 13 = .ok (.iaload, 1) := by decide +kernel
theorem d_Mo_isGroup_14 : decode b_Mo_isGroup 14 = .ok (.ifCond .ne 7, 3) := by decide +kernel
theorem d_Mo_isGroup_17 : decode b_Mo_isGroup 17 = .ok (.iconst 1, 1) := by decide +kernel
theorem d_Mo_isGroup_18 : decode b_Mo_isGroup 18 = .ok (.goto 4, 3) := by decide +kernel
theorem d_Mo_isGroup_21 : decode b_Mo_isGroup 21 = .ok (.iconst 0, 1) := by decide +kernel
theorem d_Mo_isGroup_22 : decode b_Mo_isGroup 22 = .ok (.ireturn, 1) := by decide +kernel
theorem d_Mo_is_0 : decode b_Mo_is 0 = .ok (.iload_n 1, 1) := by decide +kernel
theorem d_Mo_is_1 : decode b_Mo_is 1 = .ok (.ifCond .lt 22, 3) := by decide +kernel
theorem d_Mo_is_4 : decode b_Mo_is 4 = .ok (.iload_n 1, 1) := by decide +kernel
theorem d_Mo_is_5 : decode b_Mo_is 5 = .ok (.bipush 14, 2) := by decide +kernel
theorem d_Mo_is_7 : decode b_Mo_is 7 = .ok (.if_icmp .ge 16, 3) := by decide +kernel
theorem d_Mo_is_10 : decode b_Mo_is 10 = .ok (.aload_n 0, 1) := by decide +kernel
theorem d_Mo_is_11 : decode b_Mo_is 11 = .ok (.getfield 7, 3) := by decide +kernel
theorem d_Mo_is_14 : decode b_Mo_is 14 = .ok (.iload_n 1, 1) := by decide +kernel
theorem d_Mo_is_15 : decode b_Mo_is 15 = .ok (.baload, 1) := by decide +kernel
theorem d_Mo_is_16 : decode b_Mo_is 16 = .ok (.ifCond .eq 7, 3) := by decide +kernel
theorem d_Mo_is_19 : decode b_Mo_is 19 = .ok (.iconst 1, 1) := by decide +kernel
theorem d_Mo_is_20 : decode b_Mo_is 20 = .ok (.goto 4, 3) := by decide +kernel
theorem d_Mo_is_23 : decode b_Mo_is 23 = .ok (.iconst 0, 1) := by decide +kernel
theorem d_Mo_is_24 : decode b_Mo_is 24 = .ok (.ireturn, 1) := by decide +kernel
theorem d_Mo_bad_0 : decode b_Mo_bad 0 = .ok (.aload_n 0, 1) := by decide +kernel
theorem d_Mo_bad_1 : decode b_Mo_bad 1 = .ok (.iload_n 1, 1) := by decide +kernel
theorem d_Mo_bad_2 : decode b_Mo_bad 2 = .ok (.ifCond .eq 7, 3) := by decide +kernel
theorem d_Mo_bad_5 : decode b_Mo_bad 5 = .ok (.iconst 0, 1) := by decide +kernel
theorem d_Mo_bad_6 : decode b_Mo_bad 6 = .ok (.goto 4, 3) := by decide +kernel
theorem d_Mo_bad_9 : decode b_Mo_bad 9 = .ok (.iconst 1, 1) := by decide +kernel
theorem d_Mo_bad_10 : decode b_Mo_bad 10 = .ok (.putfield 90, 3) := by decide +kernel
theorem d_Mo_bad_13 : decode b_Mo_bad 13 = .ok (.iload_n 1, 1) := by decide +kernel
theorem d_Mo_bad_14 : decode b_Mo_bad 14 = .ok (.ifCond .ne 7, 3) := by decide +kernel
theorem d_Mo_bad_17 : decode b_Mo_bad 17 = .ok (.iconst 1, 1) := by decide +kernel
theorem d_Mo_bad_18 : decode b_Mo_bad 18 = .ok (.goto 4, 3) := by decide +kernel
theorem d_Mo_bad_21 : decode b_Mo_bad 21 = .ok (.iconst 0, 1) := by decide +kernel
theorem d_Mo_bad_22 : decode b_Mo_bad 22 = .ok (.ireturn, 1) := by decide +kernel
theorem d_Mo_enter_0 : decode b_Mo_enter 0 = .ok (.aload_n 0, 1) := by decide +kernel
theorem d_Mo_enter_1 : decode b_Mo_enter 1 = .ok (.getfield 29, 3) := by decide +kernel
theorem d_Mo_enter_4 : decode b_Mo_enter 4 = .ok (.iload_n 1, 1) := by decide +kernel
theorem d_Mo_enter_5 : decode b_Mo_enter 5 = .ok (.iload_n 2, 1) := by decide +kernel
theorem d_Mo_enter_6 : decode b_Mo_enter 6 = .ok (.iastore, 1) := by decide +kernel
theorem d_Mo_enter_7 : decode b_Mo_enter 7 = .ok (.aload_n 0, 1) := by decide +kernel
theorem d_Mo_enter_8 : decode b_Mo_enter 8 = .ok (.getfield 35, 3) := by decide +kernel
theorem d_Mo_enter_11 : decode b_Mo_enter 11 = .ok (.iload_n 2, 1) := by decide +kernel
theorem d_Mo_enter_12 : decode b_Mo_enter 12 = .ok (.bipush 14, 2) := by decide +kernel
theorem d_Mo_enter_14 : decode b_Mo_enter 14 = .ok (.imul, 1) := by decide +kernel
theorem d_Mo_enter_15 : decode b_Mo_enter 15 = .ok (.aload_n 0, 1) := by decide +kernel
theorem d_Mo_enter_16 : decode b_Mo_enter 16 = .ok (.getfield 32, 3) := by decide +kernel
theorem d_Mo_enter_19 : decode b_Mo_enter 19 = .ok (.iload_n 2, 1) := by decide +kernel
theorem d_Mo_enter_20 : decode b_Mo_enter 20 = .ok (.iaload, 1) := by decide +kernel
theorem d_Mo_enter_21 : decode b_Mo_enter 21 = .ok (.iadd, 1) := by decide +kernel
theorem d_Mo_enter_22 : decode b_Mo_enter 22 = .ok (.iload_n 1, 1) := by decide +kernel
theorem d_Mo_enter_23 : decode b_Mo_enter 23 = .ok (.iastore, 1) := by decide +kernel
theorem d_Mo_enter_24 : decode b_Mo_enter 24 = .ok (.aload_n 0, 1) := by decide +kernel
theorem d_Mo_enter_25 : decode b_Mo_enter 25 = .ok (.getfield 32, 3) := by decide +kernel
theorem d_Mo_enter_28 : decode b_Mo_enter 28 = .ok (.iload_n 2, 1) := by decide +kernel
theorem d_Mo_enter_29 : decode b_Mo_enter 29 = .ok (.dup2, 1) := by decide +kernel
theorem d_Mo_enter_30 : decode b_Mo_enter 30 = .ok (.iaload, 1) := by decide +kernel
theorem d_Mo_enter_31 : decode b_Mo_enter 31 = .ok (.iconst 1, 1) := by decide +kernel
theorem d_Mo_enter_32 : decode b_Mo_enter 32 = .ok (.iadd, 1) := by decide +kernel
theorem d_Mo_enter_33 : decode b_Mo_enter 33 = .ok (.iastore, 1) := by decide +kernel
theorem d_Mo_enter_34 : decode b_Mo_enter 34 = .ok (.aload_n 0, 1) := by decide +kernel
theorem d_Mo_enter_35 : decode b_Mo_enter 35 = .ok (.invokevirtual 87, 3) := by decide +kernel
theorem d_Mo_enter_38 : decode b_Mo_enter 38 = .ok (.return_, 1) := by decide +kernel
theorem d_Mo_lengths_0 : decode b_Mo_lengths 0 = .ok (.aload_n 0, 1) := by decide +kernel
theorem d_Mo_lengths_1 : decode b_Mo_lengths 1 = .ok (.aload_n 0, 1) := by decide +kernel
theorem d_Mo_lengths_2 : decode b_Mo_lengths 2 = .ok (.iload_n 1, 1) := by decide +kernel
theorem d_Mo_lengths_3 : decode b_Mo_lengths 3 = .ok (.invokevirtual 94, 3) := by decide +kernel
theorem d_Mo_lengths_6 : decode b_Mo_lengths 6 = .ok (.ifCond .eq 43, 3) := by decide +kernel
theorem d_Mo_lengths_9 : decode b_Mo_lengths 9 = .ok (.aload_n 0, 1) := by decide +kernel
theorem d_Mo_lengths_10 : decode b_Mo_lengths 10 = .ok (.getfield 22, 3) := by decide +kernel
theorem d_Mo_lengths_13 : decode b_Mo_lengths 13 = .ok (.iload_n 1, 1) := by decide +kernel
theorem d_Mo_lengths_14 : decode b_Mo_lengths 14 = .ok (.iaload, 1) := by decide +kernel
theorem d_Mo_lengths_15 : decode b_Mo_lengths 15 = .ok (.ifCond .le 34, 3) := by decide +kernel
theorem d_Mo_lengths_18 : decode b_Mo_lengths 18 = .ok (.dload_n 2, 1) := by decide +kernel
theorem d_Mo_lengths_19 : decode b_Mo_lengths 19 = .ok (.ldc2_w 116, 3) := by decide +kernel
theorem d_Mo_lengths_22 : decode b_Mo_lengths 22 = .ok (.ldc2_w 118, 3) := by decide +kernel
theorem d_Mo_lengths_25 : decode b_Mo_lengths 25 = .ok (.invokestatic 120, 3) := by decide +kernel
theorem d_Mo_lengths_28 : decode b_Mo_lengths 28 = .ok (.ifCond .eq 21, 3) := by decide +kernel
theorem d_Mo_lengths_31 : decode b_Mo_lengths 31 = .ok (.dload 4, 2) := by decide +kernel
theorem d_Mo_lengths_33 : decode b_Mo_lengths 33 = .ok (.ldc2_w 116, 3) := by decide +kernel
theorem d_Mo_lengths_36 : decode b_Mo_lengths 36 = .ok (.ldc2_w 118, 3) := by decide +kernel
theorem d_Mo_lengths_39 : decode b_Mo_lengths 39 = .ok (.invokestatic 120, 3) := by decide +kernel
theorem d_Mo_lengths_42 : decode b_Mo_lengths 42 = .ok (.ifCond .eq 7, 3) := by decide +kernel
theorem d_Mo_lengths_45 : decode b_Mo_lengths 45 = .ok (.iconst 1, 1) := by decide +kernel
theorem d_Mo_lengths_46 : decode b_Mo_lengths 46 = .ok (.goto 4, 3) := by decide +kernel
theorem d_Mo_lengths_49 : decode b_Mo_lengths 49 = .ok (.iconst 0, 1) := by decide +kernel
theorem d_Mo_lengths_50 : decode b_Mo_lengths 50 = .ok (.invokevirtual 108, 3) := by decide +kernel
theorem d_Mo_lengths_53 : decode b_Mo_lengths 53 = .ok (.ifCond .eq 4, 3) := by decide +kernel
theorem d_Mo_lengths_56 : decode b_Mo_lengths 56 = .ok (.return_, 1) := by decide +kernel
theorem d_Mo_lengths_57 : decode b_Mo_lengths 57 = .ok (.aload_n 0, 1) := by decide +kernel
theorem d_Mo_lengths_58 : decode b_Mo_lengths 58 = .ok (.getfield 57, 3) := by decide +kernel
theorem d_Mo_lengths_61 : decode b_Mo_lengths 61 = .ok (.iload_n 1, 1) := by decide +kernel
theorem d_Mo_lengths_62 : decode b_Mo_lengths 62 = .ok (.dload_n 2, 1) := by decide +kernel
theorem d_Mo_lengths_63 : decode b_Mo_lengths 63 = .ok (.dastore, 1) := by decide +kernel
theorem d_Mo_lengths_64 : decode b_Mo_lengths 64 = .ok (.aload_n 0, 1) := by decide +kernel
theorem d_Mo_lengths_65 : decode b_Mo_lengths 65 = .ok (.getfield 60, 3) := by decide +kernel
theorem d_Mo_lengths_68 : decode b_Mo_lengths 68 = .ok (.iload_n 1, 1) := by decide +kernel
theorem d_Mo_lengths_69 : decode b_Mo_lengths 69 = .ok (.dload 4, 2) := by decide +kernel
theorem d_Mo_lengths_71 : decode b_Mo_lengths 71 = .ok (.dastore, 1) := by decide +kernel
theorem d_Mo_lengths_72 : decode b_Mo_lengths 72 = .ok (.return_, 1) := by decide +kernel
theorem d_Mo_in_0 : decode b_Mo_in 0 = .ok (.dload_n 0, 1) := by decide +kernel
theorem d_Mo_in_1 : decode b_Mo_in 1 = .ok (.dload_n 2, 1) := by decide +kernel
theorem d_Mo_in_2 : decode b_Mo_in 2 = .ok (.dcmp .l, 1) := by decide +kernel
theorem d_Mo_in_3 : decode b_Mo_in 3 = .ok (.ifCond .lt 14, 3) := by decide +kernel
theorem d_Mo_in_6 : decode b_Mo_in 6 = .ok (.dload_n 0, 1) := by decide +kernel
theorem d_Mo_in_7 : decode b_Mo_in 7 = .ok (.dload 4, 2) := by decide +kernel
theorem d_Mo_in_9 : decode b_Mo_in 9 = .ok (.dcmp .g, 1) := by decide +kernel
theorem d_Mo_in_10 : decode b_Mo_in 10 = .ok (.ifCond .gt 7, 3) := by decide +kernel
theorem d_Mo_in_13 : decode b_Mo_in 13 = .ok (.iconst 1, 1) := by decide +kernel
theorem d_Mo_in_14 : decode b_Mo_in 14 = .ok (.goto 4, 3) := by decide +kernel
theorem d_Mo_in_17 : decode b_Mo_in 17 = .ok (.iconst 0, 1) := by decide +kernel
theorem d_Mo_in_18 : decode b_Mo_in 18 = .ok (.ireturn, 1) := by decide +kernel
theorem d_Mo_place_0 : decode b_Mo_place 0 = .ok (.aload_n 0, 1) := by decide +kernel
theorem d_Mo_place_1 : decode b_Mo_place 1 = .ok (.aload_n 0, 1) := by decide +kernel
theorem d_Mo_place_2 : decode b_Mo_place 2 = .ok (.iload_n 1, 1) := by decide +kernel
theorem d_Mo_place_3 : decode b_Mo_place 3 = .ok (.invokevirtual 124, 3) := by decide +kernel
theorem d_Mo_place_6 : decode b_Mo_place 6 = .ok (.ifCond .eq 34, 3) := by decide +kernel
theorem d_Mo_place_9 : decode b_Mo_place 9 = .ok (.dload_n 2, 1) := by decide +kernel
theorem d_Mo_place_10 : decode b_Mo_place 10 = .ok (.ldc2_w 127, 3) := by decide +kernel
theorem d_Mo_place_13 : decode b_Mo_place 13 = .ok (.ldc2_w 118, 3) := by decide +kernel
theorem d_Mo_place_16 : decode b_Mo_place 16 = .ok (.invokestatic 120, 3) := by decide +kernel
theorem d_Mo_place_19 : decode b_Mo_place 19 = .ok (.ifCond .eq 21, 3) := by decide +kernel
theorem d_Mo_place_22 : decode b_Mo_place 22 = .ok (.dload 4, 2) := by decide +kernel
theorem d_Mo_place_24 : decode b_Mo_place 24 = .ok (.ldc2_w 127, 3) := by decide +kernel
theorem d_Mo_place_27 : decode b_Mo_place 27 = .ok (.ldc2_w 118, 3) := by decide +kernel
theorem d_Mo_place_30 : decode b_Mo_place 30 = .ok (.invokestatic 120, 3) := by decide +kernel
theorem d_Mo_place_33 : decode b_Mo_place 33 = .ok (.ifCond .eq 7, 3) := by decide +kernel
theorem d_Mo_place_36 : decode b_Mo_place 36 = .ok (.iconst 1, 1) := by decide +kernel
theorem d_Mo_place_37 : decode b_Mo_place 37 = .ok (.goto 4, 3) := by decide +kernel
theorem d_Mo_place_40 : decode b_Mo_place 40 = .ok (.iconst 0, 1) := by decide +kernel
theorem d_Mo_place_41 : decode b_Mo_place 41 = .ok (.invokevirtual 108, 3) := by decide +kernel
theorem d_Mo_place_44 : decode b_Mo_place 44 = .ok (.ifCond .eq 4, 3) := by decide +kernel
theorem d_Mo_place_47 : decode b_Mo_place 47 = .ok (.return_, 1) := by decide +kernel
theorem d_Mo_place_48 : decode b_Mo_place 48 = .ok (.aload_n 0, 1) := by decide +kernel
theorem d_Mo_place_49 : decode b_Mo_place 49 = .ok (.getfield 63, 3) := by decide +kernel
theorem d_Mo_place_52 : decode b_Mo_place 52 = .ok (.iload_n 1, 1) := by decide +kernel
theorem d_Mo_place_53 : decode b_Mo_place 53 = .ok (.iconst 4, 1) := by decide +kernel
theorem d_Mo_place_54 : decode b_Mo_place 54 = .ok (.imul, 1) := by decide +kernel
theorem d_Mo_place_55 : decode b_Mo_place 55 = .ok (.dload_n 2, 1) := by decide +kernel
theorem d_Mo_place_56 : decode b_Mo_place 56 = .ok (.dastore, 1) := by decide +kernel
theorem d_Mo_place_57 : decode b_Mo_place 57 = .ok (.aload_n 0, 1) := by decide +kernel
theorem d_Mo_place_58 : decode b_Mo_place 58 = .ok (.getfield 63, 3) := by decide +kernel
theorem d_Mo_place_61 : decode b_Mo_place 61 = .ok (.iload_n 1, 1) := by decide +kernel
theorem d_Mo_place_62 : decode b_Mo_place 62 = .ok (.iconst 4, 1) := by decide +kernel
theorem d_Mo_place_63 : decode b_Mo_place 63 = .ok (.imul, 1) := by decide +kernel
theorem d_Mo_place_64 : decode b_Mo_place 64 = .ok (.iconst 1, 1) := by decide +kernel
theorem d_Mo_place_65 : decode b_Mo_place 65 = .ok (.iadd, 1) := by decide +kernel
theorem d_Mo_place_66 : decode b_Mo_place 66 = .ok (.dload 4, 2) := by decide +kernel
theorem d_Mo_place_68 : decode b_Mo_place 68 = .ok (.dastore, 1) := by decide +kernel
theorem d_Mo_place_69 : decode b_Mo_place 69 = .ok (.return_, 1) := by decide +kernel
theorem d_Mo_isOther_0 : decode b_Mo_isOther 0 = .ok (.iload_n 1, 1) := by decide +kernel
theorem d_Mo_isOther_1 : decode b_Mo_isOther 1 = .ok (.ifCond .le 15, 3) := by decide +kernel
theorem d_Mo_isOther_4 : decode b_Mo_isOther 4 = .ok (.aload_n 0, 1) := by decide +kernel
theorem d_Mo_isOther_5 : decode b_Mo_isOther 5 = .ok (.iload_n 1, 1) := by decide +kernel
theorem d_Mo_isOther_6 : decode b_Mo_isOther 6 = .ok (.invokevirtual 94, 3) := by decide +kernel
theorem d_Mo_isOther_9 : decode b_Mo_isOther 9 = .ok (.ifCond .eq 7, 3) := by decide +kernel
theorem d_Mo_isOther_12 : decode b_Mo_isOther 12 = .ok (.iconst 1, 1) := by decide +kernel
theorem d_Mo_isOther_13 : decode b_Mo_isOther 13 = .ok (.goto 4, 3) := by decide +kernel
theorem d_Mo_isOther_16 : decode b_Mo_isOther 16 = .ok (.iconst 0, 1) := by decide +kernel
theorem d_Mo_isOther_17 : decode b_Mo_isOther 17 = .ok (.ireturn, 1) := by decide +kernel
theorem d_Mo_lay_0 : decode b_Mo_lay 0 = .ok (.aload_n 0, 1) := by decide +kernel
theorem d_Mo_lay_1 : decode b_Mo_lay 1 = .ok (.aload_n 0, 1) := by decide +kernel
theorem d_Mo_lay_2 : decode b_Mo_lay 2 = .ok (.iload_n 1, 1) := by decide +kernel
theorem d_Mo_lay_3 : decode b_Mo_lay 3 = .ok (.invokevirtual 124, 3) := by decide +kernel
theorem d_Mo_lay_6 : decode b_Mo_lay 6 = .ok (.ifCond .eq 27, 3) := by decide +kernel
theorem d_Mo_lay_9 : decode b_Mo_lay 9 = .ok (.iload_n 2, 1) := by decide +kernel
theorem d_Mo_lay_10 : decode b_Mo_lay 10 = .ok (.ifCond .lt 23, 3) := by decide +kernel
theorem d_Mo_lay_13 : decode b_Mo_lay 13 = .ok (.iload_n 2, 1) := by decide +kernel
theorem d_Mo_lay_14 : decode b_Mo_lay 14 = .ok (.iconst 4, 1) := by decide +kernel
theorem d_Mo_lay_15 : decode b_Mo_lay 15 = .ok (.if_icmp .ge 18, 3) := by decide +kernel
theorem d_Mo_lay_18 : decode b_Mo_lay 18 = .ok (.iload_n 3, 1) := by decide +kernel
theorem d_Mo_lay_19 : decode b_Mo_lay 19 = .ok (.bipush (-2), 2) := by decide +kernel
theorem d_Mo_lay_21 : decode b_Mo_lay 21 = .ok (.if_icmp .lt 12, 3) := by decide +kernel
theorem d_Mo_lay_24 : decode b_Mo_lay 24 = .ok (.iload_n 3, 1) := by decide +kernel
theorem d_Mo_lay_25 : decode b_Mo_lay 25 = .ok (.iconst 2, 1) := by decide +kernel
theorem d_Mo_lay_26 : decode b_Mo_lay 26 = .ok (.if_icmp .gt 7, 3) := by decide +kernel
theorem d_Mo_lay_29 : decode b_Mo_lay 29 = .ok (.iconst 1, 1) := by decide +kernel
theorem d_Mo_lay_30 : decode b_Mo_lay 30 = .ok (.goto 4, 3) := by decide +kernel
theorem d_Mo_lay_33 : decode b_Mo_lay 33 = .ok (.iconst 0, 1) := by decide +kernel
theorem d_Mo_lay_34 : decode b_Mo_lay 34 = .ok (.invokevirtual 108, 3) := by decide +kernel
theorem d_Mo_lay_37 : decode b_Mo_lay 37 = .ok (.ifCond .eq 4, 3) := by decide +kernel
theorem d_Mo_lay_40 : decode b_Mo_lay 40 = .ok (.return_, 1) := by decide +kernel
theorem d_Mo_lay_41 : decode b_Mo_lay 41 = .ok (.aload_n 0, 1) := by decide +kernel
theorem d_Mo_lay_42 : decode b_Mo_lay 42 = .ok (.getfield 38, 3) := by decide +kernel
theorem d_Mo_lay_45 : decode b_Mo_lay 45 = .ok (.iload_n 1, 1) := by decide +kernel
theorem d_Mo_lay_46 : decode b_Mo_lay 46 = .ok (.iload_n 2, 1) := by decide +kernel
theorem d_Mo_lay_47 : decode b_Mo_lay 47 = .ok (.iastore, 1) := by decide +kernel
theorem d_Mo_lay_48 : decode b_Mo_lay 48 = .ok (.aload_n 0, 1) := by decide +kernel
theorem d_Mo_lay_49 : decode b_Mo_lay 49 = .ok (.getfield 63, 3) := by decide +kernel
theorem d_Mo_lay_52 : decode b_Mo_lay 52 = .ok (.iload_n 1, 1) := by decide +kernel
theorem d_Mo_lay_53 : decode b_Mo_lay 53 = .ok (.iconst 4, 1) := by decide +kernel
theorem d_Mo_lay_54 : decode b_Mo_lay 54 = .ok (.imul, 1) := by decide +kernel
theorem d_Mo_lay_55 : decode b_Mo_lay 55 = .ok (.iconst 2, 1) := by decide +kernel
theorem d_Mo_lay_56 : decode b_Mo_lay 56 = .ok (.iadd, 1) := by decide +kernel
theorem d_Mo_lay_57 : decode b_Mo_lay 57 = .ok (.iload_n 3, 1) := by decide +kernel
theorem d_Mo_lay_58 : decode b_Mo_lay 58 = .ok (.i2d, 1) := by decide +kernel
theorem d_Mo_lay_59 : decode b_Mo_lay 59 = .ok (.dastore, 1) := by decide +kernel
theorem d_Mo_lay_60 : decode b_Mo_lay 60 = .ok (.return_, 1) := by decide +kernel
theorem d_Mo_mode_0 : decode b_Mo_mode 0 = .ok (.aload_n 0, 1) := by decide +kernel
theorem d_Mo_mode_1 : decode b_Mo_mode 1 = .ok (.aload_n 0, 1) := by decide +kernel
theorem d_Mo_mode_2 : decode b_Mo_mode 2 = .ok (.iload_n 1, 1) := by decide +kernel
theorem d_Mo_mode_3 : decode b_Mo_mode 3 = .ok (.invokevirtual 105, 3) := by decide +kernel
theorem d_Mo_mode_6 : decode b_Mo_mode 6 = .ok (.ifCond .eq 27, 3) := by decide +kernel
theorem d_Mo_mode_9 : decode b_Mo_mode 9 = .ok (.iload_n 2, 1) := by decide +kernel
theorem d_Mo_mode_10 : decode b_Mo_mode 10 = .ok (.ifCond .lt 23, 3) := by decide +kernel
theorem d_Mo_mode_13 : decode b_Mo_mode 13 = .ok (.iload_n 2, 1) := by decide +kernel
theorem d_Mo_mode_14 : decode b_Mo_mode 14 = .ok (.iconst 3, 1) := by decide +kernel
theorem d_Mo_mode_15 : decode b_Mo_mode 15 = .ok (.if_icmp .ge 18, 3) := by decide +kernel
theorem d_Mo_mode_18 : decode b_Mo_mode 18 = .ok (.dload_n 3, 1) := by decide +kernel
theorem d_Mo_mode_19 : decode b_Mo_mode 19 = .ok (.dconst 1, 1) := by decide +kernel
theorem d_Mo_mode_20 : decode b_Mo_mode 20 = .ok (.ldc2_w 129, 3) := by decide +kernel
theorem d_Mo_mode_23 : decode b_Mo_mode 23 = .ok (.invokestatic 120, 3) := by decide +kernel
theorem d_Mo_mode_26 : decode b_Mo_mode 26 = .ok (.ifCond .eq 7, 3) := by decide +kernel
theorem d_Mo_mode_29 : decode b_Mo_mode 29 = .ok (.iconst 1, 1) := by decide +kernel
theorem d_Mo_mode_30 : decode b_Mo_mode 30 = .ok (.goto 4, 3) := by decide +kernel
theorem d_Mo_mode_33 : decode b_Mo_mode 33 = .ok (.iconst 0, 1) := by decide +kernel
theorem d_Mo_mode_34 : decode b_Mo_mode 34 = .ok (.invokevirtual 108, 3) := by decide +kernel
theorem d_Mo_mode_37 : decode b_Mo_mode 37 = .ok (.ifCond .eq 4, 3) := by decide +kernel
theorem d_Mo_mode_40 : decode b_Mo_mode 40 = .ok (.return_, 1) := by decide +kernel
theorem d_Mo_mode_41 : decode b_Mo_mode 41 = .ok (.aload_n 0, 1) := by decide +kernel
theorem d_Mo_mode_42 : decode b_Mo_mode 42 = .ok (.getfield 26, 3) := by decide +kernel
theorem d_Mo_mode_45 : decode b_Mo_mode 45 = .ok (.iload_n 1, 1) := by decide +kernel
theorem d_Mo_mode_46 : decode b_Mo_mode 46 = .ok (.iload_n 2, 1) := by decide +kernel
theorem d_Mo_mode_47 : decode b_Mo_mode 47 = .ok (.iastore, 1) := by decide +kernel
theorem d_Mo_mode_48 : decode b_Mo_mode 48 = .ok (.aload_n 0, 1) := by decide +kernel
theorem d_Mo_mode_49 : decode b_Mo_mode 49 = .ok (.getfield 53, 3) := by decide +kernel
theorem d_Mo_mode_52 : decode b_Mo_mode 52 = .ok (.iload_n 1, 1) := by decide +kernel
theorem d_Mo_mode_53 : decode b_Mo_mode 53 = .ok (.dload_n 3, 1) := by decide +kernel
theorem d_Mo_mode_54 : decode b_Mo_mode 54 = .ok (.dastore, 1) := by decide +kernel
theorem d_Mo_mode_55 : decode b_Mo_mode 55 = .ok (.return_, 1) := by decide +kernel
theorem d_Mo_hide_0 : decode b_Mo_hide 0 = .ok (.aload_n 0, 1) := by decide +kernel
theorem d_Mo_hide_1 : decode b_Mo_hide 1 = .ok (.aload_n 0, 1) := by decide +kernel
theorem d_Mo_hide_2 : decode b_Mo_hide 2 = .ok (.iload_n 1, 1) := by decide +kernel
theorem d_Mo_hide_3 : decode b_Mo_hide 3 = .ok (.invokevirtual 124, 3) := by decide +kernel
theorem d_Mo_hide_6 : decode b_Mo_hide 6 = .ok (.invokevirtual 108, 3) := by decide +kernel
theorem d_Mo_hide_9 : decode b_Mo_hide 9 = .ok (.ifCond .eq 4, 3) := by decide +kernel
theorem d_Mo_hide_12 : decode b_Mo_hide 12 = .ok (.return_, 1) := by decide +kernel
theorem d_Mo_hide_13 : decode b_Mo_hide 13 = .ok (.aload_n 0, 1) := by decide +kernel
theorem d_Mo_hide_14 : decode b_Mo_hide 14 = .ok (.getfield 13, 3) := by decide +kernel
theorem d_Mo_hide_17 : decode b_Mo_hide 17 = .ok (.iload_n 1, 1) := by decide +kernel
theorem d_Mo_hide_18 : decode b_Mo_hide 18 = .ok (.iload_n 2, 1) := by decide +kernel
theorem d_Mo_hide_19 : decode b_Mo_hide 19 = .ok (.bastore, 1) := by decide +kernel
theorem d_Mo_hide_20 : decode b_Mo_hide 20 = .ok (.return_, 1) := by decide +kernel
theorem d_Mo_key_0 : decode b_Mo_key 0 = .ok (.aload_n 0, 1) := by decide +kernel
theorem d_Mo_key_1 : decode b_Mo_key 1 = .ok (.aload_n 0, 1) := by decide +kernel
theorem d_Mo_key_2 : decode b_Mo_key 2 = .ok (.iload_n 1, 1) := by decide +kernel
theorem d_Mo_key_3 : decode b_Mo_key 3 = .ok (.invokevirtual 124, 3) := by decide +kernel
theorem d_Mo_key_6 : decode b_Mo_key 6 = .ok (.ifCond .eq 36, 3) := by decide +kernel
theorem d_Mo_key_9 : decode b_Mo_key 9 = .ok (.iload_n 2, 1) := by decide +kernel
theorem d_Mo_key_10 : decode b_Mo_key 10 = .ok (.ifCond .lt 32, 3) := by decide +kernel
theorem d_Mo_key_13 : decode b_Mo_key 13 = .ok (.iload_n 2, 1) := by decide +kernel
theorem d_Mo_key_14 : decode b_Mo_key 14 = .ok (.iconst 4, 1) := by decide +kernel
theorem d_Mo_key_15 : decode b_Mo_key 15 = .ok (.if_icmp .ge 27, 3) := by decide +kernel
theorem d_Mo_key_18 : decode b_Mo_key 18 = .ok (.dload_n 3, 1) := by decide +kernel
theorem d_Mo_key_19 : decode b_Mo_key 19 = .ok (.dconst 0, 1) := by decide +kernel
theorem d_Mo_key_20 : decode b_Mo_key 20 = .ok (.ldc2_w 141, 3) := by decide +kernel
theorem d_Mo_key_23 : decode b_Mo_key 23 = .ok (.invokestatic 120, 3) := by decide +kernel
theorem d_Mo_key_26 : decode b_Mo_key 26 = .ok (.ifCond .eq 16, 3) := by decide +kernel
theorem d_Mo_key_29 : decode b_Mo_key 29 = .ok (.iload_n 2, 1) := by decide +kernel
theorem d_Mo_key_30 : decode b_Mo_key 30 = .ok (.dload 5, 2) := by decide +kernel
theorem d_Mo_key_32 : decode b_Mo_key 32 = .ok (.invokestatic 143, 3) := by decide +kernel
theorem d_Mo_key_35 : decode b_Mo_key 35 = .ok (.ifCond .eq 7, 3) := by decide +kernel
theorem d_Mo_key_38 : decode b_Mo_key 38 = .ok (.iconst 1, 1) := by decide +kernel
theorem d_Mo_key_39 : decode b_Mo_key 39 = .ok (.goto 4, 3) := by decide +kernel
theorem d_Mo_key_42 : decode b_Mo_key 42 = .ok (.iconst 0, 1) := by decide +kernel
theorem d_Mo_key_43 : decode b_Mo_key 43 = .ok (.invokevirtual 108, 3) := by decide +kernel
theorem d_Mo_key_46 : decode b_Mo_key 46 = .ok (.ifCond .eq 5, 3) := by decide +kernel
theorem d_Mo_key_49 : decode b_Mo_key 49 = .ok (.iconst 0, 1) := by decide +kernel
theorem d_Mo_key_50 : decode b_Mo_key 50 = .ok (.ireturn, 1) := by decide +kernel
theorem d_Mo_key_51 : decode b_Mo_key 51 = .ok (.iload_n 1, 1) := by decide +kernel
theorem d_Mo_key_52 : decode b_Mo_key 52 = .ok (.iconst 4, 1) := by decide +kernel
theorem d_Mo_key_53 : decode b_Mo_key 53 = .ok (.imul, 1) := by decide +kernel
theorem d_Mo_key_54 : decode b_Mo_key 54 = .ok (.iload_n 2, 1) := by decide +kernel
theorem d_Mo_key_55 : decode b_Mo_key 55 = .ok (.iadd, 1) := by decide +kernel
theorem d_Mo_key_56 : decode b_Mo_key 56 = .ok (.istore 7, 2) := by decide +kernel
theorem d_Mo_key_58 : decode b_Mo_key 58 = .ok (.iconst 0, 1) := by decide +kernel
theorem d_Mo_key_59 : decode b_Mo_key 59 = .ok (.istore 8, 2) := by decide +kernel
theorem d_Mo_key_61 : decode b_Mo_key 61 = .ok (.iload 8, 2) := by decide +kernel
theorem d_Mo_key_63 : decode b_Mo_key 63 = .ok (.aload_n 0, 1) := by decide +kernel
theorem d_Mo_key_64 : decode b_Mo_key 64 = .ok (.getfield 41, 3) := by decide +kernel
theorem d_Mo_key_67 : decode b_Mo_key 67 = .ok (.iload 7, 2) := by decide +kernel
theorem d_Mo_key_69 : decode b_Mo_key 69 = .ok (.iaload, 1) := by decide +kernel
theorem d_Mo_key_70 : decode b_Mo_key 70 = .ok (.if_icmp .ge 26, 3) := by decide +kernel
theorem d_Mo_key_73 : decode b_Mo_key 73 = .ok (.aload_n 0, 1) := by decide +kernel
theorem d_Mo_key_74 : decode b_Mo_key 74 = .ok (.getfield 66, 3) := by decide +kernel
theorem d_Mo_key_77 : decode b_Mo_key 77 = .ok (.iload 7, 2) := by decide +kernel
theorem d_Mo_key_79 : decode b_Mo_key 79 = .ok (.iconst 4, 1) := by decide +kernel
theorem d_Mo_key_80 : decode b_Mo_key 80 = .ok (.imul, 1) := by decide +kernel
theorem d_Mo_key_81 : decode b_Mo_key 81 = .ok (.iload 8, 2) := by decide +kernel
theorem d_Mo_key_83 : decode b_Mo_key 83 = .ok (.iadd, 1) := by decide +kernel
theorem d_Mo_key_84 : decode b_Mo_key 84 = .ok (.daload, 1) := by decide +kernel
theorem d_Mo_key_85 : decode b_Mo_key 85 = .ok (.dload_n 3, 1) := by decide +kernel
theorem d_Mo_key_86 : decode b_Mo_key 86 = .ok (.dcmp .g, 1) := by decide +kernel
theorem d_Mo_key_87 : decode b_Mo_key 87 = .ok (.ifCond .ge 9, 3) := by decide +kernel
theorem d_Mo_key_90 : decode b_Mo_key 90 = .ok (.iinc 8 1, 3) := by decide +kernel
theorem d_Mo_key_93 : decode b_Mo_key 93 = .ok (.goto (-32), 3) := by decide +kernel
theorem d_Mo_key_96 : decode b_Mo_key 96 = .ok (.iload 8, 2) := by decide +kernel
theorem d_Mo_key_98 : decode b_Mo_key 98 = .ok (.aload_n 0, 1) := by decide +kernel
theorem d_Mo_key_99 : decode b_Mo_key 99 = .ok (.getfield 41, 3) := by decide +kernel
theorem d_Mo_key_102 : decode b_Mo_key 102 = .ok (.iload 7, 2) := by decide +kernel
theorem d_Mo_key_104 : decode b_Mo_key 104 = .ok (.iaload, 1) := by decide +kernel
theorem d_Mo_key_105 : decode b_Mo_key 105 = .ok (.if_icmp .ge 24, 3) := by decide +kernel
theorem d_Mo_key_108 : decode b_Mo_key 108 = .ok (.aload_n 0, 1) := by decide +kernel
theorem d_Mo_key_109 : decode b_Mo_key 109 = .ok (.getfield 66, 3) := by decide +kernel
theorem d_Mo_key_112 : decode b_Mo_key 112 = .ok (.iload 7, 2) := by decide +kernel
theorem d_Mo_key_114 : decode b_Mo_key 114 = .ok (.iconst 4, 1) := by decide +kernel
theorem d_Mo_key_115 : decode b_Mo_key 115 = .ok (.imul, 1) := by decide +kernel
theorem d_Mo_key_116 : decode b_Mo_key 116 = .ok (.iload 8, 2) := by decide +kernel
theorem d_Mo_key_118 : decode b_Mo_key 118 = .ok (.iadd, 1) := by decide +kernel
theorem d_Mo_key_119 : decode b_Mo_key 119 = .ok (.daload, 1) := by decide +kernel
theorem d_Mo_key_120 : decode b_Mo_key 120 = .ok (.dload_n 3, 1) := by decide +kernel
theorem d_Mo_key_121 : decode b_Mo_key 121 = .ok (.dcmp .l, 1) := by decide +kernel
theorem d_Mo_key_122 : decode b_Mo_key 122 = .ok (.ifCond .ne 7, 3) := by decide +kernel
theorem d_Mo_key_125 : decode b_Mo_key 125 = .ok (.iconst 1, 1) := by decide +kernel
theorem d_Mo_key_126 : decode b_Mo_key 126 = .ok (.goto 4, 3) := by decide +kernel
theorem d_Mo_key_129 : decode b_Mo_key 129 = .ok (.iconst 0, 1) := by decide +kernel
theorem d_Mo_key_130 : decode b_Mo_key 130 = .ok (.istore 9, 2) := by decide +kernel
theorem d_Mo_key_132 : decode b_Mo_key 132 = .ok (.iload 9, 2) := by decide +kernel
theorem d_Mo_key_134 : decode b_Mo_key 134 = .ok (.ifCond .ne 21, 3) := by decide +kernel
theorem d_Mo_key_137 : decode b_Mo_key 137 = .ok (.aload_n 0, 1) := by decide +kernel
theorem d_Mo_key_138 : decode b_Mo_key 138 = .ok (.getfield 41, 3) := by decide +kernel
theorem d_Mo_key_141 : decode b_Mo_key 141 = .ok (.iload 7, 2) := by decide +kernel
theorem d_Mo_key_143 : decode b_Mo_key 143 = .ok (.iaload, 1) := by decide +kernel
theorem d_Mo_key_144 : decode b_Mo_key 144 = .ok (.iconst 4, 1) := by decide +kernel
theorem d_Mo_key_145 : decode b_Mo_key 145 = .ok (.if_icmp .ne 10, 3) := by decide +kernel
theorem d_Mo_key_148 : decode b_Mo_key 148 = .ok (.aload_n 0, 1) := by decide +kernel
theorem d_Mo_key_149 : decode b_Mo_key 149 = .ok (.iconst 2, 1) := by decide +kernel
theorem d_Mo_key_150 : decode b_Mo_key 150 = .ok (.putfield 90, 3) := by decide +kernel
theorem d_Mo_key_153 : decode b_Mo_key 153 = .ok (.iconst 0, 1) := by decide +kernel
theorem d_Mo_key_154 : decode b_Mo_key 154 = .ok (.ireturn, 1) := by decide +kernel
theorem d_Mo_key_155 : decode b_Mo_key 155 = .ok (.iload 9, 2) := by decide +kernel
theorem d_Mo_key_157 : decode b_Mo_key 157 = .ok (.ifCond .ne 88, 3) := by decide +kernel
theorem d_Mo_key_160 : decode b_Mo_key 160 = .ok (.aload_n 0, 1) := by decide +kernel
theorem d_Mo_key_161 : decode b_Mo_key 161 = .ok (.getfield 41, 3) := by decide +kernel
theorem d_Mo_key_164 : decode b_Mo_key 164 = .ok (.iload 7, 2) := by decide +kernel
theorem d_Mo_key_166 : decode b_Mo_key 166 = .ok (.iaload, 1) := by decide +kernel
theorem d_Mo_key_167 : decode b_Mo_key 167 = .ok (.istore 10, 2) := by decide +kernel
theorem d_Mo_key_169 : decode b_Mo_key 169 = .ok (.iload 10, 2) := by decide +kernel
theorem d_Mo_key_171 : decode b_Mo_key 171 = .ok (.iload 8, 2) := by decide +kernel
theorem d_Mo_key_173 : decode b_Mo_key 173 = .ok (.if_icmp .le 61, 3) := by decide +kernel
theorem d_Mo_key_176 : decode b_Mo_key 176 = .ok (.aload_n 0, 1) := by decide +kernel
theorem d_Mo_key_177 : decode b_Mo_key 177 = .ok (.getfield 66, 3) := by decide +kernel
theorem d_Mo_key_180 : decode b_Mo_key 180 = .ok (.iload 7, 2) := by decide +kernel
theorem d_Mo_key_182 : decode b_Mo_key 182 = .ok (.iconst 4, 1) := by decide +kernel
theorem d_Mo_key_183 : decode b_Mo_key 183 = .ok (.imul, 1) := by decide +kernel
theorem d_Mo_key_184 : decode b_Mo_key 184 = .ok (.iload 10, 2) := by decide +kernel
theorem d_Mo_key_186 : decode b_Mo_key 186 = .ok (.iadd, 1) := by decide +kernel
theorem d_Mo_key_187 : decode b_Mo_key 187 = .ok (.aload_n 0, 1) := by decide +kernel
theorem d_Mo_key_188 : decode b_Mo_key 188 = .ok (.getfield 66, 3) := by decide +kernel
theorem d_Mo_key_191 : decode b_Mo_key 191 = .ok (.iload 7, 2) := by decide +kernel
theorem d_Mo_key_193 : decode b_Mo_key 193 = .ok (.iconst 4, 1) := by decide +kernel
theorem d_Mo_key_194 : decode b_Mo_key 194 = .ok (.imul, 1) := by decide +kernel
theorem d_Mo_key_195 : decode b_Mo_key 195 = .ok (.iload 10, 2) := by decide +kernel
theorem d_Mo_key_197 : decode b_Mo_key 197 = .ok (.iadd, 1) := by decide +kernel
theorem d_Mo_key_198 : decode b_Mo_key 198 = .ok (.iconst 1, 1) := by decide +kernel
theorem d_Mo_key_199 : decode b_Mo_key 199 = .ok (.isub, 1) := by decide +kernel
theorem d_Mo_key_200 : decode b_Mo_key 200 = .ok (.daload, 1) := by decide +kernel
theorem d_Mo_key_201 : decode b_Mo_key 201 = .ok (.dastore, 1) := by decide +kernel
theorem d_Mo_key_202 : decode b_Mo_key 202 = .ok (.aload_n 0, 1) := by decide +kernel
theorem d_Mo_key_203 : decode b_Mo_key 203 = .ok (.getfield 69, 3) := by decide +kernel
theorem d_Mo_key_206 : decode b_Mo_key 206 = .ok (.iload 7, 2) := by decide +kernel
theorem d_Mo_key_208 : decode b_Mo_key 208 = .ok (.iconst 4, 1) := by decide +kernel
theorem d_Mo_key_209 : decode b_Mo_key 209 = .ok (.imul, 1) := by decide +kernel
theorem d_Mo_key_210 : decode b_Mo_key 210 = .ok (.iload 10, 2) := by decide +kernel
theorem d_Mo_key_212 : decode b_Mo_key 212 = .ok (.iadd, 1) := by decide +kernel
theorem d_Mo_key_213 : decode b_Mo_key 213 = .ok (.aload_n 0, 1) := by decide +kernel
theorem d_Mo_key_214 : decode b_Mo_key 214 = .ok (.getfield 69, 3) := by decide +kernel
theorem d_Mo_key_217 : decode b_Mo_key 217 = .ok (.iload 7, 2) := by decide +kernel
theorem d_Mo_key_219 : decode b_Mo_key 219 = .ok (.iconst 4, 1) := by decide +kernel
theorem d_Mo_key_220 : decode b_Mo_key 220 = .ok (.imul, 1) := by decide +kernel
theorem d_Mo_key_221 : decode b_Mo_key 221 = .ok (.iload 10, 2) := by decide +kernel
theorem d_Mo_key_223 : decode b_Mo_key 223 = .ok (.iadd, 1) := by decide +kernel
theorem d_Mo_key_224 : decode b_Mo_key 224 = .ok (.iconst 1, 1) := by decide +kernel
theorem d_Mo_key_225 : decode b_Mo_key 225 = .ok (.isub, 1) := by decide +kernel
theorem d_Mo_key_226 : decode b_Mo_key 226 = .ok (.daload, 1) := by decide +kernel
theorem d_Mo_key_227 : decode b_Mo_key 227 = .ok (.dastore, 1) := by decide +kernel
theorem d_Mo_key_228 : decode b_Mo_key 228 = .ok (.iinc 10 (-1), 3) := by decide +kernel
theorem d_Mo_key_231 : decode b_Mo_key 231 = .ok (.goto (-62), 3) := by decide +kernel
theorem d_Mo_key_234 : decode b_Mo_key 234 = .ok (.aload_n 0, 1) := by decide +kernel
theorem d_Mo_key_235 : decode b_Mo_key 235 = .ok (.getfield 41, 3) := by decide +kernel
theorem d_Mo_key_238 : decode b_Mo_key 238 = .ok (.iload 7, 2) := by decide +kernel
theorem d_Mo_key_240 : decode b_Mo_key 240 = .ok (.dup2, 1) := by decide +kernel
theorem d_Mo_key_241 : decode b_Mo_key 241 = .ok (.iaload, 1) := by decide +kernel
theorem d_Mo_key_242 : decode b_Mo_key 242 = .ok (.iconst 1, 1) := by decide +kernel
theorem d_Mo_key_243 : decode b_Mo_key 243 = .ok (.iadd, 1) := by decide +kernel
theorem d_Mo_key_244 : decode b_Mo_key 244 = .ok (.iastore, 1) := by decide +kernel
theorem d_Mo_key_245 : decode b_Mo_key 245 = .ok (.aload_n 0, 1) := by decide +kernel
theorem d_Mo_key_246 : decode b_Mo_key 246 = .ok (.getfield 66, 3) := by decide +kernel
theorem d_Mo_key_249 : decode b_Mo_key 249 = .ok (.iload 7, 2) := by decide +kernel
theorem d_Mo_key_251 : decode b_Mo_key 251 = .ok (.iconst 4, 1) := by decide +kernel
theorem d_Mo_key_252 : decode b_Mo_key 252 = .ok (.imul, 1) := by decide +kernel
theorem d_Mo_key_253 : decode b_Mo_key 253 = .ok (.iload 8, 2) := by decide +kernel
theorem d_Mo_key_255 : decode b_Mo_key 255 = .ok (.iadd, 1) := by decide +kernel
theorem d_Mo_key_256 : decode b_Mo_key 256 = .ok (.dload_n 3, 1) := by decide +kernel
theorem d_Mo_key_257 : decode b_Mo_key 257 = .ok (.dastore, 1) := by decide +kernel
theorem d_Mo_key_258 : decode b_Mo_key 258 = .ok (.aload_n 0, 1) := by decide +kernel
theorem d_Mo_key_259 : decode b_Mo_key 259 = .ok (.getfield 69, 3) := by decide +kernel
theorem d_Mo_key_262 : decode b_Mo_key 262 = .ok (.iload 7, 2) := by decide +kernel
theorem d_Mo_key_264 : decode b_Mo_key 264 = .ok (.iconst 4, 1) := by decide +kernel
theorem d_Mo_key_265 : decode b_Mo_key 265 = .ok (.imul, 1) := by decide +kernel
theorem d_Mo_key_266 : decode b_Mo_key 266 = .ok (.iload 8, 2) := by decide +kernel
theorem d_Mo_key_268 : decode b_Mo_key 268 = .ok (.iadd, 1) := by decide +kernel
theorem d_Mo_key_269 : decode b_Mo_key 269 = .ok (.dload 5, 2) := by decide +kernel
theorem d_Mo_key_271 : decode b_Mo_key 271 = .ok (.dastore, 1) := by decide +kernel
theorem d_Mo_key_272 : decode b_Mo_key 272 = .ok (.aload_n 0, 1) := by decide +kernel
theorem d_Mo_key_273 : decode b_Mo_key 273 = .ok (.getfield 41, 3) := by decide +kernel
theorem d_Mo_key_276 : decode b_Mo_key 276 = .ok (.iload 7, 2) := by decide +kernel
theorem d_Mo_key_278 : decode b_Mo_key 278 = .ok (.iaload, 1) := by decide +kernel
theorem d_Mo_key_279 : decode b_Mo_key 279 = .ok (.ireturn, 1) := by decide +kernel
theorem d_Mo_fits_0 : decode b_Mo_fits 0 = .ok (.iload_n 0, 1) := by decide +kernel
theorem d_Mo_fits_1 : decode b_Mo_fits 1 = .ok (.iconst 2, 1) := by decide +kernel
theorem d_Mo_fits_2 : decode b_Mo_fits 2 = .ok (.if_icmp .ge 14, 3) := by decide +kernel
theorem d_Mo_fits_5 : decode b_Mo_fits 5 = .ok (.dload_n 1, 1) := by decide +kernel
theorem d_Mo_fits_6 : decode b_Mo_fits 6 = .ok (.ldc2_w 127, 3) := by decide +kernel
theorem d_Mo_fits_9 : decode b_Mo_fits 9 = .ok (.ldc2_w 118, 3) := by decide +kernel
theorem d_Mo_fits_12 : decode b_Mo_fits 12 = .ok (.invokestatic 120, 3) := by decide +kernel
theorem d_Mo_fits_15 : decode b_Mo_fits 15 = .ok (.ireturn, 1) := by decide +kernel
theorem d_Mo_fits_16 : decode b_Mo_fits 16 = .ok (.dload_n 1, 1) := by decide +kernel
theorem d_Mo_fits_17 : decode b_Mo_fits 17 = .ok (.dload_n 1, 1) := by decide +kernel
theorem d_Mo_fits_18 : decode b_Mo_fits 18 = .ok (.invokestatic 131, 3) := by decide +kernel
theorem d_Mo_fits_21 : decode b_Mo_fits 21 = .ok (.dcmp .l, 1) := by decide +kernel
theorem d_Mo_fits_22 : decode b_Mo_fits 22 = .ok (.ifCond .eq 5, 3) := by decide +kernel
theorem d_Mo_fits_25 : decode b_Mo_fits 25 = .ok (.iconst 0, 1) := by decide +kernel
theorem d_Mo_fits_26 : decode b_Mo_fits 26 = .ok (.ireturn, 1) := by decide +kernel
theorem d_Mo_fits_27 : decode b_Mo_fits 27 = .ok (.iload_n 0, 1) := by decide +kernel
theorem d_Mo_fits_28 : decode b_Mo_fits 28 = .ok (.iconst 2, 1) := by decide +kernel
theorem d_Mo_fits_29 : decode b_Mo_fits 29 = .ok (.if_icmp .ne 16, 3) := by decide +kernel
theorem d_Mo_fits_32 : decode b_Mo_fits 32 = .ok (.dload_n 1, 1) := by decide +kernel
theorem d_Mo_fits_33 : decode b_Mo_fits 33 = .ok (.ldc2_w 135, 3) := by decide +kernel
theorem d_Mo_fits_36 : decode b_Mo_fits 36 = .ok (.ldc2_w 137, 3) := by decide +kernel
theorem d_Mo_fits_39 : decode b_Mo_fits 39 = .ok (.invokestatic 120, 3) := by decide +kernel
theorem d_Mo_fits_42 : decode b_Mo_fits 42 = .ok (.goto 11, 3) := by decide +kernel
theorem d_Mo_fits_45 : decode b_Mo_fits 45 = .ok (.dload_n 1, 1) := by decide +kernel
theorem d_Mo_fits_46 : decode b_Mo_fits 46 = .ok (.dconst 1, 1) := by decide +kernel
theorem d_Mo_fits_47 : decode b_Mo_fits 47 = .ok (.ldc2_w 139, 3) := by decide +kernel
theorem d_Mo_fits_50 : decode b_Mo_fits 50 = .ok (.invokestatic 120, 3) := by decide +kernel
theorem d_Mo_fits_53 : decode b_Mo_fits 53 = .ok (.ireturn, 1) := by decide +kernel
theorem d_Mo_floor_0 : decode b_Mo_floor 0 = .ok (.dload_n 0, 1) := by decide +kernel
theorem d_Mo_floor_1 : decode b_Mo_floor 1 = .ok (.d2l, 1) := by decide +kernel
theorem d_Mo_floor_2 : decode b_Mo_floor 2 = .ok (.lstore_n 2, 1) := by decide +kernel
theorem d_Mo_floor_3 : decode b_Mo_floor 3 = .ok (.lload_n 2, 1) := by decide +kernel
theorem d_Mo_floor_4 : decode b_Mo_floor 4 = .ok (.l2d, 1) := by decide +kernel
theorem d_Mo_floor_5 : decode b_Mo_floor 5 = .ok (.dload_n 0, 1) := by decide +kernel
theorem d_Mo_floor_6 : decode b_Mo_floor 6 = .ok (.dcmp .l, 1) := by decide +kernel
theorem d_Mo_floor_7 : decode b_Mo_floor 7 = .ok (.ifCond .le 10, 3) := by decide +kernel
theorem d_Mo_floor_10 : decode b_Mo_floor 10 = .ok (.lload_n 2, 1) := by decide +kernel
theorem d_Mo_floor_11 : decode b_Mo_floor 11 = .ok (.lconst 1, 1) := by decide +kernel
theorem d_Mo_floor_12 : decode b_Mo_floor 12 = .ok (.lsub, 1) := by decide +kernel
theorem d_Mo_floor_13 : decode b_Mo_floor 13 = .ok (.l2d, 1) := by decide +kernel
theorem d_Mo_floor_14 : decode b_Mo_floor 14 = .ok (.goto 5, 3) := by decide +kernel
theorem d_Mo_floor_17 : decode b_Mo_floor 17 = .ok (.lload_n 2, 1) := by decide +kernel
theorem d_Mo_floor_18 : decode b_Mo_floor 18 = .ok (.l2d, 1) := by decide +kernel
theorem d_Mo_floor_19 : decode b_Mo_floor 19 = .ok (.dreturn, 1) := by decide +kernel
theorem d_Mo_unkey_0 : decode b_Mo_unkey 0 = .ok (.aload_n 0, 1) := by decide +kernel
theorem d_Mo_unkey_1 : decode b_Mo_unkey 1 = .ok (.aload_n 0, 1) := by decide +kernel
theorem d_Mo_unkey_2 : decode b_Mo_unkey 2 = .ok (.iload_n 1, 1) := by decide +kernel
theorem d_Mo_unkey_3 : decode b_Mo_unkey 3 = .ok (.invokevirtual 124, 3) := by decide +kernel
theorem d_Mo_unkey_6 : decode b_Mo_unkey 6 = .ok (.ifCond .eq 16, 3) := by decide +kernel
theorem d_Mo_unkey_9 : decode b_Mo_unkey 9 = .ok (.iload_n 2, 1) := by decide +kernel
theorem d_Mo_unkey_10 : decode b_Mo_unkey 10 = .ok (.ifCond .lt 12, 3) := by decide +kernel
theorem d_Mo_unkey_13 : decode b_Mo_unkey 13 = .ok (.iload_n 2, 1) := by decide +kernel
theorem d_Mo_unkey_14 : decode b_Mo_unkey 14 = .ok (.iconst 4, 1) := by decide +kernel
theorem d_Mo_unkey_15 : decode b_Mo_unkey 15 = .ok (.if_icmp .ge 7, 3) := by decide +kernel
theorem d_Mo_unkey_18 : decode b_Mo_unkey 18 = .ok (.iconst 1, 1) := by decide +kernel
theorem d_Mo_unkey_19 : decode b_Mo_unkey 19 = .ok (.goto 4, 3) := by decide +kernel
theorem d_Mo_unkey_22 : decode b_Mo_unkey 22 = .ok (.iconst 0, 1) := by decide +kernel
theorem d_Mo_unkey_23 : decode b_Mo_unkey 23 = .ok (.invokevirtual 108, 3) := by decide +kernel
theorem d_Mo_unkey_26 : decode b_Mo_unkey 26 = .ok (.ifCond .eq 4, 3) := by decide +kernel
theorem d_Mo_unkey_29 : decode b_Mo_unkey 29 = .ok (.return_, 1) := by decide +kernel
theorem d_Mo_unkey_30 : decode b_Mo_unkey 30 = .ok (.aload_n 0, 1) := by decide +kernel
theorem d_Mo_unkey_31 : decode b_Mo_unkey 31 = .ok (.getfield 41, 3) := by decide +kernel
theorem d_Mo_unkey_34 : decode b_Mo_unkey 34 = .ok (.iload_n 1, 1) := by decide +kernel
theorem d_Mo_unkey_35 : decode b_Mo_unkey 35 = .ok (.iconst 4, 1) := by decide +kernel
theorem d_Mo_unkey_36 : decode b_Mo_unkey 36 = .ok (.imul, 1) := by decide +kernel
theorem d_Mo_unkey_37 : decode b_Mo_unkey 37 = .ok (.iload_n 2, 1) := by decide +kernel
theorem d_Mo_unkey_38 : decode b_Mo_unkey 38 = .ok (.iadd, 1) := by decide +kernel
theorem d_Mo_unkey_39 : decode b_Mo_unkey 39 = .ok (.iaload, 1) := by decide +kernel
theorem d_Mo_unkey_40 : decode b_Mo_unkey 40 = .ok (.ifCond .ne 8, 3) := by decide +kernel
theorem d_Mo_unkey_43 : decode b_Mo_unkey 43 = .ok (.aload_n 0, 1) := by decide +kernel
theorem d_Mo_unkey_44 : decode b_Mo_unkey 44 = .ok (.iconst 2, 1) := by decide +kernel
theorem d_Mo_unkey_45 : decode b_Mo_unkey 45 = .ok (.putfield 90, 3) := by decide +kernel
theorem d_Mo_unkey_48 : decode b_Mo_unkey 48 = .ok (.aload_n 0, 1) := by decide +kernel
theorem d_Mo_unkey_49 : decode b_Mo_unkey 49 = .ok (.getfield 41, 3) := by decide +kernel
theorem d_Mo_unkey_52 : decode b_Mo_unkey 52 = .ok (.iload_n 1, 1) := by decide +kernel
theorem d_Mo_unkey_53 : decode b_Mo_unkey 53 = .ok (.iconst 4, 1) := by decide +kernel
theorem d_Mo_unkey_54 : decode b_Mo_unkey 54 = .ok (.imul, 1) := by decide +kernel
theorem d_Mo_unkey_55 : decode b_Mo_unkey 55 = .ok (.iload_n 2, 1) := by decide +kernel
theorem d_Mo_unkey_56 : decode b_Mo_unkey 56 = .ok (.iadd, 1) := by decide +kernel
theorem d_Mo_unkey_57 : decode b_Mo_unkey 57 = .ok (.iconst 0, 1) := by decide +kernel
theorem d_Mo_unkey_58 : decode b_Mo_unkey 58 = .ok (.iastore, 1) := by decide +kernel
theorem d_Mo_unkey_59 : decode b_Mo_unkey 59 = .ok (.return_, 1) := by decide +kernel
theorem d_Mo_into_0 : decode b_Mo_into 0 = .ok (.aload_n 0, 1) := by decide +kernel
theorem d_Mo_into_1 : decode b_Mo_into 1 = .ok (.aload_n 0, 1) := by decide +kernel
theorem d_Mo_into_2 : decode b_Mo_into 2 = .ok (.iload_n 1, 1) := by decide +kernel
theorem d_Mo_into_3 : decode b_Mo_into 3 = .ok (.invokevirtual 124, 3) := by decide +kernel
theorem d_Mo_into_6 : decode b_Mo_into 6 = .ok (.ifCond .eq 15, 3) := by decide +kernel
theorem d_Mo_into_9 : decode b_Mo_into 9 = .ok (.aload_n 0, 1) := by decide +kernel
theorem d_Mo_into_10 : decode b_Mo_into 10 = .ok (.iload_n 2, 1) := by decide +kernel
theorem d_Mo_into_11 : decode b_Mo_into 11 = .ok (.invokevirtual 105, 3) := by decide +kernel
theorem d_Mo_into_14 : decode b_Mo_into 14 = .ok (.ifCond .eq 7, 3) := by decide +kernel
theorem d_Mo_into_17 : decode b_Mo_into 17 = .ok (.iconst 1, 1) := by decide +kernel
theorem d_Mo_into_18 : decode b_Mo_into 18 = .ok (.goto 4, 3) := by decide +kernel
theorem d_Mo_into_21 : decode b_Mo_into 21 = .ok (.iconst 0, 1) := by decide +kernel
theorem d_Mo_into_22 : decode b_Mo_into 22 = .ok (.invokevirtual 108, 3) := by decide +kernel
theorem d_Mo_into_25 : decode b_Mo_into 25 = .ok (.ifCond .eq 4, 3) := by decide +kernel
theorem d_Mo_into_28 : decode b_Mo_into 28 = .ok (.return_, 1) := by decide +kernel
theorem d_Mo_into_29 : decode b_Mo_into 29 = .ok (.aload_n 0, 1) := by decide +kernel
theorem d_Mo_into_30 : decode b_Mo_into 30 = .ok (.iload_n 2, 1) := by decide +kernel
theorem d_Mo_into_31 : decode b_Mo_into 31 = .ok (.iload_n 1, 1) := by decide +kernel
theorem d_Mo_into_32 : decode b_Mo_into 32 = .ok (.invokevirtual 149, 3) := by decide +kernel
theorem d_Mo_into_35 : decode b_Mo_into 35 = .ok (.ifCond .ne 21, 3) := by decide +kernel
theorem d_Mo_into_38 : decode b_Mo_into 38 = .ok (.aload_n 0, 1) := by decide +kernel
theorem d_Mo_into_39 : decode b_Mo_into 39 = .ok (.getfield 50, 3) := by decide +kernel
theorem d_Mo_into_42 : decode b_Mo_into 42 = .ok (.iload_n 2, 1) := by decide +kernel
theorem d_Mo_into_43 : decode b_Mo_into 43 = .ok (.iaload, 1) := by decide +kernel
theorem d_Mo_into_44 : decode b_Mo_into 44 = .ok (.iconst 1, 1) := by decide +kernel
theorem d_Mo_into_45 : decode b_Mo_into 45 = .ok (.iadd, 1) := by decide +kernel
theorem d_Mo_into_46 : decode b_Mo_into 46 = .ok (.aload_n 0, 1) := by decide +kernel
theorem d_Mo_into_47 : decode b_Mo_into 47 = .ok (.iload_n 1, 1) := by decide +kernel
theorem d_Mo_into_48 : decode b_Mo_into 48 = .ok (.invokevirtual 153, 3) := by decide +kernel
theorem d_Mo_into_51 : decode b_Mo_into 51 = .ok (.iadd, 1) := by decide +kernel
theorem d_Mo_into_52 : decode b_Mo_into 52 = .ok (.iconst 5, 1) := by decide +kernel
theorem d_Mo_into_53 : decode b_Mo_into 53 = .ok (.if_icmp .le 8, 3) := by decide +kernel
theorem d_Mo_into_56 : decode b_Mo_into 56 = .ok (.aload_n 0, 1) := by decide +kernel
theorem d_Mo_into_57 : decode b_Mo_into 57 = .ok (.iconst 2, 1) := by decide +kernel
theorem d_Mo_into_58 : decode b_Mo_into 58 = .ok (.putfield 90, 3) := by decide +kernel
theorem d_Mo_into_61 : decode b_Mo_into 61 = .ok (.aload_n 0, 1) := by decide +kernel
theorem d_Mo_into_62 : decode b_Mo_into 62 = .ok (.getfield 90, 3) := by decide +kernel
theorem d_Mo_into_65 : decode b_Mo_into 65 = .ok (.ifCond .le 4, 3) := by decide +kernel
theorem d_Mo_into_68 : decode b_Mo_into 68 = .ok (.return_, 1) := by decide +kernel
theorem d_Mo_into_69 : decode b_Mo_into 69 = .ok (.aload_n 0, 1) := by decide +kernel
theorem d_Mo_into_70 : decode b_Mo_into 70 = .ok (.iload_n 1, 1) := by decide +kernel
theorem d_Mo_into_71 : decode b_Mo_into 71 = .ok (.invokevirtual 156, 3) := by decide +kernel
theorem d_Mo_into_74 : decode b_Mo_into 74 = .ok (.aload_n 0, 1) := by decide +kernel
theorem d_Mo_into_75 : decode b_Mo_into 75 = .ok (.iload_n 1, 1) := by decide +kernel
theorem d_Mo_into_76 : decode b_Mo_into 76 = .ok (.iload_n 2, 1) := by decide +kernel
theorem d_Mo_into_77 : decode b_Mo_into 77 = .ok (.invokevirtual 112, 3) := by decide +kernel
theorem d_Mo_into_80 : decode b_Mo_into 80 = .ok (.return_, 1) := by decide +kernel
end
section
/-! decode rows, by program -/
theorem d_Mo_within_0 : decode b_Mo_within 0 = .ok (.iload_n 1, 1) := by decide +kernel
theorem d_Mo_within_1 : decode b_Mo_within 1 = .ok (.istore_n 3, 1) := by decide +kernel
theorem d_Mo_within_2 : decode b_Mo_within 2 = .ok (.iload_n 3, 1) := by decide +kernel
theorem d_Mo_within_3 : decode b_Mo_within 3 = .ok (.ifCond .lt 18, 3) := by decide +kernel
theorem d_Mo_within_6 : decode b_Mo_within 6 = .ok (.iload_n 3, 1) := by decide +kernel
theorem d_Mo_within_7 : decode b_Mo_within 7 = .ok (.iload_n 2, 1) := by decide +kernel
theorem d_Mo_within_8 : decode b_Mo_within 8 = .ok (.if_icmp .eq 13, 3) := by decide +kernel
theorem d_Mo_within_11 : decode b_Mo_within 11 = .ok (.aload_n 0, 1) := by decide +kernel
theorem d_Mo_within_12 : decode b_Mo_within 12 = .ok (.getfield 29, 3) := by decide +kernel
theorem d_Mo_within_15 : decode b_Mo_within 15 = .ok (.iload_n 3, 1) := by decide +kernel
theorem d_Mo_within_16 : decode b_Mo_within 16 = .ok (.iaload, 1) := by decide +kernel
theorem d_Mo_within_17 : decode b_Mo_within 17 = .ok (.istore_n 3, 1) := by decide +kernel
theorem d_Mo_within_18 : decode b_Mo_within 18 = .ok (.goto (-16), 3) := by decide +kernel
theorem d_Mo_within_21 : decode b_Mo_within 21 = .ok (.iload_n 3, 1) := by decide +kernel
theorem d_Mo_within_22 : decode b_Mo_within 22 = .ok (.iload_n 2, 1) := by decide +kernel
theorem d_Mo_within_23 : decode b_Mo_within 23 = .ok (.if_icmp .ne 7, 3) := by decide +kernel
theorem d_Mo_within_26 : decode b_Mo_within 26 = .ok (.iconst 1, 1) := by decide +kernel
theorem d_Mo_within_27 : decode b_Mo_within 27 = .ok (.goto 4, 3) := by decide +kernel
theorem d_Mo_within_30 : decode b_Mo_within 30 = .ok (.iconst 0, 1) := by decide +kernel
theorem d_Mo_within_31 : decode b_Mo_within 31 = .ok (.ireturn, 1) := by decide +kernel
theorem d_Mo_height_0 : decode b_Mo_height 0 = .ok (.iconst 0, 1) := by decide +kernel
theorem d_Mo_height_1 : decode b_Mo_height 1 = .ok (.istore_n 2, 1) := by decide +kernel
theorem d_Mo_height_2 : decode b_Mo_height 2 = .ok (.iconst 0, 1) := by decide +kernel
theorem d_Mo_height_3 : decode b_Mo_height 3 = .ok (.istore_n 3, 1) := by decide +kernel
theorem d_Mo_height_4 : decode b_Mo_height 4 = .ok (.iload_n 3, 1) := by decide +kernel
theorem d_Mo_height_5 : decode b_Mo_height 5 = .ok (.aload_n 0, 1) := by decide +kernel
theorem d_Mo_height_6 : decode b_Mo_height 6 = .ok (.getfield 98, 3) := by decide +kernel
theorem d_Mo_height_9 : decode b_Mo_height 9 = .ok (.if_icmp .ge 60, 3) := by decide +kernel
theorem d_Mo_height_12 : decode b_Mo_height 12 = .ok (.aload_n 0, 1) := by decide +kernel
theorem d_Mo_height_13 : decode b_Mo_height 13 = .ok (.getfield 44, 3) := by decide +kernel
theorem d_Mo_height_16 : decode b_Mo_height 16 = .ok (.iload_n 3, 1) := by decide +kernel
theorem d_Mo_height_17 : decode b_Mo_height 17 = .ok (.iaload, 1) := by decide +kernel
theorem d_Mo_height_18 : decode b_Mo_height 18 = .ok (.istore 4, 2) := by decide +kernel
theorem d_Mo_height_20 : decode b_Mo_height 20 = .ok (.aload_n 0, 1) := by decide +kernel
theorem d_Mo_height_21 : decode b_Mo_height 21 = .ok (.iload 4, 2) := by decide +kernel
theorem d_Mo_height_23 : decode b_Mo_height 23 = .ok (.iload_n 1, 1) := by decide +kernel
theorem d_Mo_height_24 : decode b_Mo_height 24 = .ok (.invokevirtual 149, 3) := by decide +kernel
theorem d_Mo_height_27 : decode b_Mo_height 27 = .ok (.ifCond .eq 36, 3) := by decide +kernel
theorem d_Mo_height_30 : decode b_Mo_height 30 = .ok (.aload_n 0, 1) := by decide +kernel
theorem d_Mo_height_31 : decode b_Mo_height 31 = .ok (.getfield 50, 3) := by decide +kernel
theorem d_Mo_height_34 : decode b_Mo_height 34 = .ok (.iload 4, 2) := by decide +kernel
theorem d_Mo_height_36 : decode b_Mo_height 36 = .ok (.iaload, 1) := by decide +kernel
theorem d_Mo_height_37 : decode b_Mo_height 37 = .ok (.aload_n 0, 1) := by decide +kernel
theorem d_Mo_height_38 : decode b_Mo_height 38 = .ok (.getfield 50, 3) := by decide +kernel
theorem d_Mo_height_41 : decode b_Mo_height 41 = .ok (.iload_n 1, 1) := by decide +kernel
theorem d_Mo_height_42 : decode b_Mo_height 42 = .ok (.iaload, 1) := by decide +kernel
theorem d_Mo_height_43 : decode b_Mo_height 43 = .ok (.isub, 1) := by decide +kernel
theorem d_Mo_height_44 : decode b_Mo_height 44 = .ok (.iload_n 2, 1) := by decide +kernel
theorem d_Mo_height_45 : decode b_Mo_height 45 = .ok (.if_icmp .le 18, 3) := by decide +kernel
theorem d_Mo_height_48 : decode b_Mo_height 48 = .ok (.aload_n 0, 1) := by decide +kernel
theorem d_Mo_height_49 : decode b_Mo_height 49 = .ok (.getfield 50, 3) := by decide +kernel
theorem d_Mo_height_52 : decode b_Mo_height 52 = .ok (.iload 4, 2) := by decide +kernel
theorem d_Mo_height_54 : decode b_Mo_height 54 = .ok (.iaload, 1) := by decide +kernel
theorem d_Mo_height_55 : decode b_Mo_height 55 = .ok (.aload_n 0, 1) := by decide +kernel
theorem d_Mo_height_56 : decode b_Mo_height 56 = .ok (.getfield 50, 3) := by decide +kernel
theorem d_Mo_height_59 : decode b_Mo_height 59 = .ok (.iload_n 1, 1) := by decide +kernel
theorem d_Mo_height_60 : decode b_Mo_height 60 = .ok (.iaload, 1) := by decide +kernel
theorem d_Mo_height_61 : decode b_Mo_height 61 = .ok (.isub, 1) := by decide +kernel
theorem d_Mo_height_62 : decode b_Mo_height 62 = .ok (.istore_n 2, 1) := by decide +kernel
theorem d_Mo_height_63 : decode b_Mo_height 63 = .ok (.iinc 3 1, 3) := by decide +kernel
theorem d_Mo_height_66 : decode b_Mo_height 66 = .ok (.goto (-62), 3) := by decide +kernel
theorem d_Mo_height_69 : decode b_Mo_height 69 = .ok (.iload_n 2, 1) := by decide +kernel
theorem d_Mo_height_70 : decode b_Mo_height 70 = .ok (.ireturn, 1) := by decide +kernel
theorem d_Mo_leave_0 : decode b_Mo_leave 0 = .ok (.aload_n 0, 1) := by decide +kernel
theorem d_Mo_leave_1 : decode b_Mo_leave 1 = .ok (.getfield 29, 3) := by decide +kernel
theorem d_Mo_leave_4 : decode b_Mo_leave 4 = .ok (.iload_n 1, 1) := by decide +kernel
theorem d_Mo_leave_5 : decode b_Mo_leave 5 = .ok (.iaload, 1) := by decide +kernel
theorem d_Mo_leave_6 : decode b_Mo_leave 6 = .ok (.istore_n 2, 1) := by decide +kernel
theorem d_Mo_leave_7 : decode b_Mo_leave 7 = .ok (.aload_n 0, 1) := by decide +kernel
theorem d_Mo_leave_8 : decode b_Mo_leave 8 = .ok (.iload_n 1, 1) := by decide +kernel
theorem d_Mo_leave_9 : decode b_Mo_leave 9 = .ok (.invokevirtual 101, 3) := by decide +kernel
theorem d_Mo_leave_12 : decode b_Mo_leave 12 = .ok (.istore_n 3, 1) := by decide +kernel
theorem d_Mo_leave_13 : decode b_Mo_leave 13 = .ok (.iload_n 3, 1) := by decide +kernel
theorem d_Mo_leave_14 : decode b_Mo_leave 14 = .ok (.iconst 1, 1) := by decide +kernel
theorem d_Mo_leave_15 : decode b_Mo_leave 15 = .ok (.iadd, 1) := by decide +kernel
theorem d_Mo_leave_16 : decode b_Mo_leave 16 = .ok (.aload_n 0, 1) := by decide +kernel
theorem d_Mo_leave_17 : decode b_Mo_leave 17 = .ok (.getfield 32, 3) := by decide +kernel
theorem d_Mo_leave_20 : decode b_Mo_leave 20 = .ok (.iload_n 2, 1) := by decide +kernel
theorem d_Mo_leave_21 : decode b_Mo_leave 21 = .ok (.iaload, 1) := by decide +kernel
theorem d_Mo_leave_22 : decode b_Mo_leave 22 = .ok (.if_icmp .ge 33, 3) := by decide +kernel
theorem d_Mo_leave_25 : decode b_Mo_leave 25 = .ok (.aload_n 0, 1) := by decide +kernel
theorem d_Mo_leave_26 : decode b_Mo_leave 26 = .ok (.getfield 35, 3) := by decide +kernel
theorem d_Mo_leave_29 : decode b_Mo_leave 29 = .ok (.iload_n 2, 1) := by decide +kernel
theorem d_Mo_leave_30 : decode b_Mo_leave 30 = .ok (.bipush 14, 2) := by decide +kernel
theorem d_Mo_leave_32 : decode b_Mo_leave 32 = .ok (.imul, 1) := by decide +kernel
theorem d_Mo_leave_33 : decode b_Mo_leave 33 = .ok (.iload_n 3, 1) := by decide +kernel
theorem d_Mo_leave_34 : decode b_Mo_leave 34 = .ok (.iadd, 1) := by decide +kernel
theorem d_Mo_leave_35 : decode b_Mo_leave 35 = .ok (.aload_n 0, 1) := by decide +kernel
theorem d_Mo_leave_36 : decode b_Mo_leave 36 = .ok (.getfield 35, 3) := by decide +kernel
theorem d_Mo_leave_39 : decode b_Mo_leave 39 = .ok (.iload_n 2, 1) := by decide +kernel
theorem d_Mo_leave_40 : decode b_Mo_leave 40 = .ok (.bipush 14, 2) := by decide +kernel
theorem d_Mo_leave_42 : decode b_Mo_leave 42 = .ok (.imul, 1) := by decide +kernel
theorem d_Mo_leave_43 : decode b_Mo_leave 43 = .ok (.iload_n 3, 1) := by decide +kernel
theorem d_Mo_leave_44 : decode b_Mo_leave 44 = .ok (.iadd, 1) := by decide +kernel
theorem d_Mo_leave_45 : decode b_Mo_leave 45 = .ok (.iconst 1, 1) := by decide +kernel
theorem d_Mo_leave_46 : decode b_Mo_leave 46 = .ok (.iadd, 1) := by decide +kernel
theorem d_Mo_leave_47 : decode b_Mo_leave 47 = .ok (.iaload, 1) := by decide +kernel
theorem d_Mo_leave_48 : decode b_Mo_leave 48 = .ok (.iastore, 1) := by decide +kernel
theorem d_Mo_leave_49 : decode b_Mo_leave 49 = .ok (.iinc 3 1, 3) := by decide +kernel
theorem d_Mo_leave_52 : decode b_Mo_leave 52 = .ok (.goto (-39), 3) := by decide +kernel
theorem d_Mo_leave_55 : decode b_Mo_leave 55 = .ok (.aload_n 0, 1) := by decide +kernel
theorem d_Mo_leave_56 : decode b_Mo_leave 56 = .ok (.getfield 32, 3) := by decide +kernel
theorem d_Mo_leave_59 : decode b_Mo_leave 59 = .ok (.iload_n 2, 1) := by decide +kernel
theorem d_Mo_leave_60 : decode b_Mo_leave 60 = .ok (.dup2, 1) := by decide +kernel
theorem d_Mo_leave_61 : decode b_Mo_leave 61 = .ok (.iaload, 1) := by decide +kernel
theorem d_Mo_leave_62 : decode b_Mo_leave 62 = .ok (.iconst 1, 1) := by decide +kernel
theorem d_Mo_leave_63 : decode b_Mo_leave 63 = .ok (.isub, 1) := by decide +kernel
theorem d_Mo_leave_64 : decode b_Mo_leave 64 = .ok (.iastore, 1) := by decide +kernel
theorem d_Mo_leave_65 : decode b_Mo_leave 65 = .ok (.return_, 1) := by decide +kernel
theorem d_Mo_placeOf_0 : decode b_Mo_placeOf 0 = .ok (.iconst 0, 1) := by decide +kernel
theorem d_Mo_placeOf_1 : decode b_Mo_placeOf 1 = .ok (.istore_n 2, 1) := by decide +kernel
theorem d_Mo_placeOf_2 : decode b_Mo_placeOf 2 = .ok (.iload_n 1, 1) := by decide +kernel
theorem d_Mo_placeOf_3 : decode b_Mo_placeOf 3 = .ok (.ifCond .le 29, 3) := by decide +kernel
theorem d_Mo_placeOf_6 : decode b_Mo_placeOf 6 = .ok (.aload_n 0, 1) := by decide +kernel
theorem d_Mo_placeOf_7 : decode b_Mo_placeOf 7 = .ok (.getfield 35, 3) := by decide +kernel
theorem d_Mo_placeOf_10 : decode b_Mo_placeOf 10 = .ok (.aload_n 0, 1) := by decide +kernel
theorem d_Mo_placeOf_11 : decode b_Mo_placeOf 11 = .ok (.getfield 29, 3) := by decide +kernel
theorem d_Mo_placeOf_14 : decode b_Mo_placeOf 14 = .ok (.iload_n 1, 1) := by decide +kernel
theorem d_Mo_placeOf_15 : decode b_Mo_placeOf 15 = .ok (.iaload, 1) := by decide +kernel
theorem d_Mo_placeOf_16 : decode b_Mo_placeOf 16 = .ok (.bipush 14, 2) := by decide +kernel
theorem d_Mo_placeOf_18 : decode b_Mo_placeOf 18 = .ok (.imul, 1) := by decide +kernel
theorem d_Mo_placeOf_19 : decode b_Mo_placeOf 19 = .ok (.iload_n 2, 1) := by decide +kernel
theorem d_Mo_placeOf_20 : decode b_Mo_placeOf 20 = .ok (.iadd, 1) := by decide +kernel
theorem d_Mo_placeOf_21 : decode b_Mo_placeOf 21 = .ok (.iaload, 1) := by decide +kernel
theorem d_Mo_placeOf_22 : decode b_Mo_placeOf 22 = .ok (.iload_n 1, 1) := by decide +kernel
theorem d_Mo_placeOf_23 : decode b_Mo_placeOf 23 = .ok (.if_icmp .eq 9, 3) := by decide +kernel
theorem d_Mo_placeOf_26 : decode b_Mo_placeOf 26 = .ok (.iinc 2 1, 3) := by decide +kernel
theorem d_Mo_placeOf_29 : decode b_Mo_placeOf 29 = .ok (.goto (-27), 3) := by decide +kernel
theorem d_Mo_placeOf_32 : decode b_Mo_placeOf 32 = .ok (.iload_n 2, 1) := by decide +kernel
theorem d_Mo_placeOf_33 : decode b_Mo_placeOf 33 = .ok (.ireturn, 1) := by decide +kernel
theorem d_Mo_remove_0 : decode b_Mo_remove 0 = .ok (.aload_n 0, 1) := by decide +kernel
theorem d_Mo_remove_1 : decode b_Mo_remove 1 = .ok (.aload_n 0, 1) := by decide +kernel
theorem d_Mo_remove_2 : decode b_Mo_remove 2 = .ok (.iload_n 1, 1) := by decide +kernel
theorem d_Mo_remove_3 : decode b_Mo_remove 3 = .ok (.invokevirtual 124, 3) := by decide +kernel
theorem d_Mo_remove_6 : decode b_Mo_remove 6 = .ok (.invokevirtual 108, 3) := by decide +kernel
theorem d_Mo_remove_9 : decode b_Mo_remove 9 = .ok (.ifCond .eq 5, 3) := by decide +kernel
theorem d_Mo_remove_12 : decode b_Mo_remove 12 = .ok (.iconst 0, 1) := by decide +kernel
theorem d_Mo_remove_13 : decode b_Mo_remove 13 = .ok (.ireturn, 1) := by decide +kernel
theorem d_Mo_remove_14 : decode b_Mo_remove 14 = .ok (.iconst 0, 1) := by decide +kernel
theorem d_Mo_remove_15 : decode b_Mo_remove 15 = .ok (.istore_n 2, 1) := by decide +kernel
theorem d_Mo_remove_16 : decode b_Mo_remove 16 = .ok (.aload_n 0, 1) := by decide +kernel
theorem d_Mo_remove_17 : decode b_Mo_remove 17 = .ok (.getfield 98, 3) := by decide +kernel
theorem d_Mo_remove_20 : decode b_Mo_remove 20 = .ok (.iconst 1, 1) := by decide +kernel
theorem d_Mo_remove_21 : decode b_Mo_remove 21 = .ok (.isub, 1) := by decide +kernel
theorem d_Mo_remove_22 : decode b_Mo_remove 22 = .ok (.istore_n 3, 1) := by decide +kernel
theorem d_Mo_remove_23 : decode b_Mo_remove 23 = .ok (.iload_n 3, 1) := by decide +kernel
theorem d_Mo_remove_24 : decode b_Mo_remove 24 = .ok (.ifCond .lt 41, 3) := by decide +kernel
theorem d_Mo_remove_27 : decode b_Mo_remove 27 = .ok (.aload_n 0, 1) := by decide +kernel
theorem d_Mo_remove_28 : decode b_Mo_remove 28 = .ok (.getfield 44, 3) := by decide +kernel
theorem d_Mo_remove_31 : decode b_Mo_remove 31 = .ok (.iload_n 3, 1) := by decide +kernel
theorem d_Mo_remove_32 : decode b_Mo_remove 32 = .ok (.iaload, 1) := by decide +kernel
theorem d_Mo_remove_33 : decode b_Mo_remove 33 = .ok (.istore 4, 2) := by decide +kernel
theorem d_Mo_remove_35 : decode b_Mo_remove 35 = .ok (.aload_n 0, 1) := by decide +kernel
theorem d_Mo_remove_36 : decode b_Mo_remove 36 = .ok (.iload 4, 2) := by decide +kernel
theorem d_Mo_remove_38 : decode b_Mo_remove 38 = .ok (.iload_n 1, 1) := by decide +kernel
theorem d_Mo_remove_39 : decode b_Mo_remove 39 = .ok (.invokevirtual 149, 3) := by decide +kernel
theorem d_Mo_remove_42 : decode b_Mo_remove 42 = .ok (.ifCond .ne 6, 3) := by decide +kernel
theorem d_Mo_remove_45 : decode b_Mo_remove 45 = .ok (.goto 14, 3) := by decide +kernel
theorem d_Mo_remove_48 : decode b_Mo_remove 48 = .ok (.iinc 2 1, 3) := by decide +kernel
theorem d_Mo_remove_51 : decode b_Mo_remove 51 = .ok (.aload_n 0, 1) := by decide +kernel
theorem d_Mo_remove_52 : decode b_Mo_remove 52 = .ok (.getfield 7, 3) := by decide +kernel
theorem d_Mo_remove_55 : decode b_Mo_remove 55 = .ok (.iload 4, 2) := by decide +kernel
theorem d_Mo_remove_57 : decode b_Mo_remove 57 = .ok (.iconst 0, 1) := by decide +kernel
theorem d_Mo_remove_58 : decode b_Mo_remove 58 = .ok (.bastore, 1) := by decide +kernel
theorem d_Mo_remove_59 : decode b_Mo_remove 59 = .ok (.iinc 3 (-1), 3) := by decide +kernel
theorem d_Mo_remove_62 : decode b_Mo_remove 62 = .ok (.goto (-39), 3) := by decide +kernel
theorem d_Mo_remove_65 : decode b_Mo_remove 65 = .ok (.aload_n 0, 1) := by decide +kernel
theorem d_Mo_remove_66 : decode b_Mo_remove 66 = .ok (.iload_n 1, 1) := by decide +kernel
theorem d_Mo_remove_67 : decode b_Mo_remove 67 = .ok (.invokevirtual 156, 3) := by decide +kernel
theorem d_Mo_remove_70 : decode b_Mo_remove 70 = .ok (.aload_n 0, 1) := by decide +kernel
theorem d_Mo_remove_71 : decode b_Mo_remove 71 = .ok (.invokevirtual 87, 3) := by decide +kernel
theorem d_Mo_remove_74 : decode b_Mo_remove 74 = .ok (.iload_n 2, 1) := by decide +kernel
theorem d_Mo_remove_75 : decode b_Mo_remove 75 = .ok (.ireturn, 1) := by decide +kernel
theorem d_Mo_paint_0 : decode b_Mo_paint 0 = .ok (.aload_n 0, 1) := by decide +kernel
theorem d_Mo_paint_1 : decode b_Mo_paint 1 = .ok (.dload_n 1, 1) := by decide +kernel
theorem d_Mo_paint_2 : decode b_Mo_paint 2 = .ok (.dconst 0, 1) := by decide +kernel
theorem d_Mo_paint_3 : decode b_Mo_paint 3 = .ok (.ldc2_w 141, 3) := by decide +kernel
theorem d_Mo_paint_6 : decode b_Mo_paint 6 = .ok (.invokestatic 120, 3) := by decide +kernel
theorem d_Mo_paint_9 : decode b_Mo_paint 9 = .ok (.invokevirtual 108, 3) := by decide +kernel
theorem d_Mo_paint_12 : decode b_Mo_paint 12 = .ok (.ifCond .eq 5, 3) := by decide +kernel
theorem d_Mo_paint_15 : decode b_Mo_paint 15 = .ok (.iconst 0, 1) := by decide +kernel
theorem d_Mo_paint_16 : decode b_Mo_paint 16 = .ok (.ireturn, 1) := by decide +kernel
theorem d_Mo_paint_17 : decode b_Mo_paint 17 = .ok (.iconst 0, 1) := by decide +kernel
theorem d_Mo_paint_18 : decode b_Mo_paint 18 = .ok (.istore_n 3, 1) := by decide +kernel
theorem d_Mo_paint_19 : decode b_Mo_paint 19 = .ok (.iconst 0, 1) := by decide +kernel
theorem d_Mo_paint_20 : decode b_Mo_paint 20 = .ok (.istore 4, 2) := by decide +kernel
theorem d_Mo_paint_22 : decode b_Mo_paint 22 = .ok (.iload 4, 2) := by decide +kernel
theorem d_Mo_paint_24 : decode b_Mo_paint 24 = .ok (.sipush 192, 3) := by decide +kernel
theorem d_Mo_paint_27 : decode b_Mo_paint 27 = .ok (.if_icmp .ge 80, 3) := by decide +kernel
theorem d_Mo_paint_30 : decode b_Mo_paint 30 = .ok (.aload_n 0, 1) := by decide +kernel
theorem d_Mo_paint_31 : decode b_Mo_paint 31 = .ok (.iload 4, 2) := by decide +kernel
theorem d_Mo_paint_33 : decode b_Mo_paint 33 = .ok (.bipush 16, 2) := by decide +kernel
theorem d_Mo_paint_35 : decode b_Mo_paint 35 = .ok (.irem, 1) := by decide +kernel
theorem d_Mo_paint_36 : decode b_Mo_paint 36 = .ok (.i2d, 1) := by decide +kernel
theorem d_Mo_paint_37 : decode b_Mo_paint 37 = .ok (.ldc2_w 162, 3) := by decide +kernel
theorem d_Mo_paint_40 : decode b_Mo_paint 40 = .ok (.dadd, 1) := by decide +kernel
theorem d_Mo_paint_41 : decode b_Mo_paint 41 = .ok (.iload 4, 2) := by decide +kernel
theorem d_Mo_paint_43 : decode b_Mo_paint 43 = .ok (.bipush 16, 2) := by decide +kernel
theorem d_Mo_paint_45 : decode b_Mo_paint 45 = .ok (.idiv, 1) := by decide +kernel
theorem d_Mo_paint_46 : decode b_Mo_paint 46 = .ok (.i2d, 1) := by decide +kernel
theorem d_Mo_paint_47 : decode b_Mo_paint 47 = .ok (.ldc2_w 162, 3) := by decide +kernel
theorem d_Mo_paint_50 : decode b_Mo_paint 50 = .ok (.dadd, 1) := by decide +kernel
theorem d_Mo_paint_51 : decode b_Mo_paint 51 = .ok (.dload_n 1, 1) := by decide +kernel
theorem d_Mo_paint_52 : decode b_Mo_paint 52 = .ok (.invokevirtual 178, 3) := by decide +kernel
theorem d_Mo_paint_55 : decode b_Mo_paint 55 = .ok (.aload_n 0, 1) := by decide +kernel
theorem d_Mo_paint_56 : decode b_Mo_paint 56 = .ok (.getfield 84, 3) := by decide +kernel
theorem d_Mo_paint_59 : decode b_Mo_paint 59 = .ok (.iload 4, 2) := by decide +kernel
theorem d_Mo_paint_61 : decode b_Mo_paint 61 = .ok (.aload_n 0, 1) := by decide +kernel
theorem d_Mo_paint_62 : decode b_Mo_paint 62 = .ok (.getfield 16, 3) := by decide +kernel
theorem d_Mo_paint_65 : decode b_Mo_paint 65 = .ok (.iconst 0, 1) := by decide +kernel
theorem d_Mo_paint_66 : decode b_Mo_paint 66 = .ok (.baload, 1) := by decide +kernel
theorem d_Mo_paint_67 : decode b_Mo_paint 67 = .ok (.ifCond .eq 19, 3) := by decide +kernel
theorem d_Mo_paint_70 : decode b_Mo_paint 70 = .ok (.aload_n 0, 1) := by decide +kernel
theorem d_Mo_paint_71 : decode b_Mo_paint 71 = .ok (.aload_n 0, 1) := by decide +kernel
theorem d_Mo_paint_72 : decode b_Mo_paint 72 = .ok (.getfield 47, 3) := by decide +kernel
theorem d_Mo_paint_75 : decode b_Mo_paint 75 = .ok (.iconst 0, 1) := by decide +kernel
theorem d_Mo_paint_76 : decode b_Mo_paint 76 = .ok (.iaload, 1) := by decide +kernel
theorem d_Mo_paint_77 : decode b_Mo_paint 77 = .ok (.iconst 3, 1) := by decide +kernel
theorem d_Mo_paint_78 : decode b_Mo_paint 78 = .ok (.dload_n 1, 1) := by decide +kernel
theorem d_Mo_paint_79 : decode b_Mo_paint 79 = .ok (.invokevirtual 168, 3) := by decide +kernel
theorem d_Mo_paint_82 : decode b_Mo_paint 82 = .ok (.d2i, 1) := by decide +kernel
theorem d_Mo_paint_83 : decode b_Mo_paint 83 = .ok (.goto 4, 3) := by decide +kernel
theorem d_Mo_paint_86 : decode b_Mo_paint 86 = .ok (.iconst 0, 1) := by decide +kernel
theorem d_Mo_paint_87 : decode b_Mo_paint 87 = .ok (.iastore, 1) := by decide +kernel
theorem d_Mo_paint_88 : decode b_Mo_paint 88 = .ok (.aload_n 0, 1) := by decide +kernel
theorem d_Mo_paint_89 : decode b_Mo_paint 89 = .ok (.getfield 84, 3) := by decide +kernel
theorem d_Mo_paint_92 : decode b_Mo_paint 92 = .ok (.iload 4, 2) := by decide +kernel
theorem d_Mo_paint_94 : decode b_Mo_paint 94 = .ok (.iaload, 1) := by decide +kernel
theorem d_Mo_paint_95 : decode b_Mo_paint 95 = .ok (.ifCond .eq 6, 3) := by decide +kernel
theorem d_Mo_paint_98 : decode b_Mo_paint 98 = .ok (.iinc 3 1, 3) := by decide +kernel
theorem d_Mo_paint_101 : decode b_Mo_paint 101 = .ok (.iinc 4 1, 3) := by decide +kernel
theorem d_Mo_paint_104 : decode b_Mo_paint 104 = .ok (.goto (-82), 3) := by decide +kernel
theorem d_Mo_paint_107 : decode b_Mo_paint 107 = .ok (.aload_n 0, 1) := by decide +kernel
theorem d_Mo_paint_108 : decode b_Mo_paint 108 = .ok (.dup, 1) := by decide +kernel
theorem d_Mo_paint_109 : decode b_Mo_paint 109 = .ok (.getfield 182, 3) := by decide +kernel
theorem d_Mo_paint_112 : decode b_Mo_paint 112 = .ok (.iconst 1, 1) := by decide +kernel
theorem d_Mo_paint_113 : decode b_Mo_paint 113 = .ok (.iadd, 1) := by decide +kernel
theorem d_Mo_paint_114 : decode b_Mo_paint 114 = .ok (.putfield 182, 3) := by decide +kernel
theorem d_Mo_paint_117 : decode b_Mo_paint 117 = .ok (.iload_n 3, 1) := by decide +kernel
theorem d_Mo_paint_118 : decode b_Mo_paint 118 = .ok (.ireturn, 1) := by decide +kernel
theorem d_Mo_look_0 : decode b_Mo_look 0 = .ok (.iconst 0, 1) := by decide +kernel
theorem d_Mo_look_1 : decode b_Mo_look 1 = .ok (.istore 7, 2) := by decide +kernel
theorem d_Mo_look_3 : decode b_Mo_look 3 = .ok (.iload 7, 2) := by decide +kernel
theorem d_Mo_look_5 : decode b_Mo_look 5 = .ok (.aload_n 0, 1) := by decide +kernel
theorem d_Mo_look_6 : decode b_Mo_look 6 = .ok (.getfield 98, 3) := by decide +kernel
theorem d_Mo_look_9 : decode b_Mo_look 9 = .ok (.if_icmp .ge 264, 3) := by decide +kernel
theorem d_Mo_look_12 : decode b_Mo_look 12 = .ok (.aload_n 0, 1) := by decide +kernel
theorem d_Mo_look_13 : decode b_Mo_look 13 = .ok (.getfield 44, 3) := by decide +kernel
theorem d_Mo_look_16 : decode b_Mo_look 16 = .ok (.iload 7, 2) := by decide +kernel
theorem d_Mo_look_18 : decode b_Mo_look 18 = .ok (.iaload, 1) := by decide +kernel
theorem d_Mo_look_19 : decode b_Mo_look 19 = .ok (.istore 8, 2) := by decide +kernel
theorem d_Mo_look_21 : decode b_Mo_look 21 = .ok (.dload_n 1, 1) := by decide +kernel
theorem d_Mo_look_22 : decode b_Mo_look 22 = .ok (.dstore 9, 2) := by decide +kernel
theorem d_Mo_look_24 : decode b_Mo_look 24 = .ok (.dload_n 3, 1) := by decide +kernel
theorem d_Mo_look_25 : decode b_Mo_look 25 = .ok (.dstore 11, 2) := by decide +kernel
theorem d_Mo_look_27 : decode b_Mo_look 27 = .ok (.iload 8, 2) := by decide +kernel
theorem d_Mo_look_29 : decode b_Mo_look 29 = .ok (.ifCond .le 51, 3) := by decide +kernel
theorem d_Mo_look_32 : decode b_Mo_look 32 = .ok (.aload_n 0, 1) := by decide +kernel
theorem d_Mo_look_33 : decode b_Mo_look 33 = .ok (.getfield 72, 3) := by decide +kernel
theorem d_Mo_look_36 : decode b_Mo_look 36 = .ok (.aload_n 0, 1) := by decide +kernel
theorem d_Mo_look_37 : decode b_Mo_look 37 = .ok (.getfield 29, 3) := by decide +kernel
theorem d_Mo_look_40 : decode b_Mo_look 40 = .ok (.iload 8, 2) := by decide +kernel
theorem d_Mo_look_42 : decode b_Mo_look 42 = .ok (.iaload, 1) := by decide +kernel
theorem d_Mo_look_43 : decode b_Mo_look 43 = .ok (.daload, 1) := by decide +kernel
theorem d_Mo_look_44 : decode b_Mo_look 44 = .ok (.aload_n 0, 1) := by decide +kernel
theorem d_Mo_look_45 : decode b_Mo_look 45 = .ok (.iload 8, 2) := by decide +kernel
theorem d_Mo_look_47 : decode b_Mo_look 47 = .ok (.iconst 0, 1) := by decide +kernel
theorem d_Mo_look_48 : decode b_Mo_look 48 = .ok (.dload 5, 2) := by decide +kernel
theorem d_Mo_look_50 : decode b_Mo_look 50 = .ok (.invokevirtual 168, 3) := by decide +kernel
theorem d_Mo_look_53 : decode b_Mo_look 53 = .ok (.dsub, 1) := by decide +kernel
theorem d_Mo_look_54 : decode b_Mo_look 54 = .ok (.dstore 9, 2) := by decide +kernel
theorem d_Mo_look_56 : decode b_Mo_look 56 = .ok (.aload_n 0, 1) := by decide +kernel
theorem d_Mo_look_57 : decode b_Mo_look 57 = .ok (.getfield 75, 3) := by decide +kernel
theorem d_Mo_look_60 : decode b_Mo_look 60 = .ok (.aload_n 0, 1) := by decide +kernel
theorem d_Mo_look_61 : decode b_Mo_look 61 = .ok (.getfield 29, 3) := by decide +kernel
theorem d_Mo_look_64 : decode b_Mo_look 64 = .ok (.iload 8, 2) := by decide +kernel
theorem d_Mo_look_66 : decode b_Mo_look 66 = .ok (.iaload, 1) := by decide +kernel
theorem d_Mo_look_67 : decode b_Mo_look 67 = .ok (.daload, 1) := by decide +kernel
theorem d_Mo_look_68 : decode b_Mo_look 68 = .ok (.aload_n 0, 1) := by decide +kernel
theorem d_Mo_look_69 : decode b_Mo_look 69 = .ok (.iload 8, 2) := by decide +kernel
theorem d_Mo_look_71 : decode b_Mo_look 71 = .ok (.iconst 1, 1) := by decide +kernel
theorem d_Mo_look_72 : decode b_Mo_look 72 = .ok (.dload 5, 2) := by decide +kernel
theorem d_Mo_look_74 : decode b_Mo_look 74 = .ok (.invokevirtual 168, 3) := by decide +kernel
theorem d_Mo_look_77 : decode b_Mo_look 77 = .ok (.dsub, 1) := by decide +kernel
theorem d_Mo_look_78 : decode b_Mo_look 78 = .ok (.dstore 11, 2) := by decide +kernel
theorem d_Mo_look_80 : decode b_Mo_look 80 = .ok (.iconst 0, 1) := by decide +kernel
theorem d_Mo_look_81 : decode b_Mo_look 81 = .ok (.istore 13, 2) := by decide +kernel
theorem d_Mo_look_83 : decode b_Mo_look 83 = .ok (.iload 13, 2) := by decide +kernel
theorem d_Mo_look_85 : decode b_Mo_look 85 = .ok (.aload_n 0, 1) := by decide +kernel
theorem d_Mo_look_86 : decode b_Mo_look 86 = .ok (.getfield 38, 3) := by decide +kernel
theorem d_Mo_look_89 : decode b_Mo_look 89 = .ok (.iload 8, 2) := by decide +kernel
theorem d_Mo_look_91 : decode b_Mo_look 91 = .ok (.iaload, 1) := by decide +kernel
theorem d_Mo_look_92 : decode b_Mo_look 92 = .ok (.if_icmp .ge 22, 3) := by decide +kernel
theorem d_Mo_look_95 : decode b_Mo_look 95 = .ok (.dload 9, 2) := by decide +kernel
theorem d_Mo_look_97 : decode b_Mo_look 97 = .ok (.dneg, 1) := by decide +kernel
theorem d_Mo_look_98 : decode b_Mo_look 98 = .ok (.dstore 14, 2) := by decide +kernel
theorem d_Mo_look_100 : decode b_Mo_look 100 = .ok (.dload 11, 2) := by decide +kernel
theorem d_Mo_look_102 : decode b_Mo_look 102 = .ok (.dstore 9, 2) := by decide +kernel
theorem d_Mo_look_104 : decode b_Mo_look 104 = .ok (.dload 14, 2) := by decide +kernel
theorem d_Mo_look_106 : decode b_Mo_look 106 = .ok (.dstore 11, 2) := by decide +kernel
theorem d_Mo_look_108 : decode b_Mo_look 108 = .ok (.iinc 13 1, 3) := by decide +kernel
theorem d_Mo_look_111 : decode b_Mo_look 111 = .ok (.goto (-28), 3) := by decide +kernel
theorem d_Mo_look_114 : decode b_Mo_look 114 = .ok (.iload 8, 2) := by decide +kernel
theorem d_Mo_look_116 : decode b_Mo_look 116 = .ok (.ifCond .le 18, 3) := by decide +kernel
theorem d_Mo_look_119 : decode b_Mo_look 119 = .ok (.aload_n 0, 1) := by decide +kernel
theorem d_Mo_look_120 : decode b_Mo_look 120 = .ok (.iload 8, 2) := by decide +kernel
theorem d_Mo_look_122 : decode b_Mo_look 122 = .ok (.iconst 2, 1) := by decide +kernel
theorem d_Mo_look_123 : decode b_Mo_look 123 = .ok (.dload 5, 2) := by decide +kernel
theorem d_Mo_look_125 : decode b_Mo_look 125 = .ok (.invokevirtual 168, 3) := by decide +kernel
theorem d_Mo_look_128 : decode b_Mo_look 128 = .ok (.invokestatic 172, 3) := by decide +kernel
theorem d_Mo_look_131 : decode b_Mo_look 131 = .ok (.goto 4, 3) := by decide +kernel
theorem d_Mo_look_134 : decode b_Mo_look 134 = .ok (.dconst 1, 1) := by decide +kernel
theorem d_Mo_look_135 : decode b_Mo_look 135 = .ok (.dstore 13, 2) := by decide +kernel
theorem d_Mo_look_137 : decode b_Mo_look 137 = .ok (.aload_n 0, 1) := by decide +kernel
theorem d_Mo_look_138 : decode b_Mo_look 138 = .ok (.getfield 72, 3) := by decide +kernel
theorem d_Mo_look_141 : decode b_Mo_look 141 = .ok (.iload 8, 2) := by decide +kernel
theorem d_Mo_look_143 : decode b_Mo_look 143 = .ok (.dload 9, 2) := by decide +kernel
theorem d_Mo_look_145 : decode b_Mo_look 145 = .ok (.dload 13, 2) := by decide +kernel
theorem d_Mo_look_147 : decode b_Mo_look 147 = .ok (.ddiv, 1) := by decide +kernel
theorem d_Mo_look_148 : decode b_Mo_look 148 = .ok (.dastore, 1) := by decide +kernel
theorem d_Mo_look_149 : decode b_Mo_look 149 = .ok (.aload_n 0, 1) := by decide +kernel
theorem d_Mo_look_150 : decode b_Mo_look 150 = .ok (.getfield 75, 3) := by decide +kernel
theorem d_Mo_look_153 : decode b_Mo_look 153 = .ok (.iload 8, 2) := by decide +kernel
theorem d_Mo_look_155 : decode b_Mo_look 155 = .ok (.dload 11, 2) := by decide +kernel
theorem d_Mo_look_157 : decode b_Mo_look 157 = .ok (.dload 13, 2) := by decide +kernel
theorem d_Mo_look_159 : decode b_Mo_look 159 = .ok (.ddiv, 1) := by decide +kernel
theorem d_Mo_look_160 : decode b_Mo_look 160 = .ok (.dastore, 1) := by decide +kernel
theorem d_Mo_look_161 : decode b_Mo_look 161 = .ok (.aload_n 0, 1) := by decide +kernel
theorem d_Mo_look_162 : decode b_Mo_look 162 = .ok (.getfield 22, 3) := by decide +kernel
theorem d_Mo_look_165 : decode b_Mo_look 165 = .ok (.iload 8, 2) := by decide +kernel
theorem d_Mo_look_167 : decode b_Mo_look 167 = .ok (.iaload, 1) := by decide +kernel
theorem d_Mo_look_168 : decode b_Mo_look 168 = .ok (.ifCond .gt 99, 3) := by decide +kernel
theorem d_Mo_look_171 : decode b_Mo_look 171 = .ok (.aload_n 0, 1) := by decide +kernel
theorem d_Mo_look_172 : decode b_Mo_look 172 = .ok (.getfield 26, 3) := by decide +kernel
theorem d_Mo_look_175 : decode b_Mo_look 175 = .ok (.iload 8, 2) := by decide +kernel
theorem d_Mo_look_177 : decode b_Mo_look 177 = .ok (.iaload, 1) := by decide +kernel
theorem d_Mo_look_178 : decode b_Mo_look 178 = .ok (.iconst 2, 1) := by decide +kernel
theorem d_Mo_look_179 : decode b_Mo_look 179 = .ok (.if_icmp .eq 6, 3) := by decide +kernel
theorem d_Mo_look_182 : decode b_Mo_look 182 = .ok (.goto 85, 3) := by decide +kernel
theorem d_Mo_look_185 : decode b_Mo_look 185 = .ok (.aload_n 0, 1) := by decide +kernel
theorem d_Mo_look_186 : decode b_Mo_look 186 = .ok (.getfield 72, 3) := by decide +kernel
theorem d_Mo_look_189 : decode b_Mo_look 189 = .ok (.iload 8, 2) := by decide +kernel
theorem d_Mo_look_191 : decode b_Mo_look 191 = .ok (.aload_n 0, 1) := by decide +kernel
theorem d_Mo_look_192 : decode b_Mo_look 192 = .ok (.getfield 72, 3) := by decide +kernel
theorem d_Mo_look_195 : decode b_Mo_look 195 = .ok (.iload 8, 2) := by decide +kernel
theorem d_Mo_look_197 : decode b_Mo_look 197 = .ok (.daload, 1) := by decide +kernel
theorem d_Mo_look_198 : decode b_Mo_look 198 = .ok (.aload_n 0, 1) := by decide +kernel
theorem d_Mo_look_199 : decode b_Mo_look 199 = .ok (.getfield 53, 3) := by decide +kernel
theorem d_Mo_look_202 : decode b_Mo_look 202 = .ok (.iload 8, 2) := by decide +kernel
theorem d_Mo_look_204 : decode b_Mo_look 204 = .ok (.daload, 1) := by decide +kernel
theorem d_Mo_look_205 : decode b_Mo_look 205 = .ok (.aload_n 0, 1) := by decide +kernel
theorem d_Mo_look_206 : decode b_Mo_look 206 = .ok (.getfield 72, 3) := by decide +kernel
theorem d_Mo_look_209 : decode b_Mo_look 209 = .ok (.iload 8, 2) := by decide +kernel
theorem d_Mo_look_211 : decode b_Mo_look 211 = .ok (.daload, 1) := by decide +kernel
theorem d_Mo_look_212 : decode b_Mo_look 212 = .ok (.aload_n 0, 1) := by decide +kernel
theorem d_Mo_look_213 : decode b_Mo_look 213 = .ok (.getfield 53, 3) := by decide +kernel
theorem d_Mo_look_216 : decode b_Mo_look 216 = .ok (.iload 8, 2) := by decide +kernel
theorem d_Mo_look_218 : decode b_Mo_look 218 = .ok (.daload, 1) := by decide +kernel
theorem d_Mo_look_219 : decode b_Mo_look 219 = .ok (.ddiv, 1) := by decide +kernel
theorem d_Mo_look_220 : decode b_Mo_look 220 = .ok (.invokestatic 131, 3) := by decide +kernel
theorem d_Mo_look_223 : decode b_Mo_look 223 = .ok (.dmul, 1) := by decide +kernel
theorem d_Mo_look_224 : decode b_Mo_look 224 = .ok (.dsub, 1) := by decide +kernel
theorem d_Mo_look_225 : decode b_Mo_look 225 = .ok (.dastore, 1) := by decide +kernel
theorem d_Mo_look_226 : decode b_Mo_look 226 = .ok (.aload_n 0, 1) := by decide +kernel
theorem d_Mo_look_227 : decode b_Mo_look 227 = .ok (.getfield 75, 3) := by decide +kernel
theorem d_Mo_look_230 : decode b_Mo_look 230 = .ok (.iload 8, 2) := by decide +kernel
theorem d_Mo_look_232 : decode b_Mo_look 232 = .ok (.aload_n 0, 1) := by decide +kernel
theorem d_Mo_look_233 : decode b_Mo_look 233 = .ok (.getfield 75, 3) := by decide +kernel
theorem d_Mo_look_236 : decode b_Mo_look 236 = .ok (.iload 8, 2) := by decide +kernel
theorem d_Mo_look_238 : decode b_Mo_look 238 = .ok (.daload, 1) := by decide +kernel
theorem d_Mo_look_239 : decode b_Mo_look 239 = .ok (.aload_n 0, 1) := by decide +kernel
theorem d_Mo_look_240 : decode b_Mo_look 240 = .ok (.getfield 53, 3) := by decide +kernel
theorem d_Mo_look_243 : decode b_Mo_look 243 = .ok (.iload 8, 2) := by decide +kernel
theorem d_Mo_look_245 : decode b_Mo_look 245 = .ok (.daload, 1) := by decide +kernel
theorem d_Mo_look_246 : decode b_Mo_look 246 = .ok (.aload_n 0, 1) := by decide +kernel
theorem d_Mo_look_247 : decode b_Mo_look 247 = .ok (.getfield 75, 3) := by decide +kernel
theorem d_Mo_look_250 : decode b_Mo_look 250 = .ok (.iload 8, 2) := by decide +kernel
theorem d_Mo_look_252 : decode b_Mo_look 252 = .ok (.daload, 1) := by decide +kernel
theorem d_Mo_look_253 : decode b_Mo_look 253 = .ok (.aload_n 0, 1) := by decide +kernel
theorem d_Mo_look_254 : decode b_Mo_look 254 = .ok (.getfield 53, 3) := by decide +kernel
theorem d_Mo_look_257 : decode b_Mo_look 257 = .ok (.iload 8, 2) := by decide +kernel
theorem d_Mo_look_259 : decode b_Mo_look 259 = .ok (.daload, 1) := by decide +kernel
theorem d_Mo_look_260 : decode b_Mo_look 260 = .ok (.ddiv, 1) := by decide +kernel
theorem d_Mo_look_261 : decode b_Mo_look 261 = .ok (.invokestatic 131, 3) := by decide +kernel
theorem d_Mo_look_264 : decode b_Mo_look 264 = .ok (.dmul, 1) := by decide +kernel
theorem d_Mo_look_265 : decode b_Mo_look 265 = .ok (.dsub, 1) := by decide +kernel
theorem d_Mo_look_266 : decode b_Mo_look 266 = .ok (.dastore, 1) := by decide +kernel
theorem d_Mo_look_267 : decode b_Mo_look 267 = .ok (.iinc 7 1, 3) := by decide +kernel
theorem d_Mo_look_270 : decode b_Mo_look 270 = .ok (.goto (-267), 3) := by decide +kernel
theorem d_Mo_look_273 : decode b_Mo_look 273 = .ok (.aload_n 0, 1) := by decide +kernel
theorem d_Mo_look_274 : decode b_Mo_look 274 = .ok (.getfield 98, 3) := by decide +kernel
theorem d_Mo_look_277 : decode b_Mo_look 277 = .ok (.iconst 1, 1) := by decide +kernel
theorem d_Mo_look_278 : decode b_Mo_look 278 = .ok (.isub, 1) := by decide +kernel
theorem d_Mo_look_279 : decode b_Mo_look 279 = .ok (.istore 7, 2) := by decide +kernel
theorem d_Mo_look_281 : decode b_Mo_look 281 = .ok (.iload 7, 2) := by decide +kernel
theorem d_Mo_look_283 : decode b_Mo_look 283 = .ok (.ifCond .lt 20, 3) := by decide +kernel
theorem d_Mo_look_286 : decode b_Mo_look 286 = .ok (.aload_n 0, 1) := by decide +kernel
theorem d_Mo_look_287 : decode b_Mo_look 287 = .ok (.aload_n 0, 1) := by decide +kernel
theorem d_Mo_look_288 : decode b_Mo_look 288 = .ok (.getfield 44, 3) := by decide +kernel
theorem d_Mo_look_291 : decode b_Mo_look 291 = .ok (.iload 7, 2) := by decide +kernel
theorem d_Mo_look_293 : decode b_Mo_look 293 = .ok (.iaload, 1) := by decide +kernel
theorem d_Mo_look_294 : decode b_Mo_look 294 = .ok (.invokevirtual 175, 3) := by decide +kernel
theorem d_Mo_look_297 : decode b_Mo_look 297 = .ok (.iinc 7 (-1), 3) := by decide +kernel
theorem d_Mo_look_300 : decode b_Mo_look 300 = .ok (.goto (-19), 3) := by decide +kernel
theorem d_Mo_look_303 : decode b_Mo_look 303 = .ok (.return_, 1) := by decide +kernel
theorem d_Mo_at_0 : decode b_Mo_at 0 = .ok (.iload_n 1, 1) := by decide +kernel
theorem d_Mo_at_1 : decode b_Mo_at 1 = .ok (.iconst 4, 1) := by decide +kernel
theorem d_Mo_at_2 : decode b_Mo_at 2 = .ok (.imul, 1) := by decide +kernel
theorem d_Mo_at_3 : decode b_Mo_at 3 = .ok (.iload_n 2, 1) := by decide +kernel
theorem d_Mo_at_4 : decode b_Mo_at 4 = .ok (.iadd, 1) := by decide +kernel
theorem d_Mo_at_5 : decode b_Mo_at 5 = .ok (.istore 5, 2) := by decide +kernel
theorem d_Mo_at_7 : decode b_Mo_at 7 = .ok (.aload_n 0, 1) := by decide +kernel
theorem d_Mo_at_8 : decode b_Mo_at 8 = .ok (.getfield 41, 3) := by decide +kernel
theorem d_Mo_at_11 : decode b_Mo_at 11 = .ok (.iload 5, 2) := by decide +kernel
theorem d_Mo_at_13 : decode b_Mo_at 13 = .ok (.iaload, 1) := by decide +kernel
theorem d_Mo_at_14 : decode b_Mo_at 14 = .ok (.istore 6, 2) := by decide +kernel
theorem d_Mo_at_16 : decode b_Mo_at 16 = .ok (.iload 6, 2) := by decide +kernel
theorem d_Mo_at_18 : decode b_Mo_at 18 = .ok (.ifCond .ne 11, 3) := by decide +kernel
theorem d_Mo_at_21 : decode b_Mo_at 21 = .ok (.aload_n 0, 1) := by decide +kernel
theorem d_Mo_at_22 : decode b_Mo_at 22 = .ok (.getfield 63, 3) := by decide +kernel
theorem d_Mo_at_25 : decode b_Mo_at 25 = .ok (.iload 5, 2) := by decide +kernel
theorem d_Mo_at_27 : decode b_Mo_at 27 = .ok (.daload, 1) := by decide +kernel
theorem d_Mo_at_28 : decode b_Mo_at 28 = .ok (.dreturn, 1) := by decide +kernel
theorem d_Mo_at_29 : decode b_Mo_at 29 = .ok (.iconst 0, 1) := by decide +kernel
theorem d_Mo_at_30 : decode b_Mo_at 30 = .ok (.istore 7, 2) := by decide +kernel
theorem d_Mo_at_32 : decode b_Mo_at 32 = .ok (.iload 7, 2) := by decide +kernel
theorem d_Mo_at_34 : decode b_Mo_at 34 = .ok (.iconst 1, 1) := by decide +kernel
theorem d_Mo_at_35 : decode b_Mo_at 35 = .ok (.iadd, 1) := by decide +kernel
theorem d_Mo_at_36 : decode b_Mo_at 36 = .ok (.iload 6, 2) := by decide +kernel
theorem d_Mo_at_38 : decode b_Mo_at 38 = .ok (.if_icmp .ge 28, 3) := by decide +kernel
theorem d_Mo_at_41 : decode b_Mo_at 41 = .ok (.aload_n 0, 1) := by decide +kernel
theorem d_Mo_at_42 : decode b_Mo_at 42 = .ok (.getfield 66, 3) := by decide +kernel
theorem d_Mo_at_45 : decode b_Mo_at 45 = .ok (.iload 5, 2) := by decide +kernel
theorem d_Mo_at_47 : decode b_Mo_at 47 = .ok (.iconst 4, 1) := by decide +kernel
theorem d_Mo_at_48 : decode b_Mo_at 48 = .ok (.imul, 1) := by decide +kernel
theorem d_Mo_at_49 : decode b_Mo_at 49 = .ok (.iload 7, 2) := by decide +kernel
theorem d_Mo_at_51 : decode b_Mo_at 51 = .ok (.iadd, 1) := by decide +kernel
theorem d_Mo_at_52 : decode b_Mo_at 52 = .ok (.iconst 1, 1) := by decide +kernel
theorem d_Mo_at_53 : decode b_Mo_at 53 = .ok (.iadd, 1) := by decide +kernel
theorem d_Mo_at_54 : decode b_Mo_at 54 = .ok (.daload, 1) := by decide +kernel
theorem d_Mo_at_55 : decode b_Mo_at 55 = .ok (.dload_n 3, 1) := by decide +kernel
theorem d_Mo_at_56 : decode b_Mo_at 56 = .ok (.dcmp .g, 1) := by decide +kernel
theorem d_Mo_at_57 : decode b_Mo_at 57 = .ok (.ifCond .gt 9, 3) := by decide +kernel
theorem d_Mo_at_60 : decode b_Mo_at 60 = .ok (.iinc 7 1, 3) := by decide +kernel
theorem d_Mo_at_63 : decode b_Mo_at 63 = .ok (.goto (-31), 3) := by decide +kernel
theorem d_Mo_at_66 : decode b_Mo_at 66 = .ok (.aload_n 0, 1) := by decide +kernel
theorem d_Mo_at_67 : decode b_Mo_at 67 = .ok (.getfield 69, 3) := by decide +kernel
theorem d_Mo_at_70 : decode b_Mo_at 70 = .ok (.iload 5, 2) := by decide +kernel
theorem d_Mo_at_72 : decode b_Mo_at 72 = .ok (.iconst 4, 1) := by decide +kernel
theorem d_Mo_at_73 : decode b_Mo_at 73 = .ok (.imul, 1) := by decide +kernel
theorem d_Mo_at_74 : decode b_Mo_at 74 = .ok (.iload 7, 2) := by decide +kernel
theorem d_Mo_at_76 : decode b_Mo_at 76 = .ok (.iadd, 1) := by decide +kernel
theorem d_Mo_at_77 : decode b_Mo_at 77 = .ok (.daload, 1) := by decide +kernel
theorem d_Mo_at_78 : decode b_Mo_at 78 = .ok (.dstore 8, 2) := by decide +kernel
theorem d_Mo_at_80 : decode b_Mo_at 80 = .ok (.aload_n 0, 1) := by decide +kernel
theorem d_Mo_at_81 : decode b_Mo_at 81 = .ok (.getfield 66, 3) := by decide +kernel
theorem d_Mo_at_84 : decode b_Mo_at 84 = .ok (.iload 5, 2) := by decide +kernel
theorem d_Mo_at_86 : decode b_Mo_at 86 = .ok (.iconst 4, 1) := by decide +kernel
theorem d_Mo_at_87 : decode b_Mo_at 87 = .ok (.imul, 1) := by decide +kernel
theorem d_Mo_at_88 : decode b_Mo_at 88 = .ok (.iload 7, 2) := by decide +kernel
theorem d_Mo_at_90 : decode b_Mo_at 90 = .ok (.iadd, 1) := by decide +kernel
theorem d_Mo_at_91 : decode b_Mo_at 91 = .ok (.daload, 1) := by decide +kernel
theorem d_Mo_at_92 : decode b_Mo_at 92 = .ok (.dstore 10, 2) := by decide +kernel
theorem d_Mo_at_94 : decode b_Mo_at 94 = .ok (.iload_n 2, 1) := by decide +kernel
theorem d_Mo_at_95 : decode b_Mo_at 95 = .ok (.iconst 1, 1) := by decide +kernel
theorem d_Mo_at_96 : decode b_Mo_at 96 = .ok (.if_icmp .gt 19, 3) := by decide +kernel
theorem d_Mo_at_99 : decode b_Mo_at 99 = .ok (.dload_n 3, 1) := by decide +kernel
theorem d_Mo_at_100 : decode b_Mo_at 100 = .ok (.dload 10, 2) := by decide +kernel
theorem d_Mo_at_102 : decode b_Mo_at 102 = .ok (.dcmp .g, 1) := by decide +kernel
theorem d_Mo_at_103 : decode b_Mo_at 103 = .ok (.ifCond .le 12, 3) := by decide +kernel
theorem d_Mo_at_106 : decode b_Mo_at 106 = .ok (.iload 7, 2) := by decide +kernel
theorem d_Mo_at_108 : decode b_Mo_at 108 = .ok (.iconst 1, 1) := by decide +kernel
theorem d_Mo_at_109 : decode b_Mo_at 109 = .ok (.iadd, 1) := by decide +kernel
theorem d_Mo_at_110 : decode b_Mo_at 110 = .ok (.iload 6, 2) := by decide +kernel
theorem d_Mo_at_112 : decode b_Mo_at 112 = .ok (.if_icmp .ne 6, 3) := by decide +kernel
theorem d_Mo_at_115 : decode b_Mo_at 115 = .ok (.dload 8, 2) := by decide +kernel
theorem d_Mo_at_117 : decode b_Mo_at 117 = .ok (.dreturn, 1) := by decide +kernel
theorem d_Mo_at_118 : decode b_Mo_at 118 = .ok (.aload_n 0, 1) := by decide +kernel
theorem d_Mo_at_119 : decode b_Mo_at 119 = .ok (.getfield 66, 3) := by decide +kernel
theorem d_Mo_at_122 : decode b_Mo_at 122 = .ok (.iload 5, 2) := by decide +kernel
theorem d_Mo_at_124 : decode b_Mo_at 124 = .ok (.iconst 4, 1) := by decide +kernel
theorem d_Mo_at_125 : decode b_Mo_at 125 = .ok (.imul, 1) := by decide +kernel
theorem d_Mo_at_126 : decode b_Mo_at 126 = .ok (.iload 7, 2) := by decide +kernel
theorem d_Mo_at_128 : decode b_Mo_at 128 = .ok (.iadd, 1) := by decide +kernel
theorem d_Mo_at_129 : decode b_Mo_at 129 = .ok (.iconst 1, 1) := by decide +kernel
theorem d_Mo_at_130 : decode b_Mo_at 130 = .ok (.iadd, 1) := by decide +kernel
theorem d_Mo_at_131 : decode b_Mo_at 131 = .ok (.daload, 1) := by decide +kernel
theorem d_Mo_at_132 : decode b_Mo_at 132 = .ok (.dstore 12, 2) := by decide +kernel
theorem d_Mo_at_134 : decode b_Mo_at 134 = .ok (.aload_n 0, 1) := by decide +kernel
theorem d_Mo_at_135 : decode b_Mo_at 135 = .ok (.getfield 69, 3) := by decide +kernel
theorem d_Mo_at_138 : decode b_Mo_at 138 = .ok (.iload 5, 2) := by decide +kernel
theorem d_Mo_at_140 : decode b_Mo_at 140 = .ok (.iconst 4, 1) := by decide +kernel
theorem d_Mo_at_141 : decode b_Mo_at 141 = .ok (.imul, 1) := by decide +kernel
theorem d_Mo_at_142 : decode b_Mo_at 142 = .ok (.iload 7, 2) := by decide +kernel
theorem d_Mo_at_144 : decode b_Mo_at 144 = .ok (.iadd, 1) := by decide +kernel
theorem d_Mo_at_145 : decode b_Mo_at 145 = .ok (.iconst 1, 1) := by decide +kernel
theorem d_Mo_at_146 : decode b_Mo_at 146 = .ok (.iadd, 1) := by decide +kernel
theorem d_Mo_at_147 : decode b_Mo_at 147 = .ok (.daload, 1) := by decide +kernel
theorem d_Mo_at_148 : decode b_Mo_at 148 = .ok (.dstore 14, 2) := by decide +kernel
theorem d_Mo_at_150 : decode b_Mo_at 150 = .ok (.dload 8, 2) := by decide +kernel
theorem d_Mo_at_152 : decode b_Mo_at 152 = .ok (.dload 14, 2) := by decide +kernel
theorem d_Mo_at_154 : decode b_Mo_at 154 = .ok (.dload 8, 2) := by decide +kernel
theorem d_Mo_at_156 : decode b_Mo_at 156 = .ok (.dsub, 1) := by decide +kernel
theorem d_Mo_at_157 : decode b_Mo_at 157 = .ok (.dload_n 3, 1) := by decide +kernel
theorem d_Mo_at_158 : decode b_Mo_at 158 = .ok (.dload 10, 2) := by decide +kernel
theorem d_Mo_at_160 : decode b_Mo_at 160 = .ok (.dsub, 1) := by decide +kernel
theorem d_Mo_at_161 : decode b_Mo_at 161 = .ok (.dmul, 1) := by decide +kernel
theorem d_Mo_at_162 : decode b_Mo_at 162 = .ok (.dload 12, 2) := by decide +kernel
theorem d_Mo_at_164 : decode b_Mo_at 164 = .ok (.dload 10, 2) := by decide +kernel
theorem d_Mo_at_166 : decode b_Mo_at 166 = .ok (.dsub, 1) := by decide +kernel
theorem d_Mo_at_167 : decode b_Mo_at 167 = .ok (.ddiv, 1) := by decide +kernel
theorem d_Mo_at_168 : decode b_Mo_at 168 = .ok (.ldc2_w 147, 3) := by decide +kernel
theorem d_Mo_at_171 : decode b_Mo_at 171 = .ok (.dmul, 1) := by decide +kernel
theorem d_Mo_at_172 : decode b_Mo_at 172 = .ok (.invokestatic 131, 3) := by decide +kernel
theorem d_Mo_at_175 : decode b_Mo_at 175 = .ok (.ldc2_w 147, 3) := by decide +kernel
theorem d_Mo_at_178 : decode b_Mo_at 178 = .ok (.ddiv, 1) := by decide +kernel
theorem d_Mo_at_179 : decode b_Mo_at 179 = .ok (.dadd, 1) := by decide +kernel
theorem d_Mo_at_180 : decode b_Mo_at 180 = .ok (.dreturn, 1) := by decide +kernel
theorem d_Mo_power_0 : decode b_Mo_power 0 = .ok (.dload_n 0, 1) := by decide +kernel
theorem d_Mo_power_1 : decode b_Mo_power 1 = .ok (.dconst 0, 1) := by decide +kernel
theorem d_Mo_power_2 : decode b_Mo_power 2 = .ok (.dcmp .g, 1) := by decide +kernel
theorem d_Mo_power_3 : decode b_Mo_power 3 = .ok (.ifCond .ge 23, 3) := by decide +kernel
theorem d_Mo_power_6 : decode b_Mo_power 6 = .ok (.dload_n 0, 1) := by decide +kernel
theorem d_Mo_power_7 : decode b_Mo_power 7 = .ok (.ldc2_w 160, 3) := by decide +kernel
theorem d_Mo_power_10 : decode b_Mo_power 10 = .ok (.dcmp .l, 1) := by decide +kernel
theorem d_Mo_power_11 : decode b_Mo_power 11 = .ok (.ifCond .ne 9, 3) := by decide +kernel
theorem d_Mo_power_14 : decode b_Mo_power 14 = .ok (.ldc2_w 162, 3) := by decide +kernel
theorem d_Mo_power_17 : decode b_Mo_power 17 = .ok (.goto 34, 3) := by decide +kernel
theorem d_Mo_power_20 : decode b_Mo_power 20 = .ok (.ldc2_w 164, 3) := by decide +kernel
theorem d_Mo_power_23 : decode b_Mo_power 23 = .ok (.goto 28, 3) := by decide +kernel
theorem d_Mo_power_26 : decode b_Mo_power 26 = .ok (.dload_n 0, 1) := by decide +kernel
theorem d_Mo_power_27 : decode b_Mo_power 27 = .ok (.dconst 0, 1) := by decide +kernel
theorem d_Mo_power_28 : decode b_Mo_power 28 = .ok (.dcmp .l, 1) := by decide +kernel
theorem d_Mo_power_29 : decode b_Mo_power 29 = .ok (.ifCond .ne 7, 3) := by decide +kernel
theorem d_Mo_power_32 : decode b_Mo_power 32 = .ok (.dconst 1, 1) := by decide +kernel
theorem d_Mo_power_33 : decode b_Mo_power 33 = .ok (.goto 18, 3) := by decide +kernel
theorem d_Mo_power_36 : decode b_Mo_power 36 = .ok (.dload_n 0, 1) := by decide +kernel
theorem d_Mo_power_37 : decode b_Mo_power 37 = .ok (.dconst 1, 1) := by decide +kernel
theorem d_Mo_power_38 : decode b_Mo_power 38 = .ok (.dcmp .l, 1) := by decide +kernel
theorem d_Mo_power_39 : decode b_Mo_power 39 = .ok (.ifCond .ne 9, 3) := by decide +kernel
theorem d_Mo_power_42 : decode b_Mo_power 42 = .ok (.ldc2_w 137, 3) := by decide +kernel
theorem d_Mo_power_45 : decode b_Mo_power 45 = .ok (.goto 6, 3) := by decide +kernel
theorem d_Mo_power_48 : decode b_Mo_power 48 = .ok (.ldc2_w 166, 3) := by decide +kernel
theorem d_Mo_power_51 : decode b_Mo_power 51 = .ok (.dreturn, 1) := by decide +kernel
theorem d_Mo_find_0 : decode b_Mo_find 0 = .ok (.aload_n 0, 1) := by decide +kernel
theorem d_Mo_find_1 : decode b_Mo_find 1 = .ok (.getfield 72, 3) := by decide +kernel
theorem d_Mo_find_4 : decode b_Mo_find 4 = .ok (.iload_n 1, 1) := by decide +kernel
theorem d_Mo_find_5 : decode b_Mo_find 5 = .ok (.daload, 1) := by decide +kernel
theorem d_Mo_find_6 : decode b_Mo_find 6 = .ok (.dstore_n 2, 1) := by decide +kernel
theorem d_Mo_find_7 : decode b_Mo_find 7 = .ok (.aload_n 0, 1) := by decide +kernel
theorem d_Mo_find_8 : decode b_Mo_find 8 = .ok (.getfield 75, 3) := by decide +kernel
theorem d_Mo_find_11 : decode b_Mo_find 11 = .ok (.iload_n 1, 1) := by decide +kernel
theorem d_Mo_find_12 : decode b_Mo_find 12 = .ok (.daload, 1) := by decide +kernel
theorem d_Mo_find_13 : decode b_Mo_find 13 = .ok (.dstore 4, 2) := by decide +kernel
theorem d_Mo_find_15 : decode b_Mo_find 15 = .ok (.aload_n 0, 1) := by decide +kernel
theorem d_Mo_find_16 : decode b_Mo_find 16 = .ok (.getfield 47, 3) := by decide +kernel
theorem d_Mo_find_19 : decode b_Mo_find 19 = .ok (.iload_n 1, 1) := by decide +kernel
theorem d_Mo_find_20 : decode b_Mo_find 20 = .ok (.iload_n 1, 1) := by decide +kernel
theorem d_Mo_find_21 : decode b_Mo_find 21 = .ok (.iastore, 1) := by decide +kernel
theorem d_Mo_find_22 : decode b_Mo_find 22 = .ok (.aload_n 0, 1) := by decide +kernel
theorem d_Mo_find_23 : decode b_Mo_find 23 = .ok (.getfield 22, 3) := by decide +kernel
theorem d_Mo_find_26 : decode b_Mo_find 26 = .ok (.iload_n 1, 1) := by decide +kernel
theorem d_Mo_find_27 : decode b_Mo_find 27 = .ok (.iaload, 1) := by decide +kernel
theorem d_Mo_find_28 : decode b_Mo_find 28 = .ok (.iconst 1, 1) := by decide +kernel
theorem d_Mo_find_29 : decode b_Mo_find 29 = .ok (.if_icmp .ne 43, 3) := by decide +kernel
theorem d_Mo_find_32 : decode b_Mo_find 32 = .ok (.aload_n 0, 1) := by decide +kernel
theorem d_Mo_find_33 : decode b_Mo_find 33 = .ok (.getfield 16, 3) := by decide +kernel
theorem d_Mo_find_36 : decode b_Mo_find 36 = .ok (.iload_n 1, 1) := by decide +kernel
theorem d_Mo_find_37 : decode b_Mo_find 37 = .ok (.dload_n 2, 1) := by decide +kernel
theorem d_Mo_find_38 : decode b_Mo_find 38 = .ok (.dconst 0, 1) := by decide +kernel
theorem d_Mo_find_39 : decode b_Mo_find 39 = .ok (.aload_n 0, 1) := by decide +kernel
theorem d_Mo_find_40 : decode b_Mo_find 40 = .ok (.getfield 57, 3) := by decide +kernel
theorem d_Mo_find_43 : decode b_Mo_find 43 = .ok (.iload_n 1, 1) := by decide +kernel
theorem d_Mo_find_44 : decode b_Mo_find 44 = .ok (.daload, 1) := by decide +kernel
theorem d_Mo_find_45 : decode b_Mo_find 45 = .ok (.invokestatic 120, 3) := by decide +kernel
theorem d_Mo_find_48 : decode b_Mo_find 48 = .ok (.ifCond .eq 22, 3) := by decide +kernel
theorem d_Mo_find_51 : decode b_Mo_find 51 = .ok (.dload 4, 2) := by decide +kernel
theorem d_Mo_find_53 : decode b_Mo_find 53 = .ok (.dconst 0, 1) := by decide +kernel
theorem d_Mo_find_54 : decode b_Mo_find 54 = .ok (.aload_n 0, 1) := by decide +kernel
theorem d_Mo_find_55 : decode b_Mo_find 55 = .ok (.getfield 60, 3) := by decide +kernel
theorem d_Mo_find_58 : decode b_Mo_find 58 = .ok (.iload_n 1, 1) := by decide +kernel
theorem d_Mo_find_59 : decode b_Mo_find 59 = .ok (.daload, 1) := by decide +kernel
theorem d_Mo_find_60 : decode b_Mo_find 60 = .ok (.invokestatic 120, 3) := by decide +kernel
theorem d_Mo_find_63 : decode b_Mo_find 63 = .ok (.ifCond .eq 7, 3) := by decide +kernel
theorem d_Mo_find_66 : decode b_Mo_find 66 = .ok (.iconst 1, 1) := by decide +kernel
theorem d_Mo_find_67 : decode b_Mo_find 67 = .ok (.goto 4, 3) := by decide +kernel
theorem d_Mo_find_70 : decode b_Mo_find 70 = .ok (.iconst 0, 1) := by decide +kernel
theorem d_Mo_find_71 : decode b_Mo_find 71 = .ok (.bastore, 1) := by decide +kernel
theorem d_Mo_find_72 : decode b_Mo_find 72 = .ok (.aload_n 0, 1) := by decide +kernel
theorem d_Mo_find_73 : decode b_Mo_find 73 = .ok (.getfield 22, 3) := by decide +kernel
theorem d_Mo_find_76 : decode b_Mo_find 76 = .ok (.iload_n 1, 1) := by decide +kernel
theorem d_Mo_find_77 : decode b_Mo_find 77 = .ok (.iaload, 1) := by decide +kernel
theorem d_Mo_find_78 : decode b_Mo_find 78 = .ok (.iconst 2, 1) := by decide +kernel
theorem d_Mo_find_79 : decode b_Mo_find 79 = .ok (.if_icmp .ne 40, 3) := by decide +kernel
theorem d_Mo_find_82 : decode b_Mo_find 82 = .ok (.aload_n 0, 1) := by decide +kernel
theorem d_Mo_find_83 : decode b_Mo_find 83 = .ok (.getfield 16, 3) := by decide +kernel
theorem d_Mo_find_86 : decode b_Mo_find 86 = .ok (.iload_n 1, 1) := by decide +kernel
theorem d_Mo_find_87 : decode b_Mo_find 87 = .ok (.dload_n 2, 1) := by decide +kernel
theorem d_Mo_find_88 : decode b_Mo_find 88 = .ok (.dload_n 2, 1) := by decide +kernel
theorem d_Mo_find_89 : decode b_Mo_find 89 = .ok (.dmul, 1) := by decide +kernel
theorem d_Mo_find_90 : decode b_Mo_find 90 = .ok (.dload 4, 2) := by decide +kernel
theorem d_Mo_find_92 : decode b_Mo_find 92 = .ok (.dload 4, 2) := by decide +kernel
theorem d_Mo_find_94 : decode b_Mo_find 94 = .ok (.dmul, 1) := by decide +kernel
theorem d_Mo_find_95 : decode b_Mo_find 95 = .ok (.dadd, 1) := by decide +kernel
theorem d_Mo_find_96 : decode b_Mo_find 96 = .ok (.aload_n 0, 1) := by decide +kernel
theorem d_Mo_find_97 : decode b_Mo_find 97 = .ok (.getfield 57, 3) := by decide +kernel
theorem d_Mo_find_100 : decode b_Mo_find 100 = .ok (.iload_n 1, 1) := by decide +kernel
theorem d_Mo_find_101 : decode b_Mo_find 101 = .ok (.daload, 1) := by decide +kernel
theorem d_Mo_find_102 : decode b_Mo_find 102 = .ok (.aload_n 0, 1) := by decide +kernel
theorem d_Mo_find_103 : decode b_Mo_find 103 = .ok (.getfield 57, 3) := by decide +kernel
theorem d_Mo_find_106 : decode b_Mo_find 106 = .ok (.iload_n 1, 1) := by decide +kernel
theorem d_Mo_find_107 : decode b_Mo_find 107 = .ok (.daload, 1) := by decide +kernel
theorem d_Mo_find_108 : decode b_Mo_find 108 = .ok (.dmul, 1) := by decide +kernel
theorem d_Mo_find_109 : decode b_Mo_find 109 = .ok (.dcmp .g, 1) := by decide +kernel
theorem d_Mo_find_110 : decode b_Mo_find 110 = .ok (.ifCond .gt 7, 3) := by decide +kernel
theorem d_Mo_find_113 : decode b_Mo_find 113 = .ok (.iconst 1, 1) := by decide +kernel
theorem d_Mo_find_114 : decode b_Mo_find 114 = .ok (.goto 4, 3) := by decide +kernel
theorem d_Mo_find_117 : decode b_Mo_find 117 = .ok (.iconst 0, 1) := by decide +kernel
theorem d_Mo_find_118 : decode b_Mo_find 118 = .ok (.bastore, 1) := by decide +kernel
theorem d_Mo_find_119 : decode b_Mo_find 119 = .ok (.aload_n 0, 1) := by decide +kernel
theorem d_Mo_find_120 : decode b_Mo_find 120 = .ok (.getfield 22, 3) := by decide +kernel
theorem d_Mo_find_123 : decode b_Mo_find 123 = .ok (.iload_n 1, 1) := by decide +kernel
theorem d_Mo_find_124 : decode b_Mo_find 124 = .ok (.iaload, 1) := by decide +kernel
theorem d_Mo_find_125 : decode b_Mo_find 125 = .ok (.iconst 3, 1) := by decide +kernel
theorem d_Mo_find_126 : decode b_Mo_find 126 = .ok (.if_icmp .ne 62, 3) := by decide +kernel
theorem d_Mo_find_129 : decode b_Mo_find 129 = .ok (.aload_n 0, 1) := by decide +kernel
theorem d_Mo_find_130 : decode b_Mo_find 130 = .ok (.getfield 16, 3) := by decide +kernel
theorem d_Mo_find_133 : decode b_Mo_find 133 = .ok (.iload_n 1, 1) := by decide +kernel
theorem d_Mo_find_134 : decode b_Mo_find 134 = .ok (.dload_n 2, 1) := by decide +kernel
theorem d_Mo_find_135 : decode b_Mo_find 135 = .ok (.dconst 0, 1) := by decide +kernel
theorem d_Mo_find_136 : decode b_Mo_find 136 = .ok (.dcmp .l, 1) := by decide +kernel
theorem d_Mo_find_137 : decode b_Mo_find 137 = .ok (.ifCond .lt 49, 3) := by decide +kernel
theorem d_Mo_find_140 : decode b_Mo_find 140 = .ok (.dload 4, 2) := by decide +kernel
theorem d_Mo_find_142 : decode b_Mo_find 142 = .ok (.dconst 0, 1) := by decide +kernel
theorem d_Mo_find_143 : decode b_Mo_find 143 = .ok (.dcmp .l, 1) := by decide +kernel
theorem d_Mo_find_144 : decode b_Mo_find 144 = .ok (.ifCond .lt 42, 3) := by decide +kernel
theorem d_Mo_find_147 : decode b_Mo_find 147 = .ok (.dload_n 2, 1) := by decide +kernel
theorem d_Mo_find_148 : decode b_Mo_find 148 = .ok (.aload_n 0, 1) := by decide +kernel
theorem d_Mo_find_149 : decode b_Mo_find 149 = .ok (.getfield 60, 3) := by decide +kernel
theorem d_Mo_find_152 : decode b_Mo_find 152 = .ok (.iload_n 1, 1) := by decide +kernel
theorem d_Mo_find_153 : decode b_Mo_find 153 = .ok (.daload, 1) := by decide +kernel
theorem d_Mo_find_154 : decode b_Mo_find 154 = .ok (.dmul, 1) := by decide +kernel
theorem d_Mo_find_155 : decode b_Mo_find 155 = .ok (.dload 4, 2) := by decide +kernel
theorem d_Mo_find_157 : decode b_Mo_find 157 = .ok (.aload_n 0, 1) := by decide +kernel
theorem d_Mo_find_158 : decode b_Mo_find 158 = .ok (.getfield 57, 3) := by decide +kernel
theorem d_Mo_find_161 : decode b_Mo_find 161 = .ok (.iload_n 1, 1) := by decide +kernel
theorem d_Mo_find_162 : decode b_Mo_find 162 = .ok (.daload, 1) := by decide +kernel
theorem d_Mo_find_163 : decode b_Mo_find 163 = .ok (.dmul, 1) := by decide +kernel
theorem d_Mo_find_164 : decode b_Mo_find 164 = .ok (.dadd, 1) := by decide +kernel
theorem d_Mo_find_165 : decode b_Mo_find 165 = .ok (.aload_n 0, 1) := by decide +kernel
theorem d_Mo_find_166 : decode b_Mo_find 166 = .ok (.getfield 57, 3) := by decide +kernel
theorem d_Mo_find_169 : decode b_Mo_find 169 = .ok (.iload_n 1, 1) := by decide +kernel
theorem d_Mo_find_170 : decode b_Mo_find 170 = .ok (.daload, 1) := by decide +kernel
theorem d_Mo_find_171 : decode b_Mo_find 171 = .ok (.aload_n 0, 1) := by decide +kernel
theorem d_Mo_find_172 : decode b_Mo_find 172 = .ok (.getfield 60, 3) := by decide +kernel
theorem d_Mo_find_175 : decode b_Mo_find 175 = .ok (.iload_n 1, 1) := by decide +kernel
theorem d_Mo_find_176 : decode b_Mo_find 176 = .ok (.daload, 1) := by decide +kernel
theorem d_Mo_find_177 : decode b_Mo_find 177 = .ok (.dmul, 1) := by decide +kernel
theorem d_Mo_find_178 : decode b_Mo_find 178 = .ok (.dcmp .g, 1) := by decide +kernel
theorem d_Mo_find_179 : decode b_Mo_find 179 = .ok (.ifCond .gt 7, 3) := by decide +kernel
theorem d_Mo_find_182 : decode b_Mo_find 182 = .ok (.iconst 1, 1) := by decide +kernel
theorem d_Mo_find_183 : decode b_Mo_find 183 = .ok (.goto 4, 3) := by decide +kernel
theorem d_Mo_find_186 : decode b_Mo_find 186 = .ok (.iconst 0, 1) := by decide +kernel
theorem d_Mo_find_187 : decode b_Mo_find 187 = .ok (.bastore, 1) := by decide +kernel
theorem d_Mo_find_188 : decode b_Mo_find 188 = .ok (.aload_n 0, 1) := by decide +kernel
theorem d_Mo_find_189 : decode b_Mo_find 189 = .ok (.getfield 22, 3) := by decide +kernel
theorem d_Mo_find_192 : decode b_Mo_find 192 = .ok (.iload_n 1, 1) := by decide +kernel
theorem d_Mo_find_193 : decode b_Mo_find 193 = .ok (.iaload, 1) := by decide +kernel
theorem d_Mo_find_194 : decode b_Mo_find 194 = .ok (.ifCond .ne 138, 3) := by decide +kernel
theorem d_Mo_find_197 : decode b_Mo_find 197 = .ok (.aload_n 0, 1) := by decide +kernel
theorem d_Mo_find_198 : decode b_Mo_find 198 = .ok (.getfield 16, 3) := by decide +kernel
theorem d_Mo_find_201 : decode b_Mo_find 201 = .ok (.iload_n 1, 1) := by decide +kernel
theorem d_Mo_find_202 : decode b_Mo_find 202 = .ok (.iconst 0, 1) := by decide +kernel
theorem d_Mo_find_203 : decode b_Mo_find 203 = .ok (.bastore, 1) := by decide +kernel
theorem d_Mo_find_204 : decode b_Mo_find 204 = .ok (.aload_n 0, 1) := by decide +kernel
theorem d_Mo_find_205 : decode b_Mo_find 205 = .ok (.getfield 26, 3) := by decide +kernel
theorem d_Mo_find_208 : decode b_Mo_find 208 = .ok (.iload_n 1, 1) := by decide +kernel
theorem d_Mo_find_209 : decode b_Mo_find 209 = .ok (.iaload, 1) := by decide +kernel
theorem d_Mo_find_210 : decode b_Mo_find 210 = .ok (.iconst 1, 1) := by decide +kernel
theorem d_Mo_find_211 : decode b_Mo_find 211 = .ok (.if_icmp .ne 7, 3) := by decide +kernel
theorem d_Mo_find_214 : decode b_Mo_find 214 = .ok (.iconst 1, 1) := by decide +kernel
theorem d_Mo_find_215 : decode b_Mo_find 215 = .ok (.goto 4, 3) := by decide +kernel
theorem d_Mo_find_218 : decode b_Mo_find 218 = .ok (.iconst 0, 1) := by decide +kernel
theorem d_Mo_find_219 : decode b_Mo_find 219 = .ok (.istore 6, 2) := by decide +kernel
theorem d_Mo_find_221 : decode b_Mo_find 221 = .ok (.iload 6, 2) := by decide +kernel
theorem d_Mo_find_223 : decode b_Mo_find 223 = .ok (.ifCond .eq 29, 3) := by decide +kernel
theorem d_Mo_find_226 : decode b_Mo_find 226 = .ok (.aload_n 0, 1) := by decide +kernel
theorem d_Mo_find_227 : decode b_Mo_find 227 = .ok (.getfield 32, 3) := by decide +kernel
theorem d_Mo_find_230 : decode b_Mo_find 230 = .ok (.iload_n 1, 1) := by decide +kernel
theorem d_Mo_find_231 : decode b_Mo_find 231 = .ok (.iaload, 1) := by decide +kernel
theorem d_Mo_find_232 : decode b_Mo_find 232 = .ok (.ifCond .le 24, 3) := by decide +kernel
theorem d_Mo_find_235 : decode b_Mo_find 235 = .ok (.aload_n 0, 1) := by decide +kernel
theorem d_Mo_find_236 : decode b_Mo_find 236 = .ok (.getfield 16, 3) := by decide +kernel
theorem d_Mo_find_239 : decode b_Mo_find 239 = .ok (.aload_n 0, 1) := by decide +kernel
theorem d_Mo_find_240 : decode b_Mo_find 240 = .ok (.getfield 35, 3) := by decide +kernel
theorem d_Mo_find_243 : decode b_Mo_find 243 = .ok (.iload_n 1, 1) := by decide +kernel
theorem d_Mo_find_244 : decode b_Mo_find 244 = .ok (.bipush 14, 2) := by decide +kernel
theorem d_Mo_find_246 : decode b_Mo_find 246 = .ok (.imul, 1) := by decide +kernel
theorem d_Mo_find_247 : decode b_Mo_find 247 = .ok (.iaload, 1) := by decide +kernel
theorem d_Mo_find_248 : decode b_Mo_find 248 = .ok (.baload, 1) := by decide +kernel
theorem d_Mo_find_249 : decode b_Mo_find 249 = .ok (.ifCond .eq 7, 3) := by decide +kernel
theorem d_Mo_find_252 : decode b_Mo_find 252 = .ok (.iconst 1, 1) := by decide +kernel
theorem d_Mo_find_253 : decode b_Mo_find 253 = .ok (.goto 4, 3) := by decide +kernel
theorem d_Mo_find_256 : decode b_Mo_find 256 = .ok (.iconst 0, 1) := by decide +kernel
theorem d_Mo_find_257 : decode b_Mo_find 257 = .ok (.istore 7, 2) := by decide +kernel
theorem d_Mo_find_259 : decode b_Mo_find 259 = .ok (.iload 6, 2) := by decide +kernel
theorem d_Mo_find_261 : decode b_Mo_find 261 = .ok (.istore 8, 2) := by decide +kernel
theorem d_Mo_find_263 : decode b_Mo_find 263 = .ok (.iload 8, 2) := by decide +kernel
theorem d_Mo_find_265 : decode b_Mo_find 265 = .ok (.aload_n 0, 1) := by decide +kernel
theorem d_Mo_find_266 : decode b_Mo_find 266 = .ok (.getfield 32, 3) := by decide +kernel
theorem d_Mo_find_269 : decode b_Mo_find 269 = .ok (.iload_n 1, 1) := by decide +kernel
theorem d_Mo_find_270 : decode b_Mo_find 270 = .ok (.iaload, 1) := by decide +kernel
theorem d_Mo_find_271 : decode b_Mo_find 271 = .ok (.if_icmp .ge 61, 3) := by decide +kernel
theorem d_Mo_find_274 : decode b_Mo_find 274 = .ok (.iload 7, 2) := by decide +kernel
theorem d_Mo_find_276 : decode b_Mo_find 276 = .ok (.ifCond .eq 56, 3) := by decide +kernel
theorem d_Mo_find_279 : decode b_Mo_find 279 = .ok (.aload_n 0, 1) := by decide +kernel
theorem d_Mo_find_280 : decode b_Mo_find 280 = .ok (.getfield 35, 3) := by decide +kernel
theorem d_Mo_find_283 : decode b_Mo_find 283 = .ok (.iload_n 1, 1) := by decide +kernel
theorem d_Mo_find_284 : decode b_Mo_find 284 = .ok (.bipush 14, 2) := by decide +kernel
theorem d_Mo_find_286 : decode b_Mo_find 286 = .ok (.imul, 1) := by decide +kernel
theorem d_Mo_find_287 : decode b_Mo_find 287 = .ok (.iload 8, 2) := by decide +kernel
theorem d_Mo_find_289 : decode b_Mo_find 289 = .ok (.iadd, 1) := by decide +kernel
theorem d_Mo_find_290 : decode b_Mo_find 290 = .ok (.iaload, 1) := by decide +kernel
theorem d_Mo_find_291 : decode b_Mo_find 291 = .ok (.istore 9, 2) := by decide +kernel
theorem d_Mo_find_293 : decode b_Mo_find 293 = .ok (.aload_n 0, 1) := by decide +kernel
theorem d_Mo_find_294 : decode b_Mo_find 294 = .ok (.getfield 16, 3) := by decide +kernel
theorem d_Mo_find_297 : decode b_Mo_find 297 = .ok (.iload 9, 2) := by decide +kernel
theorem d_Mo_find_299 : decode b_Mo_find 299 = .ok (.baload, 1) := by decide +kernel
theorem d_Mo_find_300 : decode b_Mo_find 300 = .ok (.ifCond .ne 6, 3) := by decide +kernel
theorem d_Mo_find_303 : decode b_Mo_find 303 = .ok (.goto 23, 3) := by decide +kernel
theorem d_Mo_find_306 : decode b_Mo_find 306 = .ok (.aload_n 0, 1) := by decide +kernel
theorem d_Mo_find_307 : decode b_Mo_find 307 = .ok (.getfield 16, 3) := by decide +kernel
theorem d_Mo_find_310 : decode b_Mo_find 310 = .ok (.iload_n 1, 1) := by decide +kernel
theorem d_Mo_find_311 : decode b_Mo_find 311 = .ok (.iconst 1, 1) := by decide +kernel
theorem d_Mo_find_312 : decode b_Mo_find 312 = .ok (.bastore, 1) := by decide +kernel
theorem d_Mo_find_313 : decode b_Mo_find 313 = .ok (.aload_n 0, 1) := by decide +kernel
theorem d_Mo_find_314 : decode b_Mo_find 314 = .ok (.getfield 47, 3) := by decide +kernel
theorem d_Mo_find_317 : decode b_Mo_find 317 = .ok (.iload_n 1, 1) := by decide +kernel
theorem d_Mo_find_318 : decode b_Mo_find 318 = .ok (.aload_n 0, 1) := by decide +kernel
theorem d_Mo_find_319 : decode b_Mo_find 319 = .ok (.getfield 47, 3) := by decide +kernel
theorem d_Mo_find_322 : decode b_Mo_find 322 = .ok (.iload 9, 2) := by decide +kernel
theorem d_Mo_find_324 : decode b_Mo_find 324 = .ok (.iaload, 1) := by decide +kernel
theorem d_Mo_find_325 : decode b_Mo_find 325 = .ok (.iastore, 1) := by decide +kernel
theorem d_Mo_find_326 : decode b_Mo_find 326 = .ok (.iinc 8 1, 3) := by decide +kernel
theorem d_Mo_find_329 : decode b_Mo_find 329 = .ok (.goto (-66), 3) := by decide +kernel
theorem d_Mo_find_332 : decode b_Mo_find 332 = .ok (.aload_n 0, 1) := by decide +kernel
theorem d_Mo_find_333 : decode b_Mo_find 333 = .ok (.getfield 13, 3) := by decide +kernel
theorem d_Mo_find_336 : decode b_Mo_find 336 = .ok (.iload_n 1, 1) := by decide +kernel
theorem d_Mo_find_337 : decode b_Mo_find 337 = .ok (.baload, 1) := by decide +kernel
theorem d_Mo_find_338 : decode b_Mo_find 338 = .ok (.ifCond .eq 14, 3) := by decide +kernel
theorem d_Mo_find_341 : decode b_Mo_find 341 = .ok (.iload_n 1, 1) := by decide +kernel
theorem d_Mo_find_342 : decode b_Mo_find 342 = .ok (.ifCond .le 10, 3) := by decide +kernel
theorem d_Mo_find_345 : decode b_Mo_find 345 = .ok (.aload_n 0, 1) := by decide +kernel
theorem d_Mo_find_346 : decode b_Mo_find 346 = .ok (.getfield 16, 3) := by decide +kernel
theorem d_Mo_find_349 : decode b_Mo_find 349 = .ok (.iload_n 1, 1) := by decide +kernel
theorem d_Mo_find_350 : decode b_Mo_find 350 = .ok (.iconst 0, 1) := by decide +kernel
theorem d_Mo_find_351 : decode b_Mo_find 351 = .ok (.bastore, 1) := by decide +kernel
theorem d_Mo_find_352 : decode b_Mo_find 352 = .ok (.return_, 1) := by decide +kernel
theorem d_Mo_cell_0 : decode b_Mo_cell 0 = .ok (.aload_n 0, 1) := by decide +kernel
theorem d_Mo_cell_1 : decode b_Mo_cell 1 = .ok (.iload_n 1, 1) := by decide +kernel
theorem d_Mo_cell_2 : decode b_Mo_cell 2 = .ok (.ifCond .lt 23, 3) := by decide +kernel
theorem d_Mo_cell_5 : decode b_Mo_cell 5 = .ok (.iload_n 1, 1) := by decide +kernel
theorem d_Mo_cell_6 : decode b_Mo_cell 6 = .ok (.bipush 16, 2) := by decide +kernel
theorem d_Mo_cell_8 : decode b_Mo_cell 8 = .ok (.if_icmp .ge 17, 3) := by decide +kernel
theorem d_Mo_cell_11 : decode b_Mo_cell 11 = .ok (.iload_n 2, 1) := by decide +kernel
theorem d_Mo_cell_12 : decode b_Mo_cell 12 = .ok (.ifCond .lt 13, 3) := by decide +kernel
theorem d_Mo_cell_15 : decode b_Mo_cell 15 = .ok (.iload_n 2, 1) := by decide +kernel
theorem d_Mo_cell_16 : decode b_Mo_cell 16 = .ok (.bipush 12, 2) := by decide +kernel
theorem d_Mo_cell_18 : decode b_Mo_cell 18 = .ok (.if_icmp .ge 7, 3) := by decide +kernel
theorem d_Mo_cell_21 : decode b_Mo_cell 21 = .ok (.iconst 1, 1) := by decide +kernel
theorem d_Mo_cell_22 : decode b_Mo_cell 22 = .ok (.goto 4, 3) := by decide +kernel
theorem d_Mo_cell_25 : decode b_Mo_cell 25 = .ok (.iconst 0, 1) := by decide +kernel
theorem d_Mo_cell_26 : decode b_Mo_cell 26 = .ok (.invokevirtual 108, 3) := by decide +kernel
theorem d_Mo_cell_29 : decode b_Mo_cell 29 = .ok (.ifCond .eq 5, 3) := by decide +kernel
theorem d_Mo_cell_32 : decode b_Mo_cell 32 = .ok (.iconst 0, 1) := by decide +kernel
theorem d_Mo_cell_33 : decode b_Mo_cell 33 = .ok (.ireturn, 1) := by decide +kernel
theorem d_Mo_cell_34 : decode b_Mo_cell 34 = .ok (.aload_n 0, 1) := by decide +kernel
theorem d_Mo_cell_35 : decode b_Mo_cell 35 = .ok (.getfield 84, 3) := by decide +kernel
theorem d_Mo_cell_38 : decode b_Mo_cell 38 = .ok (.iload_n 2, 1) := by decide +kernel
theorem d_Mo_cell_39 : decode b_Mo_cell 39 = .ok (.bipush 16, 2) := by decide +kernel
theorem d_Mo_cell_41 : decode b_Mo_cell 41 = .ok (.imul, 1) := by decide +kernel
theorem d_Mo_cell_42 : decode b_Mo_cell 42 = .ok (.iload_n 1, 1) := by decide +kernel
theorem d_Mo_cell_43 : decode b_Mo_cell 43 = .ok (.iadd, 1) := by decide +kernel
theorem d_Mo_cell_44 : decode b_Mo_cell 44 = .ok (.iaload, 1) := by decide +kernel
theorem d_Mo_cell_45 : decode b_Mo_cell 45 = .ok (.ireturn, 1) := by decide +kernel
theorem d_Mo_top_0 : decode b_Mo_top 0 = .ok (.aload_n 0, 1) := by decide +kernel
theorem d_Mo_top_1 : decode b_Mo_top 1 = .ok (.dload_n 1, 1) := by decide +kernel
theorem d_Mo_top_2 : decode b_Mo_top 2 = .ok (.ldc2_w 185, 3) := by decide +kernel
theorem d_Mo_top_5 : decode b_Mo_top 5 = .ok (.ldc2_w 141, 3) := by decide +kernel
theorem d_Mo_top_8 : decode b_Mo_top 8 = .ok (.invokestatic 120, 3) := by decide +kernel
theorem d_Mo_top_11 : decode b_Mo_top 11 = .ok (.ifCond .eq 32, 3) := by decide +kernel
theorem d_Mo_top_14 : decode b_Mo_top 14 = .ok (.dload_n 3, 1) := by decide +kernel
theorem d_Mo_top_15 : decode b_Mo_top 15 = .ok (.ldc2_w 185, 3) := by decide +kernel
theorem d_Mo_top_18 : decode b_Mo_top 18 = .ok (.ldc2_w 141, 3) := by decide +kernel
theorem d_Mo_top_21 : decode b_Mo_top 21 = .ok (.invokestatic 120, 3) := by decide +kernel
theorem d_Mo_top_24 : decode b_Mo_top 24 = .ok (.ifCond .eq 19, 3) := by decide +kernel
theorem d_Mo_top_27 : decode b_Mo_top 27 = .ok (.dload 5, 2) := by decide +kernel
theorem d_Mo_top_29 : decode b_Mo_top 29 = .ok (.dconst 0, 1) := by decide +kernel
theorem d_Mo_top_30 : decode b_Mo_top 30 = .ok (.ldc2_w 141, 3) := by decide +kernel
theorem d_Mo_top_33 : decode b_Mo_top 33 = .ok (.invokestatic 120, 3) := by decide +kernel
theorem d_Mo_top_36 : decode b_Mo_top 36 = .ok (.ifCond .eq 7, 3) := by decide +kernel
theorem d_Mo_top_39 : decode b_Mo_top 39 = .ok (.iconst 1, 1) := by decide +kernel
theorem d_Mo_top_40 : decode b_Mo_top 40 = .ok (.goto 4, 3) := by decide +kernel
theorem d_Mo_top_43 : decode b_Mo_top 43 = .ok (.iconst 0, 1) := by decide +kernel
theorem d_Mo_top_44 : decode b_Mo_top 44 = .ok (.invokevirtual 108, 3) := by decide +kernel
theorem d_Mo_top_47 : decode b_Mo_top 47 = .ok (.ifCond .eq 5, 3) := by decide +kernel
theorem d_Mo_top_50 : decode b_Mo_top 50 = .ok (.iconst 0, 1) := by decide +kernel
theorem d_Mo_top_51 : decode b_Mo_top 51 = .ok (.ireturn, 1) := by decide +kernel
theorem d_Mo_top_52 : decode b_Mo_top 52 = .ok (.aload_n 0, 1) := by decide +kernel
theorem d_Mo_top_53 : decode b_Mo_top 53 = .ok (.dload_n 1, 1) := by decide +kernel
theorem d_Mo_top_54 : decode b_Mo_top 54 = .ok (.dload_n 3, 1) := by decide +kernel
theorem d_Mo_top_55 : decode b_Mo_top 55 = .ok (.dload 5, 2) := by decide +kernel
theorem d_Mo_top_57 : decode b_Mo_top 57 = .ok (.invokevirtual 178, 3) := by decide +kernel
theorem d_Mo_top_60 : decode b_Mo_top 60 = .ok (.aload_n 0, 1) := by decide +kernel
theorem d_Mo_top_61 : decode b_Mo_top 61 = .ok (.getfield 16, 3) := by decide +kernel
theorem d_Mo_top_64 : decode b_Mo_top 64 = .ok (.iconst 0, 1) := by decide +kernel
theorem d_Mo_top_65 : decode b_Mo_top 65 = .ok (.baload, 1) := by decide +kernel
theorem d_Mo_top_66 : decode b_Mo_top 66 = .ok (.ifCond .ne 8, 3) := by decide +kernel
theorem d_Mo_top_69 : decode b_Mo_top 69 = .ok (.aload_n 0, 1) := by decide +kernel
theorem d_Mo_top_70 : decode b_Mo_top 70 = .ok (.iconst 2, 1) := by decide +kernel
theorem d_Mo_top_71 : decode b_Mo_top 71 = .ok (.putfield 90, 3) := by decide +kernel
theorem d_Mo_top_74 : decode b_Mo_top 74 = .ok (.aload_n 0, 1) := by decide +kernel
theorem d_Mo_top_75 : decode b_Mo_top 75 = .ok (.getfield 16, 3) := by decide +kernel
theorem d_Mo_top_78 : decode b_Mo_top 78 = .ok (.iconst 0, 1) := by decide +kernel
theorem d_Mo_top_79 : decode b_Mo_top 79 = .ok (.baload, 1) := by decide +kernel
theorem d_Mo_top_80 : decode b_Mo_top 80 = .ok (.ifCond .eq 12, 3) := by decide +kernel
theorem d_Mo_top_83 : decode b_Mo_top 83 = .ok (.aload_n 0, 1) := by decide +kernel
theorem d_Mo_top_84 : decode b_Mo_top 84 = .ok (.getfield 47, 3) := by decide +kernel
theorem d_Mo_top_87 : decode b_Mo_top 87 = .ok (.iconst 0, 1) := by decide +kernel
theorem d_Mo_top_88 : decode b_Mo_top 88 = .ok (.iaload, 1) := by decide +kernel
theorem d_Mo_top_89 : decode b_Mo_top 89 = .ok (.goto 4, 3) := by decide +kernel
theorem d_Mo_top_92 : decode b_Mo_top 92 = .ok (.iconst 0, 1) := by decide +kernel
theorem d_Mo_top_93 : decode b_Mo_top 93 = .ok (.ireturn, 1) := by decide +kernel
theorem d_Mo_around_0 : decode b_Mo_around 0 = .ok (.aload_n 0, 1) := by decide +kernel
theorem d_Mo_around_1 : decode b_Mo_around 1 = .ok (.aload_n 0, 1) := by decide +kernel
theorem d_Mo_around_2 : decode b_Mo_around 2 = .ok (.iload_n 1, 1) := by decide +kernel
theorem d_Mo_around_3 : decode b_Mo_around 3 = .ok (.invokevirtual 94, 3) := by decide +kernel
theorem d_Mo_around_6 : decode b_Mo_around 6 = .ok (.ifCond .eq 27, 3) := by decide +kernel
theorem d_Mo_around_9 : decode b_Mo_around 9 = .ok (.iload_n 2, 1) := by decide +kernel
theorem d_Mo_around_10 : decode b_Mo_around 10 = .ok (.ifCond .lt 23, 3) := by decide +kernel
theorem d_Mo_around_13 : decode b_Mo_around 13 = .ok (.iload_n 2, 1) := by decide +kernel
theorem d_Mo_around_14 : decode b_Mo_around 14 = .ok (.iconst 4, 1) := by decide +kernel
theorem d_Mo_around_15 : decode b_Mo_around 15 = .ok (.if_icmp .ge 18, 3) := by decide +kernel
theorem d_Mo_around_18 : decode b_Mo_around 18 = .ok (.dload_n 3, 1) := by decide +kernel
theorem d_Mo_around_19 : decode b_Mo_around 19 = .ok (.dconst 0, 1) := by decide +kernel
theorem d_Mo_around_20 : decode b_Mo_around 20 = .ok (.ldc2_w 141, 3) := by decide +kernel
theorem d_Mo_around_23 : decode b_Mo_around 23 = .ok (.invokestatic 120, 3) := by decide +kernel
theorem d_Mo_around_26 : decode b_Mo_around 26 = .ok (.ifCond .eq 7, 3) := by decide +kernel
theorem d_Mo_around_29 : decode b_Mo_around 29 = .ok (.iconst 1, 1) := by decide +kernel
theorem d_Mo_around_30 : decode b_Mo_around 30 = .ok (.goto 4, 3) := by decide +kernel
theorem d_Mo_around_33 : decode b_Mo_around 33 = .ok (.iconst 0, 1) := by decide +kernel
theorem d_Mo_around_34 : decode b_Mo_around 34 = .ok (.invokevirtual 108, 3) := by decide +kernel
theorem d_Mo_around_37 : decode b_Mo_around 37 = .ok (.ifCond .eq 5, 3) := by decide +kernel
theorem d_Mo_around_40 : decode b_Mo_around 40 = .ok (.dconst 0, 1) := by decide +kernel
theorem d_Mo_around_41 : decode b_Mo_around 41 = .ok (.dreturn, 1) := by decide +kernel
theorem d_Mo_around_42 : decode b_Mo_around 42 = .ok (.aload_n 0, 1) := by decide +kernel
theorem d_Mo_around_43 : decode b_Mo_around 43 = .ok (.getfield 98, 3) := by decide +kernel
theorem d_Mo_around_46 : decode b_Mo_around 46 = .ok (.iconst 1, 1) := by decide +kernel
theorem d_Mo_around_47 : decode b_Mo_around 47 = .ok (.isub, 1) := by decide +kernel
theorem d_Mo_around_48 : decode b_Mo_around 48 = .ok (.istore 5, 2) := by decide +kernel
theorem d_Mo_around_50 : decode b_Mo_around 50 = .ok (.iload 5, 2) := by decide +kernel
theorem d_Mo_around_52 : decode b_Mo_around 52 = .ok (.ifCond .lt 21, 3) := by decide +kernel
theorem d_Mo_around_55 : decode b_Mo_around 55 = .ok (.aload_n 0, 1) := by decide +kernel
theorem d_Mo_around_56 : decode b_Mo_around 56 = .ok (.aload_n 0, 1) := by decide +kernel
theorem d_Mo_around_57 : decode b_Mo_around 57 = .ok (.getfield 44, 3) := by decide +kernel
theorem d_Mo_around_60 : decode b_Mo_around 60 = .ok (.iload 5, 2) := by decide +kernel
theorem d_Mo_around_62 : decode b_Mo_around 62 = .ok (.iaload, 1) := by decide +kernel
theorem d_Mo_around_63 : decode b_Mo_around 63 = .ok (.dload_n 3, 1) := by decide +kernel
theorem d_Mo_around_64 : decode b_Mo_around 64 = .ok (.invokevirtual 199, 3) := by decide +kernel
theorem d_Mo_around_67 : decode b_Mo_around 67 = .ok (.iinc 5 (-1), 3) := by decide +kernel
theorem d_Mo_around_70 : decode b_Mo_around 70 = .ok (.goto (-20), 3) := by decide +kernel
theorem d_Mo_around_73 : decode b_Mo_around 73 = .ok (.aload_n 0, 1) := by decide +kernel
theorem d_Mo_around_74 : decode b_Mo_around 74 = .ok (.getfield 19, 3) := by decide +kernel
theorem d_Mo_around_77 : decode b_Mo_around 77 = .ok (.iload_n 1, 1) := by decide +kernel
theorem d_Mo_around_78 : decode b_Mo_around 78 = .ok (.baload, 1) := by decide +kernel
theorem d_Mo_around_79 : decode b_Mo_around 79 = .ok (.ifCond .ne 10, 3) := by decide +kernel
theorem d_Mo_around_82 : decode b_Mo_around 82 = .ok (.aload_n 0, 1) := by decide +kernel
theorem d_Mo_around_83 : decode b_Mo_around 83 = .ok (.iconst 2, 1) := by decide +kernel
theorem d_Mo_around_84 : decode b_Mo_around 84 = .ok (.putfield 90, 3) := by decide +kernel
theorem d_Mo_around_87 : decode b_Mo_around 87 = .ok (.dconst 0, 1) := by decide +kernel
theorem d_Mo_around_88 : decode b_Mo_around 88 = .ok (.dreturn, 1) := by decide +kernel
theorem d_Mo_around_89 : decode b_Mo_around 89 = .ok (.iload_n 2, 1) := by decide +kernel
theorem d_Mo_around_90 : decode b_Mo_around 90 = .ok (.iconst 2, 1) := by decide +kernel
theorem d_Mo_around_91 : decode b_Mo_around 91 = .ok (.if_icmp .ge 16, 3) := by decide +kernel
theorem d_Mo_around_94 : decode b_Mo_around 94 = .ok (.aload_n 0, 1) := by decide +kernel
theorem d_Mo_around_95 : decode b_Mo_around 95 = .ok (.getfield 78, 3) := by decide +kernel
theorem d_Mo_around_98 : decode b_Mo_around 98 = .ok (.iload_n 1, 1) := by decide +kernel
theorem d_Mo_around_99 : decode b_Mo_around 99 = .ok (.iconst 2, 1) := by decide +kernel
theorem d_Mo_around_100 : decode b_Mo_around 100 = .ok (.imul, 1) := by decide +kernel
theorem d_Mo_around_101 : decode b_Mo_around 101 = .ok (.iload_n 2, 1) := by decide +kernel
theorem d_Mo_around_102 : decode b_Mo_around 102 = .ok (.iadd, 1) := by decide +kernel
theorem d_Mo_around_103 : decode b_Mo_around 103 = .ok (.daload, 1) := by decide +kernel
theorem d_Mo_around_104 : decode b_Mo_around 104 = .ok (.goto 15, 3) := by decide +kernel
theorem d_Mo_around_107 : decode b_Mo_around 107 = .ok (.aload_n 0, 1) := by decide +kernel
theorem d_Mo_around_108 : decode b_Mo_around 108 = .ok (.getfield 81, 3) := by decide +kernel
theorem d_Mo_around_111 : decode b_Mo_around 111 = .ok (.iload_n 1, 1) := by decide +kernel
theorem d_Mo_around_112 : decode b_Mo_around 112 = .ok (.iconst 2, 1) := by decide +kernel
theorem d_Mo_around_113 : decode b_Mo_around 113 = .ok (.imul, 1) := by decide +kernel
theorem d_Mo_around_114 : decode b_Mo_around 114 = .ok (.iload_n 2, 1) := by decide +kernel
theorem d_Mo_around_115 : decode b_Mo_around 115 = .ok (.iadd, 1) := by decide +kernel
theorem d_Mo_around_116 : decode b_Mo_around 116 = .ok (.iconst 2, 1) := by decide +kernel
theorem d_Mo_around_117 : decode b_Mo_around 117 = .ok (.isub, 1) := by decide +kernel
theorem d_Mo_around_118 : decode b_Mo_around 118 = .ok (.daload, 1) := by decide +kernel
theorem d_Mo_around_119 : decode b_Mo_around 119 = .ok (.dreturn, 1) := by decide +kernel
theorem d_Mo_box_0 : decode b_Mo_box 0 = .ok (.dconst 0, 1) := by decide +kernel
theorem d_Mo_box_1 : decode b_Mo_box 1 = .ok (.dstore 4, 2) := by decide +kernel
theorem d_Mo_box_3 : decode b_Mo_box 3 = .ok (.dconst 0, 1) := by decide +kernel
theorem d_Mo_box_4 : decode b_Mo_box 4 = .ok (.dstore 6, 2) := by decide +kernel
theorem d_Mo_box_6 : decode b_Mo_box 6 = .ok (.aload_n 0, 1) := by decide +kernel
theorem d_Mo_box_7 : decode b_Mo_box 7 = .ok (.getfield 57, 3) := by decide +kernel
theorem d_Mo_box_10 : decode b_Mo_box 10 = .ok (.iload_n 1, 1) := by decide +kernel
theorem d_Mo_box_11 : decode b_Mo_box 11 = .ok (.daload, 1) := by decide +kernel
theorem d_Mo_box_12 : decode b_Mo_box 12 = .ok (.dstore 8, 2) := by decide +kernel
theorem d_Mo_box_14 : decode b_Mo_box 14 = .ok (.aload_n 0, 1) := by decide +kernel
theorem d_Mo_box_15 : decode b_Mo_box 15 = .ok (.getfield 22, 3) := by decide +kernel
theorem d_Mo_box_18 : decode b_Mo_box 18 = .ok (.iload_n 1, 1) := by decide +kernel
theorem d_Mo_box_19 : decode b_Mo_box 19 = .ok (.iaload, 1) := by decide +kernel
theorem d_Mo_box_20 : decode b_Mo_box 20 = .ok (.iconst 2, 1) := by decide +kernel
theorem d_Mo_box_21 : decode b_Mo_box 21 = .ok (.if_icmp .ne 12, 3) := by decide +kernel
theorem d_Mo_box_24 : decode b_Mo_box 24 = .ok (.aload_n 0, 1) := by decide +kernel
theorem d_Mo_box_25 : decode b_Mo_box 25 = .ok (.getfield 57, 3) := by decide +kernel
theorem d_Mo_box_28 : decode b_Mo_box 28 = .ok (.iload_n 1, 1) := by decide +kernel
theorem d_Mo_box_29 : decode b_Mo_box 29 = .ok (.daload, 1) := by decide +kernel
theorem d_Mo_box_30 : decode b_Mo_box 30 = .ok (.goto 9, 3) := by decide +kernel
theorem d_Mo_box_33 : decode b_Mo_box 33 = .ok (.aload_n 0, 1) := by decide +kernel
theorem d_Mo_box_34 : decode b_Mo_box 34 = .ok (.getfield 60, 3) := by decide +kernel
theorem d_Mo_box_37 : decode b_Mo_box 37 = .ok (.iload_n 1, 1) := by decide +kernel
theorem d_Mo_box_38 : decode b_Mo_box 38 = .ok (.daload, 1) := by decide +kernel
theorem d_Mo_box_39 : decode b_Mo_box 39 = .ok (.dstore 10, 2) := by decide +kernel
theorem d_Mo_box_41 : decode b_Mo_box 41 = .ok (.aload_n 0, 1) := by decide +kernel
theorem d_Mo_box_42 : decode b_Mo_box 42 = .ok (.getfield 19, 3) := by decide +kernel
theorem d_Mo_box_45 : decode b_Mo_box 45 = .ok (.iload_n 1, 1) := by decide +kernel
theorem d_Mo_box_46 : decode b_Mo_box 46 = .ok (.aload_n 0, 1) := by decide +kernel
theorem d_Mo_box_47 : decode b_Mo_box 47 = .ok (.getfield 22, 3) := by decide +kernel
theorem d_Mo_box_50 : decode b_Mo_box 50 = .ok (.iload_n 1, 1) := by decide +kernel
theorem d_Mo_box_51 : decode b_Mo_box 51 = .ok (.iaload, 1) := by decide +kernel
theorem d_Mo_box_52 : decode b_Mo_box 52 = .ok (.ifCond .le 7, 3) := by decide +kernel
theorem d_Mo_box_55 : decode b_Mo_box 55 = .ok (.iconst 1, 1) := by decide +kernel
theorem d_Mo_box_56 : decode b_Mo_box 56 = .ok (.goto 4, 3) := by decide +kernel
theorem d_Mo_box_59 : decode b_Mo_box 59 = .ok (.iconst 0, 1) := by decide +kernel
theorem d_Mo_box_60 : decode b_Mo_box 60 = .ok (.bastore, 1) := by decide +kernel
theorem d_Mo_box_61 : decode b_Mo_box 61 = .ok (.aload_n 0, 1) := by decide +kernel
theorem d_Mo_box_62 : decode b_Mo_box 62 = .ok (.getfield 22, 3) := by decide +kernel
theorem d_Mo_box_65 : decode b_Mo_box 65 = .ok (.iload_n 1, 1) := by decide +kernel
theorem d_Mo_box_66 : decode b_Mo_box 66 = .ok (.iaload, 1) := by decide +kernel
theorem d_Mo_box_67 : decode b_Mo_box 67 = .ok (.iconst 2, 1) := by decide +kernel
theorem d_Mo_box_68 : decode b_Mo_box 68 = .ok (.if_icmp .ne 12, 3) := by decide +kernel
theorem d_Mo_box_71 : decode b_Mo_box 71 = .ok (.aload_n 0, 1) := by decide +kernel
theorem d_Mo_box_72 : decode b_Mo_box 72 = .ok (.getfield 57, 3) := by decide +kernel
theorem d_Mo_box_75 : decode b_Mo_box 75 = .ok (.iload_n 1, 1) := by decide +kernel
theorem d_Mo_box_76 : decode b_Mo_box 76 = .ok (.daload, 1) := by decide +kernel
theorem d_Mo_box_77 : decode b_Mo_box 77 = .ok (.dneg, 1) := by decide +kernel
theorem d_Mo_box_78 : decode b_Mo_box 78 = .ok (.dstore 4, 2) := by decide +kernel
theorem d_Mo_box_80 : decode b_Mo_box 80 = .ok (.aload_n 0, 1) := by decide +kernel
theorem d_Mo_box_81 : decode b_Mo_box 81 = .ok (.getfield 22, 3) := by decide +kernel
theorem d_Mo_box_84 : decode b_Mo_box 84 = .ok (.iload_n 1, 1) := by decide +kernel
theorem d_Mo_box_85 : decode b_Mo_box 85 = .ok (.iaload, 1) := by decide +kernel
theorem d_Mo_box_86 : decode b_Mo_box 86 = .ok (.iconst 2, 1) := by decide +kernel
theorem d_Mo_box_87 : decode b_Mo_box 87 = .ok (.if_icmp .ne 12, 3) := by decide +kernel
theorem d_Mo_box_90 : decode b_Mo_box 90 = .ok (.aload_n 0, 1) := by decide +kernel
theorem d_Mo_box_91 : decode b_Mo_box 91 = .ok (.getfield 57, 3) := by decide +kernel
theorem d_Mo_box_94 : decode b_Mo_box 94 = .ok (.iload_n 1, 1) := by decide +kernel
theorem d_Mo_box_95 : decode b_Mo_box 95 = .ok (.daload, 1) := by decide +kernel
theorem d_Mo_box_96 : decode b_Mo_box 96 = .ok (.dneg, 1) := by decide +kernel
theorem d_Mo_box_97 : decode b_Mo_box 97 = .ok (.dstore 6, 2) := by decide +kernel
theorem d_Mo_box_99 : decode b_Mo_box 99 = .ok (.iconst 0, 1) := by decide +kernel
theorem d_Mo_box_100 : decode b_Mo_box 100 = .ok (.istore 12, 2) := by decide +kernel
theorem d_Mo_box_102 : decode b_Mo_box 102 = .ok (.iload 12, 2) := by decide +kernel
theorem d_Mo_box_104 : decode b_Mo_box 104 = .ok (.aload_n 0, 1) := by decide +kernel
theorem d_Mo_box_105 : decode b_Mo_box 105 = .ok (.getfield 32, 3) := by decide +kernel
theorem d_Mo_box_108 : decode b_Mo_box 108 = .ok (.iload_n 1, 1) := by decide +kernel
theorem d_Mo_box_109 : decode b_Mo_box 109 = .ok (.iaload, 1) := by decide +kernel
theorem d_Mo_box_110 : decode b_Mo_box 110 = .ok (.if_icmp .ge 210, 3) := by decide +kernel
theorem d_Mo_box_113 : decode b_Mo_box 113 = .ok (.aload_n 0, 1) := by decide +kernel
theorem d_Mo_box_114 : decode b_Mo_box 114 = .ok (.getfield 22, 3) := by decide +kernel
theorem d_Mo_box_117 : decode b_Mo_box 117 = .ok (.iload_n 1, 1) := by decide +kernel
theorem d_Mo_box_118 : decode b_Mo_box 118 = .ok (.iaload, 1) := by decide +kernel
theorem d_Mo_box_119 : decode b_Mo_box 119 = .ok (.ifCond .ne 201, 3) := by decide +kernel
theorem d_Mo_box_122 : decode b_Mo_box 122 = .ok (.aload_n 0, 1) := by decide +kernel
theorem d_Mo_box_123 : decode b_Mo_box 123 = .ok (.getfield 35, 3) := by decide +kernel
theorem d_Mo_box_126 : decode b_Mo_box 126 = .ok (.iload_n 1, 1) := by decide +kernel
theorem d_Mo_box_127 : decode b_Mo_box 127 = .ok (.bipush 14, 2) := by decide +kernel
theorem d_Mo_box_129 : decode b_Mo_box 129 = .ok (.imul, 1) := by decide +kernel
theorem d_Mo_box_130 : decode b_Mo_box 130 = .ok (.iload 12, 2) := by decide +kernel
theorem d_Mo_box_132 : decode b_Mo_box 132 = .ok (.iadd, 1) := by decide +kernel
theorem d_Mo_box_133 : decode b_Mo_box 133 = .ok (.iaload, 1) := by decide +kernel
theorem d_Mo_box_134 : decode b_Mo_box 134 = .ok (.istore 13, 2) := by decide +kernel
theorem d_Mo_box_136 : decode b_Mo_box 136 = .ok (.aload_n 0, 1) := by decide +kernel
theorem d_Mo_box_137 : decode b_Mo_box 137 = .ok (.getfield 13, 3) := by decide +kernel
theorem d_Mo_box_140 : decode b_Mo_box 140 = .ok (.iload 13, 2) := by decide +kernel
theorem d_Mo_box_142 : decode b_Mo_box 142 = .ok (.baload, 1) := by decide +kernel
theorem d_Mo_box_143 : decode b_Mo_box 143 = .ok (.ifCond .ne 171, 3) := by decide +kernel
theorem d_Mo_box_146 : decode b_Mo_box 146 = .ok (.aload_n 0, 1) := by decide +kernel
theorem d_Mo_box_147 : decode b_Mo_box 147 = .ok (.getfield 19, 3) := by decide +kernel
theorem d_Mo_box_150 : decode b_Mo_box 150 = .ok (.iload 13, 2) := by decide +kernel
theorem d_Mo_box_152 : decode b_Mo_box 152 = .ok (.baload, 1) := by decide +kernel
theorem d_Mo_box_153 : decode b_Mo_box 153 = .ok (.ifCond .ne 6, 3) := by decide +kernel
theorem d_Mo_box_156 : decode b_Mo_box 156 = .ok (.goto 158, 3) := by decide +kernel
theorem d_Mo_box_159 : decode b_Mo_box 159 = .ok (.aload_n 0, 1) := by decide +kernel
theorem d_Mo_box_160 : decode b_Mo_box 160 = .ok (.getfield 19, 3) := by decide +kernel
theorem d_Mo_box_163 : decode b_Mo_box 163 = .ok (.iload_n 1, 1) := by decide +kernel
theorem d_Mo_box_164 : decode b_Mo_box 164 = .ok (.baload, 1) := by decide +kernel
theorem d_Mo_box_165 : decode b_Mo_box 165 = .ok (.ifCond .eq 18, 3) := by decide +kernel
theorem d_Mo_box_168 : decode b_Mo_box 168 = .ok (.aload_n 0, 1) := by decide +kernel
theorem d_Mo_box_169 : decode b_Mo_box 169 = .ok (.getfield 78, 3) := by decide +kernel
theorem d_Mo_box_172 : decode b_Mo_box 172 = .ok (.iload 13, 2) := by decide +kernel
theorem d_Mo_box_174 : decode b_Mo_box 174 = .ok (.iconst 2, 1) := by decide +kernel
theorem d_Mo_box_175 : decode b_Mo_box 175 = .ok (.imul, 1) := by decide +kernel
theorem d_Mo_box_176 : decode b_Mo_box 176 = .ok (.daload, 1) := by decide +kernel
theorem d_Mo_box_177 : decode b_Mo_box 177 = .ok (.dload 4, 2) := by decide +kernel
theorem d_Mo_box_179 : decode b_Mo_box 179 = .ok (.dcmp .g, 1) := by decide +kernel
theorem d_Mo_box_180 : decode b_Mo_box 180 = .ok (.ifCond .ge 14, 3) := by decide +kernel
theorem d_Mo_box_183 : decode b_Mo_box 183 = .ok (.aload_n 0, 1) := by decide +kernel
theorem d_Mo_box_184 : decode b_Mo_box 184 = .ok (.getfield 78, 3) := by decide +kernel
theorem d_Mo_box_187 : decode b_Mo_box 187 = .ok (.iload 13, 2) := by decide +kernel
theorem d_Mo_box_189 : decode b_Mo_box 189 = .ok (.iconst 2, 1) := by decide +kernel
theorem d_Mo_box_190 : decode b_Mo_box 190 = .ok (.imul, 1) := by decide +kernel
theorem d_Mo_box_191 : decode b_Mo_box 191 = .ok (.daload, 1) := by decide +kernel
theorem d_Mo_box_192 : decode b_Mo_box 192 = .ok (.dstore 4, 2) := by decide +kernel
theorem d_Mo_box_194 : decode b_Mo_box 194 = .ok (.aload_n 0, 1) := by decide +kernel
theorem d_Mo_box_195 : decode b_Mo_box 195 = .ok (.getfield 19, 3) := by decide +kernel
theorem d_Mo_box_198 : decode b_Mo_box 198 = .ok (.iload_n 1, 1) := by decide +kernel
theorem d_Mo_box_199 : decode b_Mo_box 199 = .ok (.baload, 1) := by decide +kernel
theorem d_Mo_box_200 : decode b_Mo_box 200 = .ok (.ifCond .eq 20, 3) := by decide +kernel
theorem d_Mo_box_203 : decode b_Mo_box 203 = .ok (.aload_n 0, 1) := by decide +kernel
theorem d_Mo_box_204 : decode b_Mo_box 204 = .ok (.getfield 78, 3) := by decide +kernel
theorem d_Mo_box_207 : decode b_Mo_box 207 = .ok (.iload 13, 2) := by decide +kernel
theorem d_Mo_box_209 : decode b_Mo_box 209 = .ok (.iconst 2, 1) := by decide +kernel
theorem d_Mo_box_210 : decode b_Mo_box 210 = .ok (.imul, 1) := by decide +kernel
theorem d_Mo_box_211 : decode b_Mo_box 211 = .ok (.iconst 1, 1) := by decide +kernel
theorem d_Mo_box_212 : decode b_Mo_box 212 = .ok (.iadd, 1) := by decide +kernel
theorem d_Mo_box_213 : decode b_Mo_box 213 = .ok (.daload, 1) := by decide +kernel
theorem d_Mo_box_214 : decode b_Mo_box 214 = .ok (.dload 6, 2) := by decide +kernel
theorem d_Mo_box_216 : decode b_Mo_box 216 = .ok (.dcmp .g, 1) := by decide +kernel
theorem d_Mo_box_217 : decode b_Mo_box 217 = .ok (.ifCond .ge 16, 3) := by decide +kernel
theorem d_Mo_box_220 : decode b_Mo_box 220 = .ok (.aload_n 0, 1) := by decide +kernel
theorem d_Mo_box_221 : decode b_Mo_box 221 = .ok (.getfield 78, 3) := by decide +kernel
theorem d_Mo_box_224 : decode b_Mo_box 224 = .ok (.iload 13, 2) := by decide +kernel
theorem d_Mo_box_226 : decode b_Mo_box 226 = .ok (.iconst 2, 1) := by decide +kernel
theorem d_Mo_box_227 : decode b_Mo_box 227 = .ok (.imul, 1) := by decide +kernel
theorem d_Mo_box_228 : decode b_Mo_box 228 = .ok (.iconst 1, 1) := by decide +kernel
theorem d_Mo_box_229 : decode b_Mo_box 229 = .ok (.iadd, 1) := by decide +kernel
theorem d_Mo_box_230 : decode b_Mo_box 230 = .ok (.daload, 1) := by decide +kernel
theorem d_Mo_box_231 : decode b_Mo_box 231 = .ok (.dstore 6, 2) := by decide +kernel
theorem d_Mo_box_233 : decode b_Mo_box 233 = .ok (.aload_n 0, 1) := by decide +kernel
theorem d_Mo_box_234 : decode b_Mo_box 234 = .ok (.getfield 19, 3) := by decide +kernel
theorem d_Mo_box_237 : decode b_Mo_box 237 = .ok (.iload_n 1, 1) := by decide +kernel
theorem d_Mo_box_238 : decode b_Mo_box 238 = .ok (.baload, 1) := by decide +kernel
theorem d_Mo_box_239 : decode b_Mo_box 239 = .ok (.ifCond .eq 18, 3) := by decide +kernel
theorem d_Mo_box_242 : decode b_Mo_box 242 = .ok (.aload_n 0, 1) := by decide +kernel
theorem d_Mo_box_243 : decode b_Mo_box 243 = .ok (.getfield 81, 3) := by decide +kernel
theorem d_Mo_box_246 : decode b_Mo_box 246 = .ok (.iload 13, 2) := by decide +kernel
theorem d_Mo_box_248 : decode b_Mo_box 248 = .ok (.iconst 2, 1) := by decide +kernel
theorem d_Mo_box_249 : decode b_Mo_box 249 = .ok (.imul, 1) := by decide +kernel
theorem d_Mo_box_250 : decode b_Mo_box 250 = .ok (.daload, 1) := by decide +kernel
theorem d_Mo_box_251 : decode b_Mo_box 251 = .ok (.dload 8, 2) := by decide +kernel
theorem d_Mo_box_253 : decode b_Mo_box 253 = .ok (.dcmp .l, 1) := by decide +kernel
theorem d_Mo_box_254 : decode b_Mo_box 254 = .ok (.ifCond .le 14, 3) := by decide +kernel
theorem d_Mo_box_257 : decode b_Mo_box 257 = .ok (.aload_n 0, 1) := by decide +kernel
theorem d_Mo_box_258 : decode b_Mo_box 258 = .ok (.getfield 81, 3) := by decide +kernel
theorem d_Mo_box_261 : decode b_Mo_box 261 = .ok (.iload 13, 2) := by decide +kernel
theorem d_Mo_box_263 : decode b_Mo_box 263 = .ok (.iconst 2, 1) := by decide +kernel
theorem d_Mo_box_264 : decode b_Mo_box 264 = .ok (.imul, 1) := by decide +kernel
theorem d_Mo_box_265 : decode b_Mo_box 265 = .ok (.daload, 1) := by decide +kernel
theorem d_Mo_box_266 : decode b_Mo_box 266 = .ok (.dstore 8, 2) := by decide +kernel
theorem d_Mo_box_268 : decode b_Mo_box 268 = .ok (.aload_n 0, 1) := by decide +kernel
theorem d_Mo_box_269 : decode b_Mo_box 269 = .ok (.getfield 19, 3) := by decide +kernel
theorem d_Mo_box_272 : decode b_Mo_box 272 = .ok (.iload_n 1, 1) := by decide +kernel
theorem d_Mo_box_273 : decode b_Mo_box 273 = .ok (.baload, 1) := by decide +kernel
theorem d_Mo_box_274 : decode b_Mo_box 274 = .ok (.ifCond .eq 20, 3) := by decide +kernel
theorem d_Mo_box_277 : decode b_Mo_box 277 = .ok (.aload_n 0, 1) := by decide +kernel
theorem d_Mo_box_278 : decode b_Mo_box 278 = .ok (.getfield 81, 3) := by decide +kernel
theorem d_Mo_box_281 : decode b_Mo_box 281 = .ok (.iload 13, 2) := by decide +kernel
theorem d_Mo_box_283 : decode b_Mo_box 283 = .ok (.iconst 2, 1) := by decide +kernel
theorem d_Mo_box_284 : decode b_Mo_box 284 = .ok (.imul, 1) := by decide +kernel
theorem d_Mo_box_285 : decode b_Mo_box 285 = .ok (.iconst 1, 1) := by decide +kernel
theorem d_Mo_box_286 : decode b_Mo_box 286 = .ok (.iadd, 1) := by decide +kernel
theorem d_Mo_box_287 : decode b_Mo_box 287 = .ok (.daload, 1) := by decide +kernel
theorem d_Mo_box_288 : decode b_Mo_box 288 = .ok (.dload 10, 2) := by decide +kernel
theorem d_Mo_box_290 : decode b_Mo_box 290 = .ok (.dcmp .l, 1) := by decide +kernel
theorem d_Mo_box_291 : decode b_Mo_box 291 = .ok (.ifCond .le 16, 3) := by decide +kernel
theorem d_Mo_box_294 : decode b_Mo_box 294 = .ok (.aload_n 0, 1) := by decide +kernel
theorem d_Mo_box_295 : decode b_Mo_box 295 = .ok (.getfield 81, 3) := by decide +kernel
theorem d_Mo_box_298 : decode b_Mo_box 298 = .ok (.iload 13, 2) := by decide +kernel
theorem d_Mo_box_300 : decode b_Mo_box 300 = .ok (.iconst 2, 1) := by decide +kernel
theorem d_Mo_box_301 : decode b_Mo_box 301 = .ok (.imul, 1) := by decide +kernel
theorem d_Mo_box_302 : decode b_Mo_box 302 = .ok (.iconst 1, 1) := by decide +kernel
theorem d_Mo_box_303 : decode b_Mo_box 303 = .ok (.iadd, 1) := by decide +kernel
theorem d_Mo_box_304 : decode b_Mo_box 304 = .ok (.daload, 1) := by decide +kernel
theorem d_Mo_box_305 : decode b_Mo_box 305 = .ok (.dstore 10, 2) := by decide +kernel
theorem d_Mo_box_307 : decode b_Mo_box 307 = .ok (.aload_n 0, 1) := by decide +kernel
theorem d_Mo_box_308 : decode b_Mo_box 308 = .ok (.getfield 19, 3) := by decide +kernel
theorem d_Mo_box_311 : decode b_Mo_box 311 = .ok (.iload_n 1, 1) := by decide +kernel
theorem d_Mo_box_312 : decode b_Mo_box 312 = .ok (.iconst 1, 1) := by decide +kernel
theorem d_Mo_box_313 : decode b_Mo_box 313 = .ok (.bastore, 1) := by decide +kernel
theorem d_Mo_box_314 : decode b_Mo_box 314 = .ok (.iinc 12 1, 3) := by decide +kernel
theorem d_Mo_box_317 : decode b_Mo_box 317 = .ok (.goto (-215), 3) := by decide +kernel
theorem d_Mo_box_320 : decode b_Mo_box 320 = .ok (.aload_n 0, 1) := by decide +kernel
theorem d_Mo_box_321 : decode b_Mo_box 321 = .ok (.getfield 19, 3) := by decide +kernel
theorem d_Mo_box_324 : decode b_Mo_box 324 = .ok (.iload_n 1, 1) := by decide +kernel
theorem d_Mo_box_325 : decode b_Mo_box 325 = .ok (.baload, 1) := by decide +kernel
theorem d_Mo_box_326 : decode b_Mo_box 326 = .ok (.ifCond .ne 4, 3) := by decide +kernel
theorem d_Mo_box_329 : decode b_Mo_box 329 = .ok (.return_, 1) := by decide +kernel
theorem d_Mo_box_330 : decode b_Mo_box 330 = .ok (.aload_n 0, 1) := by decide +kernel
theorem d_Mo_box_331 : decode b_Mo_box 331 = .ok (.getfield 78, 3) := by decide +kernel
theorem d_Mo_box_334 : decode b_Mo_box 334 = .ok (.iload_n 1, 1) := by decide +kernel
theorem d_Mo_box_335 : decode b_Mo_box 335 = .ok (.iconst 2, 1) := by decide +kernel
theorem d_Mo_box_336 : decode b_Mo_box 336 = .ok (.imul, 1) := by decide +kernel
theorem d_Mo_box_337 : decode b_Mo_box 337 = .ok (.aload_n 0, 1) := by decide +kernel
theorem d_Mo_box_338 : decode b_Mo_box 338 = .ok (.getfield 78, 3) := by decide +kernel
theorem d_Mo_box_341 : decode b_Mo_box 341 = .ok (.iload_n 1, 1) := by decide +kernel
theorem d_Mo_box_342 : decode b_Mo_box 342 = .ok (.iconst 2, 1) := by decide +kernel
theorem d_Mo_box_343 : decode b_Mo_box 343 = .ok (.imul, 1) := by decide +kernel
theorem d_Mo_box_344 : decode b_Mo_box 344 = .ok (.iconst 1, 1) := by decide +kernel
theorem d_Mo_box_345 : decode b_Mo_box 345 = .ok (.iadd, 1) := by decide +kernel
theorem d_Mo_box_346 : decode b_Mo_box 346 = .ok (.ldc2_w 191, 3) := by decide +kernel
theorem d_Mo_box_349 : decode b_Mo_box 349 = .ok (.dup2_x2, 1) := by decide +kernel
theorem d_Mo_box_350 : decode b_Mo_box 350 = .ok (.dastore, 1) := by decide +kernel
theorem d_Mo_box_351 : decode b_Mo_box 351 = .ok (.dastore, 1) := by decide +kernel
theorem d_Mo_box_352 : decode b_Mo_box 352 = .ok (.aload_n 0, 1) := by decide +kernel
theorem d_Mo_box_353 : decode b_Mo_box 353 = .ok (.getfield 81, 3) := by decide +kernel
theorem d_Mo_box_356 : decode b_Mo_box 356 = .ok (.iload_n 1, 1) := by decide +kernel
theorem d_Mo_box_357 : decode b_Mo_box 357 = .ok (.iconst 2, 1) := by decide +kernel
theorem d_Mo_box_358 : decode b_Mo_box 358 = .ok (.imul, 1) := by decide +kernel
theorem d_Mo_box_359 : decode b_Mo_box 359 = .ok (.aload_n 0, 1) := by decide +kernel
theorem d_Mo_box_360 : decode b_Mo_box 360 = .ok (.getfield 81, 3) := by decide +kernel
theorem d_Mo_box_363 : decode b_Mo_box 363 = .ok (.iload_n 1, 1) := by decide +kernel
theorem d_Mo_box_364 : decode b_Mo_box 364 = .ok (.iconst 2, 1) := by decide +kernel
theorem d_Mo_box_365 : decode b_Mo_box 365 = .ok (.imul, 1) := by decide +kernel
theorem d_Mo_box_366 : decode b_Mo_box 366 = .ok (.iconst 1, 1) := by decide +kernel
theorem d_Mo_box_367 : decode b_Mo_box 367 = .ok (.iadd, 1) := by decide +kernel
theorem d_Mo_box_368 : decode b_Mo_box 368 = .ok (.ldc2_w 193, 3) := by decide +kernel
theorem d_Mo_box_371 : decode b_Mo_box 371 = .ok (.dup2_x2, 1) := by decide +kernel
theorem d_Mo_box_372 : decode b_Mo_box 372 = .ok (.dastore, 1) := by decide +kernel
theorem d_Mo_box_373 : decode b_Mo_box 373 = .ok (.dastore, 1) := by decide +kernel
theorem d_Mo_box_374 : decode b_Mo_box 374 = .ok (.aload_n 0, 1) := by decide +kernel
theorem d_Mo_box_375 : decode b_Mo_box 375 = .ok (.iload_n 1, 1) := by decide +kernel
theorem d_Mo_box_376 : decode b_Mo_box 376 = .ok (.dload 4, 2) := by decide +kernel
theorem d_Mo_box_378 : decode b_Mo_box 378 = .ok (.dload 6, 2) := by decide +kernel
theorem d_Mo_box_380 : decode b_Mo_box 380 = .ok (.dload_n 2, 1) := by decide +kernel
theorem d_Mo_box_381 : decode b_Mo_box 381 = .ok (.invokevirtual 195, 3) := by decide +kernel
theorem d_Mo_box_384 : decode b_Mo_box 384 = .ok (.aload_n 0, 1) := by decide +kernel
theorem d_Mo_box_385 : decode b_Mo_box 385 = .ok (.iload_n 1, 1) := by decide +kernel
theorem d_Mo_box_386 : decode b_Mo_box 386 = .ok (.dload 8, 2) := by decide +kernel
theorem d_Mo_box_388 : decode b_Mo_box 388 = .ok (.dload 10, 2) := by decide +kernel
theorem d_Mo_box_390 : decode b_Mo_box 390 = .ok (.dload_n 2, 1) := by decide +kernel
theorem d_Mo_box_391 : decode b_Mo_box 391 = .ok (.invokevirtual 195, 3) := by decide +kernel
theorem d_Mo_box_394 : decode b_Mo_box 394 = .ok (.return_, 1) := by decide +kernel
theorem d_Mo_layOut_0 : decode b_Mo_layOut 0 = .ok (.iload_n 1, 1) := by decide +kernel
theorem d_Mo_layOut_1 : decode b_Mo_layOut 1 = .ok (.ifCond .le 17, 3) := by decide +kernel
theorem d_Mo_layOut_4 : decode b_Mo_layOut 4 = .ok (.aload_n 0, 1) := by decide +kernel
theorem d_Mo_layOut_5 : decode b_Mo_layOut 5 = .ok (.iload_n 1, 1) := by decide +kernel
theorem d_Mo_layOut_6 : decode b_Mo_layOut 6 = .ok (.iconst 2, 1) := by decide +kernel
theorem d_Mo_layOut_7 : decode b_Mo_layOut 7 = .ok (.dload 6, 2) := by decide +kernel
theorem d_Mo_layOut_9 : decode b_Mo_layOut 9 = .ok (.invokevirtual 168, 3) := by decide +kernel
theorem d_Mo_layOut_12 : decode b_Mo_layOut 12 = .ok (.invokestatic 172, 3) := by decide +kernel
theorem d_Mo_layOut_15 : decode b_Mo_layOut 15 = .ok (.goto 4, 3) := by decide +kernel
theorem d_Mo_layOut_18 : decode b_Mo_layOut 18 = .ok (.dconst 1, 1) := by decide +kernel
theorem d_Mo_layOut_19 : decode b_Mo_layOut 19 = .ok (.dstore 8, 2) := by decide +kernel
theorem d_Mo_layOut_21 : decode b_Mo_layOut 21 = .ok (.dload_n 2, 1) := by decide +kernel
theorem d_Mo_layOut_22 : decode b_Mo_layOut 22 = .ok (.dload 8, 2) := by decide +kernel
theorem d_Mo_layOut_24 : decode b_Mo_layOut 24 = .ok (.dmul, 1) := by decide +kernel
theorem d_Mo_layOut_25 : decode b_Mo_layOut 25 = .ok (.dstore 10, 2) := by decide +kernel
theorem d_Mo_layOut_27 : decode b_Mo_layOut 27 = .ok (.dload 4, 2) := by decide +kernel
theorem d_Mo_layOut_29 : decode b_Mo_layOut 29 = .ok (.dload 8, 2) := by decide +kernel
theorem d_Mo_layOut_31 : decode b_Mo_layOut 31 = .ok (.dmul, 1) := by decide +kernel
theorem d_Mo_layOut_32 : decode b_Mo_layOut 32 = .ok (.dstore 12, 2) := by decide +kernel
theorem d_Mo_layOut_34 : decode b_Mo_layOut 34 = .ok (.iconst 0, 1) := by decide +kernel
theorem d_Mo_layOut_35 : decode b_Mo_layOut 35 = .ok (.istore 14, 2) := by decide +kernel
theorem d_Mo_layOut_37 : decode b_Mo_layOut 37 = .ok (.iload 14, 2) := by decide +kernel
theorem d_Mo_layOut_39 : decode b_Mo_layOut 39 = .ok (.aload_n 0, 1) := by decide +kernel
theorem d_Mo_layOut_40 : decode b_Mo_layOut 40 = .ok (.getfield 38, 3) := by decide +kernel
theorem d_Mo_layOut_43 : decode b_Mo_layOut 43 = .ok (.iload_n 1, 1) := by decide +kernel
theorem d_Mo_layOut_44 : decode b_Mo_layOut 44 = .ok (.iaload, 1) := by decide +kernel
theorem d_Mo_layOut_45 : decode b_Mo_layOut 45 = .ok (.if_icmp .ge 22, 3) := by decide +kernel
theorem d_Mo_layOut_48 : decode b_Mo_layOut 48 = .ok (.dload 10, 2) := by decide +kernel
theorem d_Mo_layOut_50 : decode b_Mo_layOut 50 = .ok (.dstore 15, 2) := by decide +kernel
theorem d_Mo_layOut_52 : decode b_Mo_layOut 52 = .ok (.dload 12, 2) := by decide +kernel
theorem d_Mo_layOut_54 : decode b_Mo_layOut 54 = .ok (.dneg, 1) := by decide +kernel
theorem d_Mo_layOut_55 : decode b_Mo_layOut 55 = .ok (.dstore 10, 2) := by decide +kernel
theorem d_Mo_layOut_57 : decode b_Mo_layOut 57 = .ok (.dload 15, 2) := by decide +kernel
theorem d_Mo_layOut_59 : decode b_Mo_layOut 59 = .ok (.dstore 12, 2) := by decide +kernel
theorem d_Mo_layOut_61 : decode b_Mo_layOut 61 = .ok (.iinc 14 1, 3) := by decide +kernel
theorem d_Mo_layOut_64 : decode b_Mo_layOut 64 = .ok (.goto (-27), 3) := by decide +kernel
theorem d_Mo_layOut_67 : decode b_Mo_layOut 67 = .ok (.iload_n 1, 1) := by decide +kernel
theorem d_Mo_layOut_68 : decode b_Mo_layOut 68 = .ok (.ifCond .le 29, 3) := by decide +kernel
theorem d_Mo_layOut_71 : decode b_Mo_layOut 71 = .ok (.dload 10, 2) := by decide +kernel
theorem d_Mo_layOut_73 : decode b_Mo_layOut 73 = .ok (.aload_n 0, 1) := by decide +kernel
theorem d_Mo_layOut_74 : decode b_Mo_layOut 74 = .ok (.iload_n 1, 1) := by decide +kernel
theorem d_Mo_layOut_75 : decode b_Mo_layOut 75 = .ok (.iconst 0, 1) := by decide +kernel
theorem d_Mo_layOut_76 : decode b_Mo_layOut 76 = .ok (.dload 6, 2) := by decide +kernel
theorem d_Mo_layOut_78 : decode b_Mo_layOut 78 = .ok (.invokevirtual 168, 3) := by decide +kernel
theorem d_Mo_layOut_81 : decode b_Mo_layOut 81 = .ok (.dadd, 1) := by decide +kernel
theorem d_Mo_layOut_82 : decode b_Mo_layOut 82 = .ok (.dstore 10, 2) := by decide +kernel
theorem d_Mo_layOut_84 : decode b_Mo_layOut 84 = .ok (.dload 12, 2) := by decide +kernel
theorem d_Mo_layOut_86 : decode b_Mo_layOut 86 = .ok (.aload_n 0, 1) := by decide +kernel
theorem d_Mo_layOut_87 : decode b_Mo_layOut 87 = .ok (.iload_n 1, 1) := by decide +kernel
theorem d_Mo_layOut_88 : decode b_Mo_layOut 88 = .ok (.iconst 1, 1) := by decide +kernel
theorem d_Mo_layOut_89 : decode b_Mo_layOut 89 = .ok (.dload 6, 2) := by decide +kernel
theorem d_Mo_layOut_91 : decode b_Mo_layOut 91 = .ok (.invokevirtual 168, 3) := by decide +kernel
theorem d_Mo_layOut_94 : decode b_Mo_layOut 94 = .ok (.dadd, 1) := by decide +kernel
theorem d_Mo_layOut_95 : decode b_Mo_layOut 95 = .ok (.dstore 12, 2) := by decide +kernel
theorem d_Mo_layOut_97 : decode b_Mo_layOut 97 = .ok (.aload_n 0, 1) := by decide +kernel
theorem d_Mo_layOut_98 : decode b_Mo_layOut 98 = .ok (.iload_n 1, 1) := by decide +kernel
theorem d_Mo_layOut_99 : decode b_Mo_layOut 99 = .ok (.iconst 2, 1) := by decide +kernel
theorem d_Mo_layOut_100 : decode b_Mo_layOut 100 = .ok (.imul, 1) := by decide +kernel
theorem d_Mo_layOut_101 : decode b_Mo_layOut 101 = .ok (.dload 10, 2) := by decide +kernel
theorem d_Mo_layOut_103 : decode b_Mo_layOut 103 = .ok (.invokevirtual 187, 3) := by decide +kernel
theorem d_Mo_layOut_106 : decode b_Mo_layOut 106 = .ok (.aload_n 0, 1) := by decide +kernel
theorem d_Mo_layOut_107 : decode b_Mo_layOut 107 = .ok (.iload_n 1, 1) := by decide +kernel
theorem d_Mo_layOut_108 : decode b_Mo_layOut 108 = .ok (.iconst 2, 1) := by decide +kernel
theorem d_Mo_layOut_109 : decode b_Mo_layOut 109 = .ok (.imul, 1) := by decide +kernel
theorem d_Mo_layOut_110 : decode b_Mo_layOut 110 = .ok (.iconst 1, 1) := by decide +kernel
theorem d_Mo_layOut_111 : decode b_Mo_layOut 111 = .ok (.iadd, 1) := by decide +kernel
theorem d_Mo_layOut_112 : decode b_Mo_layOut 112 = .ok (.dload 12, 2) := by decide +kernel
theorem d_Mo_layOut_114 : decode b_Mo_layOut 114 = .ok (.invokevirtual 187, 3) := by decide +kernel
theorem d_Mo_layOut_117 : decode b_Mo_layOut 117 = .ok (.return_, 1) := by decide +kernel
theorem d_Mo_widen_0 : decode b_Mo_widen 0 = .ok (.dload_n 2, 1) := by decide +kernel
theorem d_Mo_widen_1 : decode b_Mo_widen 1 = .ok (.aload_n 0, 1) := by decide +kernel
theorem d_Mo_widen_2 : decode b_Mo_widen 2 = .ok (.getfield 78, 3) := by decide +kernel
theorem d_Mo_widen_5 : decode b_Mo_widen 5 = .ok (.iload_n 1, 1) := by decide +kernel
theorem d_Mo_widen_6 : decode b_Mo_widen 6 = .ok (.daload, 1) := by decide +kernel
theorem d_Mo_widen_7 : decode b_Mo_widen 7 = .ok (.dcmp .g, 1) := by decide +kernel
theorem d_Mo_widen_8 : decode b_Mo_widen 8 = .ok (.ifCond .ge 10, 3) := by decide +kernel
theorem d_Mo_widen_11 : decode b_Mo_widen 11 = .ok (.aload_n 0, 1) := by decide +kernel
theorem d_Mo_widen_12 : decode b_Mo_widen 12 = .ok (.getfield 78, 3) := by decide +kernel
theorem d_Mo_widen_15 : decode b_Mo_widen 15 = .ok (.iload_n 1, 1) := by decide +kernel
theorem d_Mo_widen_16 : decode b_Mo_widen 16 = .ok (.dload_n 2, 1) := by decide +kernel
theorem d_Mo_widen_17 : decode b_Mo_widen 17 = .ok (.dastore, 1) := by decide +kernel
theorem d_Mo_widen_18 : decode b_Mo_widen 18 = .ok (.dload_n 2, 1) := by decide +kernel
theorem d_Mo_widen_19 : decode b_Mo_widen 19 = .ok (.aload_n 0, 1) := by decide +kernel
theorem d_Mo_widen_20 : decode b_Mo_widen 20 = .ok (.getfield 81, 3) := by decide +kernel
theorem d_Mo_widen_23 : decode b_Mo_widen 23 = .ok (.iload_n 1, 1) := by decide +kernel
theorem d_Mo_widen_24 : decode b_Mo_widen 24 = .ok (.daload, 1) := by decide +kernel
theorem d_Mo_widen_25 : decode b_Mo_widen 25 = .ok (.dcmp .l, 1) := by decide +kernel
theorem d_Mo_widen_26 : decode b_Mo_widen 26 = .ok (.ifCond .le 10, 3) := by decide +kernel
theorem d_Mo_widen_29 : decode b_Mo_widen 29 = .ok (.aload_n 0, 1) := by decide +kernel
theorem d_Mo_widen_30 : decode b_Mo_widen 30 = .ok (.getfield 81, 3) := by decide +kernel
theorem d_Mo_widen_33 : decode b_Mo_widen 33 = .ok (.iload_n 1, 1) := by decide +kernel
theorem d_Mo_widen_34 : decode b_Mo_widen 34 = .ok (.dload_n 2, 1) := by decide +kernel
theorem d_Mo_widen_35 : decode b_Mo_widen 35 = .ok (.dastore, 1) := by decide +kernel
theorem d_Mo_widen_36 : decode b_Mo_widen 36 = .ok (.return_, 1) := by decide +kernel
theorem d_Mo_told_0 : decode b_Mo_told 0 = .ok (.aload_n 0, 1) := by decide +kernel
theorem d_Mo_told_1 : decode b_Mo_told 1 = .ok (.aload_n 0, 1) := by decide +kernel
theorem d_Mo_told_2 : decode b_Mo_told 2 = .ok (.iload_n 1, 1) := by decide +kernel
theorem d_Mo_told_3 : decode b_Mo_told 3 = .ok (.invokevirtual 94, 3) := by decide +kernel
theorem d_Mo_told_6 : decode b_Mo_told 6 = .ok (.ifCond .eq 16, 3) := by decide +kernel
theorem d_Mo_told_9 : decode b_Mo_told 9 = .ok (.iload_n 2, 1) := by decide +kernel
theorem d_Mo_told_10 : decode b_Mo_told 10 = .ok (.ifCond .lt 12, 3) := by decide +kernel
theorem d_Mo_told_13 : decode b_Mo_told 13 = .ok (.iload_n 2, 1) := by decide +kernel
theorem d_Mo_told_14 : decode b_Mo_told 14 = .ok (.iconst 5, 1) := by decide +kernel
theorem d_Mo_told_15 : decode b_Mo_told 15 = .ok (.if_icmp .ge 7, 3) := by decide +kernel
theorem d_Mo_told_18 : decode b_Mo_told 18 = .ok (.iconst 1, 1) := by decide +kernel
theorem d_Mo_told_19 : decode b_Mo_told 19 = .ok (.goto 4, 3) := by decide +kernel
theorem d_Mo_told_22 : decode b_Mo_told 22 = .ok (.iconst 0, 1) := by decide +kernel
theorem d_Mo_told_23 : decode b_Mo_told 23 = .ok (.invokevirtual 108, 3) := by decide +kernel
theorem d_Mo_told_26 : decode b_Mo_told 26 = .ok (.ifCond .eq 5, 3) := by decide +kernel
theorem d_Mo_told_29 : decode b_Mo_told 29 = .ok (.iconst 0, 1) := by decide +kernel
theorem d_Mo_told_30 : decode b_Mo_told 30 = .ok (.ireturn, 1) := by decide +kernel
theorem d_Mo_told_31 : decode b_Mo_told 31 = .ok (.iload_n 2, 1) := by decide +kernel
theorem d_Mo_told_32 : decode b_Mo_told 32 = .ok (.iconst 2, 1) := by decide +kernel
theorem d_Mo_told_33 : decode b_Mo_told 33 = .ok (.if_icmp .ge 23, 3) := by decide +kernel
theorem d_Mo_told_36 : decode b_Mo_told 36 = .ok (.iload_n 2, 1) := by decide +kernel
theorem d_Mo_told_37 : decode b_Mo_told 37 = .ok (.ifCond .ne 12, 3) := by decide +kernel
theorem d_Mo_told_40 : decode b_Mo_told 40 = .ok (.aload_n 0, 1) := by decide +kernel
theorem d_Mo_told_41 : decode b_Mo_told 41 = .ok (.getfield 22, 3) := by decide +kernel
theorem d_Mo_told_44 : decode b_Mo_told 44 = .ok (.iload_n 1, 1) := by decide +kernel
theorem d_Mo_told_45 : decode b_Mo_told 45 = .ok (.iaload, 1) := by decide +kernel
theorem d_Mo_told_46 : decode b_Mo_told 46 = .ok (.goto 9, 3) := by decide +kernel
theorem d_Mo_told_49 : decode b_Mo_told 49 = .ok (.aload_n 0, 1) := by decide +kernel
theorem d_Mo_told_50 : decode b_Mo_told 50 = .ok (.getfield 29, 3) := by decide +kernel
theorem d_Mo_told_53 : decode b_Mo_told 53 = .ok (.iload_n 1, 1) := by decide +kernel
theorem d_Mo_told_54 : decode b_Mo_told 54 = .ok (.iaload, 1) := by decide +kernel
theorem d_Mo_told_55 : decode b_Mo_told 55 = .ok (.ireturn, 1) := by decide +kernel
theorem d_Mo_told_56 : decode b_Mo_told 56 = .ok (.iload_n 2, 1) := by decide +kernel
theorem d_Mo_told_57 : decode b_Mo_told 57 = .ok (.iconst 2, 1) := by decide +kernel
theorem d_Mo_told_58 : decode b_Mo_told 58 = .ok (.if_icmp .ne 12, 3) := by decide +kernel
theorem d_Mo_told_61 : decode b_Mo_told 61 = .ok (.aload_n 0, 1) := by decide +kernel
theorem d_Mo_told_62 : decode b_Mo_told 62 = .ok (.getfield 32, 3) := by decide +kernel
theorem d_Mo_told_65 : decode b_Mo_told 65 = .ok (.iload_n 1, 1) := by decide +kernel
theorem d_Mo_told_66 : decode b_Mo_told 66 = .ok (.iaload, 1) := by decide +kernel
theorem d_Mo_told_67 : decode b_Mo_told 67 = .ok (.goto 21, 3) := by decide +kernel
theorem d_Mo_told_70 : decode b_Mo_told 70 = .ok (.iload_n 2, 1) := by decide +kernel
theorem d_Mo_told_71 : decode b_Mo_told 71 = .ok (.iconst 3, 1) := by decide +kernel
theorem d_Mo_told_72 : decode b_Mo_told 72 = .ok (.if_icmp .ne 11, 3) := by decide +kernel
theorem d_Mo_told_75 : decode b_Mo_told 75 = .ok (.aload_n 0, 1) := by decide +kernel
theorem d_Mo_told_76 : decode b_Mo_told 76 = .ok (.iload_n 1, 1) := by decide +kernel
theorem d_Mo_told_77 : decode b_Mo_told 77 = .ok (.invokevirtual 101, 3) := by decide +kernel
theorem d_Mo_told_80 : decode b_Mo_told 80 = .ok (.goto 8, 3) := by decide +kernel
theorem d_Mo_told_83 : decode b_Mo_told 83 = .ok (.aload_n 0, 1) := by decide +kernel
theorem d_Mo_told_84 : decode b_Mo_told 84 = .ok (.iload_n 1, 1) := by decide +kernel
theorem d_Mo_told_85 : decode b_Mo_told 85 = .ok (.invokevirtual 202, 3) := by decide +kernel
theorem d_Mo_told_88 : decode b_Mo_told 88 = .ok (.ireturn, 1) := by decide +kernel
theorem d_Mo_keysOf_0 : decode b_Mo_keysOf 0 = .ok (.aload_n 0, 1) := by decide +kernel
theorem d_Mo_keysOf_1 : decode b_Mo_keysOf 1 = .ok (.getfield 41, 3) := by decide +kernel
theorem d_Mo_keysOf_4 : decode b_Mo_keysOf 4 = .ok (.iload_n 1, 1) := by decide +kernel
theorem d_Mo_keysOf_5 : decode b_Mo_keysOf 5 = .ok (.iconst 4, 1) := by decide +kernel
theorem d_Mo_keysOf_6 : decode b_Mo_keysOf 6 = .ok (.imul, 1) := by decide +kernel
theorem d_Mo_keysOf_7 : decode b_Mo_keysOf 7 = .ok (.iaload, 1) := by decide +kernel
theorem d_Mo_keysOf_8 : decode b_Mo_keysOf 8 = .ok (.aload_n 0, 1) := by decide +kernel
theorem d_Mo_keysOf_9 : decode b_Mo_keysOf 9 = .ok (.getfield 41, 3) := by decide +kernel
theorem d_Mo_keysOf_12 : decode b_Mo_keysOf 12 = .ok (.iload_n 1, 1) := by decide +kernel
theorem d_Mo_keysOf_13 : decode b_Mo_keysOf 13 = .ok (.iconst 4, 1) := by decide +kernel
theorem d_Mo_keysOf_14 : decode b_Mo_keysOf 14 = .ok (.imul, 1) := by decide +kernel
theorem d_Mo_keysOf_15 : decode b_Mo_keysOf 15 = .ok (.iconst 1, 1) := by decide +kernel
theorem d_Mo_keysOf_16 : decode b_Mo_keysOf 16 = .ok (.iadd, 1) := by decide +kernel
theorem d_Mo_keysOf_17 : decode b_Mo_keysOf 17 = .ok (.iaload, 1) := by decide +kernel
theorem d_Mo_keysOf_18 : decode b_Mo_keysOf 18 = .ok (.iadd, 1) := by decide +kernel
theorem d_Mo_keysOf_19 : decode b_Mo_keysOf 19 = .ok (.aload_n 0, 1) := by decide +kernel
theorem d_Mo_keysOf_20 : decode b_Mo_keysOf 20 = .ok (.getfield 41, 3) := by decide +kernel
theorem d_Mo_keysOf_23 : decode b_Mo_keysOf 23 = .ok (.iload_n 1, 1) := by decide +kernel
theorem d_Mo_keysOf_24 : decode b_Mo_keysOf 24 = .ok (.iconst 4, 1) := by decide +kernel
theorem d_Mo_keysOf_25 : decode b_Mo_keysOf 25 = .ok (.imul, 1) := by decide +kernel
theorem d_Mo_keysOf_26 : decode b_Mo_keysOf 26 = .ok (.iconst 2, 1) := by decide +kernel
theorem d_Mo_keysOf_27 : decode b_Mo_keysOf 27 = .ok (.iadd, 1) := by decide +kernel
theorem d_Mo_keysOf_28 : decode b_Mo_keysOf 28 = .ok (.iaload, 1) := by decide +kernel
theorem d_Mo_keysOf_29 : decode b_Mo_keysOf 29 = .ok (.iadd, 1) := by decide +kernel
theorem d_Mo_keysOf_30 : decode b_Mo_keysOf 30 = .ok (.aload_n 0, 1) := by decide +kernel
theorem d_Mo_keysOf_31 : decode b_Mo_keysOf 31 = .ok (.getfield 41, 3) := by decide +kernel
theorem d_Mo_keysOf_34 : decode b_Mo_keysOf 34 = .ok (.iload_n 1, 1) := by decide +kernel
theorem d_Mo_keysOf_35 : decode b_Mo_keysOf 35 = .ok (.iconst 4, 1) := by decide +kernel
theorem d_Mo_keysOf_36 : decode b_Mo_keysOf 36 = .ok (.imul, 1) := by decide +kernel
theorem d_Mo_keysOf_37 : decode b_Mo_keysOf 37 = .ok (.iconst 3, 1) := by decide +kernel
theorem d_Mo_keysOf_38 : decode b_Mo_keysOf 38 = .ok (.iadd, 1) := by decide +kernel
theorem d_Mo_keysOf_39 : decode b_Mo_keysOf 39 = .ok (.iaload, 1) := by decide +kernel
theorem d_Mo_keysOf_40 : decode b_Mo_keysOf 40 = .ok (.iadd, 1) := by decide +kernel
theorem d_Mo_keysOf_41 : decode b_Mo_keysOf 41 = .ok (.ireturn, 1) := by decide +kernel
theorem d_Mo_count_0 : decode b_Mo_count 0 = .ok (.aload_n 0, 1) := by decide +kernel
theorem d_Mo_count_1 : decode b_Mo_count 1 = .ok (.iconst 0, 1) := by decide +kernel
theorem d_Mo_count_2 : decode b_Mo_count 2 = .ok (.putfield 90, 3) := by decide +kernel
theorem d_Mo_count_5 : decode b_Mo_count 5 = .ok (.iconst 0, 1) := by decide +kernel
theorem d_Mo_count_6 : decode b_Mo_count 6 = .ok (.istore_n 2, 1) := by decide +kernel
theorem d_Mo_count_7 : decode b_Mo_count 7 = .ok (.iconst 0, 1) := by decide +kernel
theorem d_Mo_count_8 : decode b_Mo_count 8 = .ok (.istore_n 3, 1) := by decide +kernel
theorem d_Mo_count_9 : decode b_Mo_count 9 = .ok (.iconst 0, 1) := by decide +kernel
theorem d_Mo_count_10 : decode b_Mo_count 10 = .ok (.istore 4, 2) := by decide +kernel
theorem d_Mo_count_12 : decode b_Mo_count 12 = .ok (.iload 4, 2) := by decide +kernel
theorem d_Mo_count_14 : decode b_Mo_count 14 = .ok (.aload_n 0, 1) := by decide +kernel
theorem d_Mo_count_15 : decode b_Mo_count 15 = .ok (.getfield 98, 3) := by decide +kernel
theorem d_Mo_count_18 : decode b_Mo_count 18 = .ok (.if_icmp .ge 52, 3) := by decide +kernel
theorem d_Mo_count_21 : decode b_Mo_count 21 = .ok (.iload_n 2, 1) := by decide +kernel
theorem d_Mo_count_22 : decode b_Mo_count 22 = .ok (.aload_n 0, 1) := by decide +kernel
theorem d_Mo_count_23 : decode b_Mo_count 23 = .ok (.aload_n 0, 1) := by decide +kernel
theorem d_Mo_count_24 : decode b_Mo_count 24 = .ok (.getfield 44, 3) := by decide +kernel
theorem d_Mo_count_27 : decode b_Mo_count 27 = .ok (.iload 4, 2) := by decide +kernel
theorem d_Mo_count_29 : decode b_Mo_count 29 = .ok (.iaload, 1) := by decide +kernel
theorem d_Mo_count_30 : decode b_Mo_count 30 = .ok (.invokevirtual 202, 3) := by decide +kernel
theorem d_Mo_count_33 : decode b_Mo_count 33 = .ok (.iadd, 1) := by decide +kernel
theorem d_Mo_count_34 : decode b_Mo_count 34 = .ok (.istore_n 2, 1) := by decide +kernel
theorem d_Mo_count_35 : decode b_Mo_count 35 = .ok (.aload_n 0, 1) := by decide +kernel
theorem d_Mo_count_36 : decode b_Mo_count 36 = .ok (.getfield 50, 3) := by decide +kernel
theorem d_Mo_count_39 : decode b_Mo_count 39 = .ok (.aload_n 0, 1) := by decide +kernel
theorem d_Mo_count_40 : decode b_Mo_count 40 = .ok (.getfield 44, 3) := by decide +kernel
theorem d_Mo_count_43 : decode b_Mo_count 43 = .ok (.iload 4, 2) := by decide +kernel
theorem d_Mo_count_45 : decode b_Mo_count 45 = .ok (.iaload, 1) := by decide +kernel
theorem d_Mo_count_46 : decode b_Mo_count 46 = .ok (.iaload, 1) := by decide +kernel
theorem d_Mo_count_47 : decode b_Mo_count 47 = .ok (.iload_n 3, 1) := by decide +kernel
theorem d_Mo_count_48 : decode b_Mo_count 48 = .ok (.if_icmp .le 16, 3) := by decide +kernel
theorem d_Mo_count_51 : decode b_Mo_count 51 = .ok (.aload_n 0, 1) := by decide +kernel
theorem d_Mo_count_52 : decode b_Mo_count 52 = .ok (.getfield 50, 3) := by decide +kernel
theorem d_Mo_count_55 : decode b_Mo_count 55 = .ok (.aload_n 0, 1) := by decide +kernel
theorem d_Mo_count_56 : decode b_Mo_count 56 = .ok (.getfield 44, 3) := by decide +kernel
theorem d_Mo_count_59 : decode b_Mo_count 59 = .ok (.iload 4, 2) := by decide +kernel
theorem d_Mo_count_61 : decode b_Mo_count 61 = .ok (.iaload, 1) := by decide +kernel
theorem d_Mo_count_62 : decode b_Mo_count 62 = .ok (.iaload, 1) := by decide +kernel
theorem d_Mo_count_63 : decode b_Mo_count 63 = .ok (.istore_n 3, 1) := by decide +kernel
theorem d_Mo_count_64 : decode b_Mo_count 64 = .ok (.iinc 4 1, 3) := by decide +kernel
theorem d_Mo_count_67 : decode b_Mo_count 67 = .ok (.goto (-55), 3) := by decide +kernel
theorem d_Mo_count_70 : decode b_Mo_count 70 = .ok (.iload_n 1, 1) := by decide +kernel
theorem d_Mo_count_71 : decode b_Mo_count 71 = .ok (.ifCond .ne 10, 3) := by decide +kernel
theorem d_Mo_count_74 : decode b_Mo_count 74 = .ok (.aload_n 0, 1) := by decide +kernel
theorem d_Mo_count_75 : decode b_Mo_count 75 = .ok (.getfield 98, 3) := by decide +kernel
theorem d_Mo_count_78 : decode b_Mo_count 78 = .ok (.goto 34, 3) := by decide +kernel
theorem d_Mo_count_81 : decode b_Mo_count 81 = .ok (.iload_n 1, 1) := by decide +kernel
theorem d_Mo_count_82 : decode b_Mo_count 82 = .ok (.iconst 1, 1) := by decide +kernel
theorem d_Mo_count_83 : decode b_Mo_count 83 = .ok (.if_icmp .ne 7, 3) := by decide +kernel
theorem d_Mo_count_86 : decode b_Mo_count 86 = .ok (.iload_n 2, 1) := by decide +kernel
theorem d_Mo_count_87 : decode b_Mo_count 87 = .ok (.goto 25, 3) := by decide +kernel
theorem d_Mo_count_90 : decode b_Mo_count 90 = .ok (.iload_n 1, 1) := by decide +kernel
theorem d_Mo_count_91 : decode b_Mo_count 91 = .ok (.iconst 2, 1) := by decide +kernel
theorem d_Mo_count_92 : decode b_Mo_count 92 = .ok (.if_icmp .ne 10, 3) := by decide +kernel
theorem d_Mo_count_95 : decode b_Mo_count 95 = .ok (.aload_n 0, 1) := by decide +kernel
theorem d_Mo_count_96 : decode b_Mo_count 96 = .ok (.getfield 182, 3) := by decide +kernel
theorem d_Mo_count_99 : decode b_Mo_count 99 = .ok (.goto 13, 3) := by decide +kernel
theorem d_Mo_count_102 : decode b_Mo_count 102 = .ok (.iload_n 1, 1) := by decide +kernel
theorem d_Mo_count_103 : decode b_Mo_count 103 = .ok (.iconst 3, 1) := by decide +kernel
theorem d_Mo_count_104 : decode b_Mo_count 104 = .ok (.if_icmp .ne 7, 3) := by decide +kernel
theorem d_Mo_count_107 : decode b_Mo_count 107 = .ok (.iload_n 3, 1) := by decide +kernel
theorem d_Mo_count_108 : decode b_Mo_count 108 = .ok (.goto 4, 3) := by decide +kernel
theorem d_Mo_count_111 : decode b_Mo_count 111 = .ok (.iconst (-1), 1) := by decide +kernel
theorem d_Mo_count_112 : decode b_Mo_count 112 = .ok (.ireturn, 1) := by decide +kernel
end
section
/-! decode rows, by program -/
theorem d_La_node_0 : decode b_La_node 0 = .ok (.aload 4, 2) := by decide +kernel
theorem d_La_node_2 : decode b_La_node 2 = .ok (.iconst 0, 1) := by decide +kernel
theorem d_La_node_3 : decode b_La_node 3 = .ok (.aload_n 0, 1) := by decide +kernel
theorem d_La_node_4 : decode b_La_node 4 = .ok (.iload_n 1, 1) := by decide +kernel
theorem d_La_node_5 : decode b_La_node 5 = .ok (.iload_n 2, 1) := by decide +kernel
theorem d_La_node_6 : decode b_La_node 6 = .ok (.iload_n 3, 1) := by decide +kernel
theorem d_La_node_7 : decode b_La_node 7 = .ok (.invokevirtual 7, 3) := by decide +kernel
theorem d_La_node_10 : decode b_La_node 10 = .ok (.i2l, 1) := by decide +kernel
theorem d_La_node_11 : decode b_La_node 11 = .ok (.lastore, 1) := by decide +kernel
theorem d_La_node_12 : decode b_La_node 12 = .ok (.goto 11, 3) := by decide +kernel
theorem d_La_node_15 : decode b_La_node 15 = .ok (.astore 5, 2) := by decide +kernel
theorem d_La_node_17 : decode b_La_node 17 = .ok (.iconst 1, 1) := by decide +kernel
theorem d_La_node_18 : decode b_La_node 18 = .ok (.ireturn, 1) := by decide +kernel
theorem d_La_node_19 : decode b_La_node 19 = .ok (.astore 5, 2) := by decide +kernel
theorem d_La_node_21 : decode b_La_node 21 = .ok (.iconst 2, 1) := by decide +kernel
theorem d_La_node_22 : decode b_La_node 22 = .ok (.ireturn, 1) := by decide +kernel
theorem d_La_node_23 : decode b_La_node 23 = .ok (.iconst 0, 1) := by decide +kernel
theorem d_La_node_24 : decode b_La_node 24 = .ok (.ireturn, 1) := by decide +kernel
theorem d_La_lengths_0 : decode b_La_lengths 0 = .ok (.aload_n 0, 1) := by decide +kernel
theorem d_La_lengths_1 : decode b_La_lengths 1 = .ok (.iload_n 1, 1) := by decide +kernel
theorem d_La_lengths_2 : decode b_La_lengths 2 = .ok (.dload_n 2, 1) := by decide +kernel
theorem d_La_lengths_3 : decode b_La_lengths 3 = .ok (.dload 4, 2) := by decide +kernel
theorem d_La_lengths_5 : decode b_La_lengths 5 = .ok (.invokevirtual 17, 3) := by decide +kernel
theorem d_La_lengths_8 : decode b_La_lengths 8 = .ok (.goto 7, 3) := by decide +kernel
theorem d_La_lengths_11 : decode b_La_lengths 11 = .ok (.astore 6, 2) := by decide +kernel
theorem d_La_lengths_13 : decode b_La_lengths 13 = .ok (.iconst 1, 1) := by decide +kernel
theorem d_La_lengths_14 : decode b_La_lengths 14 = .ok (.ireturn, 1) := by decide +kernel
theorem d_La_lengths_15 : decode b_La_lengths 15 = .ok (.iconst 0, 1) := by decide +kernel
theorem d_La_lengths_16 : decode b_La_lengths 16 = .ok (.ireturn, 1) := by decide +kernel
theorem d_La_place_0 : decode b_La_place 0 = .ok (.aload_n 0, 1) := by decide +kernel
theorem d_La_place_1 : decode b_La_place 1 = .ok (.iload_n 1, 1) := by decide +kernel
theorem d_La_place_2 : decode b_La_place 2 = .ok (.dload_n 2, 1) := by decide +kernel
theorem d_La_place_3 : decode b_La_place 3 = .ok (.dload 4, 2) := by decide +kernel
theorem d_La_place_5 : decode b_La_place 5 = .ok (.invokevirtual 21, 3) := by decide +kernel
theorem d_La_place_8 : decode b_La_place 8 = .ok (.goto 7, 3) := by decide +kernel
theorem d_La_place_11 : decode b_La_place 11 = .ok (.astore 6, 2) := by decide +kernel
theorem d_La_place_13 : decode b_La_place 13 = .ok (.iconst 1, 1) := by decide +kernel
theorem d_La_place_14 : decode b_La_place 14 = .ok (.ireturn, 1) := by decide +kernel
theorem d_La_place_15 : decode b_La_place 15 = .ok (.iconst 0, 1) := by decide +kernel
theorem d_La_place_16 : decode b_La_place 16 = .ok (.ireturn, 1) := by decide +kernel
theorem d_La_lay_0 : decode b_La_lay 0 = .ok (.aload_n 0, 1) := by decide +kernel
theorem d_La_lay_1 : decode b_La_lay 1 = .ok (.iload_n 1, 1) := by decide +kernel
theorem d_La_lay_2 : decode b_La_lay 2 = .ok (.iload_n 2, 1) := by decide +kernel
theorem d_La_lay_3 : decode b_La_lay 3 = .ok (.iload_n 3, 1) := by decide +kernel
theorem d_La_lay_4 : decode b_La_lay 4 = .ok (.invokevirtual 24, 3) := by decide +kernel
theorem d_La_lay_7 : decode b_La_lay 7 = .ok (.goto 7, 3) := by decide +kernel
theorem d_La_lay_10 : decode b_La_lay 10 = .ok (.astore 4, 2) := by decide +kernel
theorem d_La_lay_12 : decode b_La_lay 12 = .ok (.iconst 1, 1) := by decide +kernel
theorem d_La_lay_13 : decode b_La_lay 13 = .ok (.ireturn, 1) := by decide +kernel
theorem d_La_lay_14 : decode b_La_lay 14 = .ok (.iconst 0, 1) := by decide +kernel
theorem d_La_lay_15 : decode b_La_lay 15 = .ok (.ireturn, 1) := by decide +kernel
theorem d_La_mode_0 : decode b_La_mode 0 = .ok (.aload_n 0, 1) := by decide +kernel
theorem d_La_mode_1 : decode b_La_mode 1 = .ok (.iload_n 1, 1) := by decide +kernel
theorem d_La_mode_2 : decode b_La_mode 2 = .ok (.iload_n 2, 1) := by decide +kernel
theorem d_La_mode_3 : decode b_La_mode 3 = .ok (.dload_n 3, 1) := by decide +kernel
theorem d_La_mode_4 : decode b_La_mode 4 = .ok (.invokevirtual 28, 3) := by decide +kernel
theorem d_La_mode_7 : decode b_La_mode 7 = .ok (.goto 7, 3) := by decide +kernel
theorem d_La_mode_10 : decode b_La_mode 10 = .ok (.astore 5, 2) := by decide +kernel
theorem d_La_mode_12 : decode b_La_mode 12 = .ok (.iconst 1, 1) := by decide +kernel
theorem d_La_mode_13 : decode b_La_mode 13 = .ok (.ireturn, 1) := by decide +kernel
theorem d_La_mode_14 : decode b_La_mode 14 = .ok (.iconst 0, 1) := by decide +kernel
theorem d_La_mode_15 : decode b_La_mode 15 = .ok (.ireturn, 1) := by decide +kernel
theorem d_La_hide_0 : decode b_La_hide 0 = .ok (.aload_n 0, 1) := by decide +kernel
theorem d_La_hide_1 : decode b_La_hide 1 = .ok (.iload_n 1, 1) := by decide +kernel
theorem d_La_hide_2 : decode b_La_hide 2 = .ok (.iload_n 2, 1) := by decide +kernel
theorem d_La_hide_3 : decode b_La_hide 3 = .ok (.invokevirtual 32, 3) := by decide +kernel
theorem d_La_hide_6 : decode b_La_hide 6 = .ok (.goto 6, 3) := by decide +kernel
theorem d_La_hide_9 : decode b_La_hide 9 = .ok (.astore_n 3, 1) := by decide +kernel
theorem d_La_hide_10 : decode b_La_hide 10 = .ok (.iconst 1, 1) := by decide +kernel
theorem d_La_hide_11 : decode b_La_hide 11 = .ok (.ireturn, 1) := by decide +kernel
theorem d_La_hide_12 : decode b_La_hide 12 = .ok (.iconst 0, 1) := by decide +kernel
theorem d_La_hide_13 : decode b_La_hide 13 = .ok (.ireturn, 1) := by decide +kernel
theorem d_La_key_0 : decode b_La_key 0 = .ok (.aload 7, 2) := by decide +kernel
theorem d_La_key_2 : decode b_La_key 2 = .ok (.iconst 0, 1) := by decide +kernel
theorem d_La_key_3 : decode b_La_key 3 = .ok (.aload_n 0, 1) := by decide +kernel
theorem d_La_key_4 : decode b_La_key 4 = .ok (.iload_n 1, 1) := by decide +kernel
theorem d_La_key_5 : decode b_La_key 5 = .ok (.iload_n 2, 1) := by decide +kernel
theorem d_La_key_6 : decode b_La_key 6 = .ok (.dload_n 3, 1) := by decide +kernel
theorem d_La_key_7 : decode b_La_key 7 = .ok (.dload 5, 2) := by decide +kernel
theorem d_La_key_9 : decode b_La_key 9 = .ok (.invokevirtual 36, 3) := by decide +kernel
theorem d_La_key_12 : decode b_La_key 12 = .ok (.i2l, 1) := by decide +kernel
theorem d_La_key_13 : decode b_La_key 13 = .ok (.lastore, 1) := by decide +kernel
theorem d_La_key_14 : decode b_La_key 14 = .ok (.goto 11, 3) := by decide +kernel
theorem d_La_key_17 : decode b_La_key 17 = .ok (.astore 8, 2) := by decide +kernel
theorem d_La_key_19 : decode b_La_key 19 = .ok (.iconst 1, 1) := by decide +kernel
theorem d_La_key_20 : decode b_La_key 20 = .ok (.ireturn, 1) := by decide +kernel
theorem d_La_key_21 : decode b_La_key 21 = .ok (.astore 8, 2) := by decide +kernel
theorem d_La_key_23 : decode b_La_key 23 = .ok (.iconst 2, 1) := by decide +kernel
theorem d_La_key_24 : decode b_La_key 24 = .ok (.ireturn, 1) := by decide +kernel
theorem d_La_key_25 : decode b_La_key 25 = .ok (.iconst 0, 1) := by decide +kernel
theorem d_La_key_26 : decode b_La_key 26 = .ok (.ireturn, 1) := by decide +kernel
theorem d_La_unkey_0 : decode b_La_unkey 0 = .ok (.aload_n 0, 1) := by decide +kernel
theorem d_La_unkey_1 : decode b_La_unkey 1 = .ok (.iload_n 1, 1) := by decide +kernel
theorem d_La_unkey_2 : decode b_La_unkey 2 = .ok (.iload_n 2, 1) := by decide +kernel
theorem d_La_unkey_3 : decode b_La_unkey 3 = .ok (.invokevirtual 40, 3) := by decide +kernel
theorem d_La_unkey_6 : decode b_La_unkey 6 = .ok (.goto 9, 3) := by decide +kernel
theorem d_La_unkey_9 : decode b_La_unkey 9 = .ok (.astore_n 3, 1) := by decide +kernel
theorem d_La_unkey_10 : decode b_La_unkey 10 = .ok (.iconst 1, 1) := by decide +kernel
theorem d_La_unkey_11 : decode b_La_unkey 11 = .ok (.ireturn, 1) := by decide +kernel
theorem d_La_unkey_12 : decode b_La_unkey 12 = .ok (.astore_n 3, 1) := by decide +kernel
theorem d_La_unkey_13 : decode b_La_unkey 13 = .ok (.iconst 2, 1) := by decide +kernel
theorem d_La_unkey_14 : decode b_La_unkey 14 = .ok (.ireturn, 1) := by decide +kernel
theorem d_La_unkey_15 : decode b_La_unkey 15 = .ok (.iconst 0, 1) := by decide +kernel
theorem d_La_unkey_16 : decode b_La_unkey 16 = .ok (.ireturn, 1) := by decide +kernel
theorem d_La_into_0 : decode b_La_into 0 = .ok (.aload_n 0, 1) := by decide +kernel
theorem d_La_into_1 : decode b_La_into 1 = .ok (.iload_n 1, 1) := by decide +kernel
theorem d_La_into_2 : decode b_La_into 2 = .ok (.iload_n 2, 1) := by decide +kernel
theorem d_La_into_3 : decode b_La_into 3 = .ok (.invokevirtual 46, 3) := by decide +kernel
theorem d_La_into_6 : decode b_La_into 6 = .ok (.goto 9, 3) := by decide +kernel
theorem d_La_into_9 : decode b_La_into 9 = .ok (.astore_n 3, 1) := by decide +kernel
theorem d_La_into_10 : decode b_La_into 10 = .ok (.iconst 1, 1) := by decide +kernel
theorem d_La_into_11 : decode b_La_into 11 = .ok (.ireturn, 1) := by decide +kernel
theorem d_La_into_12 : decode b_La_into 12 = .ok (.astore_n 3, 1) := by decide +kernel
theorem d_La_into_13 : decode b_La_into 13 = .ok (.iconst 2, 1) := by decide +kernel
theorem d_La_into_14 : decode b_La_into 14 = .ok (.ireturn, 1) := by decide +kernel
theorem d_La_into_15 : decode b_La_into 15 = .ok (.iconst 0, 1) := by decide +kernel
theorem d_La_into_16 : decode b_La_into 16 = .ok (.ireturn, 1) := by decide +kernel
theorem d_La_remove_0 : decode b_La_remove 0 = .ok (.aload_n 2, 1) := by decide +kernel
theorem d_La_remove_1 : decode b_La_remove 1 = .ok (.iconst 0, 1) := by decide +kernel
theorem d_La_remove_2 : decode b_La_remove 2 = .ok (.aload_n 0, 1) := by decide +kernel
theorem d_La_remove_3 : decode b_La_remove 3 = .ok (.iload_n 1, 1) := by decide +kernel
theorem d_La_remove_4 : decode b_La_remove 4 = .ok (.invokevirtual 49, 3) := by decide +kernel
theorem d_La_remove_7 : decode b_La_remove 7 = .ok (.i2l, 1) := by decide +kernel
theorem d_La_remove_8 : decode b_La_remove 8 = .ok (.lastore, 1) := by decide +kernel
theorem d_La_remove_9 : decode b_La_remove 9 = .ok (.goto 6, 3) := by decide +kernel
theorem d_La_remove_12 : decode b_La_remove 12 = .ok (.astore_n 3, 1) := by decide +kernel
theorem d_La_remove_13 : decode b_La_remove 13 = .ok (.iconst 1, 1) := by decide +kernel
theorem d_La_remove_14 : decode b_La_remove 14 = .ok (.ireturn, 1) := by decide +kernel
theorem d_La_remove_15 : decode b_La_remove 15 = .ok (.iconst 0, 1) := by decide +kernel
theorem d_La_remove_16 : decode b_La_remove 16 = .ok (.ireturn, 1) := by decide +kernel
theorem d_La_paint_0 : decode b_La_paint 0 = .ok (.aload_n 3, 1) := by decide +kernel
theorem d_La_paint_1 : decode b_La_paint 1 = .ok (.iconst 0, 1) := by decide +kernel
theorem d_La_paint_2 : decode b_La_paint 2 = .ok (.aload_n 0, 1) := by decide +kernel
theorem d_La_paint_3 : decode b_La_paint 3 = .ok (.dload_n 1, 1) := by decide +kernel
theorem d_La_paint_4 : decode b_La_paint 4 = .ok (.invokevirtual 53, 3) := by decide +kernel
theorem d_La_paint_7 : decode b_La_paint 7 = .ok (.i2l, 1) := by decide +kernel
theorem d_La_paint_8 : decode b_La_paint 8 = .ok (.lastore, 1) := by decide +kernel
theorem d_La_paint_9 : decode b_La_paint 9 = .ok (.goto 7, 3) := by decide +kernel
theorem d_La_paint_12 : decode b_La_paint 12 = .ok (.astore 4, 2) := by decide +kernel
theorem d_La_paint_14 : decode b_La_paint 14 = .ok (.iconst 1, 1) := by decide +kernel
theorem d_La_paint_15 : decode b_La_paint 15 = .ok (.ireturn, 1) := by decide +kernel
theorem d_La_paint_16 : decode b_La_paint 16 = .ok (.iconst 0, 1) := by decide +kernel
theorem d_La_paint_17 : decode b_La_paint 17 = .ok (.ireturn, 1) := by decide +kernel
theorem d_La_cell_0 : decode b_La_cell 0 = .ok (.aload_n 3, 1) := by decide +kernel
theorem d_La_cell_1 : decode b_La_cell 1 = .ok (.iconst 0, 1) := by decide +kernel
theorem d_La_cell_2 : decode b_La_cell 2 = .ok (.aload_n 0, 1) := by decide +kernel
theorem d_La_cell_3 : decode b_La_cell 3 = .ok (.iload_n 1, 1) := by decide +kernel
theorem d_La_cell_4 : decode b_La_cell 4 = .ok (.iload_n 2, 1) := by decide +kernel
theorem d_La_cell_5 : decode b_La_cell 5 = .ok (.invokevirtual 57, 3) := by decide +kernel
theorem d_La_cell_8 : decode b_La_cell 8 = .ok (.i2l, 1) := by decide +kernel
theorem d_La_cell_9 : decode b_La_cell 9 = .ok (.lastore, 1) := by decide +kernel
theorem d_La_cell_10 : decode b_La_cell 10 = .ok (.goto 7, 3) := by decide +kernel
theorem d_La_cell_13 : decode b_La_cell 13 = .ok (.astore 4, 2) := by decide +kernel
theorem d_La_cell_15 : decode b_La_cell 15 = .ok (.iconst 1, 1) := by decide +kernel
theorem d_La_cell_16 : decode b_La_cell 16 = .ok (.ireturn, 1) := by decide +kernel
theorem d_La_cell_17 : decode b_La_cell 17 = .ok (.iconst 0, 1) := by decide +kernel
theorem d_La_cell_18 : decode b_La_cell 18 = .ok (.ireturn, 1) := by decide +kernel
theorem d_La_top_0 : decode b_La_top 0 = .ok (.aload 7, 2) := by decide +kernel
theorem d_La_top_2 : decode b_La_top 2 = .ok (.iconst 0, 1) := by decide +kernel
theorem d_La_top_3 : decode b_La_top 3 = .ok (.aload_n 0, 1) := by decide +kernel
theorem d_La_top_4 : decode b_La_top 4 = .ok (.dload_n 1, 1) := by decide +kernel
theorem d_La_top_5 : decode b_La_top 5 = .ok (.dload_n 3, 1) := by decide +kernel
theorem d_La_top_6 : decode b_La_top 6 = .ok (.dload 5, 2) := by decide +kernel
theorem d_La_top_8 : decode b_La_top 8 = .ok (.invokevirtual 61, 3) := by decide +kernel
theorem d_La_top_11 : decode b_La_top 11 = .ok (.i2l, 1) := by decide +kernel
theorem d_La_top_12 : decode b_La_top 12 = .ok (.lastore, 1) := by decide +kernel
theorem d_La_top_13 : decode b_La_top 13 = .ok (.goto 11, 3) := by decide +kernel
theorem d_La_top_16 : decode b_La_top 16 = .ok (.astore 8, 2) := by decide +kernel
theorem d_La_top_18 : decode b_La_top 18 = .ok (.iconst 1, 1) := by decide +kernel
theorem d_La_top_19 : decode b_La_top 19 = .ok (.ireturn, 1) := by decide +kernel
theorem d_La_top_20 : decode b_La_top 20 = .ok (.astore 8, 2) := by decide +kernel
theorem d_La_top_22 : decode b_La_top 22 = .ok (.iconst 2, 1) := by decide +kernel
theorem d_La_top_23 : decode b_La_top 23 = .ok (.ireturn, 1) := by decide +kernel
theorem d_La_top_24 : decode b_La_top 24 = .ok (.iconst 0, 1) := by decide +kernel
theorem d_La_top_25 : decode b_La_top 25 = .ok (.ireturn, 1) := by decide +kernel
theorem d_La_around_0 : decode b_La_around 0 = .ok (.aload 5, 2) := by decide +kernel
theorem d_La_around_2 : decode b_La_around 2 = .ok (.iconst 0, 1) := by decide +kernel
theorem d_La_around_3 : decode b_La_around 3 = .ok (.aload_n 0, 1) := by decide +kernel
theorem d_La_around_4 : decode b_La_around 4 = .ok (.iload_n 1, 1) := by decide +kernel
theorem d_La_around_5 : decode b_La_around 5 = .ok (.iload_n 2, 1) := by decide +kernel
theorem d_La_around_6 : decode b_La_around 6 = .ok (.dload_n 3, 1) := by decide +kernel
theorem d_La_around_7 : decode b_La_around 7 = .ok (.invokevirtual 65, 3) := by decide +kernel
theorem d_La_around_10 : decode b_La_around 10 = .ok (.dastore, 1) := by decide +kernel
theorem d_La_around_11 : decode b_La_around 11 = .ok (.goto 11, 3) := by decide +kernel
theorem d_La_around_14 : decode b_La_around 14 = .ok (.astore 6, 2) := by decide +kernel
theorem d_La_around_16 : decode b_La_around 16 = .ok (.iconst 1, 1) := by decide +kernel
theorem d_La_around_17 : decode b_La_around 17 = .ok (.ireturn, 1) := by decide +kernel
theorem d_La_around_18 : decode b_La_around 18 = .ok (.astore 6, 2) := by decide +kernel
theorem d_La_around_20 : decode b_La_around 20 = .ok (.iconst 2, 1) := by decide +kernel
theorem d_La_around_21 : decode b_La_around 21 = .ok (.ireturn, 1) := by decide +kernel
theorem d_La_around_22 : decode b_La_around 22 = .ok (.iconst 0, 1) := by decide +kernel
theorem d_La_around_23 : decode b_La_around 23 = .ok (.ireturn, 1) := by decide +kernel
theorem d_La_told_0 : decode b_La_told 0 = .ok (.aload_n 3, 1) := by decide +kernel
theorem d_La_told_1 : decode b_La_told 1 = .ok (.iconst 0, 1) := by decide +kernel
theorem d_La_told_2 : decode b_La_told 2 = .ok (.aload_n 0, 1) := by decide +kernel
theorem d_La_told_3 : decode b_La_told 3 = .ok (.iload_n 1, 1) := by decide +kernel
theorem d_La_told_4 : decode b_La_told 4 = .ok (.iload_n 2, 1) := by decide +kernel
theorem d_La_told_5 : decode b_La_told 5 = .ok (.invokevirtual 69, 3) := by decide +kernel
theorem d_La_told_8 : decode b_La_told 8 = .ok (.i2l, 1) := by decide +kernel
theorem d_La_told_9 : decode b_La_told 9 = .ok (.lastore, 1) := by decide +kernel
theorem d_La_told_10 : decode b_La_told 10 = .ok (.goto 7, 3) := by decide +kernel
theorem d_La_told_13 : decode b_La_told 13 = .ok (.astore 4, 2) := by decide +kernel
theorem d_La_told_15 : decode b_La_told 15 = .ok (.iconst 1, 1) := by decide +kernel
theorem d_La_told_16 : decode b_La_told 16 = .ok (.ireturn, 1) := by decide +kernel
theorem d_La_told_17 : decode b_La_told 17 = .ok (.iconst 0, 1) := by decide +kernel
theorem d_La_told_18 : decode b_La_told 18 = .ok (.ireturn, 1) := by decide +kernel
end
section
/-! what a method finds beside its world: the tables' words that aren't in gw, the texts, the statics of Throwable and ArrayList -/
def nwk : Cond → Bool
  | .fieldLinkNest _ _ _ _ _ _ => true
  | .methodLinkNest _ _ _ _ => true
  | .castable _ _ => true
  | .declares _ => true
  | _ => false
def nw : List Cond := lw_tbl.filter nwk
theorem nw_i {w : Cond} (i : Nat) (h : lw_tbl[i]? = some w) (g : nwk w = true) : w ∈ nw := List.mem_filter.mpr ⟨List.mem_of_getElem? h, g⟩
theorem nw_tab : ∀ {w : Cond}, nwk w = true → w.onTables = true
  | .fieldLinkNest _ _ _ _ _ _, _ => rfl
  | .methodLinkNest _ _ _ _, _ => rfl
  | .castable _ _, _ => rfl
  | .declares _, _ => rfl
theorem nw_warm {s U : State} (hW : s.WarmedH U.vm) : ∀ {w : Cond}, nwk w = true → va_Nw w s → va_Nw w U
  | .fieldLinkNest _ _ _ _ _ _, _, h => va_Nw.warmF hW h
  | .methodLinkNest _ _ _ _, _, h => va_Nw.warmM hW h
  | .castable _ _, _, h => va_Nw.warmC hW h
  | .declares _, _, h => va_Nw.warmD hW h
def strs : List (String × Nat × String) := [("SceneEasel", 39, "no room for another node"), ("SceneEasel", 47, "no room: too deep"), ("SceneEasel", 119, "no room for another key frame"), ("SceneEasel", 126, "no key frames"), ("SceneEasel", 133, "a group can't be in itself"), ("SceneEasel", 161, "nothing lies there"), ("SceneEasel", 184, "there is nothing to put a box round"), ("SceneEasel", 221, "no such node"), ("SceneEasel", 224, "not for the root"), ("SceneEasel", 226, "not a group"), ("SceneEasel", 228, "not a shape"), ("SceneEasel", 230, "a number out of range"), ("SceneEasel", 248, "a number that is no such part of a whole")]
/-- the numbers of the classes, the slots, the array classes, where the texts lie, where the empty array lies -/
abbrev EG : Type := (Nat → ClassId) × (Nat → Nat → Nat) × (Nat → ClassId) × (Nat → Nat) × Nat
abbrev eD (G : EG) : va_G := (G.1, G.2.1)
abbrev eT (G : EG) : List (ClassId × FieldType) := [(G.2.2.1 0, .int), (G.2.2.1 1, .double), (G.2.2.1 2, .boolean), (G.2.2.1 3, .long), (G.2.2.1 4, .object "SceneEasel$Node"), (G.2.2.1 5, .object "SceneEasel$Track"), (G.2.2.1 6, .object "java/lang/Object")]
abbrev eS (G : EG) : Nat → Nat := G.2.2.2.1
abbrev eO (G : EG) : Nat := G.2.2.2.2
def en (G : EG) (S0 : Nat) (U : State) : Prop :=
  va_K (eD G) cls (eT G) U ∧ (∀ w ∈ nw, va_Nw w U) ∧ (∀ q ∈ strs, vk_R q.1 q.2.1 q.2.2 (eS G q.2.1) U) ∧
  vx_Zq Bundle.tN "UNASSIGNED_STACK" Bundle.steD (hp_A S0) U U.heap ∧ vx_Zq Bundle.tN "SUPPRESSED_SENTINEL" Bundle.listD (hp_A S0) U U.heap ∧
  va_AO "SceneEasel$Node" U ∧ va_AO "SceneEasel$Track" U ∧ va_AO "java/lang/Object" U ∧
  va_Z "java/util/ArrayList" "DEFAULTCAPACITY_EMPTY_ELEMENTDATA" "[Ljava/lang/Object;" (.ref (eO G)) (hp_A S0) U U.heap ∧ va_T (.object "java/lang/Object") (eO G) 0 (fun _ => .null) (hp_A S0) U U.heap
theorem en.K {G : EG} {S0 : Nat} {U : State} (h : en G S0 U) : va_K (eD G) cls (eT G) U := h.1
theorem en.N {G : EG} {S0 : Nat} {U : State} (h : en G S0 U) {w : Cond} (hw : w ∈ nw) {A : Array Value} : w.before A U = true := va_Nw.use (nw_tab (List.mem_filter.mp hw).2) (h.2.1 w hw)
theorem en.Nw {G : EG} {S0 : Nat} {U : State} (h : en G S0 U) {w : Cond} (hw : w ∈ nw) : va_Nw w U := h.2.1 w hw
theorem en.str {G : EG} {S0 : Nat} {U : State} (h : en G S0 U) {q : String × Nat × String} (hq : q ∈ strs) : vk_R q.1 q.2.1 q.2.2 (eS G q.2.1) U := h.2.2.1 q hq
theorem en.ZU {G : EG} {S0 : Nat} {U : State} (h : en G S0 U) : vx_Zq Bundle.tN "UNASSIGNED_STACK" Bundle.steD (hp_A S0) U U.heap := h.2.2.2.1
theorem en.ZN {G : EG} {S0 : Nat} {U : State} (h : en G S0 U) : vx_Zq Bundle.tN "SUPPRESSED_SENTINEL" Bundle.listD (hp_A S0) U U.heap := h.2.2.2.2.1
theorem en.aoN {G : EG} {S0 : Nat} {U : State} (h : en G S0 U) : va_AO "SceneEasel$Node" U := h.2.2.2.2.2.1
theorem en.aoT {G : EG} {S0 : Nat} {U : State} (h : en G S0 U) : va_AO "SceneEasel$Track" U := h.2.2.2.2.2.2.1
theorem en.aoO {G : EG} {S0 : Nat} {U : State} (h : en G S0 U) : va_AO "java/lang/Object" U := h.2.2.2.2.2.2.2.1
theorem en.zE {G : EG} {S0 : Nat} {U : State} (h : en G S0 U) : va_Z "java/util/ArrayList" "DEFAULTCAPACITY_EMPTY_ELEMENTDATA" "[Ljava/lang/Object;" (.ref (eO G)) (hp_A S0) U U.heap := h.2.2.2.2.2.2.2.2.1
theorem en.tE {G : EG} {S0 : Nat} {U : State} (h : en G S0 U) : va_T (.object "java/lang/Object") (eO G) 0 (fun _ => .null) (hp_A S0) U U.heap := h.2.2.2.2.2.2.2.2.2
theorem en.warm {G : EG} {S0 : Nat} {s U : State} (hW : s.WarmedH U.vm) (hh : ∀ q : Nat, q < s.heap.size → ¬ hp_A S0 q → U.heap[q]? = s.heap[q]?) (h : en G S0 s) : en G S0 U := by
  have ha := hW.alike
  exact ⟨va_K.moved ha h.1, fun w hw => nw_warm hW (List.mem_filter.mp hw).2 (h.2.1 w hw), fun q hq => vk_R.warm hW (h.2.2.1 q hq),
    vx_Zq.moved ha (h.ZU.kept hh), vx_Zq.moved ha (h.ZN.kept hh), va_AO.moved ha h.aoN, va_AO.moved ha h.aoT, va_AO.moved ha h.aoO,
    va_Z.moved ha (h.zE.kept hh), va_T.moved ha (h.tE.kept hh)⟩
theorem en.blind {G : EG} {S0 : Nat} {U : State} (h : en G S0 U) (g : JFrame) (mk : MethodId) (a : Array Value) : en G S0 (U.calling g mk a) :=
  en.warm (s := U) (U := U.calling g mk a) (State.WarmedH.refl U) (fun _ _ _ => rfl) h
abbrev eI (G : EG) (S0 : Nat) (w : hp_M) (H : Heap) : Prop := hp_I (eD G) cls S0 w H
def eB (G : EG) (S0 : Nat) (w : hp_M) (U : State) : Prop := en G S0 U ∧ eI G S0 w U.heap ∧ S0 ≤ U.heap.size
abbrev eP (G : EG) (S0 : Nat) (w : hp_M) (av : List Value) : Array Value → State → Prop := va_Pc av (eB G S0 w)
abbrev eW (G : EG) (S0 : Nat) (u : hp_M) (t : State) : Prop := eI G S0 u t.heap
abbrev rl (k mc ms : Nat) : Room := { frames := 10 + k, cells := mc, slots := ms, locals := 100 + 60 * k }
theorem eB.blind {G : EG} {S0 : Nat} {w : hp_M} {av : List Value} : FrameBlind (eP G S0 w av) := fun a U g mk h => ⟨h.1, en.blind h.2.1 g mk a, h.2.2⟩
section EPre
variable {s : State} {H : Heap} {G : EG} {S0 : Nat} {w : hp_M} {locs : List Loc}
theorem eB.at (hE : en G S0 s) (hI : eI G S0 w H) (hS : va_S (hp_A S0) s.heap H locs) (hz : S0 ≤ s.heap.size) {U : State} (hU : U.heap = H) (hW : s.WarmedH U.vm) : eB G S0 w U :=
  ⟨en.warm hW (fun q h1 h2 => by rw [hU]; exact hS.2.1 q h1 h2) hE, by rw [hU]; exact hI, by rw [hU]; exact Nat.le_trans hz hS.1⟩
theorem eB.preS (hE : en G S0 s) (hI : eI G S0 w H) (hS : va_S (hp_A S0) s.heap H locs) (hz : S0 ≤ s.heap.size) {av : List Value} : PreS s H (eP G S0 w av) av :=
  ⟨eB.blind, fun _ hU hW => ⟨rfl, eB.at hE hI hS hz hU hW⟩⟩
theorem eB.preV (hE : en G S0 s) (hI : eI G S0 w H) (hS : va_S (hp_A S0) s.heap H locs) (hz : S0 ≤ s.heap.size) {b ci : Nat} {q : vw_C} {fs : List Value} (hc : cls[ci]? = some q) (he : w b = some (.inr (ci, fs))) {As : List Value} : PreV s H q.1 b (eP G S0 w (.ref b :: As)) As :=
  ⟨eB.blind, hp_recv hE.K hI hc he, fun _ hU hW => ⟨rfl, eB.at hE hI hS hz hU hW⟩⟩
end EPre
/-- an answer that is null or an object -/
def va_Qo {S : Type} (post : Option Nat → S → Prop) (B : S → State → Prop) (A : Nat → Prop) : Array Value → State → Outcome → State → Prop := fun _ st oc t => (∃ (r : Option Nat) (u : S), oc = .returned (some (va_rf r)) ∧ post r u ∧ B u t) ∧ va_F A st t
end
section
/-! the words of nests and casts, by their places; more rows on maps; calls -/
theorem q_91 : Cond.methodLinkNest "SceneEasel" 19 ⟨"SceneEasel$Node", "<init>", "(III)V"⟩ "SceneEasel" ∈ nw := nw_i 91 (by decide +kernel) rfl
theorem q_126 : Cond.methodLinkNest "SceneEasel$Node" 26 ⟨"SceneEasel$Extent", "<init>", "()V"⟩ "SceneEasel" ∈ nw := nw_i 126 (by decide +kernel) rfl
theorem q_131 : Cond.fieldLinkNest "SceneEasel$Node" 150 "SceneEasel$Extent" "empty" "Z" "SceneEasel" ∈ nw := nw_i 131 (by decide +kernel) rfl
theorem q_132 : Cond.fieldLinkNest "SceneEasel" 179 "SceneEasel$Extent" "empty" "Z" "SceneEasel" ∈ nw := nw_i 132 (by decide +kernel) rfl
theorem q_149 : Cond.methodLinkNest "SceneEasel$Node" 51 ⟨"SceneEasel$Track", "<init>", "()V"⟩ "SceneEasel" ∈ nw := nw_i 149 (by decide +kernel) rfl
theorem q_156 : Cond.fieldLinkNest "SceneEasel$Node" 74 "SceneEasel$Track" "size" "I" "SceneEasel" ∈ nw := nw_i 156 (by decide +kernel) rfl
theorem q_157 : Cond.fieldLinkNest "SceneEasel" 121 "SceneEasel$Track" "size" "I" "SceneEasel" ∈ nw := nw_i 157 (by decide +kernel) rfl
theorem q_167 : Cond.fieldLinkNest "SceneEasel" 163 "SceneEasel$Node" "number" "I" "SceneEasel" ∈ nw := nw_i 167 (by decide +kernel) rfl
theorem q_169 : Cond.fieldLinkNest "SceneEasel" 190 "SceneEasel$Node" "kind" "I" "SceneEasel" ∈ nw := nw_i 169 (by decide +kernel) rfl
theorem q_172 : Cond.fieldLinkNest "SceneEasel" 196 "SceneEasel$Node" "children" "Ljava/util/ArrayList;" "SceneEasel" ∈ nw := nw_i 172 (by decide +kernel) rfl
theorem q_174 : Cond.fieldLinkNest "SceneEasel" 109 "SceneEasel$Node" "tracks" "[LSceneEasel$Track;" "SceneEasel" ∈ nw := nw_i 174 (by decide +kernel) rfl
theorem q_176 : Cond.fieldLinkNest "SceneEasel" 175 "SceneEasel$Node" "extent" "LSceneEasel$Extent;" "SceneEasel" ∈ nw := nw_i 176 (by decide +kernel) rfl
theorem q_178 : Cond.fieldLinkNest "SceneEasel" 193 "SceneEasel$Node" "parent" "LSceneEasel$Node;" "SceneEasel" ∈ nw := nw_i 178 (by decide +kernel) rfl
theorem q_179 : Cond.fieldLinkNest "SceneEasel" 98 "SceneEasel$Node" "hidden" "Z" "SceneEasel" ∈ nw := nw_i 179 (by decide +kernel) rfl
theorem q_182 : Cond.fieldLinkNest "SceneEasel" 60 "SceneEasel$Node" "p" "D" "SceneEasel" ∈ nw := nw_i 182 (by decide +kernel) rfl
theorem q_184 : Cond.fieldLinkNest "SceneEasel" 64 "SceneEasel$Node" "q" "D" "SceneEasel" ∈ nw := nw_i 184 (by decide +kernel) rfl
theorem q_185 : Cond.fieldLinkNest "SceneEasel" 73 "SceneEasel$Node" "x" "D" "SceneEasel" ∈ nw := nw_i 185 (by decide +kernel) rfl
theorem q_187 : Cond.fieldLinkNest "SceneEasel" 76 "SceneEasel$Node" "y" "D" "SceneEasel" ∈ nw := nw_i 187 (by decide +kernel) rfl
theorem q_189 : Cond.fieldLinkNest "SceneEasel" 79 "SceneEasel$Node" "turn" "I" "SceneEasel" ∈ nw := nw_i 189 (by decide +kernel) rfl
theorem q_191 : Cond.fieldLinkNest "SceneEasel" 83 "SceneEasel$Node" "stretch" "I" "SceneEasel" ∈ nw := nw_i 191 (by decide +kernel) rfl
theorem q_193 : Cond.fieldLinkNest "SceneEasel" 92 "SceneEasel$Node" "mode" "I" "SceneEasel" ∈ nw := nw_i 193 (by decide +kernel) rfl
theorem q_196 : Cond.fieldLinkNest "SceneEasel" 95 "SceneEasel$Node" "step" "D" "SceneEasel" ∈ nw := nw_i 196 (by decide +kernel) rfl
theorem q_201 : Cond.fieldLinkNest "SceneEasel" 151 "SceneEasel$Node" "nowColour" "I" "SceneEasel" ∈ nw := nw_i 201 (by decide +kernel) rfl
theorem q_268 : Cond.methodLinkNest "SceneEasel" 207 ⟨"SceneEasel$Node", "frames", "()I"⟩ "SceneEasel" ∈ nw := nw_i 268 (by decide +kernel) rfl
theorem q_276 : Cond.methodLinkNest "SceneEasel" 129 ⟨"SceneEasel$Node", "isIn", "(LSceneEasel$Node;)Z"⟩ "SceneEasel" ∈ nw := nw_i 276 (by decide +kernel) rfl
theorem q_280 : Cond.methodLinkNest "SceneEasel" 44 ⟨"SceneEasel$Node", "depth", "()I"⟩ "SceneEasel" ∈ nw := nw_i 280 (by decide +kernel) rfl
theorem q_306 : Cond.castable "java/lang/IllegalArgumentException" "java/lang/IllegalArgumentException" ∈ nw := nw_i 306 (by decide +kernel) rfl
theorem q_383 : Cond.castable "java/lang/IllegalStateException" "java/lang/IllegalStateException" ∈ nw := nw_i 383 (by decide +kernel) rfl
theorem q_398 : Cond.methodLinkNest "SceneEasel" 49 ⟨"SceneEasel$Node", "hangInto", "(LSceneEasel$Node;)V"⟩ "SceneEasel" ∈ nw := nw_i 398 (by decide +kernel) rfl
theorem q_535 : Cond.methodLinkNest "SceneEasel" 113 ⟨"SceneEasel$Track", "put", "(DD)Z"⟩ "SceneEasel" ∈ nw := nw_i 535 (by decide +kernel) rfl
theorem q_554 : Cond.castable "java/util/NoSuchElementException" "java/util/NoSuchElementException" ∈ nw := nw_i 554 (by decide +kernel) rfl
theorem q_580 : Cond.methodLinkNest "SceneEasel" 139 ⟨"SceneEasel$Node", "unhang", "()V"⟩ "SceneEasel" ∈ nw := nw_i 580 (by decide +kernel) rfl
theorem q_633 : Cond.methodLinkNest "SceneEasel" 256 ⟨"SceneEasel$Node", "settleAt", "(D)V"⟩ "SceneEasel" ∈ nw := nw_i 633 (by decide +kernel) rfl
theorem q_637 : Cond.methodLinkNest "SceneEasel$Node" 79 ⟨"SceneEasel$Track", "gliding", "(DD)D"⟩ "SceneEasel" ∈ nw := nw_i 637 (by decide +kernel) rfl
theorem q_645 : Cond.methodLinkNest "SceneEasel$Track" 30 ⟨"SceneEasel", "rounded", "(D)D"⟩ "SceneEasel" ∈ nw := nw_i 645 (by decide +kernel) rfl
theorem q_652 : Cond.methodLinkNest "SceneEasel$Node" 95 ⟨"SceneEasel$Track", "jumping", "(DD)D"⟩ "SceneEasel" ∈ nw := nw_i 652 (by decide +kernel) rfl
theorem q_657 : Cond.methodLinkNest "SceneEasel" 147 ⟨"SceneEasel$Node", "topInside", "(DD)LSceneEasel$Node;"⟩ "SceneEasel" ∈ nw := nw_i 657 (by decide +kernel) rfl
theorem q_665 : Cond.methodLinkNest "SceneEasel$Node" 140 ⟨"SceneEasel", "floorOf", "(D)D"⟩ "SceneEasel" ∈ nw := nw_i 665 (by decide +kernel) rfl
theorem q_679 : Cond.methodLinkNest "SceneEasel$Node" 111 ⟨"SceneEasel", "powerOfTwo", "(I)D"⟩ "SceneEasel" ∈ nw := nw_i 679 (by decide +kernel) rfl
theorem q_710 : Cond.methodLinkNest "SceneEasel" 169 ⟨"SceneEasel$Node", "measureInside", "()V"⟩ "SceneEasel" ∈ nw := nw_i 710 (by decide +kernel) rfl
theorem q_714 : Cond.methodLinkNest "SceneEasel$Node" 156 ⟨"SceneEasel$Extent", "clear", "()V"⟩ "SceneEasel" ∈ nw := nw_i 714 (by decide +kernel) rfl
theorem q_723 : Cond.methodLinkNest "SceneEasel$Node" 146 ⟨"SceneEasel$Extent", "span", "(DDDD)V"⟩ "SceneEasel" ∈ nw := nw_i 723 (by decide +kernel) rfl
theorem q_731 : Cond.methodLinkNest "SceneEasel$Node" 166 ⟨"SceneEasel$Extent", "scale", "(D)V"⟩ "SceneEasel" ∈ nw := nw_i 731 (by decide +kernel) rfl
theorem q_736 : Cond.methodLinkNest "SceneEasel$Node" 170 ⟨"SceneEasel$Extent", "turnOnce", "()V"⟩ "SceneEasel" ∈ nw := nw_i 736 (by decide +kernel) rfl
theorem q_740 : Cond.methodLinkNest "SceneEasel$Node" 173 ⟨"SceneEasel$Extent", "shift", "(DD)V"⟩ "SceneEasel" ∈ nw := nw_i 740 (by decide +kernel) rfl
theorem q_744 : Cond.methodLinkNest "SceneEasel$Node" 162 ⟨"SceneEasel$Extent", "join", "(LSceneEasel$Extent;)V"⟩ "SceneEasel" ∈ nw := nw_i 744 (by decide +kernel) rfl
theorem q_748 : Cond.methodLinkNest "SceneEasel" 172 ⟨"SceneEasel$Node", "measure", "()V"⟩ "SceneEasel" ∈ nw := nw_i 748 (by decide +kernel) rfl
theorem q_750 : Cond.methodLinkNest "SceneEasel" 186 ⟨"SceneEasel$Extent", "side", "(I)D"⟩ "SceneEasel" ∈ nw := nw_i 750 (by decide +kernel) rfl
theorem q_762 : Cond.methodLinkNest "SceneEasel" 204 ⟨"SceneEasel$Node", "rank", "()I"⟩ "SceneEasel" ∈ nw := nw_i 762 (by decide +kernel) rfl
theorem q_1022 : Cond.castable "SceneEasel$Node" "SceneEasel$Node" ∈ nw := nw_i 1022 (by decide +kernel) rfl
theorem q_1026 : Cond.castable "SceneEasel" "java/lang/Object" ∈ nw := nw_i 1026 (by decide +kernel) rfl
theorem q_1027 : Cond.castable "SceneEasel$Node" "java/lang/Object" ∈ nw := nw_i 1027 (by decide +kernel) rfl
theorem q_1028 : Cond.castable "SceneEasel$Extent" "java/lang/Object" ∈ nw := nw_i 1028 (by decide +kernel) rfl
theorem q_1029 : Cond.castable "SceneEasel$Track" "java/lang/Object" ∈ nw := nw_i 1029 (by decide +kernel) rfl
theorem q_1030 : Cond.castable "SceneEaselModel" "java/lang/Object" ∈ nw := nw_i 1030 (by decide +kernel) rfl
theorem q_1031 : Cond.castable "java/lang/String" "java/lang/Object" ∈ nw := nw_i 1031 (by decide +kernel) rfl
theorem hp_ne_c {w : hp_M} {a b i j : Nat} {fs gs : List Value} (hij : i ≠ j) (ha : w a = some (.inr (i, fs))) (hb : w b = some (.inr (j, gs))) : a ≠ b := by
  intro h
  subst h
  have e1 := ha.symm.trans hb
  injection e1 with e2
  injection e2 with e3
  injection e3 with e4 e5
  exact hij e4
theorem hp_ne_ao {w : hp_M} {a b : Nat} {x : ClassId × vp_A} {y : Nat × List Value} (ha : w a = some (.inl x)) (hb : w b = some (.inr y)) : a ≠ b := by
  intro h
  subst h
  have e1 := ha.symm.trans hb
  injection e1 with e2
  cases e2
theorem hp_ne_oa {w : hp_M} {a b : Nat} {x : ClassId × vp_A} {y : Nat × List Value} (ha : w a = some (.inr y)) (hb : w b = some (.inl x)) : a ≠ b := (hp_ne_ao hb ha).symm
section ECalls
variable {p : Program} {l : Launch} {e : Env} {R : Room} {s : State} {m : MethodId} {args : Array Value} {below : List Frame} {meth : Method} {c : Code} {H : Heap} {locs : List Loc} {cells slots : Nat} {Q : State → Prop}
variable {pc : Nat} {ls : Array Slot} {rest st0 : List Value} {a : Array Value} {mc ms : Nat} {G : EG} {S0 : Nat}
theorem eWo {t : State} {u : hp_M} (ht : t.heap = H) (hI : eI G S0 u H) : eW G S0 u t := by
  show hp_I (eD G) cls S0 u t.heap
  rw [ht]
  exact hI
theorem eWi {t : State} {u : hp_M} (ht : t.heap = H) (hB : eW G S0 u t) : eI G S0 u H := by
  show hp_I (eD G) cls S0 u H
  rw [← ht]
  exact hB
theorem va_callo {S : Type} {post : Option Nat → S → Prop} {B : S → State → Prop} {A0 A1 : Nat → Prop} {H0 : Heap} {free : Addr → Prop} (hr : va_Run p l e R s m args below meth c H locs cells slots mc ms (F0 m pc ls st0) rest (va_Qo post B A1 a) free) (hS : va_S A0 H0 H locs) (hA : ∀ q, q < H.size → A1 q → A0 q) (hf : ∀ q, free q → A0 q)
    (kk : ∀ (r : Option Nat) (u : S) (t : State) (H1 : Heap) (locs1 : List Loc), t.heap = H1 → s.vm.Alike t.vm → post r u → B u t → H.size ≤ H1.size → (∀ q : Nat, q < H.size → ¬ A1 q → H1[q]? = H[q]?) → va_S A0 H0 H1 locs1 → W p l e R s m args below meth c H1 locs1 (cells + mc) (slots + ms) Q (F0 m (pc + 3) ls (va_rf r :: rest))) : W p l e R s m args below meth c H locs cells slots Q (F0 m pc ls st0) := by
  intro T hT X
  obtain ⟨v, st₀, t, T', L, h0, X', hL, e1, e2, ⟨⟨r, u, hv, hp, hb⟩, hF⟩, st⟩ := hr T hT X
  cases hv
  obtain ⟨k1, k2, k3⟩ := vx_keep h0 e1 hS hA hf hL hF
  obtain ⟨t2, a1, b1⟩ := kk r u t T'.heap (locs ++ L) e1.symm (by rw [← e2]; exact X'.warmed.alike) hp hb k1 k2 k3 T' rfl X'
  exact ⟨t2, st t2 a1, b1⟩
theorem vx_callo {S SX : Type} {post : Option Nat → S → Prop} {px : SX → Prop} {B : S → State → Prop} {BX : String → SX → State → Prop} {AX A0 A1 : Nat → Prop} {H0 : Heap} {free : Addr → Prop} (hr : vx_Run p l e R s m args below meth c H locs cells slots mc ms (F0 m pc ls st0) rest (va_Qo post B A1 a) (vx_X px BX AX) free) (hS : va_S A0 H0 H locs) (hA : ∀ q, q < H.size → A1 q → A0 q) (hf : ∀ q, free q → A0 q) (hAX : ∀ q, q < H.size → AX q → A0 q)
    (kx : ∀ (E : String) (ce : Cell) (q9 : Addr) (u : SX) (t : State) (H1 : Heap) (locs1 : List Loc), t.heap = H1 → s.vm.Alike t.vm → px u → BX E u t → H.size ≤ H1.size → (∀ q : Nat, q < H.size → ¬ AX q → H1[q]? = H[q]?) → va_S A0 H0 H1 locs1 → H1[q9]? = some ce → ce.vm = .none → s.vm.findClass E = some ce.cls → vx_W p l e R s m args below meth c H1 locs1 (cells + mc) (slots + ms) Q (F0 m pc ls rest) q9)
    (kk : ∀ (r : Option Nat) (u : S) (t : State) (H1 : Heap) (locs1 : List Loc), t.heap = H1 → s.vm.Alike t.vm → post r u → B u t → H.size ≤ H1.size → (∀ q : Nat, q < H.size → ¬ A1 q → H1[q]? = H[q]?) → va_S A0 H0 H1 locs1 → W p l e R s m args below meth c H1 locs1 (cells + mc) (slots + ms) Q (F0 m (pc + 3) ls (va_rf r :: rest))) : W p l e R s m args below meth c H locs cells slots Q (F0 m pc ls st0) := by
  intro T hT X
  rcases hr T hT X with ⟨v, st₀, t, T', L, h0, X', hL, e1, e2, ⟨⟨r, u, hv, hp, hb⟩, hF⟩, st⟩ | ⟨q, st₀, t, T', L, E, ce, h0, X', hL, e1, e2, ⟨u, hp, hb, hF⟩, hce, hcv, hcl, st⟩
  · cases hv
    obtain ⟨k1, k2, k3⟩ := vx_keep h0 e1 hS hA hf hL hF
    obtain ⟨t2, a1, b1⟩ := kk r u t T'.heap (locs ++ L) e1.symm (by rw [← e2]; exact X'.warmed.alike) hp hb k1 k2 k3 T' rfl X'
    exact ⟨t2, st t2 a1, b1⟩
  · obtain ⟨k1, k2, k3⟩ := vx_keep h0 e1 hS hAX hf hL hF
    obtain ⟨t2, a1, b1⟩ := kx E ce q u t T'.heap (locs ++ L) e1.symm (by rw [← e2]; exact X'.warmed.alike) hp hb k1 k2 k3 (by rw [e1]; exact hce) hcv hcl T' rfl X'
    exact ⟨t2, st.trans a1, b1⟩
/-- what is thrown, and the world then -/
def eX (G : EG) (S0 : Nat) (px : String → hp_M → Prop) : String → State → State → Prop := vx_X (S := hp_M) (fun _ => True) (fun E u t => px E u ∧ eW G S0 u t) (hp_A S0)
theorem ec_v {post : hp_M → Prop} (hr : va_Run p l e R s m args below meth c H locs cells slots mc ms (F0 m pc ls st0) rest (va_Qv post (eW G S0) (hp_A S0) a) (hp_A S0)) (hS : va_S (hp_A S0) s.heap H locs)
    (kk : ∀ (u : hp_M) (H1 : Heap) (locs1 : List Loc), post u → eI G S0 u H1 → H.size ≤ H1.size → va_S (hp_A S0) s.heap H1 locs1 → W p l e R s m args below meth c H1 locs1 (cells + mc) (slots + ms) Q (F0 m (pc + 3) ls (rest))) : W p l e R s m args below meth c H locs cells slots Q (F0 m pc ls st0) :=
  va_callv hr hS (fun _ _ h => h) (fun _ h => h) (fun u t H1 locs1 ht _ hw hB hz1 _ hS1 => kk u H1 locs1 hw (eWi ht hB) hz1 hS1)
theorem xc_v {post : hp_M → Prop} {px : String → hp_M → Prop} (hr : vx_Run p l e R s m args below meth c H locs cells slots mc ms (F0 m pc ls st0) rest (va_Qv post (eW G S0) (hp_A S0) a) (eX G S0 px) (hp_A S0)) (hS : va_S (hp_A S0) s.heap H locs)
    (kx : ∀ (E : String) (ce : Cell) (q9 : Addr) (u : hp_M) (H1 : Heap) (locs1 : List Loc), px E u → eI G S0 u H1 → H.size ≤ H1.size → va_S (hp_A S0) s.heap H1 locs1 → H1[q9]? = some ce → ce.vm = .none → s.vm.findClass E = some ce.cls → vx_W p l e R s m args below meth c H1 locs1 (cells + mc) (slots + ms) Q (F0 m pc ls rest) q9)
    (kk : ∀ (u : hp_M) (H1 : Heap) (locs1 : List Loc), post u → eI G S0 u H1 → H.size ≤ H1.size → va_S (hp_A S0) s.heap H1 locs1 → W p l e R s m args below meth c H1 locs1 (cells + mc) (slots + ms) Q (F0 m (pc + 3) ls (rest))) : W p l e R s m args below meth c H locs cells slots Q (F0 m pc ls st0) :=
  vx_callv hr hS (fun _ _ h => h) (fun _ h => h) (fun _ _ h => h) (fun E ce q9 u t H1 locs1 ht _ _ hB hz1 _ hS1 h1 h2 h3 => kx E ce q9 u H1 locs1 hB.1 (eWi ht hB.2) hz1 hS1 h1 h2 h3) (fun u t H1 locs1 ht _ hw hB hz1 _ hS1 => kk u H1 locs1 hw (eWi ht hB) hz1 hS1)
theorem ec_i {post : Int32 → hp_M → Prop} (hr : va_Run p l e R s m args below meth c H locs cells slots mc ms (F0 m pc ls st0) rest (va_Qi post (eW G S0) (hp_A S0) a) (hp_A S0)) (hS : va_S (hp_A S0) s.heap H locs)
    (kk : ∀ (r : Int32) (u : hp_M) (H1 : Heap) (locs1 : List Loc), post r u → eI G S0 u H1 → H.size ≤ H1.size → va_S (hp_A S0) s.heap H1 locs1 → W p l e R s m args below meth c H1 locs1 (cells + mc) (slots + ms) Q (F0 m (pc + 3) ls (.int r :: rest))) : W p l e R s m args below meth c H locs cells slots Q (F0 m pc ls st0) :=
  va_calli hr hS (fun _ _ h => h) (fun _ h => h) (fun r u t H1 locs1 ht _ hw hB hz1 _ hS1 => kk r u H1 locs1 hw (eWi ht hB) hz1 hS1)
theorem xc_i {post : Int32 → hp_M → Prop} {px : String → hp_M → Prop} (hr : vx_Run p l e R s m args below meth c H locs cells slots mc ms (F0 m pc ls st0) rest (va_Qi post (eW G S0) (hp_A S0) a) (eX G S0 px) (hp_A S0)) (hS : va_S (hp_A S0) s.heap H locs)
    (kx : ∀ (E : String) (ce : Cell) (q9 : Addr) (u : hp_M) (H1 : Heap) (locs1 : List Loc), px E u → eI G S0 u H1 → H.size ≤ H1.size → va_S (hp_A S0) s.heap H1 locs1 → H1[q9]? = some ce → ce.vm = .none → s.vm.findClass E = some ce.cls → vx_W p l e R s m args below meth c H1 locs1 (cells + mc) (slots + ms) Q (F0 m pc ls rest) q9)
    (kk : ∀ (r : Int32) (u : hp_M) (H1 : Heap) (locs1 : List Loc), post r u → eI G S0 u H1 → H.size ≤ H1.size → va_S (hp_A S0) s.heap H1 locs1 → W p l e R s m args below meth c H1 locs1 (cells + mc) (slots + ms) Q (F0 m (pc + 3) ls (.int r :: rest))) : W p l e R s m args below meth c H locs cells slots Q (F0 m pc ls st0) :=
  vx_calli hr hS (fun _ _ h => h) (fun _ h => h) (fun _ _ h => h) (fun E ce q9 u t H1 locs1 ht _ _ hB hz1 _ hS1 h1 h2 h3 => kx E ce q9 u H1 locs1 hB.1 (eWi ht hB.2) hz1 hS1 h1 h2 h3) (fun r u t H1 locs1 ht _ hw hB hz1 _ hS1 => kk r u H1 locs1 hw (eWi ht hB) hz1 hS1)
theorem ec_d {post : UInt64 → hp_M → Prop} (hr : va_Run p l e R s m args below meth c H locs cells slots mc ms (F0 m pc ls st0) rest (va_Qd post (eW G S0) (hp_A S0) a) (hp_A S0)) (hS : va_S (hp_A S0) s.heap H locs)
    (kk : ∀ (r : UInt64) (u : hp_M) (H1 : Heap) (locs1 : List Loc), post r u → eI G S0 u H1 → H.size ≤ H1.size → va_S (hp_A S0) s.heap H1 locs1 → W p l e R s m args below meth c H1 locs1 (cells + mc) (slots + ms) Q (F0 m (pc + 3) ls (.double r :: rest))) : W p l e R s m args below meth c H locs cells slots Q (F0 m pc ls st0) :=
  va_calld hr hS (fun _ _ h => h) (fun _ h => h) (fun r u t H1 locs1 ht _ hw hB hz1 _ hS1 => kk r u H1 locs1 hw (eWi ht hB) hz1 hS1)
theorem xc_d {post : UInt64 → hp_M → Prop} {px : String → hp_M → Prop} (hr : vx_Run p l e R s m args below meth c H locs cells slots mc ms (F0 m pc ls st0) rest (va_Qd post (eW G S0) (hp_A S0) a) (eX G S0 px) (hp_A S0)) (hS : va_S (hp_A S0) s.heap H locs)
    (kx : ∀ (E : String) (ce : Cell) (q9 : Addr) (u : hp_M) (H1 : Heap) (locs1 : List Loc), px E u → eI G S0 u H1 → H.size ≤ H1.size → va_S (hp_A S0) s.heap H1 locs1 → H1[q9]? = some ce → ce.vm = .none → s.vm.findClass E = some ce.cls → vx_W p l e R s m args below meth c H1 locs1 (cells + mc) (slots + ms) Q (F0 m pc ls rest) q9)
    (kk : ∀ (r : UInt64) (u : hp_M) (H1 : Heap) (locs1 : List Loc), post r u → eI G S0 u H1 → H.size ≤ H1.size → va_S (hp_A S0) s.heap H1 locs1 → W p l e R s m args below meth c H1 locs1 (cells + mc) (slots + ms) Q (F0 m (pc + 3) ls (.double r :: rest))) : W p l e R s m args below meth c H locs cells slots Q (F0 m pc ls st0) :=
  vx_calld hr hS (fun _ _ h => h) (fun _ h => h) (fun _ _ h => h) (fun E ce q9 u t H1 locs1 ht _ _ hB hz1 _ hS1 h1 h2 h3 => kx E ce q9 u H1 locs1 hB.1 (eWi ht hB.2) hz1 hS1 h1 h2 h3) (fun r u t H1 locs1 ht _ hw hB hz1 _ hS1 => kk r u H1 locs1 hw (eWi ht hB) hz1 hS1)
theorem ec_o {post : Option Nat → hp_M → Prop} (hr : va_Run p l e R s m args below meth c H locs cells slots mc ms (F0 m pc ls st0) rest (va_Qo post (eW G S0) (hp_A S0) a) (hp_A S0)) (hS : va_S (hp_A S0) s.heap H locs)
    (kk : ∀ (r : Option Nat) (u : hp_M) (H1 : Heap) (locs1 : List Loc), post r u → eI G S0 u H1 → H.size ≤ H1.size → va_S (hp_A S0) s.heap H1 locs1 → W p l e R s m args below meth c H1 locs1 (cells + mc) (slots + ms) Q (F0 m (pc + 3) ls (va_rf r :: rest))) : W p l e R s m args below meth c H locs cells slots Q (F0 m pc ls st0) :=
  va_callo hr hS (fun _ _ h => h) (fun _ h => h) (fun r u t H1 locs1 ht _ hw hB hz1 _ hS1 => kk r u H1 locs1 hw (eWi ht hB) hz1 hS1)
theorem xc_o {post : Option Nat → hp_M → Prop} {px : String → hp_M → Prop} (hr : vx_Run p l e R s m args below meth c H locs cells slots mc ms (F0 m pc ls st0) rest (va_Qo post (eW G S0) (hp_A S0) a) (eX G S0 px) (hp_A S0)) (hS : va_S (hp_A S0) s.heap H locs)
    (kx : ∀ (E : String) (ce : Cell) (q9 : Addr) (u : hp_M) (H1 : Heap) (locs1 : List Loc), px E u → eI G S0 u H1 → H.size ≤ H1.size → va_S (hp_A S0) s.heap H1 locs1 → H1[q9]? = some ce → ce.vm = .none → s.vm.findClass E = some ce.cls → vx_W p l e R s m args below meth c H1 locs1 (cells + mc) (slots + ms) Q (F0 m pc ls rest) q9)
    (kk : ∀ (r : Option Nat) (u : hp_M) (H1 : Heap) (locs1 : List Loc), post r u → eI G S0 u H1 → H.size ≤ H1.size → va_S (hp_A S0) s.heap H1 locs1 → W p l e R s m args below meth c H1 locs1 (cells + mc) (slots + ms) Q (F0 m (pc + 3) ls (va_rf r :: rest))) : W p l e R s m args below meth c H locs cells slots Q (F0 m pc ls st0) :=
  vx_callo hr hS (fun _ _ h => h) (fun _ h => h) (fun _ _ h => h) (fun E ce q9 u t H1 locs1 ht _ _ hB hz1 _ hS1 h1 h2 h3 => kx E ce q9 u H1 locs1 hB.1 (eWi ht hB.2) hz1 hS1 h1 h2 h3) (fun r u t H1 locs1 ht _ hw hB hz1 _ hS1 => kk r u H1 locs1 hw (eWi ht hB) hz1 hS1)
theorem xc_out {pc : Nat} {E : String} {ce : Cell} {q : Addr} {mc ms : Nat} {px : String → hp_M → Prop} {Qc : Array Value → State → Outcome → State → Prop} {u : hp_M} (hnx : ∀ x ∈ c.exceptionTable.toList, False) (hlocks : meth.locks = false) (hcell : H[q]? = some ce) (hv : ce.vm = .none) (hcl : s.vm.findClass E = some ce.cls)
    (hx : px E u) (hI : eI G S0 u H) (hS : va_S (hp_A S0) s.heap H locs) (hc : cells ≤ mc) (hs : slots ≤ ms) :
    vx_W p l e R s m args below meth c H locs cells slots (vx_MQ below Qc (eX G S0 px) args s mc ms (hp_A S0)) (F0 m pc ls rest) q :=
  vx_out (fun x h => (hnx x h).elim) hlocks hcell hv hcl (fun t ht _ => ⟨u, trivial, ⟨hx, eWo ht hI⟩, hS.F ht⟩) hS.2.2 hc hs
end ECalls
end
section
/-! Extent -/
abbrev oEx (e0 : Int32) (la lb ga gb : UInt64) : va_E := .inr (0, [.int e0, .double la, .double lb, .double ga, .double gb])
set_option maxHeartbeats 4000000 in
set_option maxRecDepth 100000 in
theorem m_Ex_clear (l : Launch) (G : EG) (S0 : Nat) (w : hp_M) (a : Nat) {e0 : Int32} {la lb ga gb : UInt64} (ha : w a = some (oEx e0 la lb ga gb)) : Met l y_Ex_clear w_Ex_clear (rl 0 0 0) (eP G S0 w [.ref a]) (va_Qv (fun u => u = hp_set w a (oEx 1 la lb ga gb)) (eW G S0) (hp_A S0)) 0 0 (hp_A S0) := by
  refine Met.ofW (cc := b_Ex_clear) (maxL := 1) (ret := none) (by decide) rfl ?_
  intro p e s m args below meth c s₁ B hml hv
  obtain ⟨rfl, hE, hI, hz⟩ := hv
  have hx := B.exec
  have hb := B.bytes
  have hr := B.returns
  have hts := atoms_spec (ws := w_Ex_clear) B.pre
  have hg : ∀ w ∈ gw, w.before _ s = true := fun w h => hts w (List.mem_cons_of_mem _ h)
  have hown : s.vm.findClass "SceneEasel$Extent" = some m.cls := findClass_of_methodNamed B.named
  have hlocks := B.notSynchronized
  have hK := hE.K
  have hS : va_S (hp_A S0) s.heap s.heap [] := va_S.rf
  have hl := lv_entry ([.ref a]) (n := 1) (Nat.le_of_ble_eq_true rfl)
  rw [lg_entry_eq]
  generalize (lg_sl ([.ref a]) ++ List.replicate (1 - (lg_sl ([.ref a])).length) Slot.unset).toArray = ls at hl ⊢
  have hl : lv_has ls 1 [(0, .ref a)] := hl
  refine lv_aload_n hx hb d_Ex_clear_0 rfl (lv_at hl 0 rfl) ?_
  refine lv_iconst (v := 1) hx hb d_Ex_clear_1 (by decide) ?_
  refine hp_putC (ci := 0) (v := .int 1) (ty := .boolean) (C := R_Ex) (T := F_Ex) (N := 5) hx hb hg i_Ex t_Ex t_Ex_ok n_Ex hown hK hI hS ha rfl 0 (by decide) (hg _ k_130) (fun _ h9 => h9) rfl (by decide +kernel) rfl rfl (Nat.le_of_ble_eq_true rfl) d_Ex_clear_2 (fun H locs hI hS hsz => ?_)
  obtain ⟨w_1, ew_1⟩ : ∃ z, z = hp_set w a (.inr (0, [.int 1, .double la, .double lb, .double ga, .double gb])) := ⟨_, rfl⟩
  have hI : eI G S0 w_1 H := by rw [ew_1]; exact hI
  have ha : w_1 a = some (.inr (0, [.int 1, .double la, .double lb, .double ga, .double gb])) := by rw [ew_1]; exact hp_set_eq _ _ _
  exact W.vret hx hb hr (fun t ht hW => ⟨⟨w_1, rfl, ew_1, eWo ht hI⟩, hS.F ht⟩) hS.2.2 d_Ex_clear_5
set_option maxHeartbeats 4000000 in
set_option maxRecDepth 100000 in
theorem m_Ex_span (l : Launch) (G : EG) (S0 : Nat) (w : hp_M) (a : Nat) (x1 y1 x2 y2 : UInt64) {e0 : Int32} {la lb ga gb : UInt64} (ha : w a = some (oEx e0 la lb ga gb)) : Met l y_Ex_span w_Ex_span (rl 0 0 0) (eP G S0 w [.ref a, .double x1, .double y1, .double x2, .double y2]) (va_Qv (fun u => u = hp_set w a (oEx 0 x1 y1 x2 y2)) (eW G S0) (hp_A S0)) 0 0 (hp_A S0) := by
  refine Met.ofW (cc := b_Ex_span) (maxL := 9) (ret := none) (by decide) rfl ?_
  intro p e s m args below meth c s₁ B hml hv
  obtain ⟨rfl, hE, hI, hz⟩ := hv
  have hx := B.exec
  have hb := B.bytes
  have hr := B.returns
  have hts := atoms_spec (ws := w_Ex_span) B.pre
  have hg : ∀ w ∈ gw, w.before _ s = true := fun w h => hts w (List.mem_cons_of_mem _ h)
  have hown : s.vm.findClass "SceneEasel$Extent" = some m.cls := findClass_of_methodNamed B.named
  have hlocks := B.notSynchronized
  have hK := hE.K
  have hS : va_S (hp_A S0) s.heap s.heap [] := va_S.rf
  have hl := lv_entry ([.ref a, .double x1, .double y1, .double x2, .double y2]) (n := 9) (Nat.le_of_ble_eq_true rfl)
  rw [lg_entry_eq]
  generalize (lg_sl ([.ref a, .double x1, .double y1, .double x2, .double y2]) ++ List.replicate (9 - (lg_sl ([.ref a, .double x1, .double y1, .double x2, .double y2])).length) Slot.unset).toArray = ls at hl ⊢
  have hl : lv_has ls 9 [(0, .ref a), (1, .double x1), (3, .double y1), (5, .double x2), (7, .double y2)] := hl
  refine lv_aload_n hx hb d_Ex_span_0 rfl (lv_at hl 0 rfl) ?_
  refine lv_iconst (v := 0) hx hb d_Ex_span_1 (by decide) ?_
  refine hp_putC (ci := 0) (v := .int 0) (ty := .boolean) (C := R_Ex) (T := F_Ex) (N := 5) hx hb hg i_Ex t_Ex t_Ex_ok n_Ex hown hK hI hS ha rfl 0 (by decide) (hg _ k_130) (fun _ h9 => h9) rfl (by decide +kernel) rfl rfl (Nat.le_of_ble_eq_true rfl) d_Ex_span_2 (fun H locs hI hS hsz => ?_)
  obtain ⟨w_1, ew_1⟩ : ∃ z, z = hp_set w a (.inr (0, [.int 0, .double la, .double lb, .double ga, .double gb])) := ⟨_, rfl⟩
  have hI : eI G S0 w_1 H := by rw [ew_1]; exact hI
  have ha : w_1 a = some (.inr (0, [.int 0, .double la, .double lb, .double ga, .double gb])) := by rw [ew_1]; exact hp_set_eq _ _ _
  refine lv_aload_n hx hb d_Ex_span_5 rfl (lv_at hl 0 rfl) ?_
  refine lv_dload_n hx hb d_Ex_span_6 rfl (lv_at hl 1 rfl) ?_
  refine hp_putC (ci := 0) (v := .double x1) (ty := .double) (C := R_Ex) (T := F_Ex) (N := 5) hx hb hg i_Ex t_Ex t_Ex_ok n_Ex hown hK hI hS ha rfl 1 (by decide) (hg _ k_133) (fun _ h9 => h9) rfl (by decide +kernel) rfl rfl (Nat.le_of_ble_eq_true rfl) d_Ex_span_7 (fun H locs hI hS hsz => ?_)
  obtain ⟨w_2, ew_2⟩ : ∃ z, z = hp_set w_1 a (.inr (0, [.int 0, .double x1, .double lb, .double ga, .double gb])) := ⟨_, rfl⟩
  have hI : eI G S0 w_2 H := by rw [ew_2]; exact hI
  have ha : w_2 a = some (.inr (0, [.int 0, .double x1, .double lb, .double ga, .double gb])) := by rw [ew_2]; exact hp_set_eq _ _ _
  refine lv_aload_n hx hb d_Ex_span_10 rfl (lv_at hl 0 rfl) ?_
  refine lv_dload_n hx hb d_Ex_span_11 rfl (lv_at hl 2 rfl) ?_
  refine hp_putC (ci := 0) (v := .double y1) (ty := .double) (C := R_Ex) (T := F_Ex) (N := 5) hx hb hg i_Ex t_Ex t_Ex_ok n_Ex hown hK hI hS ha rfl 2 (by decide) (hg _ k_134) (fun _ h9 => h9) rfl (by decide +kernel) rfl rfl (Nat.le_of_ble_eq_true rfl) d_Ex_span_12 (fun H locs hI hS hsz => ?_)
  obtain ⟨w_3, ew_3⟩ : ∃ z, z = hp_set w_2 a (.inr (0, [.int 0, .double x1, .double y1, .double ga, .double gb])) := ⟨_, rfl⟩
  have hI : eI G S0 w_3 H := by rw [ew_3]; exact hI
  have ha : w_3 a = some (.inr (0, [.int 0, .double x1, .double y1, .double ga, .double gb])) := by rw [ew_3]; exact hp_set_eq _ _ _
  refine lv_aload_n hx hb d_Ex_span_15 rfl (lv_at hl 0 rfl) ?_
  refine lv_dload hx hb d_Ex_span_16 (lv_at hl 3 rfl) ?_
  refine hp_putC (ci := 0) (v := .double x2) (ty := .double) (C := R_Ex) (T := F_Ex) (N := 5) hx hb hg i_Ex t_Ex t_Ex_ok n_Ex hown hK hI hS ha rfl 3 (by decide) (hg _ k_135) (fun _ h9 => h9) rfl (by decide +kernel) rfl rfl (Nat.le_of_ble_eq_true rfl) d_Ex_span_18 (fun H locs hI hS hsz => ?_)
  obtain ⟨w_4, ew_4⟩ : ∃ z, z = hp_set w_3 a (.inr (0, [.int 0, .double x1, .double y1, .double x2, .double gb])) := ⟨_, rfl⟩
  have hI : eI G S0 w_4 H := by rw [ew_4]; exact hI
  have ha : w_4 a = some (.inr (0, [.int 0, .double x1, .double y1, .double x2, .double gb])) := by rw [ew_4]; exact hp_set_eq _ _ _
  refine lv_aload_n hx hb d_Ex_span_21 rfl (lv_at hl 0 rfl) ?_
  refine lv_dload hx hb d_Ex_span_22 (lv_at hl 4 rfl) ?_
  refine hp_putC (ci := 0) (v := .double y2) (ty := .double) (C := R_Ex) (T := F_Ex) (N := 5) hx hb hg i_Ex t_Ex t_Ex_ok n_Ex hown hK hI hS ha rfl 4 (by decide) (hg _ k_136) (fun _ h9 => h9) rfl (by decide +kernel) rfl rfl (Nat.le_of_ble_eq_true rfl) d_Ex_span_24 (fun H locs hI hS hsz => ?_)
  obtain ⟨w_5, ew_5⟩ : ∃ z, z = hp_set w_4 a (.inr (0, [.int 0, .double x1, .double y1, .double x2, .double y2])) := ⟨_, rfl⟩
  have hI : eI G S0 w_5 H := by rw [ew_5]; exact hI
  have ha : w_5 a = some (.inr (0, [.int 0, .double x1, .double y1, .double x2, .double y2])) := by rw [ew_5]; exact hp_set_eq _ _ _
  exact W.vret hx hb hr (fun t ht hW => ⟨⟨w_5, rfl, by rw [ew_5, ew_4, ew_3, ew_2, ew_1, hp_set_set, hp_set_set, hp_set_set, hp_set_set], eWo ht hI⟩, hS.F ht⟩) hS.2.2 d_Ex_span_27
set_option maxHeartbeats 4000000 in
set_option maxRecDepth 100000 in
theorem m_Ex_scale (l : Launch) (G : EG) (S0 : Nat) (w : hp_M) (a : Nat) (f : UInt64) {e0 : Int32} {la lb ga gb : UInt64} (ha : w a = some (oEx e0 la lb ga gb)) (h1 : vf_n64 (FP.dmul la f)) (h2 : vf_n64 (FP.dmul lb f)) (h3 : vf_n64 (FP.dmul ga f)) (h4 : vf_n64 (FP.dmul gb f)) : Met l y_Ex_scale w_Ex_scale (rl 1 0 0) (eP G S0 w [.ref a, .double f]) (va_Qv (fun u => u = hp_set w a (oEx 0 (FP.dmul la f) (FP.dmul lb f) (FP.dmul ga f) (FP.dmul gb f))) (eW G S0) (hp_A S0)) 0 0 (hp_A S0) := by
  refine Met.ofW (cc := b_Ex_scale) (maxL := 3) (ret := none) (by decide) rfl ?_
  intro p e s m args below meth c s₁ B hml hv
  obtain ⟨rfl, hE, hI, hz⟩ := hv
  have hx := B.exec
  have hb := B.bytes
  have hr := B.returns
  have hts := atoms_spec (ws := w_Ex_scale) B.pre
  have hg : ∀ w ∈ gw, w.before _ s = true := fun w h => hts w (List.mem_cons_of_mem _ h)
  have hown : s.vm.findClass "SceneEasel$Extent" = some m.cls := findClass_of_methodNamed B.named
  have hlocks := B.notSynchronized
  have hK := hE.K
  have hS : va_S (hp_A S0) s.heap s.heap [] := va_S.rf
  have hl := lv_entry ([.ref a, .double f]) (n := 3) (Nat.le_of_ble_eq_true rfl)
  rw [lg_entry_eq]
  generalize (lg_sl ([.ref a, .double f]) ++ List.replicate (3 - (lg_sl ([.ref a, .double f])).length) Slot.unset).toArray = ls at hl ⊢
  have hl : lv_has ls 3 [(0, .ref a), (1, .double f)] := hl
  refine lv_aload_n hx hb d_Ex_scale_0 rfl (lv_at hl 0 rfl) ?_
  refine lv_aload_n hx hb d_Ex_scale_1 rfl (lv_at hl 0 rfl) ?_
  refine hp_get (ci := 0) (v := .double la) (C := R_Ex) (T := F_Ex) (N := 5) hx hb hg i_Ex hown hK hI ha rfl 1 (by decide) (hg _ k_133) (fun _ h9 => h9) rfl d_Ex_scale_2 ?_
  refine lv_dload_n hx hb d_Ex_scale_5 rfl (lv_at hl 1 rfl) ?_
  refine lv_dmul hx hb d_Ex_scale_6 h1 ?_
  refine lv_aload_n hx hb d_Ex_scale_7 rfl (lv_at hl 0 rfl) ?_
  refine hp_get (ci := 0) (v := .double lb) (C := R_Ex) (T := F_Ex) (N := 5) hx hb hg i_Ex hown hK hI ha rfl 2 (by decide) (hg _ k_134) (fun _ h9 => h9) rfl d_Ex_scale_8 ?_
  refine lv_dload_n hx hb d_Ex_scale_11 rfl (lv_at hl 1 rfl) ?_
  refine lv_dmul hx hb d_Ex_scale_12 h2 ?_
  refine lv_aload_n hx hb d_Ex_scale_13 rfl (lv_at hl 0 rfl) ?_
  refine hp_get (ci := 0) (v := .double ga) (C := R_Ex) (T := F_Ex) (N := 5) hx hb hg i_Ex hown hK hI ha rfl 3 (by decide) (hg _ k_135) (fun _ h9 => h9) rfl d_Ex_scale_14 ?_
  refine lv_dload_n hx hb d_Ex_scale_17 rfl (lv_at hl 1 rfl) ?_
  refine lv_dmul hx hb d_Ex_scale_18 h3 ?_
  refine lv_aload_n hx hb d_Ex_scale_19 rfl (lv_at hl 0 rfl) ?_
  refine hp_get (ci := 0) (v := .double gb) (C := R_Ex) (T := F_Ex) (N := 5) hx hb hg i_Ex hown hK hI ha rfl 4 (by decide) (hg _ k_136) (fun _ h9 => h9) rfl d_Ex_scale_20 ?_
  refine lv_dload_n hx hb d_Ex_scale_23 rfl (lv_at hl 1 rfl) ?_
  refine lv_dmul hx hb d_Ex_scale_24 h4 ?_
  refine ec_v (va_runV (As := [.double (FP.dmul la f), .double (FP.dmul lb f), .double (FP.dmul ga f), .double (FP.dmul gb f)]) (rest := []) ⟨hx, hb, hml, hown, hts⟩ (m_Ex_span l G S0 w a (FP.dmul la f) (FP.dmul lb f) (FP.dmul ga f) (FP.dmul gb f) ha) (cwV 4 hts (gw_V k_735 k_725 k_35 k_65 k_726) rfl rfl rfl (by decide +kernel) ⟨Nat.le_of_ble_eq_true rfl, Nat.le_of_ble_eq_true rfl⟩) (eB.preV hE hI hS hz rfl ha) rfl rfl hl.1 rfl (lv_room (Nat.le_of_ble_eq_true rfl)) d_Ex_scale_25 ⟨Nat.le_of_ble_eq_true rfl, Nat.le_of_ble_eq_true rfl⟩) hS (fun w_1 H locs ew_1 hI hsz hS => ?_)
  have ha : w_1 a = some (.inr (0, [.int 0, .double (FP.dmul la f), .double (FP.dmul lb f), .double (FP.dmul ga f), .double (FP.dmul gb f)])) := by rw [ew_1]; exact hp_set_eq _ _ _
  exact W.vret hx hb hr (fun t ht hW => ⟨⟨w_1, rfl, ew_1, eWo ht hI⟩, hS.F ht⟩) hS.2.2 d_Ex_scale_28
set_option maxHeartbeats 4000000 in
set_option maxRecDepth 100000 in
theorem m_Ex_turnOnce (l : Launch) (G : EG) (S0 : Nat) (w : hp_M) (a : Nat) {e0 : Int32} {la lb ga gb : UInt64} (ha : w a = some (oEx e0 la lb ga gb)) : Met l y_Ex_turnOnce w_Ex_turnOnce (rl 1 0 0) (eP G S0 w [.ref a]) (va_Qv (fun u => u = hp_set w a (oEx 0 (FP.dneg gb) la (FP.dneg lb) ga)) (eW G S0) (hp_A S0)) 0 0 (hp_A S0) := by
  refine Met.ofW (cc := b_Ex_turnOnce) (maxL := 1) (ret := none) (by decide) rfl ?_
  intro p e s m args below meth c s₁ B hml hv
  obtain ⟨rfl, hE, hI, hz⟩ := hv
  have hx := B.exec
  have hb := B.bytes
  have hr := B.returns
  have hts := atoms_spec (ws := w_Ex_turnOnce) B.pre
  have hg : ∀ w ∈ gw, w.before _ s = true := fun w h => hts w (List.mem_cons_of_mem _ h)
  have hown : s.vm.findClass "SceneEasel$Extent" = some m.cls := findClass_of_methodNamed B.named
  have hlocks := B.notSynchronized
  have hK := hE.K
  have hS : va_S (hp_A S0) s.heap s.heap [] := va_S.rf
  have hl := lv_entry ([.ref a]) (n := 1) (Nat.le_of_ble_eq_true rfl)
  rw [lg_entry_eq]
  generalize (lg_sl ([.ref a]) ++ List.replicate (1 - (lg_sl ([.ref a])).length) Slot.unset).toArray = ls at hl ⊢
  have hl : lv_has ls 1 [(0, .ref a)] := hl
  refine lv_aload_n hx hb d_Ex_turnOnce_0 rfl (lv_at hl 0 rfl) ?_
  refine lv_aload_n hx hb d_Ex_turnOnce_1 rfl (lv_at hl 0 rfl) ?_
  refine hp_get (ci := 0) (v := .double gb) (C := R_Ex) (T := F_Ex) (N := 5) hx hb hg i_Ex hown hK hI ha rfl 4 (by decide) (hg _ k_136) (fun _ h9 => h9) rfl d_Ex_turnOnce_2 ?_
  refine lv_dneg hx hb d_Ex_turnOnce_5 ?_
  refine lv_aload_n hx hb d_Ex_turnOnce_6 rfl (lv_at hl 0 rfl) ?_
  refine hp_get (ci := 0) (v := .double la) (C := R_Ex) (T := F_Ex) (N := 5) hx hb hg i_Ex hown hK hI ha rfl 1 (by decide) (hg _ k_133) (fun _ h9 => h9) rfl d_Ex_turnOnce_7 ?_
  refine lv_aload_n hx hb d_Ex_turnOnce_10 rfl (lv_at hl 0 rfl) ?_
  refine hp_get (ci := 0) (v := .double lb) (C := R_Ex) (T := F_Ex) (N := 5) hx hb hg i_Ex hown hK hI ha rfl 2 (by decide) (hg _ k_134) (fun _ h9 => h9) rfl d_Ex_turnOnce_11 ?_
  refine lv_dneg hx hb d_Ex_turnOnce_14 ?_
  refine lv_aload_n hx hb d_Ex_turnOnce_15 rfl (lv_at hl 0 rfl) ?_
  refine hp_get (ci := 0) (v := .double ga) (C := R_Ex) (T := F_Ex) (N := 5) hx hb hg i_Ex hown hK hI ha rfl 3 (by decide) (hg _ k_135) (fun _ h9 => h9) rfl d_Ex_turnOnce_16 ?_
  refine ec_v (va_runV (As := [.double (FP.dneg gb), .double la, .double (FP.dneg lb), .double ga]) (rest := []) ⟨hx, hb, hml, hown, hts⟩ (m_Ex_span l G S0 w a (FP.dneg gb) la (FP.dneg lb) ga ha) (cwV 4 hts (gw_V k_735 k_725 k_35 k_65 k_726) rfl rfl rfl (by decide +kernel) ⟨Nat.le_of_ble_eq_true rfl, Nat.le_of_ble_eq_true rfl⟩) (eB.preV hE hI hS hz rfl ha) rfl rfl hl.1 rfl (lv_room (Nat.le_of_ble_eq_true rfl)) d_Ex_turnOnce_19 ⟨Nat.le_of_ble_eq_true rfl, Nat.le_of_ble_eq_true rfl⟩) hS (fun w_1 H locs ew_1 hI hsz hS => ?_)
  have ha : w_1 a = some (.inr (0, [.int 0, .double (FP.dneg gb), .double la, .double (FP.dneg lb), .double ga])) := by rw [ew_1]; exact hp_set_eq _ _ _
  exact W.vret hx hb hr (fun t ht hW => ⟨⟨w_1, rfl, ew_1, eWo ht hI⟩, hS.F ht⟩) hS.2.2 d_Ex_turnOnce_22
set_option maxHeartbeats 4000000 in
set_option maxRecDepth 100000 in
theorem m_Ex_shift (l : Launch) (G : EG) (S0 : Nat) (w : hp_M) (a : Nat) (x y : UInt64) {e0 : Int32} {la lb ga gb : UInt64} (ha : w a = some (oEx e0 la lb ga gb)) (h1 : vf_n64 (FP.dadd la x)) (h2 : vf_n64 (FP.dadd lb y)) (h3 : vf_n64 (FP.dadd ga x)) (h4 : vf_n64 (FP.dadd gb y)) : Met l y_Ex_shift w_Ex_shift (rl 1 0 0) (eP G S0 w [.ref a, .double x, .double y]) (va_Qv (fun u => u = hp_set w a (oEx 0 (FP.dadd la x) (FP.dadd lb y) (FP.dadd ga x) (FP.dadd gb y))) (eW G S0) (hp_A S0)) 0 0 (hp_A S0) := by
  refine Met.ofW (cc := b_Ex_shift) (maxL := 5) (ret := none) (by decide) rfl ?_
  intro p e s m args below meth c s₁ B hml hv
  obtain ⟨rfl, hE, hI, hz⟩ := hv
  have hx := B.exec
  have hb := B.bytes
  have hr := B.returns
  have hts := atoms_spec (ws := w_Ex_shift) B.pre
  have hg : ∀ w ∈ gw, w.before _ s = true := fun w h => hts w (List.mem_cons_of_mem _ h)
  have hown : s.vm.findClass "SceneEasel$Extent" = some m.cls := findClass_of_methodNamed B.named
  have hlocks := B.notSynchronized
  have hK := hE.K
  have hS : va_S (hp_A S0) s.heap s.heap [] := va_S.rf
  have hl := lv_entry ([.ref a, .double x, .double y]) (n := 5) (Nat.le_of_ble_eq_true rfl)
  rw [lg_entry_eq]
  generalize (lg_sl ([.ref a, .double x, .double y]) ++ List.replicate (5 - (lg_sl ([.ref a, .double x, .double y])).length) Slot.unset).toArray = ls at hl ⊢
  have hl : lv_has ls 5 [(0, .ref a), (1, .double x), (3, .double y)] := hl
  refine lv_aload_n hx hb d_Ex_shift_0 rfl (lv_at hl 0 rfl) ?_
  refine lv_aload_n hx hb d_Ex_shift_1 rfl (lv_at hl 0 rfl) ?_
  refine hp_get (ci := 0) (v := .double la) (C := R_Ex) (T := F_Ex) (N := 5) hx hb hg i_Ex hown hK hI ha rfl 1 (by decide) (hg _ k_133) (fun _ h9 => h9) rfl d_Ex_shift_2 ?_
  refine lv_dload_n hx hb d_Ex_shift_5 rfl (lv_at hl 1 rfl) ?_
  refine lv_dadd hx hb d_Ex_shift_6 h1 ?_
  refine lv_aload_n hx hb d_Ex_shift_7 rfl (lv_at hl 0 rfl) ?_
  refine hp_get (ci := 0) (v := .double lb) (C := R_Ex) (T := F_Ex) (N := 5) hx hb hg i_Ex hown hK hI ha rfl 2 (by decide) (hg _ k_134) (fun _ h9 => h9) rfl d_Ex_shift_8 ?_
  refine lv_dload_n hx hb d_Ex_shift_11 rfl (lv_at hl 2 rfl) ?_
  refine lv_dadd hx hb d_Ex_shift_12 h2 ?_
  refine lv_aload_n hx hb d_Ex_shift_13 rfl (lv_at hl 0 rfl) ?_
  refine hp_get (ci := 0) (v := .double ga) (C := R_Ex) (T := F_Ex) (N := 5) hx hb hg i_Ex hown hK hI ha rfl 3 (by decide) (hg _ k_135) (fun _ h9 => h9) rfl d_Ex_shift_14 ?_
  refine lv_dload_n hx hb d_Ex_shift_17 rfl (lv_at hl 1 rfl) ?_
  refine lv_dadd hx hb d_Ex_shift_18 h3 ?_
  refine lv_aload_n hx hb d_Ex_shift_19 rfl (lv_at hl 0 rfl) ?_
  refine hp_get (ci := 0) (v := .double gb) (C := R_Ex) (T := F_Ex) (N := 5) hx hb hg i_Ex hown hK hI ha rfl 4 (by decide) (hg _ k_136) (fun _ h9 => h9) rfl d_Ex_shift_20 ?_
  refine lv_dload_n hx hb d_Ex_shift_23 rfl (lv_at hl 2 rfl) ?_
  refine lv_dadd hx hb d_Ex_shift_24 h4 ?_
  refine ec_v (va_runV (As := [.double (FP.dadd la x), .double (FP.dadd lb y), .double (FP.dadd ga x), .double (FP.dadd gb y)]) (rest := []) ⟨hx, hb, hml, hown, hts⟩ (m_Ex_span l G S0 w a (FP.dadd la x) (FP.dadd lb y) (FP.dadd ga x) (FP.dadd gb y) ha) (cwV 4 hts (gw_V k_735 k_725 k_35 k_65 k_726) rfl rfl rfl (by decide +kernel) ⟨Nat.le_of_ble_eq_true rfl, Nat.le_of_ble_eq_true rfl⟩) (eB.preV hE hI hS hz rfl ha) rfl rfl hl.1 rfl (lv_room (Nat.le_of_ble_eq_true rfl)) d_Ex_shift_25 ⟨Nat.le_of_ble_eq_true rfl, Nat.le_of_ble_eq_true rfl⟩) hS (fun w_1 H locs ew_1 hI hsz hS => ?_)
  have ha : w_1 a = some (.inr (0, [.int 0, .double (FP.dadd la x), .double (FP.dadd lb y), .double (FP.dadd ga x), .double (FP.dadd gb y)])) := by rw [ew_1]; exact hp_set_eq _ _ _
  exact W.vret hx hb hr (fun t ht hW => ⟨⟨w_1, rfl, ew_1, eWo ht hI⟩, hS.F ht⟩) hS.2.2 d_Ex_shift_28
end
section
/-! joining of branches, loops; comparisons of doubles -/
section WFlow
variable {p : Program} {l : Launch} {e : Env} {R : Room} {s : State} {m : MethodId} {args : Array Value} {below : List Frame} {meth : Method} {c : Code} {cells slots : Nat} {Q : State → Prop}
/-- what comes behind a joint, taken once -/
theorem W.mid {α : Type} {H0 : Heap} {l0 : List Loc} {g0 : JFrame} (P : α → Prop) (Hf : α → Heap) (lf : α → List Loc) (g : α → JFrame) (k : ∀ v, P v → W p l e R s m args below meth c (Hf v) (lf v) cells slots Q (g v))
    (kk : (∀ v, P v → W p l e R s m args below meth c (Hf v) (lf v) cells slots Q (g v)) → W p l e R s m args below meth c H0 l0 cells slots Q g0) : W p l e R s m args below meth c H0 l0 cells slots Q g0 := kk k
/-- the same, the heap as it is -/
theorem W.mi1 {α : Type} {H0 : Heap} {l0 : List Loc} {g0 : JFrame} (P : α → Prop) (g : α → JFrame) (k : ∀ v, P v → W p l e R s m args below meth c H0 l0 cells slots Q (g v))
    (kk : (∀ v, P v → W p l e R s m args below meth c H0 l0 cells slots Q (g v)) → W p l e R s m args below meth c H0 l0 cells slots Q g0) : W p l e R s m args below meth c H0 l0 cells slots Q g0 := kk k
/-- a loop: a number that falls -/
theorem W.lp {α : Type} (P : Nat → α → Prop) (Hf : α → Heap) (lf : α → List Loc) (g : α → JFrame) (N : Nat) (v0 : α) (h0 : P N v0)
    (step : ∀ n v, P n v → (∀ n' v', n' < n → P n' v' → W p l e R s m args below meth c (Hf v') (lf v') cells slots Q (g v')) → W p l e R s m args below meth c (Hf v) (lf v) cells slots Q (g v)) :
    W p l e R s m args below meth c (Hf v0) (lf v0) cells slots Q (g v0) := by
  have key : ∀ N n v, n < N → P n v → W p l e R s m args below meth c (Hf v) (lf v) cells slots Q (g v) := by
    intro N
    induction N with
    | zero => intro n v h _; exact absurd h (Nat.not_lt_zero n)
    | succ N ih =>
      intro n v h hp
      exact step n v hp (fun n' v' h1 h2 => ih n' v' (by omega) h2)
  exact key (N + 1) N v0 (Nat.lt_succ_self N) h0
theorem W.lp1 {α : Type} {H : Heap} {locs : List Loc} (P : Nat → α → Prop) (g : α → JFrame) (N : Nat) (v0 : α) (h0 : P N v0)
    (step : ∀ n v, P n v → (∀ n' v', n' < n → P n' v' → W p l e R s m args below meth c H locs cells slots Q (g v')) → W p l e R s m args below meth c H locs cells slots Q (g v)) :
    W p l e R s m args below meth c H locs cells slots Q (g v0) := W.lp P (fun _ => H) (fun _ => locs) g N v0 h0 step
end WFlow
theorem cv_g_ge {o : Option Ordering} : 0 ≤ Op.cmpValue o .g ↔ ¬ o = some .lt := by
  rcases o with _ | (_ | _ | _) <;> decide
theorem cv_g_gt {o : Option Ordering} : 0 < Op.cmpValue o .g ↔ (o = some .gt ∨ o = none) := by
  rcases o with _ | (_ | _ | _) <;> decide
theorem cv_g_le {o : Option Ordering} : Op.cmpValue o .g ≤ 0 ↔ (o = some .lt ∨ o = some .eq) := by
  rcases o with _ | (_ | _ | _) <;> decide
theorem cv_g_lt {o : Option Ordering} : Op.cmpValue o .g < 0 ↔ o = some .lt := by
  rcases o with _ | (_ | _ | _) <;> decide
theorem cv_g_eq {o : Option Ordering} : Op.cmpValue o .g = 0 ↔ o = some .eq := by
  rcases o with _ | (_ | _ | _) <;> decide
theorem cv_l_ge {o : Option Ordering} : 0 ≤ Op.cmpValue o .l ↔ (o = some .gt ∨ o = some .eq) := by
  rcases o with _ | (_ | _ | _) <;> decide
theorem cv_l_gt {o : Option Ordering} : 0 < Op.cmpValue o .l ↔ o = some .gt := by
  rcases o with _ | (_ | _ | _) <;> decide
theorem cv_l_le {o : Option Ordering} : Op.cmpValue o .l ≤ 0 ↔ ¬ o = some .gt := by
  rcases o with _ | (_ | _ | _) <;> decide
theorem cv_l_lt {o : Option Ordering} : Op.cmpValue o .l < 0 ↔ (o = some .lt ∨ o = none) := by
  rcases o with _ | (_ | _ | _) <;> decide
theorem cv_l_eq {o : Option Ordering} : Op.cmpValue o .l = 0 ↔ o = some .eq := by
  rcases o with _ | (_ | _ | _) <;> decide
/-- the lesser, the greater, as the class takes them -/
def dlo (o x : UInt64) : UInt64 := if FP.dcmp o x = some .lt then o else x
def dhi (o x : UInt64) : UInt64 := if FP.dcmp o x = some .gt then o else x
/-- a zero without a sign -/
def dz0 (x : UInt64) : UInt64 := if FP.dcmp x FP.dconst0 = some .eq then FP.dconst0 else x
/-- at most, at least, as the doubles are compared -/
abbrev dle (x y : UInt64) : Prop := FP.dcmp x y = some .lt ∨ FP.dcmp x y = some .eq
abbrev dge (x y : UInt64) : Prop := FP.dcmp x y = some .gt ∨ FP.dcmp x y = some .eq
end
section
set_option maxHeartbeats 4000000 in
set_option maxRecDepth 100000 in
theorem m_Ex_join0 (l : Launch) (G : EG) (S0 : Nat) (w : hp_M) (a b : Nat) {e0 oe : Int32} {la lb ga gb oa ob oc od : UInt64} (ha : w a = some (oEx e0 la lb ga gb)) (hb' : w b = some (oEx oe oa ob oc od)) (h0 : ¬ oe = 0) : Met l y_Ex_join w_Ex_join (rl 1 0 0) (eP G S0 w [.ref a, .ref b]) (va_Qv (fun u => u = w) (eW G S0) (hp_A S0)) 0 0 (hp_A S0) := by
  refine Met.ofW (cc := b_Ex_join) (maxL := 2) (ret := none) (by decide) rfl ?_
  intro p e s m args below meth c s₁ B hml hv
  obtain ⟨rfl, hE, hI, hz⟩ := hv
  have hx := B.exec
  have hb := B.bytes
  have hr := B.returns
  have hts := atoms_spec (ws := w_Ex_join) B.pre
  have hg : ∀ w ∈ gw, w.before _ s = true := fun w h => hts w (List.mem_cons_of_mem _ h)
  have hown : s.vm.findClass "SceneEasel$Extent" = some m.cls := findClass_of_methodNamed B.named
  have hlocks := B.notSynchronized
  have hK := hE.K
  have hS : va_S (hp_A S0) s.heap s.heap [] := va_S.rf
  have hl := lv_entry ([.ref a, .ref b]) (n := 2) (Nat.le_of_ble_eq_true rfl)
  rw [lg_entry_eq]
  generalize (lg_sl ([.ref a, .ref b]) ++ List.replicate (2 - (lg_sl ([.ref a, .ref b])).length) Slot.unset).toArray = ls at hl ⊢
  have hl : lv_has ls 2 [(0, .ref a), (1, .ref b)] := hl
  refine lv_aload_n hx hb d_Ex_join_0 rfl (lv_at hl 1 rfl) ?_
  refine hp_get (ci := 0) (v := .int oe) (C := R_Ex) (T := F_Ex) (N := 5) hx hb hg i_Ex hown hK hI hb' rfl 0 (by decide) (hg _ k_130) (fun _ h9 => h9) rfl d_Ex_join_1 ?_
  refine lv_if_eq (tgt := 8) hx hb d_Ex_join_4 (by decide) (fun c1 => ?_) (fun c1 => ?_)
  · exact absurd c1 h0
  · exact W.vret hx hb hr (fun t ht hW => ⟨⟨w, rfl, rfl, eWo ht hI⟩, hS.F ht⟩) hS.2.2 d_Ex_join_7
set_option maxHeartbeats 4000000 in
set_option maxRecDepth 100000 in
theorem m_Ex_join1 (l : Launch) (G : EG) (S0 : Nat) (w : hp_M) (a b : Nat) {e0 oe : Int32} {la lb ga gb oa ob oc od : UInt64} (ha : w a = some (oEx e0 la lb ga gb)) (hb' : w b = some (oEx oe oa ob oc od)) (h0 : oe = 0) (h1 : ¬ e0 = 0) : Met l y_Ex_join w_Ex_join (rl 1 0 0) (eP G S0 w [.ref a, .ref b]) (va_Qv (fun u => u = hp_set w a (oEx 0 oa ob oc od)) (eW G S0) (hp_A S0)) 0 0 (hp_A S0) := by
  refine Met.ofW (cc := b_Ex_join) (maxL := 2) (ret := none) (by decide) rfl ?_
  intro p e s m args below meth c s₁ B hml hv
  obtain ⟨rfl, hE, hI, hz⟩ := hv
  have hx := B.exec
  have hb := B.bytes
  have hr := B.returns
  have hts := atoms_spec (ws := w_Ex_join) B.pre
  have hg : ∀ w ∈ gw, w.before _ s = true := fun w h => hts w (List.mem_cons_of_mem _ h)
  have hown : s.vm.findClass "SceneEasel$Extent" = some m.cls := findClass_of_methodNamed B.named
  have hlocks := B.notSynchronized
  have hK := hE.K
  have hS : va_S (hp_A S0) s.heap s.heap [] := va_S.rf
  have hl := lv_entry ([.ref a, .ref b]) (n := 2) (Nat.le_of_ble_eq_true rfl)
  rw [lg_entry_eq]
  generalize (lg_sl ([.ref a, .ref b]) ++ List.replicate (2 - (lg_sl ([.ref a, .ref b])).length) Slot.unset).toArray = ls at hl ⊢
  have hl : lv_has ls 2 [(0, .ref a), (1, .ref b)] := hl
  refine lv_aload_n hx hb d_Ex_join_0 rfl (lv_at hl 1 rfl) ?_
  refine hp_get (ci := 0) (v := .int oe) (C := R_Ex) (T := F_Ex) (N := 5) hx hb hg i_Ex hown hK hI hb' rfl 0 (by decide) (hg _ k_130) (fun _ h9 => h9) rfl d_Ex_join_1 ?_
  refine lv_if_eq (tgt := 8) hx hb d_Ex_join_4 (by decide) (fun c1 => ?_) (fun c1 => ?_)
  · refine lv_aload_n hx hb d_Ex_join_8 rfl (lv_at hl 0 rfl) ?_
    refine hp_get (ci := 0) (v := .int e0) (C := R_Ex) (T := F_Ex) (N := 5) hx hb hg i_Ex hown hK hI ha rfl 0 (by decide) (hg _ k_130) (fun _ h9 => h9) rfl d_Ex_join_9 ?_
    refine lv_if_eq (tgt := 36) hx hb d_Ex_join_12 (by decide) (fun c2 => ?_) (fun c2 => ?_)
    · exact absurd c2 h1
    · refine lv_aload_n hx hb d_Ex_join_15 rfl (lv_at hl 0 rfl) ?_
      refine lv_aload_n hx hb d_Ex_join_16 rfl (lv_at hl 1 rfl) ?_
      refine hp_get (ci := 0) (v := .double oa) (C := R_Ex) (T := F_Ex) (N := 5) hx hb hg i_Ex hown hK hI hb' rfl 1 (by decide) (hg _ k_133) (fun _ h9 => h9) rfl d_Ex_join_17 ?_
      refine lv_aload_n hx hb d_Ex_join_20 rfl (lv_at hl 1 rfl) ?_
      refine hp_get (ci := 0) (v := .double ob) (C := R_Ex) (T := F_Ex) (N := 5) hx hb hg i_Ex hown hK hI hb' rfl 2 (by decide) (hg _ k_134) (fun _ h9 => h9) rfl d_Ex_join_21 ?_
      refine lv_aload_n hx hb d_Ex_join_24 rfl (lv_at hl 1 rfl) ?_
      refine hp_get (ci := 0) (v := .double oc) (C := R_Ex) (T := F_Ex) (N := 5) hx hb hg i_Ex hown hK hI hb' rfl 3 (by decide) (hg _ k_135) (fun _ h9 => h9) rfl d_Ex_join_25 ?_
      refine lv_aload_n hx hb d_Ex_join_28 rfl (lv_at hl 1 rfl) ?_
      refine hp_get (ci := 0) (v := .double od) (C := R_Ex) (T := F_Ex) (N := 5) hx hb hg i_Ex hown hK hI hb' rfl 4 (by decide) (hg _ k_136) (fun _ h9 => h9) rfl d_Ex_join_29 ?_
      refine ec_v (va_runV (As := [.double oa, .double ob, .double oc, .double od]) (rest := []) ⟨hx, hb, hml, hown, hts⟩ (m_Ex_span l G S0 w a oa ob oc od ha) (cwV 4 hts (gw_V k_735 k_725 k_35 k_65 k_726) rfl rfl rfl (by decide +kernel) ⟨Nat.le_of_ble_eq_true rfl, Nat.le_of_ble_eq_true rfl⟩) (eB.preV hE hI hS hz rfl ha) rfl rfl hl.1 rfl (lv_room (Nat.le_of_ble_eq_true rfl)) d_Ex_join_32 ⟨Nat.le_of_ble_eq_true rfl, Nat.le_of_ble_eq_true rfl⟩) hS (fun w_1 H locs ew_1 hI hsz hS => ?_)
      have hb' : w_1 b = some (.inr (0, [.int oe, .double oa, .double ob, .double oc, .double od])) := by rw [ew_1, hp_set_ne (fun h => h1 (by rw [h] at hb'; have := ha.symm.trans hb'; injection this with this; injection this with this; injection this with _ this; injection this with this; injection this with this; rw [this]; exact h0))]; exact hb'
      have ha : w_1 a = some (.inr (0, [.int 0, .double oa, .double ob, .double oc, .double od])) := by rw [ew_1]; exact hp_set_eq _ _ _
      exact W.vret hx hb hr (fun t ht hW => ⟨⟨w_1, rfl, ew_1, eWo ht hI⟩, hS.F ht⟩) hS.2.2 d_Ex_join_35
  · exact absurd h0 c1
set_option maxHeartbeats 4000000 in
set_option maxRecDepth 100000 in
theorem m_Ex_join2 (l : Launch) (G : EG) (S0 : Nat) (w : hp_M) (a b : Nat) (hab : b ≠ a) {e0 oe : Int32} {la lb ga gb oa ob oc od : UInt64} (ha : w a = some (oEx e0 la lb ga gb)) (hb' : w b = some (oEx oe oa ob oc od)) (h0 : oe = 0) (h1 : e0 = 0) : Met l y_Ex_join w_Ex_join (rl 1 0 0) (eP G S0 w [.ref a, .ref b]) (va_Qv (fun u => u = hp_set w a (oEx e0 (dlo oa la) (dlo ob lb) (dhi oc ga) (dhi od gb))) (eW G S0) (hp_A S0)) 0 0 (hp_A S0) := by
  refine Met.ofW (cc := b_Ex_join) (maxL := 2) (ret := none) (by decide) rfl ?_
  intro p e s m args below meth c s₁ B hml hv
  obtain ⟨rfl, hE, hI, hz⟩ := hv
  have hx := B.exec
  have hb := B.bytes
  have hr := B.returns
  have hts := atoms_spec (ws := w_Ex_join) B.pre
  have hg : ∀ w ∈ gw, w.before _ s = true := fun w h => hts w (List.mem_cons_of_mem _ h)
  have hown : s.vm.findClass "SceneEasel$Extent" = some m.cls := findClass_of_methodNamed B.named
  have hlocks := B.notSynchronized
  have hK := hE.K
  have hS : va_S (hp_A S0) s.heap s.heap [] := va_S.rf
  have hl := lv_entry ([.ref a, .ref b]) (n := 2) (Nat.le_of_ble_eq_true rfl)
  rw [lg_entry_eq]
  generalize (lg_sl ([.ref a, .ref b]) ++ List.replicate (2 - (lg_sl ([.ref a, .ref b])).length) Slot.unset).toArray = ls at hl ⊢
  have hl : lv_has ls 2 [(0, .ref a), (1, .ref b)] := hl
  refine lv_aload_n hx hb d_Ex_join_0 rfl (lv_at hl 1 rfl) ?_
  refine hp_get (ci := 0) (v := .int oe) (C := R_Ex) (T := F_Ex) (N := 5) hx hb hg i_Ex hown hK hI hb' rfl 0 (by decide) (hg _ k_130) (fun _ h9 => h9) rfl d_Ex_join_1 ?_
  refine lv_if_eq (tgt := 8) hx hb d_Ex_join_4 (by decide) (fun c1 => ?_) (fun c1 => ?_)
  · refine lv_aload_n hx hb d_Ex_join_8 rfl (lv_at hl 0 rfl) ?_
    refine hp_get (ci := 0) (v := .int e0) (C := R_Ex) (T := F_Ex) (N := 5) hx hb hg i_Ex hown hK hI ha rfl 0 (by decide) (hg _ k_130) (fun _ h9 => h9) rfl d_Ex_join_9 ?_
    refine lv_if_eq (tgt := 36) hx hb d_Ex_join_12 (by decide) (fun c2 => ?_) (fun c2 => ?_)
    · refine lv_aload_n hx hb d_Ex_join_36 rfl (lv_at hl 0 rfl) ?_
      refine lv_aload_n hx hb d_Ex_join_37 rfl (lv_at hl 1 rfl) ?_
      refine hp_get (ci := 0) (v := .double oa) (C := R_Ex) (T := F_Ex) (N := 5) hx hb hg i_Ex hown hK hI hb' rfl 1 (by decide) (hg _ k_133) (fun _ h9 => h9) rfl d_Ex_join_38 ?_
      refine lv_aload_n hx hb d_Ex_join_41 rfl (lv_at hl 0 rfl) ?_
      refine hp_get (ci := 0) (v := .double la) (C := R_Ex) (T := F_Ex) (N := 5) hx hb hg i_Ex hown hK hI ha rfl 1 (by decide) (hg _ k_133) (fun _ h9 => h9) rfl d_Ex_join_42 ?_
      refine lv_dcmp hx hb d_Ex_join_45 ?_
      refine W.mi1 (fun v1 : UInt64 => v1 = dlo oa la) (fun v1 => F0 m 60 ls (.double v1 :: .ref a :: [])) (fun v1 ev1 => ?_) (fun key => ?_)
      · refine hp_putC (ci := 0) (v := .double v1) (ty := .double) (C := R_Ex) (T := F_Ex) (N := 5) hx hb hg i_Ex t_Ex t_Ex_ok n_Ex hown hK hI hS ha rfl 1 (by decide) (hg _ k_133) (fun _ h9 => h9) rfl (by decide +kernel) rfl rfl (Nat.le_of_ble_eq_true rfl) d_Ex_join_60 (fun H locs hI hS hsz => ?_)
        obtain ⟨w_1, ew_1⟩ : ∃ z, z = hp_set w a (.inr (0, [.int e0, .double v1, .double lb, .double ga, .double gb])) := ⟨_, rfl⟩
        have hI : eI G S0 w_1 H := by rw [ew_1]; exact hI
        have hb' : w_1 b = some (.inr (0, [.int oe, .double oa, .double ob, .double oc, .double od])) := by rw [ew_1, hp_set_ne hab]; exact hb'
        have ha : w_1 a = some (.inr (0, [.int e0, .double v1, .double lb, .double ga, .double gb])) := by rw [ew_1]; exact hp_set_eq _ _ _
        refine lv_aload_n hx hb d_Ex_join_63 rfl (lv_at hl 0 rfl) ?_
        refine lv_aload_n hx hb d_Ex_join_64 rfl (lv_at hl 1 rfl) ?_
        refine hp_get (ci := 0) (v := .double ob) (C := R_Ex) (T := F_Ex) (N := 5) hx hb hg i_Ex hown hK hI hb' rfl 2 (by decide) (hg _ k_134) (fun _ h9 => h9) rfl d_Ex_join_65 ?_
        refine lv_aload_n hx hb d_Ex_join_68 rfl (lv_at hl 0 rfl) ?_
        refine hp_get (ci := 0) (v := .double lb) (C := R_Ex) (T := F_Ex) (N := 5) hx hb hg i_Ex hown hK hI ha rfl 2 (by decide) (hg _ k_134) (fun _ h9 => h9) rfl d_Ex_join_69 ?_
        refine lv_dcmp hx hb d_Ex_join_72 ?_
        refine W.mi1 (fun v2 : UInt64 => v2 = dlo ob lb) (fun v2 => F0 m 87 ls (.double v2 :: .ref a :: [])) (fun v2 ev2 => ?_) (fun key => ?_)
        · refine hp_putC (ci := 0) (v := .double v2) (ty := .double) (C := R_Ex) (T := F_Ex) (N := 5) hx hb hg i_Ex t_Ex t_Ex_ok n_Ex hown hK hI hS ha rfl 2 (by decide) (hg _ k_134) (fun _ h9 => h9) rfl (by decide +kernel) rfl rfl (Nat.le_of_ble_eq_true rfl) d_Ex_join_87 (fun H locs hI hS hsz => ?_)
          obtain ⟨w_2, ew_2⟩ : ∃ z, z = hp_set w_1 a (.inr (0, [.int e0, .double v1, .double v2, .double ga, .double gb])) := ⟨_, rfl⟩
          have hI : eI G S0 w_2 H := by rw [ew_2]; exact hI
          have hb' : w_2 b = some (.inr (0, [.int oe, .double oa, .double ob, .double oc, .double od])) := by rw [ew_2, hp_set_ne hab]; exact hb'
          have ha : w_2 a = some (.inr (0, [.int e0, .double v1, .double v2, .double ga, .double gb])) := by rw [ew_2]; exact hp_set_eq _ _ _
          refine lv_aload_n hx hb d_Ex_join_90 rfl (lv_at hl 0 rfl) ?_
          refine lv_aload_n hx hb d_Ex_join_91 rfl (lv_at hl 1 rfl) ?_
          refine hp_get (ci := 0) (v := .double oc) (C := R_Ex) (T := F_Ex) (N := 5) hx hb hg i_Ex hown hK hI hb' rfl 3 (by decide) (hg _ k_135) (fun _ h9 => h9) rfl d_Ex_join_92 ?_
          refine lv_aload_n hx hb d_Ex_join_95 rfl (lv_at hl 0 rfl) ?_
          refine hp_get (ci := 0) (v := .double ga) (C := R_Ex) (T := F_Ex) (N := 5) hx hb hg i_Ex hown hK hI ha rfl 3 (by decide) (hg _ k_135) (fun _ h9 => h9) rfl d_Ex_join_96 ?_
          refine lv_dcmp hx hb d_Ex_join_99 ?_
          refine W.mi1 (fun v3 : UInt64 => v3 = dhi oc ga) (fun v3 => F0 m 114 ls (.double v3 :: .ref a :: [])) (fun v3 ev3 => ?_) (fun key => ?_)
          · refine hp_putC (ci := 0) (v := .double v3) (ty := .double) (C := R_Ex) (T := F_Ex) (N := 5) hx hb hg i_Ex t_Ex t_Ex_ok n_Ex hown hK hI hS ha rfl 3 (by decide) (hg _ k_135) (fun _ h9 => h9) rfl (by decide +kernel) rfl rfl (Nat.le_of_ble_eq_true rfl) d_Ex_join_114 (fun H locs hI hS hsz => ?_)
            obtain ⟨w_3, ew_3⟩ : ∃ z, z = hp_set w_2 a (.inr (0, [.int e0, .double v1, .double v2, .double v3, .double gb])) := ⟨_, rfl⟩
            have hI : eI G S0 w_3 H := by rw [ew_3]; exact hI
            have hb' : w_3 b = some (.inr (0, [.int oe, .double oa, .double ob, .double oc, .double od])) := by rw [ew_3, hp_set_ne hab]; exact hb'
            have ha : w_3 a = some (.inr (0, [.int e0, .double v1, .double v2, .double v3, .double gb])) := by rw [ew_3]; exact hp_set_eq _ _ _
            refine lv_aload_n hx hb d_Ex_join_117 rfl (lv_at hl 0 rfl) ?_
            refine lv_aload_n hx hb d_Ex_join_118 rfl (lv_at hl 1 rfl) ?_
            refine hp_get (ci := 0) (v := .double od) (C := R_Ex) (T := F_Ex) (N := 5) hx hb hg i_Ex hown hK hI hb' rfl 4 (by decide) (hg _ k_136) (fun _ h9 => h9) rfl d_Ex_join_119 ?_
            refine lv_aload_n hx hb d_Ex_join_122 rfl (lv_at hl 0 rfl) ?_
            refine hp_get (ci := 0) (v := .double gb) (C := R_Ex) (T := F_Ex) (N := 5) hx hb hg i_Ex hown hK hI ha rfl 4 (by decide) (hg _ k_136) (fun _ h9 => h9) rfl d_Ex_join_123 ?_
            refine lv_dcmp hx hb d_Ex_join_126 ?_
            refine W.mi1 (fun v4 : UInt64 => v4 = dhi od gb) (fun v4 => F0 m 141 ls (.double v4 :: .ref a :: [])) (fun v4 ev4 => ?_) (fun key => ?_)
            · refine hp_putC (ci := 0) (v := .double v4) (ty := .double) (C := R_Ex) (T := F_Ex) (N := 5) hx hb hg i_Ex t_Ex t_Ex_ok n_Ex hown hK hI hS ha rfl 4 (by decide) (hg _ k_136) (fun _ h9 => h9) rfl (by decide +kernel) rfl rfl (Nat.le_of_ble_eq_true rfl) d_Ex_join_141 (fun H locs hI hS hsz => ?_)
              obtain ⟨w_4, ew_4⟩ : ∃ z, z = hp_set w_3 a (.inr (0, [.int e0, .double v1, .double v2, .double v3, .double v4])) := ⟨_, rfl⟩
              have hI : eI G S0 w_4 H := by rw [ew_4]; exact hI
              have hb' : w_4 b = some (.inr (0, [.int oe, .double oa, .double ob, .double oc, .double od])) := by rw [ew_4, hp_set_ne hab]; exact hb'
              have ha : w_4 a = some (.inr (0, [.int e0, .double v1, .double v2, .double v3, .double v4])) := by rw [ew_4]; exact hp_set_eq _ _ _
              exact W.vret hx hb hr (fun t ht hW => ⟨⟨w_4, rfl, by rw [ew_4, ew_3, ew_2, ew_1, hp_set_set, hp_set_set, hp_set_set]; rw [ev1, ev2, ev3, ev4], eWo ht hI⟩, hS.F ht⟩) hS.2.2 d_Ex_join_144
            · refine lv_if_le (tgt := 137) hx hb d_Ex_join_127 (by decide) (fun c3 => ?_) (fun c3 => ?_)
              · refine lv_aload_n hx hb d_Ex_join_137 rfl (lv_at hl 0 rfl) ?_
                refine hp_get (ci := 0) (v := .double gb) (C := R_Ex) (T := F_Ex) (N := 5) hx hb hg i_Ex hown hK hI ha rfl 4 (by decide) (hg _ k_136) (fun _ h9 => h9) rfl d_Ex_join_138 ?_
                exact key _ (by unfold dhi; rw [if_neg (cv_l_le.mp c3)])
              · refine lv_aload_n hx hb d_Ex_join_130 rfl (lv_at hl 1 rfl) ?_
                refine hp_get (ci := 0) (v := .double od) (C := R_Ex) (T := F_Ex) (N := 5) hx hb hg i_Ex hown hK hI hb' rfl 4 (by decide) (hg _ k_136) (fun _ h9 => h9) rfl d_Ex_join_131 ?_
                refine lv_goto (tgt := 141) hx hb d_Ex_join_134 (by decide) ?_
                exact key _ (by unfold dhi; rw [if_pos (Classical.not_not.mp (fun h => c3 (cv_l_le.mpr h)))])
          · refine lv_if_le (tgt := 110) hx hb d_Ex_join_100 (by decide) (fun c3 => ?_) (fun c3 => ?_)
            · refine lv_aload_n hx hb d_Ex_join_110 rfl (lv_at hl 0 rfl) ?_
              refine hp_get (ci := 0) (v := .double ga) (C := R_Ex) (T := F_Ex) (N := 5) hx hb hg i_Ex hown hK hI ha rfl 3 (by decide) (hg _ k_135) (fun _ h9 => h9) rfl d_Ex_join_111 ?_
              exact key _ (by unfold dhi; rw [if_neg (cv_l_le.mp c3)])
            · refine lv_aload_n hx hb d_Ex_join_103 rfl (lv_at hl 1 rfl) ?_
              refine hp_get (ci := 0) (v := .double oc) (C := R_Ex) (T := F_Ex) (N := 5) hx hb hg i_Ex hown hK hI hb' rfl 3 (by decide) (hg _ k_135) (fun _ h9 => h9) rfl d_Ex_join_104 ?_
              refine lv_goto (tgt := 114) hx hb d_Ex_join_107 (by decide) ?_
              exact key _ (by unfold dhi; rw [if_pos (Classical.not_not.mp (fun h => c3 (cv_l_le.mpr h)))])
        · refine lv_if_ge (tgt := 83) hx hb d_Ex_join_73 (by decide) (fun c3 => ?_) (fun c3 => ?_)
          · refine lv_aload_n hx hb d_Ex_join_83 rfl (lv_at hl 0 rfl) ?_
            refine hp_get (ci := 0) (v := .double lb) (C := R_Ex) (T := F_Ex) (N := 5) hx hb hg i_Ex hown hK hI ha rfl 2 (by decide) (hg _ k_134) (fun _ h9 => h9) rfl d_Ex_join_84 ?_
            exact key _ (by unfold dlo; rw [if_neg (cv_g_ge.mp c3)])
          · refine lv_aload_n hx hb d_Ex_join_76 rfl (lv_at hl 1 rfl) ?_
            refine hp_get (ci := 0) (v := .double ob) (C := R_Ex) (T := F_Ex) (N := 5) hx hb hg i_Ex hown hK hI hb' rfl 2 (by decide) (hg _ k_134) (fun _ h9 => h9) rfl d_Ex_join_77 ?_
            refine lv_goto (tgt := 87) hx hb d_Ex_join_80 (by decide) ?_
            exact key _ (by unfold dlo; rw [if_pos (Classical.not_not.mp (fun h => c3 (cv_g_ge.mpr h)))])
      · refine lv_if_ge (tgt := 56) hx hb d_Ex_join_46 (by decide) (fun c3 => ?_) (fun c3 => ?_)
        · refine lv_aload_n hx hb d_Ex_join_56 rfl (lv_at hl 0 rfl) ?_
          refine hp_get (ci := 0) (v := .double la) (C := R_Ex) (T := F_Ex) (N := 5) hx hb hg i_Ex hown hK hI ha rfl 1 (by decide) (hg _ k_133) (fun _ h9 => h9) rfl d_Ex_join_57 ?_
          exact key _ (by unfold dlo; rw [if_neg (cv_g_ge.mp c3)])
        · refine lv_aload_n hx hb d_Ex_join_49 rfl (lv_at hl 1 rfl) ?_
          refine hp_get (ci := 0) (v := .double oa) (C := R_Ex) (T := F_Ex) (N := 5) hx hb hg i_Ex hown hK hI hb' rfl 1 (by decide) (hg _ k_133) (fun _ h9 => h9) rfl d_Ex_join_50 ?_
          refine lv_goto (tgt := 60) hx hb d_Ex_join_53 (by decide) ?_
          exact key _ (by unfold dlo; rw [if_pos (Classical.not_not.mp (fun h => c3 (cv_g_ge.mpr h)))])
    · exact absurd h1 c2
  · exact absurd h0 c1
def xSide (k : Nat) (la lb ga gb : UInt64) : UInt64 := if k = 0 then la else if k = 1 then lb else if k = 2 then ga else gb
set_option maxHeartbeats 4000000 in
set_option maxRecDepth 100000 in
theorem m_Ex_side (l : Launch) (G : EG) (S0 : Nat) (w : hp_M) (a k : Nat) (hk : k < 4) {e0 : Int32} {la lb ga gb : UInt64} (ha : w a = some (oEx e0 la lb ga gb)) : Met l y_Ex_side w_Ex_side (rl 0 0 0) (eP G S0 w [.ref a, .int (nI k)]) (va_Qd (fun r u => r = dz0 (xSide k la lb ga gb) ∧ u = w) (eW G S0) (hp_A S0)) 0 0 (hp_A S0) := by
  refine Met.ofW (cc := b_Ex_side) (maxL := 4) (ret := (some .double)) (by decide) rfl ?_
  intro p e s m args below meth c s₁ B hml hv
  obtain ⟨rfl, hE, hI, hz⟩ := hv
  have hx := B.exec
  have hb := B.bytes
  have hr := B.returns
  have hts := atoms_spec (ws := w_Ex_side) B.pre
  have hg : ∀ w ∈ gw, w.before _ s = true := fun w h => hts w (List.mem_cons_of_mem _ h)
  have hown : s.vm.findClass "SceneEasel$Extent" = some m.cls := findClass_of_methodNamed B.named
  have hlocks := B.notSynchronized
  have hK := hE.K
  have hS : va_S (hp_A S0) s.heap s.heap [] := va_S.rf
  have hl := lv_entry ([.ref a, .int (nI k)]) (n := 4) (Nat.le_of_ble_eq_true rfl)
  rw [lg_entry_eq]
  generalize (lg_sl ([.ref a, .int (nI k)]) ++ List.replicate (4 - (lg_sl ([.ref a, .int (nI k)])).length) Slot.unset).toArray = ls at hl ⊢
  have hl : lv_has ls 4 [(0, .ref a), (1, .int (nI k))] := hl
  refine lv_iload_n hx hb d_Ex_side_0 rfl (lv_at hl 1 rfl) ?_
  refine W.mi1 (fun q : UInt64 × Array Slot => q.1 = xSide k la lb ga gb ∧ lv_has q.2 4 [(2, .double q.1), (0, .ref a), (1, .int (nI k))]) (fun q => F0 m 57 q.2 []) (fun q hq => ?_) (fun key => ?_)
  · obtain ⟨v, ls⟩ := q
    obtain ⟨ev, hl⟩ := hq
    dsimp only at ev hl ⊢
    refine lv_dload_n hx hb d_Ex_side_57 rfl (lv_at hl 0 rfl) ?_
    refine lv_dconst0 hx hb d_Ex_side_58 ?_
    refine lv_dcmp hx hb d_Ex_side_59 ?_
    refine lv_if_ne (tgt := 67) hx hb d_Ex_side_60 (by decide) (fun c1 => ?_) (fun c1 => ?_)
    · refine lv_dload_n hx hb d_Ex_side_67 rfl (lv_at hl 0 rfl) ?_
      exact W.dret (v := v) hx hb hr (fun t ht hW => ⟨⟨v, w, rfl, ⟨by rw [← ev]; unfold dz0; rw [if_neg (fun h => c1 (cv_l_eq.mpr h))], rfl⟩, eWo ht hI⟩, hS.F ht⟩) hS.2.2 d_Ex_side_68
    · refine lv_dconst0 hx hb d_Ex_side_63 ?_
      refine lv_goto (tgt := 68) hx hb d_Ex_side_64 (by decide) ?_
      exact W.dret (v := FP.dconst0) hx hb hr (fun t ht hW => ⟨⟨FP.dconst0, w, rfl, ⟨by rw [← ev]; unfold dz0; rw [if_pos (cv_l_eq.mp c1)], rfl⟩, eWo ht hI⟩, hS.F ht⟩) hS.2.2 d_Ex_side_68
  · have hti := nI_toInt (n := k) (by omega)
    rcases (show k = 0 ∨ k = 1 ∨ k = 2 ∨ k = 3 by omega) with h | h | h | h
    · refine lv_tableIn (tgt := 28) hx hb d_Ex_side_1 (by rw [hti]; omega) (by rw [hti]; omega) (off := 27) (by rw [hti, h]; rfl) (by decide) ?_
      refine lv_aload_n hx hb d_Ex_side_28 rfl (lv_at hl 0 rfl) ?_
      refine hp_get (ci := 0) (v := .double la) (C := R_Ex) (T := F_Ex) (N := 5) hx hb hg i_Ex hown hK hI ha rfl 1 (by decide) (hg _ k_133) (fun _ h9 => h9) rfl d_Ex_side_29 ?_
      refine lv_dstore_n (lv' := [(2, .double la), (0, .ref a), (1, .int (nI k))]) hx hb d_Ex_side_32 rfl hl (by decide) rfl (fun ls hl => ?_)
      refine lv_goto (tgt := 57) hx hb d_Ex_side_33 (by decide) ?_
      exact key (la, ls) ⟨by rw [h]; rfl, hl⟩
    · refine lv_tableIn (tgt := 36) hx hb d_Ex_side_1 (by rw [hti]; omega) (by rw [hti]; omega) (off := 35) (by rw [hti, h]; rfl) (by decide) ?_
      refine lv_aload_n hx hb d_Ex_side_36 rfl (lv_at hl 0 rfl) ?_
      refine hp_get (ci := 0) (v := .double lb) (C := R_Ex) (T := F_Ex) (N := 5) hx hb hg i_Ex hown hK hI ha rfl 2 (by decide) (hg _ k_134) (fun _ h9 => h9) rfl d_Ex_side_37 ?_
      refine lv_dstore_n (lv' := [(2, .double lb), (0, .ref a), (1, .int (nI k))]) hx hb d_Ex_side_40 rfl hl (by decide) rfl (fun ls hl => ?_)
      refine lv_goto (tgt := 57) hx hb d_Ex_side_41 (by decide) ?_
      exact key (lb, ls) ⟨by rw [h]; rfl, hl⟩
    · refine lv_tableIn (tgt := 44) hx hb d_Ex_side_1 (by rw [hti]; omega) (by rw [hti]; omega) (off := 43) (by rw [hti, h]; rfl) (by decide) ?_
      refine lv_aload_n hx hb d_Ex_side_44 rfl (lv_at hl 0 rfl) ?_
      refine hp_get (ci := 0) (v := .double ga) (C := R_Ex) (T := F_Ex) (N := 5) hx hb hg i_Ex hown hK hI ha rfl 3 (by decide) (hg _ k_135) (fun _ h9 => h9) rfl d_Ex_side_45 ?_
      refine lv_dstore_n (lv' := [(2, .double ga), (0, .ref a), (1, .int (nI k))]) hx hb d_Ex_side_48 rfl hl (by decide) rfl (fun ls hl => ?_)
      refine lv_goto (tgt := 57) hx hb d_Ex_side_49 (by decide) ?_
      exact key (ga, ls) ⟨by rw [h]; rfl, hl⟩
    · refine lv_tableOut (tgt := 52) hx hb d_Ex_side_1 (Or.inr (by rw [hti]; omega)) (by decide) ?_
      refine lv_aload_n hx hb d_Ex_side_52 rfl (lv_at hl 0 rfl) ?_
      refine hp_get (ci := 0) (v := .double gb) (C := R_Ex) (T := F_Ex) (N := 5) hx hb hg i_Ex hown hK hI ha rfl 4 (by decide) (hg _ k_136) (fun _ h9 => h9) rfl d_Ex_side_53 ?_
      refine lv_dstore_n (lv' := [(2, .double gb), (0, .ref a), (1, .int (nI k))]) hx hb d_Ex_side_56 rfl hl (by decide) rfl (fun ls hl => ?_)
      exact key (gb, ls) ⟨by rw [h]; rfl, hl⟩
end
section
/-! finite doubles: no NaN comes of them -/
theorem fx_nadd {x y : UInt64} (hx : FP.Core.DFin x) (hy : FP.Core.DFin y) : vf_n64 (FP.dadd x y) := by
  obtain ⟨s, c, q, ex⟩ := hx
  obtain ⟨t, d, r, ey⟩ := hy
  refine fx_nnan ?_
  show FP.Core.val64 (FP.Core.dadd x y) ≠ _
  rw [FP.Core.val64_dadd, ex, ey]
  exact FP.Core.roundRatio_ne_nan _ _ _ _ _
theorem fx_nsub {x y : UInt64} (hx : FP.Core.DFin x) (hy : FP.Core.DFin y) : vf_n64 (FP.dsub x y) := by
  obtain ⟨s, c, q, ex⟩ := hx
  obtain ⟨t, d, r, ey⟩ := hy
  refine fx_nnan ?_
  show FP.Core.val64 (FP.Core.dsub x y) ≠ _
  rw [FP.Core.val64_dsub, ex, ey]
  exact FP.Core.roundRatio_ne_nan _ _ _ _ _
theorem fx_nmul {x y : UInt64} (hx : FP.Core.DFin x) (hy : FP.Core.DFin y) : vf_n64 (FP.dmul x y) := by
  obtain ⟨s, c, q, ex⟩ := hx
  obtain ⟨t, d, r, ey⟩ := hy
  refine fx_nnan ?_
  show FP.Core.val64 (FP.Core.dmul x y) ≠ _
  rw [FP.Core.val64_dmul, ex, ey]
  exact FP.Core.roundRatio_ne_nan _ _ _ _ _
theorem fx_ndiv {j k : Nat} {m n : Int} {x y : UInt64} (hx : fx k m x) (hy : fx j n y) (hn : n ≠ 0) : vf_n64 (FP.ddiv x y) := by
  obtain ⟨s, t, c, d, q, r, hv, -⟩ := fx_quo hx hy hn
  refine fx_nnan ?_
  rw [hv]
  exact FP.Core.roundRatio_ne_nan _ _ _ _ _
theorem fx_fin_c1 : FP.Core.DFin FP.dconst1 := fx_c1.1
/-! Easel's numbers: floorOf, rounded, powerOfTwo -/
set_option maxHeartbeats 4000000 in
set_option maxRecDepth 100000 in
theorem m_Ea_floorOf (l : Launch) (G : EG) (S0 : Nat) (w : hp_M) (z : UInt64) : Met l y_Ea_floorOf w_Ea_floorOf (rl 0 0 0) (eP G S0 w [.double z]) (va_Qd (fun r u => r = fx_fl z ∧ u = w) (eW G S0) (hp_A S0)) 0 0 (hp_A S0) := by
  refine Met.ofW (cc := b_Ea_floorOf) (maxL := 4) (ret := (some .double)) (by decide) rfl ?_
  intro p e s m args below meth c s₁ B hml hv
  obtain ⟨rfl, hE, hI, hz⟩ := hv
  have hx := B.exec
  have hb := B.bytes
  have hr := B.returns
  have hts := atoms_spec (ws := w_Ea_floorOf) B.pre
  have hg : ∀ w ∈ gw, w.before _ s = true := fun w h => hts w (List.mem_cons_of_mem _ h)
  have hown : s.vm.findClass "SceneEasel" = some m.cls := findClass_of_methodNamed B.named
  have hlocks := B.notSynchronized
  have hK := hE.K
  have hS : va_S (hp_A S0) s.heap s.heap [] := va_S.rf
  have hl := lv_entry ([.double z]) (n := 4) (Nat.le_of_ble_eq_true rfl)
  rw [lg_entry_eq]
  generalize (lg_sl ([.double z]) ++ List.replicate (4 - (lg_sl ([.double z])).length) Slot.unset).toArray = ls at hl ⊢
  have hl : lv_has ls 4 [(0, .double z)] := hl
  refine lv_dload_n hx hb d_Ea_floorOf_0 rfl (lv_at hl 0 rfl) ?_
  refine lv_d2l hx hb d_Ea_floorOf_1 ?_
  refine lv_l2d hx hb d_Ea_floorOf_2 ?_
  refine lv_dstore_n (lv' := [(2, .double (FP.l2d (FP.d2l z))), (0, .double z)]) hx hb d_Ea_floorOf_3 rfl hl (by decide) rfl (fun ls hl => ?_)
  refine lv_dload_n hx hb d_Ea_floorOf_4 rfl (lv_at hl 0 rfl) ?_
  refine lv_dload_n hx hb d_Ea_floorOf_5 rfl (lv_at hl 1 rfl) ?_
  refine lv_dcmp hx hb d_Ea_floorOf_6 ?_
  refine lv_if_le (tgt := 16) hx hb d_Ea_floorOf_7 (by decide) (fun c1 => ?_) (fun c1 => ?_)
  · refine lv_dload_n hx hb d_Ea_floorOf_16 rfl (lv_at hl 0 rfl) ?_
    exact W.dret (v := (FP.l2d (FP.d2l z))) hx hb hr (fun t ht hW => ⟨⟨(FP.l2d (FP.d2l z)), w, rfl, ⟨by unfold fx_fl; rw [if_neg (cv_l_le.mp c1)], rfl⟩, eWo ht hI⟩, hS.F ht⟩) hS.2.2 d_Ea_floorOf_17
  · refine lv_dload_n hx hb d_Ea_floorOf_10 rfl (lv_at hl 0 rfl) ?_
    refine lv_dconst1 hx hb d_Ea_floorOf_11 ?_
    refine lv_dsub hx hb d_Ea_floorOf_12 (fx_nsub (FP.Core.l2d_fin _) fx_fin_c1) ?_
    refine lv_goto (tgt := 17) hx hb d_Ea_floorOf_13 (by decide) ?_
    exact W.dret (v := (FP.dsub (FP.l2d (FP.d2l z)) FP.dconst1)) hx hb hr (fun t ht hW => ⟨⟨(FP.dsub (FP.l2d (FP.d2l z)) FP.dconst1), w, rfl, ⟨by unfold fx_fl; rw [if_pos (Classical.not_not.mp (fun h => c1 (cv_l_le.mpr h)))], rfl⟩, eWo ht hI⟩, hS.F ht⟩) hS.2.2 d_Ea_floorOf_17
/-- rounded down to 64ths -/
def fx_64 : UInt64 := 4634204016564240384
def fx_rd (y : UInt64) : UInt64 := FP.ddiv (fx_fl (FP.dmul y fx_64)) fx_64
set_option maxHeartbeats 4000000 in
set_option maxRecDepth 100000 in
theorem m_Ea_rounded (l : Launch) (G : EG) (S0 : Nat) (w : hp_M) (y : UInt64) (h1 : vf_n64 (FP.dmul y fx_64)) (h2 : vf_n64 (FP.ddiv (fx_fl (FP.dmul y fx_64)) fx_64)) : Met l y_Ea_rounded w_Ea_rounded (rl 1 0 0) (eP G S0 w [.double y]) (va_Qd (fun r u => r = fx_rd y ∧ u = w) (eW G S0) (hp_A S0)) 0 0 (hp_A S0) := by
  refine Met.ofW (cc := b_Ea_rounded) (maxL := 2) (ret := (some .double)) (by decide) rfl ?_
  intro p e s m args below meth c s₁ B hml hv
  obtain ⟨rfl, hE, hI, hz⟩ := hv
  have hx := B.exec
  have hb := B.bytes
  have hr := B.returns
  have hts := atoms_spec (ws := w_Ea_rounded) B.pre
  have hg : ∀ w ∈ gw, w.before _ s = true := fun w h => hts w (List.mem_cons_of_mem _ h)
  have hown : s.vm.findClass "SceneEasel" = some m.cls := findClass_of_methodNamed B.named
  have hlocks := B.notSynchronized
  have hK := hE.K
  have hS : va_S (hp_A S0) s.heap s.heap [] := va_S.rf
  have hl := lv_entry ([.double y]) (n := 2) (Nat.le_of_ble_eq_true rfl)
  rw [lg_entry_eq]
  generalize (lg_sl ([.double y]) ++ List.replicate (2 - (lg_sl ([.double y])).length) Slot.unset).toArray = ls at hl ⊢
  have hl : lv_has ls 2 [(0, .double y)] := hl
  refine lv_dload_n hx hb d_Ea_rounded_0 rfl (lv_at hl 0 rfl) ?_
  refine lv_ldc2d (v := 4634204016564240384) hx hb hown (hg _ k_648) d_Ea_rounded_1 ?_
  refine lv_dmul hx hb d_Ea_rounded_4 h1 ?_
  refine ec_d (va_runS (As := [.double (FP.dmul y 4634204016564240384)]) (rest := []) ⟨hx, hb, hml, hown, hts⟩ (m_Ea_floorOf l G S0 w (FP.dmul y 4634204016564240384)) (cwS 1 hts (gw_S k_649 k_650 k_60 k_651) rfl rfl rfl (by decide +kernel) ⟨Nat.le_of_ble_eq_true rfl, Nat.le_of_ble_eq_true rfl⟩) (eB.preS hE hI hS hz) rfl rfl hl.1 rfl (lv_room (Nat.le_of_ble_eq_true rfl)) d_Ea_rounded_5 ⟨Nat.le_of_ble_eq_true rfl, Nat.le_of_ble_eq_true rfl⟩) hS (fun r_2 w_1 H locs ew_1 hI hsz hS => ?_)
  obtain ⟨er_2, ew_1⟩ := ew_1
  have ew_1 := ew_1.symm
  subst ew_1
  refine lv_ldc2d (v := 4634204016564240384) hx hb hown (hg _ k_648) d_Ea_rounded_8 ?_
  refine lv_ddiv hx hb d_Ea_rounded_11 (by rw [er_2]; exact h2) ?_
  exact W.dret (v := (FP.ddiv r_2 4634204016564240384)) hx hb hr (fun t ht hW => ⟨⟨(FP.ddiv r_2 4634204016564240384), w, rfl, ⟨by rw [er_2]; rfl, rfl⟩, eWo ht hI⟩, hS.F ht⟩) hS.2.2 d_Ea_rounded_12
/-- 2 to the power of a stretch -/
def pw2 (k : Int32) : UInt64 := if k = -2 then 4598175219545276416 else if k = -1 then 4602678819172646912 else if k = 0 then 4607182418800017408 else if k = 1 then 4611686018427387904 else 4616189618054758400
set_option maxHeartbeats 4000000 in
set_option maxRecDepth 100000 in
theorem m_Ea_powerOfTwo (l : Launch) (G : EG) (S0 : Nat) (w : hp_M) (k : Int32) (hk : k = -2 ∨ k = -1 ∨ k = 0 ∨ k = 1 ∨ k = 2) : Met l y_Ea_powerOfTwo w_Ea_powerOfTwo (rl 0 0 0) (eP G S0 w [.int k]) (va_Qd (fun r u => r = pw2 k ∧ u = w) (eW G S0) (hp_A S0)) 0 0 (hp_A S0) := by
  rcases hk with rfl | rfl | rfl | rfl | rfl
  · refine Met.ofW (cc := b_Ea_powerOfTwo) (maxL := 4) (ret := (some .double)) (by decide) rfl ?_
    intro p e s m args below meth c s₁ B hml hv
    obtain ⟨rfl, hE, hI, hz⟩ := hv
    have hx := B.exec
    have hb := B.bytes
    have hr := B.returns
    have hts := atoms_spec (ws := w_Ea_powerOfTwo) B.pre
    have hg : ∀ w ∈ gw, w.before _ s = true := fun w h => hts w (List.mem_cons_of_mem _ h)
    have hown : s.vm.findClass "SceneEasel" = some m.cls := findClass_of_methodNamed B.named
    have hlocks := B.notSynchronized
    have hK := hE.K
    have hS : va_S (hp_A S0) s.heap s.heap [] := va_S.rf
    have hl := lv_entry ([.int (-2)]) (n := 4) (Nat.le_of_ble_eq_true rfl)
    rw [lg_entry_eq]
    generalize (lg_sl ([.int (-2)]) ++ List.replicate (4 - (lg_sl ([.int (-2)])).length) Slot.unset).toArray = ls at hl ⊢
    have hl : lv_has ls 4 [(0, .int (-2))] := hl
    refine lv_dconst1 hx hb d_Ea_powerOfTwo_0 ?_
    refine lv_dstore_n (lv' := [(1, .double FP.dconst1), (0, .int (-2))]) hx hb d_Ea_powerOfTwo_1 rfl hl (by decide) rfl (fun ls hl => ?_)
    refine lv_iconst (v := 0) hx hb d_Ea_powerOfTwo_2 (by decide) ?_
    refine lv_istore_n (lv' := [(3, .int 0), (1, .double FP.dconst1), (0, .int (-2))]) hx hb d_Ea_powerOfTwo_3 rfl hl (by decide) rfl (fun ls hl => ?_)
    refine lv_iload_n hx hb d_Ea_powerOfTwo_4 rfl (lv_at hl 0 rfl) ?_
    refine lv_iload_n hx hb d_Ea_powerOfTwo_5 rfl (lv_at hl 2 rfl) ?_
    refine lv_icmp_ge (tgt := 21) hx hb d_Ea_powerOfTwo_6 (by decide) (fun c9 => ?_) (fun c9 => absurd (by decide) c9)
    refine lv_iconst (v := 0) hx hb d_Ea_powerOfTwo_21 (by decide) ?_
    refine lv_istore_n (lv' := [(3, .int 0), (1, .double FP.dconst1), (0, .int (-2))]) hx hb d_Ea_powerOfTwo_22 rfl hl (by decide) rfl (fun ls hl => ?_)
    refine lv_iload_n hx hb d_Ea_powerOfTwo_23 rfl (lv_at hl 0 rfl) ?_
    refine lv_iload_n hx hb d_Ea_powerOfTwo_24 rfl (lv_at hl 2 rfl) ?_
    refine lv_icmp_le (tgt := 40) hx hb d_Ea_powerOfTwo_25 (by decide) (fun c9 => absurd c9 (by decide)) (fun c9 => ?_)
    refine lv_dload_n hx hb d_Ea_powerOfTwo_28 rfl (lv_at hl 1 rfl) ?_
    refine lv_ldc2d (v := 4602678819172646912) hx hb hown (hg _ k_656) d_Ea_powerOfTwo_29 ?_
    refine lv_dmul hx hb d_Ea_powerOfTwo_32 (by unfold vf_n64; decide +kernel) ?_
    refine lv_dstore_n (lv' := [(1, .double (FP.dmul FP.dconst1 4602678819172646912)), (3, .int 0), (0, .int (-2))]) hx hb d_Ea_powerOfTwo_33 rfl hl (by decide) rfl (fun ls hl => ?_)
    refine lv_iinc (v := -1) (lv' := [(3, .int (-1)), (1, .double (FP.dmul FP.dconst1 4602678819172646912)), (0, .int (-2))]) hx hb d_Ea_powerOfTwo_34 hl (k := 1) rfl rfl (by decide) rfl (fun ls hl => ?_)
    refine lv_goto (tgt := 23) hx hb d_Ea_powerOfTwo_37 (by decide) ?_
    refine lv_iload_n hx hb d_Ea_powerOfTwo_23 rfl (lv_at hl 0 rfl) ?_
    refine lv_iload_n hx hb d_Ea_powerOfTwo_24 rfl (lv_at hl 2 rfl) ?_
    refine lv_icmp_le (tgt := 40) hx hb d_Ea_powerOfTwo_25 (by decide) (fun c9 => absurd c9 (by decide)) (fun c9 => ?_)
    refine lv_dload_n hx hb d_Ea_powerOfTwo_28 rfl (lv_at hl 1 rfl) ?_
    refine lv_ldc2d (v := 4602678819172646912) hx hb hown (hg _ k_656) d_Ea_powerOfTwo_29 ?_
    refine lv_dmul hx hb d_Ea_powerOfTwo_32 (by unfold vf_n64; decide +kernel) ?_
    refine lv_dstore_n (lv' := [(1, .double (FP.dmul (FP.dmul FP.dconst1 4602678819172646912) 4602678819172646912)), (3, .int (-1)), (0, .int (-2))]) hx hb d_Ea_powerOfTwo_33 rfl hl (by decide) rfl (fun ls hl => ?_)
    refine lv_iinc (v := -2) (lv' := [(3, .int (-2)), (1, .double (FP.dmul (FP.dmul FP.dconst1 4602678819172646912) 4602678819172646912)), (0, .int (-2))]) hx hb d_Ea_powerOfTwo_34 hl (k := 1) rfl rfl (by decide) rfl (fun ls hl => ?_)
    refine lv_goto (tgt := 23) hx hb d_Ea_powerOfTwo_37 (by decide) ?_
    refine lv_iload_n hx hb d_Ea_powerOfTwo_23 rfl (lv_at hl 0 rfl) ?_
    refine lv_iload_n hx hb d_Ea_powerOfTwo_24 rfl (lv_at hl 2 rfl) ?_
    refine lv_icmp_le (tgt := 40) hx hb d_Ea_powerOfTwo_25 (by decide) (fun c9 => ?_) (fun c9 => absurd (by decide) c9)
    refine lv_dload_n hx hb d_Ea_powerOfTwo_40 rfl (lv_at hl 1 rfl) ?_
    exact W.dret (v := (FP.dmul (FP.dmul FP.dconst1 4602678819172646912) 4602678819172646912)) hx hb hr (fun t ht hW => ⟨⟨(FP.dmul (FP.dmul FP.dconst1 4602678819172646912) 4602678819172646912), w, rfl, ⟨by decide +kernel, rfl⟩, eWo ht hI⟩, hS.F ht⟩) hS.2.2 d_Ea_powerOfTwo_41
  · refine Met.ofW (cc := b_Ea_powerOfTwo) (maxL := 4) (ret := (some .double)) (by decide) rfl ?_
    intro p e s m args below meth c s₁ B hml hv
    obtain ⟨rfl, hE, hI, hz⟩ := hv
    have hx := B.exec
    have hb := B.bytes
    have hr := B.returns
    have hts := atoms_spec (ws := w_Ea_powerOfTwo) B.pre
    have hg : ∀ w ∈ gw, w.before _ s = true := fun w h => hts w (List.mem_cons_of_mem _ h)
    have hown : s.vm.findClass "SceneEasel" = some m.cls := findClass_of_methodNamed B.named
    have hlocks := B.notSynchronized
    have hK := hE.K
    have hS : va_S (hp_A S0) s.heap s.heap [] := va_S.rf
    have hl := lv_entry ([.int (-1)]) (n := 4) (Nat.le_of_ble_eq_true rfl)
    rw [lg_entry_eq]
    generalize (lg_sl ([.int (-1)]) ++ List.replicate (4 - (lg_sl ([.int (-1)])).length) Slot.unset).toArray = ls at hl ⊢
    have hl : lv_has ls 4 [(0, .int (-1))] := hl
    refine lv_dconst1 hx hb d_Ea_powerOfTwo_0 ?_
    refine lv_dstore_n (lv' := [(1, .double FP.dconst1), (0, .int (-1))]) hx hb d_Ea_powerOfTwo_1 rfl hl (by decide) rfl (fun ls hl => ?_)
    refine lv_iconst (v := 0) hx hb d_Ea_powerOfTwo_2 (by decide) ?_
    refine lv_istore_n (lv' := [(3, .int 0), (1, .double FP.dconst1), (0, .int (-1))]) hx hb d_Ea_powerOfTwo_3 rfl hl (by decide) rfl (fun ls hl => ?_)
    refine lv_iload_n hx hb d_Ea_powerOfTwo_4 rfl (lv_at hl 0 rfl) ?_
    refine lv_iload_n hx hb d_Ea_powerOfTwo_5 rfl (lv_at hl 2 rfl) ?_
    refine lv_icmp_ge (tgt := 21) hx hb d_Ea_powerOfTwo_6 (by decide) (fun c9 => ?_) (fun c9 => absurd (by decide) c9)
    refine lv_iconst (v := 0) hx hb d_Ea_powerOfTwo_21 (by decide) ?_
    refine lv_istore_n (lv' := [(3, .int 0), (1, .double FP.dconst1), (0, .int (-1))]) hx hb d_Ea_powerOfTwo_22 rfl hl (by decide) rfl (fun ls hl => ?_)
    refine lv_iload_n hx hb d_Ea_powerOfTwo_23 rfl (lv_at hl 0 rfl) ?_
    refine lv_iload_n hx hb d_Ea_powerOfTwo_24 rfl (lv_at hl 2 rfl) ?_
    refine lv_icmp_le (tgt := 40) hx hb d_Ea_powerOfTwo_25 (by decide) (fun c9 => absurd c9 (by decide)) (fun c9 => ?_)
    refine lv_dload_n hx hb d_Ea_powerOfTwo_28 rfl (lv_at hl 1 rfl) ?_
    refine lv_ldc2d (v := 4602678819172646912) hx hb hown (hg _ k_656) d_Ea_powerOfTwo_29 ?_
    refine lv_dmul hx hb d_Ea_powerOfTwo_32 (by unfold vf_n64; decide +kernel) ?_
    refine lv_dstore_n (lv' := [(1, .double (FP.dmul FP.dconst1 4602678819172646912)), (3, .int 0), (0, .int (-1))]) hx hb d_Ea_powerOfTwo_33 rfl hl (by decide) rfl (fun ls hl => ?_)
    refine lv_iinc (v := -1) (lv' := [(3, .int (-1)), (1, .double (FP.dmul FP.dconst1 4602678819172646912)), (0, .int (-1))]) hx hb d_Ea_powerOfTwo_34 hl (k := 1) rfl rfl (by decide) rfl (fun ls hl => ?_)
    refine lv_goto (tgt := 23) hx hb d_Ea_powerOfTwo_37 (by decide) ?_
    refine lv_iload_n hx hb d_Ea_powerOfTwo_23 rfl (lv_at hl 0 rfl) ?_
    refine lv_iload_n hx hb d_Ea_powerOfTwo_24 rfl (lv_at hl 2 rfl) ?_
    refine lv_icmp_le (tgt := 40) hx hb d_Ea_powerOfTwo_25 (by decide) (fun c9 => ?_) (fun c9 => absurd (by decide) c9)
    refine lv_dload_n hx hb d_Ea_powerOfTwo_40 rfl (lv_at hl 1 rfl) ?_
    exact W.dret (v := (FP.dmul FP.dconst1 4602678819172646912)) hx hb hr (fun t ht hW => ⟨⟨(FP.dmul FP.dconst1 4602678819172646912), w, rfl, ⟨by decide +kernel, rfl⟩, eWo ht hI⟩, hS.F ht⟩) hS.2.2 d_Ea_powerOfTwo_41
  · refine Met.ofW (cc := b_Ea_powerOfTwo) (maxL := 4) (ret := (some .double)) (by decide) rfl ?_
    intro p e s m args below meth c s₁ B hml hv
    obtain ⟨rfl, hE, hI, hz⟩ := hv
    have hx := B.exec
    have hb := B.bytes
    have hr := B.returns
    have hts := atoms_spec (ws := w_Ea_powerOfTwo) B.pre
    have hg : ∀ w ∈ gw, w.before _ s = true := fun w h => hts w (List.mem_cons_of_mem _ h)
    have hown : s.vm.findClass "SceneEasel" = some m.cls := findClass_of_methodNamed B.named
    have hlocks := B.notSynchronized
    have hK := hE.K
    have hS : va_S (hp_A S0) s.heap s.heap [] := va_S.rf
    have hl := lv_entry ([.int 0]) (n := 4) (Nat.le_of_ble_eq_true rfl)
    rw [lg_entry_eq]
    generalize (lg_sl ([.int 0]) ++ List.replicate (4 - (lg_sl ([.int 0])).length) Slot.unset).toArray = ls at hl ⊢
    have hl : lv_has ls 4 [(0, .int 0)] := hl
    refine lv_dconst1 hx hb d_Ea_powerOfTwo_0 ?_
    refine lv_dstore_n (lv' := [(1, .double FP.dconst1), (0, .int 0)]) hx hb d_Ea_powerOfTwo_1 rfl hl (by decide) rfl (fun ls hl => ?_)
    refine lv_iconst (v := 0) hx hb d_Ea_powerOfTwo_2 (by decide) ?_
    refine lv_istore_n (lv' := [(3, .int 0), (1, .double FP.dconst1), (0, .int 0)]) hx hb d_Ea_powerOfTwo_3 rfl hl (by decide) rfl (fun ls hl => ?_)
    refine lv_iload_n hx hb d_Ea_powerOfTwo_4 rfl (lv_at hl 0 rfl) ?_
    refine lv_iload_n hx hb d_Ea_powerOfTwo_5 rfl (lv_at hl 2 rfl) ?_
    refine lv_icmp_ge (tgt := 21) hx hb d_Ea_powerOfTwo_6 (by decide) (fun c9 => ?_) (fun c9 => absurd (by decide) c9)
    refine lv_iconst (v := 0) hx hb d_Ea_powerOfTwo_21 (by decide) ?_
    refine lv_istore_n (lv' := [(3, .int 0), (1, .double FP.dconst1), (0, .int 0)]) hx hb d_Ea_powerOfTwo_22 rfl hl (by decide) rfl (fun ls hl => ?_)
    refine lv_iload_n hx hb d_Ea_powerOfTwo_23 rfl (lv_at hl 0 rfl) ?_
    refine lv_iload_n hx hb d_Ea_powerOfTwo_24 rfl (lv_at hl 2 rfl) ?_
    refine lv_icmp_le (tgt := 40) hx hb d_Ea_powerOfTwo_25 (by decide) (fun c9 => ?_) (fun c9 => absurd (by decide) c9)
    refine lv_dload_n hx hb d_Ea_powerOfTwo_40 rfl (lv_at hl 1 rfl) ?_
    exact W.dret (v := FP.dconst1) hx hb hr (fun t ht hW => ⟨⟨FP.dconst1, w, rfl, ⟨by decide +kernel, rfl⟩, eWo ht hI⟩, hS.F ht⟩) hS.2.2 d_Ea_powerOfTwo_41
  · refine Met.ofW (cc := b_Ea_powerOfTwo) (maxL := 4) (ret := (some .double)) (by decide) rfl ?_
    intro p e s m args below meth c s₁ B hml hv
    obtain ⟨rfl, hE, hI, hz⟩ := hv
    have hx := B.exec
    have hb := B.bytes
    have hr := B.returns
    have hts := atoms_spec (ws := w_Ea_powerOfTwo) B.pre
    have hg : ∀ w ∈ gw, w.before _ s = true := fun w h => hts w (List.mem_cons_of_mem _ h)
    have hown : s.vm.findClass "SceneEasel" = some m.cls := findClass_of_methodNamed B.named
    have hlocks := B.notSynchronized
    have hK := hE.K
    have hS : va_S (hp_A S0) s.heap s.heap [] := va_S.rf
    have hl := lv_entry ([.int 1]) (n := 4) (Nat.le_of_ble_eq_true rfl)
    rw [lg_entry_eq]
    generalize (lg_sl ([.int 1]) ++ List.replicate (4 - (lg_sl ([.int 1])).length) Slot.unset).toArray = ls at hl ⊢
    have hl : lv_has ls 4 [(0, .int 1)] := hl
    refine lv_dconst1 hx hb d_Ea_powerOfTwo_0 ?_
    refine lv_dstore_n (lv' := [(1, .double FP.dconst1), (0, .int 1)]) hx hb d_Ea_powerOfTwo_1 rfl hl (by decide) rfl (fun ls hl => ?_)
    refine lv_iconst (v := 0) hx hb d_Ea_powerOfTwo_2 (by decide) ?_
    refine lv_istore_n (lv' := [(3, .int 0), (1, .double FP.dconst1), (0, .int 1)]) hx hb d_Ea_powerOfTwo_3 rfl hl (by decide) rfl (fun ls hl => ?_)
    refine lv_iload_n hx hb d_Ea_powerOfTwo_4 rfl (lv_at hl 0 rfl) ?_
    refine lv_iload_n hx hb d_Ea_powerOfTwo_5 rfl (lv_at hl 2 rfl) ?_
    refine lv_icmp_ge (tgt := 21) hx hb d_Ea_powerOfTwo_6 (by decide) (fun c9 => absurd c9 (by decide)) (fun c9 => ?_)
    refine lv_dload_n hx hb d_Ea_powerOfTwo_9 rfl (lv_at hl 1 rfl) ?_
    refine lv_ldc2d (v := 4611686018427387904) hx hb hown (hg _ k_533) d_Ea_powerOfTwo_10 ?_
    refine lv_dmul hx hb d_Ea_powerOfTwo_13 (by unfold vf_n64; decide +kernel) ?_
    refine lv_dstore_n (lv' := [(1, .double (FP.dmul FP.dconst1 4611686018427387904)), (3, .int 0), (0, .int 1)]) hx hb d_Ea_powerOfTwo_14 rfl hl (by decide) rfl (fun ls hl => ?_)
    refine lv_iinc (v := 1) (lv' := [(3, .int (1)), (1, .double (FP.dmul FP.dconst1 4611686018427387904)), (0, .int 1)]) hx hb d_Ea_powerOfTwo_15 hl (k := 1) rfl rfl (by decide) rfl (fun ls hl => ?_)
    refine lv_goto (tgt := 4) hx hb d_Ea_powerOfTwo_18 (by decide) ?_
    refine lv_iload_n hx hb d_Ea_powerOfTwo_4 rfl (lv_at hl 0 rfl) ?_
    refine lv_iload_n hx hb d_Ea_powerOfTwo_5 rfl (lv_at hl 2 rfl) ?_
    refine lv_icmp_ge (tgt := 21) hx hb d_Ea_powerOfTwo_6 (by decide) (fun c9 => ?_) (fun c9 => absurd (by decide) c9)
    refine lv_iconst (v := 0) hx hb d_Ea_powerOfTwo_21 (by decide) ?_
    refine lv_istore_n (lv' := [(3, .int 0), (1, .double (FP.dmul FP.dconst1 4611686018427387904)), (0, .int 1)]) hx hb d_Ea_powerOfTwo_22 rfl hl (by decide) rfl (fun ls hl => ?_)
    refine lv_iload_n hx hb d_Ea_powerOfTwo_23 rfl (lv_at hl 0 rfl) ?_
    refine lv_iload_n hx hb d_Ea_powerOfTwo_24 rfl (lv_at hl 2 rfl) ?_
    refine lv_icmp_le (tgt := 40) hx hb d_Ea_powerOfTwo_25 (by decide) (fun c9 => ?_) (fun c9 => absurd (by decide) c9)
    refine lv_dload_n hx hb d_Ea_powerOfTwo_40 rfl (lv_at hl 1 rfl) ?_
    exact W.dret (v := (FP.dmul FP.dconst1 4611686018427387904)) hx hb hr (fun t ht hW => ⟨⟨(FP.dmul FP.dconst1 4611686018427387904), w, rfl, ⟨by decide +kernel, rfl⟩, eWo ht hI⟩, hS.F ht⟩) hS.2.2 d_Ea_powerOfTwo_41
  · refine Met.ofW (cc := b_Ea_powerOfTwo) (maxL := 4) (ret := (some .double)) (by decide) rfl ?_
    intro p e s m args below meth c s₁ B hml hv
    obtain ⟨rfl, hE, hI, hz⟩ := hv
    have hx := B.exec
    have hb := B.bytes
    have hr := B.returns
    have hts := atoms_spec (ws := w_Ea_powerOfTwo) B.pre
    have hg : ∀ w ∈ gw, w.before _ s = true := fun w h => hts w (List.mem_cons_of_mem _ h)
    have hown : s.vm.findClass "SceneEasel" = some m.cls := findClass_of_methodNamed B.named
    have hlocks := B.notSynchronized
    have hK := hE.K
    have hS : va_S (hp_A S0) s.heap s.heap [] := va_S.rf
    have hl := lv_entry ([.int 2]) (n := 4) (Nat.le_of_ble_eq_true rfl)
    rw [lg_entry_eq]
    generalize (lg_sl ([.int 2]) ++ List.replicate (4 - (lg_sl ([.int 2])).length) Slot.unset).toArray = ls at hl ⊢
    have hl : lv_has ls 4 [(0, .int 2)] := hl
    refine lv_dconst1 hx hb d_Ea_powerOfTwo_0 ?_
    refine lv_dstore_n (lv' := [(1, .double FP.dconst1), (0, .int 2)]) hx hb d_Ea_powerOfTwo_1 rfl hl (by decide) rfl (fun ls hl => ?_)
    refine lv_iconst (v := 0) hx hb d_Ea_powerOfTwo_2 (by decide) ?_
    refine lv_istore_n (lv' := [(3, .int 0), (1, .double FP.dconst1), (0, .int 2)]) hx hb d_Ea_powerOfTwo_3 rfl hl (by decide) rfl (fun ls hl => ?_)
    refine lv_iload_n hx hb d_Ea_powerOfTwo_4 rfl (lv_at hl 0 rfl) ?_
    refine lv_iload_n hx hb d_Ea_powerOfTwo_5 rfl (lv_at hl 2 rfl) ?_
    refine lv_icmp_ge (tgt := 21) hx hb d_Ea_powerOfTwo_6 (by decide) (fun c9 => absurd c9 (by decide)) (fun c9 => ?_)
    refine lv_dload_n hx hb d_Ea_powerOfTwo_9 rfl (lv_at hl 1 rfl) ?_
    refine lv_ldc2d (v := 4611686018427387904) hx hb hown (hg _ k_533) d_Ea_powerOfTwo_10 ?_
    refine lv_dmul hx hb d_Ea_powerOfTwo_13 (by unfold vf_n64; decide +kernel) ?_
    refine lv_dstore_n (lv' := [(1, .double (FP.dmul FP.dconst1 4611686018427387904)), (3, .int 0), (0, .int 2)]) hx hb d_Ea_powerOfTwo_14 rfl hl (by decide) rfl (fun ls hl => ?_)
    refine lv_iinc (v := 1) (lv' := [(3, .int (1)), (1, .double (FP.dmul FP.dconst1 4611686018427387904)), (0, .int 2)]) hx hb d_Ea_powerOfTwo_15 hl (k := 1) rfl rfl (by decide) rfl (fun ls hl => ?_)
    refine lv_goto (tgt := 4) hx hb d_Ea_powerOfTwo_18 (by decide) ?_
    refine lv_iload_n hx hb d_Ea_powerOfTwo_4 rfl (lv_at hl 0 rfl) ?_
    refine lv_iload_n hx hb d_Ea_powerOfTwo_5 rfl (lv_at hl 2 rfl) ?_
    refine lv_icmp_ge (tgt := 21) hx hb d_Ea_powerOfTwo_6 (by decide) (fun c9 => absurd c9 (by decide)) (fun c9 => ?_)
    refine lv_dload_n hx hb d_Ea_powerOfTwo_9 rfl (lv_at hl 1 rfl) ?_
    refine lv_ldc2d (v := 4611686018427387904) hx hb hown (hg _ k_533) d_Ea_powerOfTwo_10 ?_
    refine lv_dmul hx hb d_Ea_powerOfTwo_13 (by unfold vf_n64; decide +kernel) ?_
    refine lv_dstore_n (lv' := [(1, .double (FP.dmul (FP.dmul FP.dconst1 4611686018427387904) 4611686018427387904)), (3, .int (1)), (0, .int 2)]) hx hb d_Ea_powerOfTwo_14 rfl hl (by decide) rfl (fun ls hl => ?_)
    refine lv_iinc (v := 2) (lv' := [(3, .int (2)), (1, .double (FP.dmul (FP.dmul FP.dconst1 4611686018427387904) 4611686018427387904)), (0, .int 2)]) hx hb d_Ea_powerOfTwo_15 hl (k := 1) rfl rfl (by decide) rfl (fun ls hl => ?_)
    refine lv_goto (tgt := 4) hx hb d_Ea_powerOfTwo_18 (by decide) ?_
    refine lv_iload_n hx hb d_Ea_powerOfTwo_4 rfl (lv_at hl 0 rfl) ?_
    refine lv_iload_n hx hb d_Ea_powerOfTwo_5 rfl (lv_at hl 2 rfl) ?_
    refine lv_icmp_ge (tgt := 21) hx hb d_Ea_powerOfTwo_6 (by decide) (fun c9 => ?_) (fun c9 => absurd (by decide) c9)
    refine lv_iconst (v := 0) hx hb d_Ea_powerOfTwo_21 (by decide) ?_
    refine lv_istore_n (lv' := [(3, .int 0), (1, .double (FP.dmul (FP.dmul FP.dconst1 4611686018427387904) 4611686018427387904)), (0, .int 2)]) hx hb d_Ea_powerOfTwo_22 rfl hl (by decide) rfl (fun ls hl => ?_)
    refine lv_iload_n hx hb d_Ea_powerOfTwo_23 rfl (lv_at hl 0 rfl) ?_
    refine lv_iload_n hx hb d_Ea_powerOfTwo_24 rfl (lv_at hl 2 rfl) ?_
    refine lv_icmp_le (tgt := 40) hx hb d_Ea_powerOfTwo_25 (by decide) (fun c9 => ?_) (fun c9 => absurd (by decide) c9)
    refine lv_dload_n hx hb d_Ea_powerOfTwo_40 rfl (lv_at hl 1 rfl) ?_
    exact W.dret (v := (FP.dmul (FP.dmul FP.dconst1 4611686018427387904) 4611686018427387904)) hx hb hr (fun t ht hW => ⟨⟨(FP.dmul (FP.dmul FP.dconst1 4611686018427387904) 4611686018427387904), w, rfl, ⟨by decide +kernel, rfl⟩, eWo ht hI⟩, hS.F ht⟩) hS.2.2 d_Ea_powerOfTwo_41
end
section
/-! Track -/
theorem nI_inc (k : Nat) : nI k + Int32.ofInt 1 = nI (k + 1) := by
  rw [show Int32.ofInt 1 = 1 from by decide]
  exact nI_1 k
theorem nI_dec (k : Nat) : nI (k + 1) + Int32.ofInt (-1) = nI k := by
  rw [show Int32.ofInt (-1) = -1 from by decide]
  exact pk_m1 k
theorem nI_one : (1 : Int32) = nI 1 := rfl
theorem nI_sub1 {k : Nat} (h : 1 ≤ k) : nI k - 1 = nI (k - 1) := by
  rw [nI_one]
  exact pk_sub h
abbrev oTr (ta va : Nat) (n : Nat) : va_E := .inr (2, [.ref ta, .ref va, .int (nI n)])
abbrev aD (G : EG) (n : Nat) (f : Nat → UInt64) : va_E := .inl (G.2.2.1 1, n, .inr (.inr (.inr (.inl f))))
/-- the frame for a time: the last one at it or before it, of those from the second on; else the first -/
def kfF (ft : Nat → UInt64) (u : UInt64) : Nat → Nat
  | 0 => 0
  | k + 1 => if k ≠ 0 ∧ dle (ft k) u then k else kfF ft u k
theorem kfF_1 (ft : Nat → UInt64) (u : UInt64) : kfF ft u 1 = 0 := by simp [kfF]
theorem kfF_lt (ft : Nat → UInt64) (u : UInt64) : ∀ n, 0 < n → kfF ft u n < n
  | 0, h => absurd h (Nat.lt_irrefl 0)
  | 1, _ => by simp [kfF]
  | n + 2, _ => by
    have h := kfF_lt ft u (n + 1) (Nat.succ_pos n)
    unfold kfF
    by_cases hc : n + 1 ≠ 0 ∧ dle (ft (n + 1)) u
    · rw [if_pos hc]; omega
    · rw [if_neg hc]; omega
set_option maxHeartbeats 4000000 in
set_option maxRecDepth 100000 in
theorem m_Tr_frameFor (l : Launch) (G : EG) (S0 : Nat) (w : hp_M) (a ta va n : Nat) (ft : Nat → UInt64) (u : UInt64) (hn : n ≤ 4) (ha : w a = some (oTr ta va n)) (ht : w ta = some (aD G 4 ft)) : Met l y_Tr_frameFor w_Tr_frameFor (rl 0 0 0) (eP G S0 w [.ref a, .double u]) (va_Qi (fun r z => r = nI (kfF ft u n) ∧ z = w) (eW G S0) (hp_A S0)) 0 0 (hp_A S0) := by
  refine Met.ofW (cc := b_Tr_frameFor) (maxL := 5) (ret := (some .int)) (by decide) rfl ?_
  intro p e s m args below meth c s₁ B hml hv
  obtain ⟨rfl, hE, hI, hz⟩ := hv
  have hx := B.exec
  have hb := B.bytes
  have hr := B.returns
  have hts := atoms_spec (ws := w_Tr_frameFor) B.pre
  have hg : ∀ w ∈ gw, w.before _ s = true := fun w h => hts w (List.mem_cons_of_mem _ h)
  have hown : s.vm.findClass "SceneEasel$Track" = some m.cls := findClass_of_methodNamed B.named
  have hlocks := B.notSynchronized
  have hK := hE.K
  have hS : va_S (hp_A S0) s.heap s.heap [] := va_S.rf
  have hl := lv_entry ([.ref a, .double u]) (n := 5) (Nat.le_of_ble_eq_true rfl)
  rw [lg_entry_eq]
  generalize (lg_sl ([.ref a, .double u]) ++ List.replicate (5 - (lg_sl ([.ref a, .double u])).length) Slot.unset).toArray = ls at hl ⊢
  have hl : lv_has ls 5 [(0, .ref a), (1, .double u)] := hl
  refine lv_iconst (v := 0) hx hb d_Tr_frameFor_0 (by decide) ?_
  refine lv_istore_n (lv' := [(3, .int 0), (0, .ref a), (1, .double u)]) hx hb d_Tr_frameFor_1 rfl hl (by decide) rfl (fun ls hl => ?_)
  refine lv_iconst (v := 1) hx hb d_Tr_frameFor_2 (by decide) ?_
  refine lv_istore (lv' := [(4, .int 1), (3, .int 0), (0, .ref a), (1, .double u)]) hx hb d_Tr_frameFor_3 hl (by decide) rfl (fun ls hl => ?_)
  refine W.lp1 (fun j (q : Nat × Array Slot) => 1 ≤ q.1 ∧ (q.1 ≤ n ∨ q.1 = 1) ∧ j = 5 - q.1 ∧ lv_has q.2 5 [(4, .int (nI q.1)), (3, .int (nI (kfF ft u q.1))), (0, .ref a), (1, .double u)]) (fun q => F0 m 5 q.2 []) 4 (1, ls) ⟨Nat.le_refl 1, Or.inr rfl, rfl, by show lv_has ls 5 [(4, .int (nI 1)), (3, .int (nI (kfF ft u 1))), (0, .ref a), (1, .double u)]; rw [kfF_1]; exact hl⟩ ?_
  rintro j ⟨k, ls⟩ ⟨h1, h2, h3, hl⟩ ih
  dsimp only at h1 h2 h3 hl ⊢
  refine lv_iload hx hb d_Tr_frameFor_5 (lv_at hl 0 rfl) ?_
  refine lv_aload_n hx hb d_Tr_frameFor_7 rfl (lv_at hl 2 rfl) ?_
  refine hp_get (ci := 2) (v := .int (nI n)) (C := R_Tr) (T := F_Tr) (N := 3) hx hb hg i_Tr hown hK hI ha rfl 2 (by decide) (hg _ k_155) (fun _ h9 => h9) rfl d_Tr_frameFor_8 ?_
  refine lv_icmp_ge (tgt := 35) hx hb d_Tr_frameFor_11 (by decide) (fun c1 => ?_) (fun c1 => ?_)
  · refine lv_iload_n hx hb d_Tr_frameFor_35 rfl (lv_at hl 1 rfl) ?_
    have hk : n ≤ k := (nI_leI (by omega) (by omega)).mp c1
    have he : kfF ft u k = kfF ft u n := by
      rcases h2 with h2 | h2
      · rw [show k = n by omega]
      · subst h2
        rcases (show n = 0 ∨ n = 1 by omega) with q | q
        · subst q; exact kfF_1 ft u
        · subst q; rfl
    exact W.iret (v := (nI (kfF ft u k))) hx hb hr (fun t ht hW => ⟨⟨(nI (kfF ft u k)), w, rfl, ⟨by rw [he], rfl⟩, eWo ht hI⟩, hS.F ht⟩) hS.2.2 d_Tr_frameFor_36
  · have hk : k < n := by
      rcases Nat.lt_or_ge k n with q | q
      · exact q
      · exact absurd ((nI_leI (by omega) (by omega)).mpr q) c1
    refine lv_aload_n hx hb d_Tr_frameFor_14 rfl (lv_at hl 2 rfl) ?_
    refine hp_get (ci := 2) (v := .ref ta) (C := R_Tr) (T := F_Tr) (N := 3) hx hb hg i_Tr hown hK hI ha rfl 0 (by decide) (hg _ k_153) (fun _ h9 => h9) rfl d_Tr_frameFor_15 ?_
    refine lv_iload hx hb d_Tr_frameFor_18 (lv_at hl 0 rfl) ?_
    refine hp_dald hx hb hK hI 1 ht rfl (vp_in_nI (by omega) (by decide)) d_Tr_frameFor_20 ?_
    rw [nI_clamp (n := k) (by omega)]
    refine lv_dload_n hx hb d_Tr_frameFor_21 rfl (lv_at hl 3 rfl) ?_
    refine lv_dcmp hx hb d_Tr_frameFor_22 ?_
    refine lv_if_gt (tgt := 29) hx hb d_Tr_frameFor_23 (by decide) (fun c2 => ?_) (fun c2 => ?_)
    · refine lv_iinc (v := nI (k + 1)) (lv' := [(4, .int (nI (k + 1))), (3, .int (nI (kfF ft u k))), (0, .ref a), (1, .double u)]) hx hb d_Tr_frameFor_29 hl (k := 0) rfl (nI_inc k) (by decide) rfl (fun ls hl => ?_)
      refine lv_goto (tgt := 5) hx hb d_Tr_frameFor_32 (by decide) ?_
      have he : kfF ft u (k + 1) = kfF ft u k := by
        show (if _ then _ else _) = _
        rw [if_neg]
        rintro ⟨-, q⟩
        rcases cv_g_gt.mp c2 with c2 | c2 <;> rcases q with q | q <;> rw [c2] at q <;> cases q
      exact ih (5 - (k + 1)) (k + 1, ls) (by omega) ⟨by show 1 ≤ k + 1; omega, Or.inl hk, rfl, by show lv_has ls 5 [(4, .int (nI (k + 1))), (3, .int (nI (kfF ft u (k + 1)))), (0, .ref a), (1, .double u)]; rw [he]; exact hl⟩
    · refine lv_iload hx hb d_Tr_frameFor_26 (lv_at hl 0 rfl) ?_
      refine lv_istore_n (lv' := [(3, .int (nI k)), (4, .int (nI k)), (0, .ref a), (1, .double u)]) hx hb d_Tr_frameFor_28 rfl hl (by decide) rfl (fun ls hl => ?_)
      refine lv_iinc (v := nI (k + 1)) (lv' := [(4, .int (nI (k + 1))), (3, .int (nI k)), (0, .ref a), (1, .double u)]) hx hb d_Tr_frameFor_29 hl (k := 1) rfl (nI_inc k) (by decide) rfl (fun ls hl => ?_)
      refine lv_goto (tgt := 5) hx hb d_Tr_frameFor_32 (by decide) ?_
      have he : kfF ft u (k + 1) = k := by
        show (if _ then _ else _) = _
        rw [if_pos]
        refine ⟨by omega, ?_⟩
        have := Int32.not_lt.mp c2
        exact cv_g_le.mp this
      exact ih (5 - (k + 1)) (k + 1, ls) (by omega) ⟨by show 1 ≤ k + 1; omega, Or.inl hk, rfl, by show lv_has ls 5 [(4, .int (nI (k + 1))), (3, .int (nI (kfF ft u (k + 1)))), (0, .ref a), (1, .double u)]; rw [he]; exact lv_sub hl [0, 1, 2, 3] rfl⟩
end
section
def kJump (ft fv : Nat → UInt64) (n : Nat) (u d : UInt64) : UInt64 := if n = 0 then d else fv (kfF ft u n)
def gSpan (ft : Nat → UInt64) (i : Nat) : UInt64 := FP.dsub (ft (i + 1)) (ft i)
def gNum (ft fv : Nat → UInt64) (u : UInt64) (i : Nat) : UInt64 := FP.dmul (FP.dsub (fv (i + 1)) (fv i)) (FP.dsub u (ft i))
def gQuo (ft fv : Nat → UInt64) (u : UInt64) (i : Nat) : UInt64 := FP.ddiv (gNum ft fv u i) (gSpan ft i)
def kGlide (ft fv : Nat → UInt64) (n : Nat) (u d : UInt64) : UInt64 :=
  if n = 0 then d else
  if n ≤ kfF ft u n + 1 ∨ dle u (ft (kfF ft u n)) then fv (kfF ft u n) else
  if dle (gSpan ft (kfF ft u n)) FP.dconst0 then fv (kfF ft u n) else
  FP.dadd (fv (kfF ft u n)) (fx_rd (gQuo ft fv u (kfF ft u n)))
/-- no NaN comes up on the way -/
def gOk (ft fv : Nat → UInt64) (u : UInt64) (i : Nat) : Prop :=
  vf_n64 (gSpan ft i) ∧ vf_n64 (FP.dsub (fv (i + 1)) (fv i)) ∧ vf_n64 (FP.dsub u (ft i)) ∧ vf_n64 (gNum ft fv u i) ∧
  (¬ dle (gSpan ft i) FP.dconst0 → vf_n64 (gQuo ft fv u i) ∧ vf_n64 (FP.dmul (gQuo ft fv u i) fx_64) ∧ vf_n64 (fx_rd (gQuo ft fv u i)) ∧ vf_n64 (FP.dadd (fv i) (fx_rd (gQuo ft fv u i))))
set_option maxHeartbeats 4000000 in
set_option maxRecDepth 100000 in
theorem m_Tr_jumping (l : Launch) (G : EG) (S0 : Nat) (w : hp_M) (a ta va n : Nat) (ft fv : Nat → UInt64) (u d : UInt64) (hn : n ≤ 4) (ha : w a = some (oTr ta va n)) (ht : w ta = some (aD G 4 ft)) (hv' : w va = some (aD G 4 fv)) : Met l y_Tr_jumping w_Tr_jumping (rl 1 0 0) (eP G S0 w [.ref a, .double u, .double d]) (va_Qd (fun r z => r = kJump ft fv n u d ∧ z = w) (eW G S0) (hp_A S0)) 0 0 (hp_A S0) := by
  refine Met.ofW (cc := b_Tr_jumping) (maxL := 5) (ret := (some .double)) (by decide) rfl ?_
  intro p e s m args below meth c s₁ B hml hv
  obtain ⟨rfl, hE, hI, hz⟩ := hv
  have hx := B.exec
  have hb := B.bytes
  have hr := B.returns
  have hts := atoms_spec (ws := w_Tr_jumping) B.pre
  have hg : ∀ w ∈ gw, w.before _ s = true := fun w h => hts w (List.mem_cons_of_mem _ h)
  have hown : s.vm.findClass "SceneEasel$Track" = some m.cls := findClass_of_methodNamed B.named
  have hlocks := B.notSynchronized
  have hK := hE.K
  have hS : va_S (hp_A S0) s.heap s.heap [] := va_S.rf
  have hl := lv_entry ([.ref a, .double u, .double d]) (n := 5) (Nat.le_of_ble_eq_true rfl)
  rw [lg_entry_eq]
  generalize (lg_sl ([.ref a, .double u, .double d]) ++ List.replicate (5 - (lg_sl ([.ref a, .double u, .double d])).length) Slot.unset).toArray = ls at hl ⊢
  have hl : lv_has ls 5 [(0, .ref a), (1, .double u), (3, .double d)] := hl
  refine lv_aload_n hx hb d_Tr_jumping_0 rfl (lv_at hl 0 rfl) ?_
  refine hp_get (ci := 2) (v := .int (nI n)) (C := R_Tr) (T := F_Tr) (N := 3) hx hb hg i_Tr hown hK hI ha rfl 2 (by decide) (hg _ k_155) (fun _ h9 => h9) rfl d_Tr_jumping_1 ?_
  refine lv_if_ne (tgt := 11) hx hb d_Tr_jumping_4 (by decide) (fun c1 => ?_) (fun c1 => ?_)
  · refine lv_aload_n hx hb d_Tr_jumping_11 rfl (lv_at hl 0 rfl) ?_
    refine hp_get (ci := 2) (v := .ref va) (C := R_Tr) (T := F_Tr) (N := 3) hx hb hg i_Tr hown hK hI ha rfl 1 (by decide) (hg _ k_154) (fun _ h9 => h9) rfl d_Tr_jumping_12 ?_
    refine lv_aload_n hx hb d_Tr_jumping_15 rfl (lv_at hl 0 rfl) ?_
    refine lv_dload_n hx hb d_Tr_jumping_16 rfl (lv_at hl 1 rfl) ?_
    refine ec_i (va_runV (As := [.double u]) (rest := [.ref va]) ⟨hx, hb, hml, hown, hts⟩ (m_Tr_frameFor l G S0 w a ta va n ft u hn ha ht) (cwV 1 hts (gw_V k_641 k_643 k_25 k_66 k_644) rfl rfl rfl (by decide +kernel) ⟨Nat.le_of_ble_eq_true rfl, Nat.le_of_ble_eq_true rfl⟩) (eB.preV hE hI hS hz rfl ha) rfl rfl hl.1 rfl (lv_room (Nat.le_of_ble_eq_true rfl)) d_Tr_jumping_17 ⟨Nat.le_of_ble_eq_true rfl, Nat.le_of_ble_eq_true rfl⟩) hS (fun r_2 w_1 H locs ew_1 hI hsz hS => ?_)
    obtain ⟨er_2, ew_1⟩ := ew_1
    have ew_1 := ew_1.symm
    subst ew_1
    have h0 : 0 < n := by
      rcases Nat.eq_zero_or_pos n with q | q
      · subst q; exact absurd rfl c1
      · exact q
    have hi := kfF_lt ft u n h0
    subst er_2
    refine hp_dald hx hb hK hI 1 hv' rfl (vp_in_nI (by omega) (by decide)) d_Tr_jumping_20 ?_
    rw [nI_clamp (n := kfF ft u n) (by omega)]
    exact W.dret (v := (fv (kfF ft u n))) hx hb hr (fun t ht hW => ⟨⟨(fv (kfF ft u n)), w, rfl, ⟨by unfold kJump; rw [if_neg (by omega)], rfl⟩, eWo ht hI⟩, hS.F ht⟩) hS.2.2 d_Tr_jumping_21
  · have h0 : n = 0 := (nI_eq (a := n) (b := 0) (by omega) (by decide)).mp c1
    refine lv_dload_n hx hb d_Tr_jumping_7 rfl (lv_at hl 2 rfl) ?_
    refine lv_goto (tgt := 21) hx hb d_Tr_jumping_8 (by decide) ?_
    exact W.dret (v := d) hx hb hr (fun t ht hW => ⟨⟨d, w, rfl, ⟨by unfold kJump; rw [if_pos h0], rfl⟩, eWo ht hI⟩, hS.F ht⟩) hS.2.2 d_Tr_jumping_21
set_option maxHeartbeats 4000000 in
set_option maxRecDepth 100000 in
theorem m_Tr_gliding (l : Launch) (G : EG) (S0 : Nat) (w : hp_M) (a ta va n : Nat) (ft fv : Nat → UInt64) (u d : UInt64) (hn : n ≤ 4) (ha : w a = some (oTr ta va n)) (ht : w ta = some (aD G 4 ft)) (hv' : w va = some (aD G 4 fv)) (hok : ∀ i, i + 1 < n → gOk ft fv u i) : Met l y_Tr_gliding w_Tr_gliding (rl 2 0 0) (eP G S0 w [.ref a, .double u, .double d]) (va_Qd (fun r z => r = kGlide ft fv n u d ∧ z = w) (eW G S0) (hp_A S0)) 0 0 (hp_A S0) := by
  refine Met.ofW (cc := b_Tr_gliding) (maxL := 8) (ret := (some .double)) (by decide) rfl ?_
  intro p e s m args below meth c s₁ B hml hv
  obtain ⟨rfl, hE, hI, hz⟩ := hv
  have hx := B.exec
  have hb := B.bytes
  have hr := B.returns
  have hts := atoms_spec (ws := w_Tr_gliding) B.pre
  have hg : ∀ w ∈ gw, w.before _ s = true := fun w h => hts w (List.mem_cons_of_mem _ h)
  have hown : s.vm.findClass "SceneEasel$Track" = some m.cls := findClass_of_methodNamed B.named
  have hlocks := B.notSynchronized
  have hK := hE.K
  have hS : va_S (hp_A S0) s.heap s.heap [] := va_S.rf
  have hl := lv_entry ([.ref a, .double u, .double d]) (n := 8) (Nat.le_of_ble_eq_true rfl)
  rw [lg_entry_eq]
  generalize (lg_sl ([.ref a, .double u, .double d]) ++ List.replicate (8 - (lg_sl ([.ref a, .double u, .double d])).length) Slot.unset).toArray = ls at hl ⊢
  have hl : lv_has ls 8 [(0, .ref a), (1, .double u), (3, .double d)] := hl
  refine lv_aload_n hx hb d_Tr_gliding_0 rfl (lv_at hl 0 rfl) ?_
  refine hp_get (ci := 2) (v := .int (nI n)) (C := R_Tr) (T := F_Tr) (N := 3) hx hb hg i_Tr hown hK hI ha rfl 2 (by decide) (hg _ k_155) (fun _ h9 => h9) rfl d_Tr_gliding_1 ?_
  refine lv_if_ne (tgt := 9) hx hb d_Tr_gliding_4 (by decide) (fun c1 => ?_) (fun c1 => ?_)
  · refine lv_aload_n hx hb d_Tr_gliding_9 rfl (lv_at hl 0 rfl) ?_
    refine lv_dload_n hx hb d_Tr_gliding_10 rfl (lv_at hl 1 rfl) ?_
    refine ec_i (va_runV (As := [.double u]) (rest := []) ⟨hx, hb, hml, hown, hts⟩ (m_Tr_frameFor l G S0 w a ta va n ft u hn ha ht) (cwV 1 hts (gw_V k_641 k_643 k_25 k_66 k_644) rfl rfl rfl (by decide +kernel) ⟨Nat.le_of_ble_eq_true rfl, Nat.le_of_ble_eq_true rfl⟩) (eB.preV hE hI hS hz rfl ha) rfl rfl hl.1 rfl (lv_room (Nat.le_of_ble_eq_true rfl)) d_Tr_gliding_11 ⟨Nat.le_of_ble_eq_true rfl, Nat.le_of_ble_eq_true rfl⟩) hS (fun r_2 w_1 H locs ew_1 hI hsz hS => ?_)
    obtain ⟨er_2, ew_1⟩ := ew_1
    have ew_1 := ew_1.symm
    subst ew_1
    have h0 : 0 < n := by
      rcases Nat.eq_zero_or_pos n with q | q
      · subst q; exact absurd rfl c1
      · exact q
    have hi := kfF_lt ft u n h0
    have hkg : kGlide ft fv n u d = if n ≤ kfF ft u n + 1 ∨ dle u (ft (kfF ft u n)) then fv (kfF ft u n) else if dle (gSpan ft (kfF ft u n)) FP.dconst0 then fv (kfF ft u n) else FP.dadd (fv (kfF ft u n)) (fx_rd (gQuo ft fv u (kfF ft u n))) := by
      unfold kGlide
      rw [if_neg (by omega)]
    rw [er_2]
    obtain ⟨i, ei⟩ : ∃ z, z = kfF ft u n := ⟨_, rfl⟩
    rw [← ei] at hi hkg ⊢
    refine W.mi1 (fun ls : Array Slot => (n ≤ i + 1 ∨ dle u (ft i)) ∧ lv_has ls 8 [(5, .int (nI i)), (0, .ref a), (1, .double u), (3, .double d)]) (fun ls => F0 m 39 ls []) (fun ls hq => ?_) (fun key => ?_)
    · obtain ⟨hq, hl⟩ := hq
      refine lv_aload_n hx hb d_Tr_gliding_39 rfl (lv_at hl 1 rfl) ?_
      refine hp_get (ci := 2) (v := .ref va) (C := R_Tr) (T := F_Tr) (N := 3) hx hb hg i_Tr hown hK hI ha rfl 1 (by decide) (hg _ k_154) (fun _ h9 => h9) rfl d_Tr_gliding_40 ?_
      refine lv_iload hx hb d_Tr_gliding_43 (lv_at hl 0 rfl) ?_
      refine hp_dald hx hb hK hI 1 hv' rfl (vp_in_nI (by omega) (by decide)) d_Tr_gliding_45 ?_
      rw [nI_clamp (n := i) (by omega)]
      exact W.dret (v := (fv i)) hx hb hr (fun t ht hW => ⟨⟨(fv i), w, rfl, ⟨by rw [hkg, if_pos hq], rfl⟩, eWo ht hI⟩, hS.F ht⟩) hS.2.2 d_Tr_gliding_46
    · refine lv_istore (lv' := [(5, .int (nI i)), (0, .ref a), (1, .double u), (3, .double d)]) hx hb d_Tr_gliding_14 hl (by decide) rfl (fun ls hl => ?_)
      refine lv_iload hx hb d_Tr_gliding_16 (lv_at hl 0 rfl) ?_
      refine lv_iconst (v := 1) hx hb d_Tr_gliding_18 (by decide) ?_
      refine lv_iadd hx hb d_Tr_gliding_19 ?_
      rw [nI_1]
      refine lv_aload_n hx hb d_Tr_gliding_20 rfl (lv_at hl 1 rfl) ?_
      refine hp_get (ci := 2) (v := .int (nI n)) (C := R_Tr) (T := F_Tr) (N := 3) hx hb hg i_Tr hown hK hI ha rfl 2 (by decide) (hg _ k_155) (fun _ h9 => h9) rfl d_Tr_gliding_21 ?_
      refine lv_icmp_ge (tgt := 39) hx hb d_Tr_gliding_24 (by decide) (fun c2 => ?_) (fun c2 => ?_)
      · exact key ls ⟨Or.inl ((nI_leI (by omega) (by omega)).mp c2), hl⟩
      · have hlt : i + 1 < n := by
          rcases Nat.lt_or_ge (i + 1) n with q | q
          · exact q
          · exact absurd ((nI_leI (by omega) (by omega)).mpr q) c2
        obtain ⟨g1, g2, g3, g4, g5⟩ := hok i hlt
        refine lv_dload_n hx hb d_Tr_gliding_27 rfl (lv_at hl 2 rfl) ?_
        refine lv_aload_n hx hb d_Tr_gliding_28 rfl (lv_at hl 1 rfl) ?_
        refine hp_get (ci := 2) (v := .ref ta) (C := R_Tr) (T := F_Tr) (N := 3) hx hb hg i_Tr hown hK hI ha rfl 0 (by decide) (hg _ k_153) (fun _ h9 => h9) rfl d_Tr_gliding_29 ?_
        refine lv_iload hx hb d_Tr_gliding_32 (lv_at hl 0 rfl) ?_
        refine hp_dald hx hb hK hI 1 ht rfl (vp_in_nI (by omega) (by decide)) d_Tr_gliding_34 ?_
        rw [nI_clamp (n := i) (by omega)]
        refine lv_dcmp hx hb d_Tr_gliding_35 ?_
        refine lv_if_gt (tgt := 47) hx hb d_Tr_gliding_36 (by decide) (fun c3 => ?_) (fun c3 => ?_)
        · have hnq : ¬ (n ≤ i + 1 ∨ dle u (ft i)) := by
            rintro (q | q)
            · omega
            · have := cv_g_le.mpr q
              exact absurd c3 (Int32.not_lt.mpr this)
          refine lv_aload_n hx hb d_Tr_gliding_47 rfl (lv_at hl 1 rfl) ?_
          refine hp_get (ci := 2) (v := .ref ta) (C := R_Tr) (T := F_Tr) (N := 3) hx hb hg i_Tr hown hK hI ha rfl 0 (by decide) (hg _ k_153) (fun _ h9 => h9) rfl d_Tr_gliding_48 ?_
          refine lv_iload hx hb d_Tr_gliding_51 (lv_at hl 0 rfl) ?_
          refine lv_iconst (v := 1) hx hb d_Tr_gliding_53 (by decide) ?_
          refine lv_iadd hx hb d_Tr_gliding_54 ?_
          rw [nI_1]
          refine hp_dald hx hb hK hI 1 ht rfl (vp_in_nI (by omega) (by decide)) d_Tr_gliding_55 ?_
          rw [nI_clamp (n := i + 1) (by omega)]
          refine lv_aload_n hx hb d_Tr_gliding_56 rfl (lv_at hl 1 rfl) ?_
          refine hp_get (ci := 2) (v := .ref ta) (C := R_Tr) (T := F_Tr) (N := 3) hx hb hg i_Tr hown hK hI ha rfl 0 (by decide) (hg _ k_153) (fun _ h9 => h9) rfl d_Tr_gliding_57 ?_
          refine lv_iload hx hb d_Tr_gliding_60 (lv_at hl 0 rfl) ?_
          refine hp_dald hx hb hK hI 1 ht rfl (vp_in_nI (by omega) (by decide)) d_Tr_gliding_62 ?_
          rw [nI_clamp (n := i) (by omega)]
          refine lv_dsub hx hb d_Tr_gliding_63 g1 ?_
          refine lv_dstore (lv' := [(6, .double (FP.dsub (ft (i + 1)) (ft i))), (5, .int (nI i)), (0, .ref a), (1, .double u), (3, .double d)]) hx hb d_Tr_gliding_64 hl (by decide) rfl (fun ls hl => ?_)
          refine lv_dload hx hb d_Tr_gliding_66 (lv_at hl 0 rfl) ?_
          refine lv_dconst0 hx hb d_Tr_gliding_68 ?_
          refine lv_dcmp hx hb d_Tr_gliding_69 ?_
          refine lv_if_gt (tgt := 81) hx hb d_Tr_gliding_70 (by decide) (fun c4 => ?_) (fun c4 => ?_)
          · have hns : ¬ dle (gSpan ft i) FP.dconst0 := by
              intro q
              have := cv_g_le.mpr q
              exact absurd c4 (Int32.not_lt.mpr this)
            obtain ⟨g6, g7, g8, g9⟩ := g5 hns
            refine lv_aload_n hx hb d_Tr_gliding_81 rfl (lv_at hl 2 rfl) ?_
            refine hp_get (ci := 2) (v := .ref va) (C := R_Tr) (T := F_Tr) (N := 3) hx hb hg i_Tr hown hK hI ha rfl 1 (by decide) (hg _ k_154) (fun _ h9 => h9) rfl d_Tr_gliding_82 ?_
            refine lv_iload hx hb d_Tr_gliding_85 (lv_at hl 1 rfl) ?_
            refine hp_dald hx hb hK hI 1 hv' rfl (vp_in_nI (by omega) (by decide)) d_Tr_gliding_87 ?_
            rw [nI_clamp (n := i) (by omega)]
            refine lv_aload_n hx hb d_Tr_gliding_88 rfl (lv_at hl 2 rfl) ?_
            refine hp_get (ci := 2) (v := .ref va) (C := R_Tr) (T := F_Tr) (N := 3) hx hb hg i_Tr hown hK hI ha rfl 1 (by decide) (hg _ k_154) (fun _ h9 => h9) rfl d_Tr_gliding_89 ?_
            refine lv_iload hx hb d_Tr_gliding_92 (lv_at hl 1 rfl) ?_
            refine lv_iconst (v := 1) hx hb d_Tr_gliding_94 (by decide) ?_
            refine lv_iadd hx hb d_Tr_gliding_95 ?_
            rw [nI_1]
            refine hp_dald hx hb hK hI 1 hv' rfl (vp_in_nI (by omega) (by decide)) d_Tr_gliding_96 ?_
            rw [nI_clamp (n := i + 1) (by omega)]
            refine lv_aload_n hx hb d_Tr_gliding_97 rfl (lv_at hl 2 rfl) ?_
            refine hp_get (ci := 2) (v := .ref va) (C := R_Tr) (T := F_Tr) (N := 3) hx hb hg i_Tr hown hK hI ha rfl 1 (by decide) (hg _ k_154) (fun _ h9 => h9) rfl d_Tr_gliding_98 ?_
            refine lv_iload hx hb d_Tr_gliding_101 (lv_at hl 1 rfl) ?_
            refine hp_dald hx hb hK hI 1 hv' rfl (vp_in_nI (by omega) (by decide)) d_Tr_gliding_103 ?_
            rw [nI_clamp (n := i) (by omega)]
            refine lv_dsub hx hb d_Tr_gliding_104 g2 ?_
            refine lv_dload_n hx hb d_Tr_gliding_105 rfl (lv_at hl 3 rfl) ?_
            refine lv_aload_n hx hb d_Tr_gliding_106 rfl (lv_at hl 2 rfl) ?_
            refine hp_get (ci := 2) (v := .ref ta) (C := R_Tr) (T := F_Tr) (N := 3) hx hb hg i_Tr hown hK hI ha rfl 0 (by decide) (hg _ k_153) (fun _ h9 => h9) rfl d_Tr_gliding_107 ?_
            refine lv_iload hx hb d_Tr_gliding_110 (lv_at hl 1 rfl) ?_
            refine hp_dald hx hb hK hI 1 ht rfl (vp_in_nI (by omega) (by decide)) d_Tr_gliding_112 ?_
            rw [nI_clamp (n := i) (by omega)]
            refine lv_dsub hx hb d_Tr_gliding_113 g3 ?_
            refine lv_dmul hx hb d_Tr_gliding_114 g4 ?_
            refine lv_dload hx hb d_Tr_gliding_115 (lv_at hl 0 rfl) ?_
            refine lv_ddiv hx hb d_Tr_gliding_117 g6 ?_
            refine ec_d (va_runSN (As := [.double (FP.ddiv (FP.dmul (FP.dsub (fv (i + 1)) (fv i)) (FP.dsub u (ft i))) (FP.dsub (ft (i + 1)) (ft i)))]) (rest := [.double (fv i)]) ⟨hx, hb, hml, hown, hts⟩ (m_Ea_rounded l G S0 w (gQuo ft fv u i) g7 g8) ⟨va_cnB 1 hts (gw_code k_647) rfl rfl rfl (hE.Nw q_645) (hg _ k_60) (by decide +kernel) ⟨Nat.le_of_ble_eq_true rfl, Nat.le_of_ble_eq_true rfl⟩, hg _ k_646, trivial⟩ (eB.preS hE hI hS hz) rfl rfl hl.1 rfl (lv_room (Nat.le_of_ble_eq_true rfl)) d_Tr_gliding_118 ⟨Nat.le_of_ble_eq_true rfl, Nat.le_of_ble_eq_true rfl⟩) hS (fun r_4 w_3 H locs ew_3 hI hsz hS => ?_)
            obtain ⟨er_4, ew_3⟩ := ew_3
            have ew_3 := ew_3.symm
            subst ew_3
            refine lv_dadd hx hb d_Tr_gliding_121 (by rw [er_4]; exact g9) ?_
            exact W.dret (v := (FP.dadd (fv i) r_4)) hx hb hr (fun t ht hW => ⟨⟨(FP.dadd (fv i) r_4), w, rfl, ⟨by rw [hkg, if_neg hnq, if_neg hns, er_4], rfl⟩, eWo ht hI⟩, hS.F ht⟩) hS.2.2 d_Tr_gliding_122
          · refine lv_aload_n hx hb d_Tr_gliding_73 rfl (lv_at hl 2 rfl) ?_
            refine hp_get (ci := 2) (v := .ref va) (C := R_Tr) (T := F_Tr) (N := 3) hx hb hg i_Tr hown hK hI ha rfl 1 (by decide) (hg _ k_154) (fun _ h9 => h9) rfl d_Tr_gliding_74 ?_
            refine lv_iload hx hb d_Tr_gliding_77 (lv_at hl 1 rfl) ?_
            refine hp_dald hx hb hK hI 1 hv' rfl (vp_in_nI (by omega) (by decide)) d_Tr_gliding_79 ?_
            rw [nI_clamp (n := i) (by omega)]
            exact W.dret (v := (fv i)) hx hb hr (fun t ht hW => ⟨⟨(fv i), w, rfl, ⟨by rw [hkg, if_neg hnq, if_pos (show dle (gSpan ft i) FP.dconst0 from cv_g_le.mp (Int32.not_lt.mp c4))], rfl⟩, eWo ht hI⟩, hS.F ht⟩) hS.2.2 d_Tr_gliding_80
        · exact key ls ⟨Or.inr (cv_g_le.mp (Int32.not_lt.mp c3)), hl⟩
  · have h0 : n = 0 := (nI_eq (a := n) (b := 0) (by omega) (by decide)).mp c1
    refine lv_dload_n hx hb d_Tr_gliding_7 rfl (lv_at hl 2 rfl) ?_
    exact W.dret (v := d) hx hb hr (fun t ht hW => ⟨⟨d, w, rfl, ⟨by unfold kGlide; rw [if_pos h0], rfl⟩, eWo ht hI⟩, hS.F ht⟩) hS.2.2 d_Tr_gliding_8
end
section
/-- room made at a place -/
def kSh (f : Nat → UInt64) (k n : Nat) : Nat → UInt64 := fun j => if k < j ∧ j ≤ n then f (j - 1) else f j
theorem kSh_n (f : Nat → UInt64) (n : Nat) : kSh f n n = f := by
  funext j
  unfold kSh
  rw [if_neg (by omega)]
theorem kSh_step (f : Nat → UInt64) {k n : Nat} (h1 : 1 ≤ k) (h2 : k ≤ n) : vf_upd (kSh f k n) k (kSh f k n (k - 1)) = kSh f (k - 1) n := by
  funext j
  unfold vf_upd kSh
  by_cases hj : j = k
  · subst hj
    rw [if_pos rfl, if_neg (by omega), if_pos (by omega)]
  · rw [if_neg hj]
    by_cases h : k < j ∧ j ≤ n
    · rw [if_pos h, if_pos (by omega)]
    · rw [if_neg h, if_neg (by omega)]
set_option maxHeartbeats 4000000 in
set_option maxRecDepth 100000 in
theorem m_Tr_makeRoom (l : Launch) (G : EG) (S0 : Nat) (w : hp_M) (a ta va n i : Nat) (ft fv : Nat → UInt64) (hn : n < 4) (hi : i ≤ n) (htv : ta ≠ va) (ha : w a = some (oTr ta va n)) (ht : w ta = some (aD G 4 ft)) (hv' : w va = some (aD G 4 fv)) : Met l y_Tr_makeRoom w_Tr_makeRoom (rl 0 0 0) (eP G S0 w [.ref a, .int (nI i)]) (va_Qv (fun z => z = hp_set (hp_set (hp_set w ta (aD G 4 (kSh ft i n))) va (aD G 4 (kSh fv i n))) a (oTr ta va (n + 1))) (eW G S0) (hp_A S0)) 0 0 (hp_A S0) := by
  refine Met.ofW (cc := b_Tr_makeRoom) (maxL := 3) (ret := none) (by decide) rfl ?_
  intro p e s m args below meth c s₁ B hml hv
  obtain ⟨rfl, hE, hI, hz⟩ := hv
  have hx := B.exec
  have hb := B.bytes
  have hr := B.returns
  have hts := atoms_spec (ws := w_Tr_makeRoom) B.pre
  have hg : ∀ w ∈ gw, w.before _ s = true := fun w h => hts w (List.mem_cons_of_mem _ h)
  have hown : s.vm.findClass "SceneEasel$Track" = some m.cls := findClass_of_methodNamed B.named
  have hlocks := B.notSynchronized
  have hK := hE.K
  have hS : va_S (hp_A S0) s.heap s.heap [] := va_S.rf
  have hl := lv_entry ([.ref a, .int (nI i)]) (n := 3) (Nat.le_of_ble_eq_true rfl)
  rw [lg_entry_eq]
  generalize (lg_sl ([.ref a, .int (nI i)]) ++ List.replicate (3 - (lg_sl ([.ref a, .int (nI i)])).length) Slot.unset).toArray = ls at hl ⊢
  have hl : lv_has ls 3 [(0, .ref a), (1, .int (nI i))] := hl
  refine lv_aload_n hx hb d_Tr_makeRoom_0 rfl (lv_at hl 0 rfl) ?_
  refine hp_get (ci := 2) (v := .int (nI n)) (C := R_Tr) (T := F_Tr) (N := 3) hx hb hg i_Tr hown hK hI ha rfl 2 (by decide) (hg _ k_155) (fun _ h9 => h9) rfl d_Tr_makeRoom_1 ?_
  refine lv_istore_n (lv' := [(2, .int (nI n)), (0, .ref a), (1, .int (nI i))]) hx hb d_Tr_makeRoom_4 rfl hl (by decide) rfl (fun ls hl => ?_)
  refine W.lp (fun j (q : Nat × Array Slot × Heap × List Loc × hp_M) => i ≤ q.1 ∧ q.1 ≤ n ∧ j = q.1 ∧ lv_has q.2.1 3 [(2, .int (nI q.1)), (0, .ref a), (1, .int (nI i))] ∧ eI G S0 q.2.2.2.2 q.2.2.1 ∧ va_S (hp_A S0) s.heap q.2.2.1 q.2.2.2.1 ∧ q.2.2.2.2 = hp_set (hp_set w ta (aD G 4 (kSh ft q.1 n))) va (aD G 4 (kSh fv q.1 n))) (fun q => q.2.2.1) (fun q => q.2.2.2.1) (fun q => F0 m 5 q.2.1 []) n (n, ls, s.heap, [], w) ⟨hi, Nat.le_refl n, rfl, hl, hI, hS, by show w = hp_set (hp_set w ta (aD G 4 (kSh ft n n))) va (aD G 4 (kSh fv n n)); rw [kSh_n, kSh_n, hp_set_self ht, hp_set_self hv']⟩ ?_
  rintro j ⟨k, ls, H, locs, w0⟩ ⟨h1, h2, h3, hl, hI, hS, ew0⟩ ih
  dsimp only at h1 h2 h3 hl hI hS ew0 ⊢
  have hat : a ≠ ta := hp_ne_oa ha ht
  have hav : a ≠ va := hp_ne_oa ha hv'
  have ha : w0 a = some (oTr ta va n) := by rw [ew0, hp_set_ne hav, hp_set_ne hat]; exact ha
  have ht : w0 ta = some (aD G 4 (kSh ft k n)) := by rw [ew0, hp_set_ne htv]; exact hp_set_eq _ _ _
  have hv' : w0 va = some (aD G 4 (kSh fv k n)) := by rw [ew0]; exact hp_set_eq _ _ _
  refine lv_iload_n hx hb d_Tr_makeRoom_5 rfl (lv_at hl 0 rfl) ?_
  refine lv_iload_n hx hb d_Tr_makeRoom_6 rfl (lv_at hl 2 rfl) ?_
  refine lv_icmp_le (tgt := 44) hx hb d_Tr_makeRoom_7 (by decide) (fun c1 => ?_) (fun c1 => ?_)
  · have hk : k = i := by
      have := (nI_leI (by omega) (by omega)).mp c1
      omega
    refine lv_aload_n hx hb d_Tr_makeRoom_44 rfl (lv_at hl 1 rfl) ?_
    refine lv_dup hx hb d_Tr_makeRoom_45 rfl ?_
    refine hp_get (ci := 2) (v := .int (nI n)) (C := R_Tr) (T := F_Tr) (N := 3) hx hb hg i_Tr hown hK hI ha rfl 2 (by decide) (hg _ k_155) (fun _ h9 => h9) rfl d_Tr_makeRoom_46 ?_
    refine lv_iconst (v := 1) hx hb d_Tr_makeRoom_49 (by decide) ?_
    refine lv_iadd hx hb d_Tr_makeRoom_50 ?_
    rw [nI_1]
    refine hp_putC (ci := 2) (v := .int (nI (n + 1))) (ty := .int) (C := R_Tr) (T := F_Tr) (N := 3) hx hb hg i_Tr t_Tr t_Tr_ok n_Tr hown hK hI hS ha rfl 2 (by decide) (hg _ k_155) (fun _ h9 => h9) rfl (by decide +kernel) rfl rfl (Nat.le_of_ble_eq_true rfl) d_Tr_makeRoom_51 (fun H locs hI hS hsz => ?_)
    obtain ⟨w_1, ew_1⟩ : ∃ z, z = hp_set w0 a (.inr (2, [.ref ta, .ref va, .int (nI (n + 1))])) := ⟨_, rfl⟩
    have hI : eI G S0 w_1 H := by rw [ew_1]; exact hI
    have ht : w_1 ta = some (.inl (G.2.2.1 1, 4, .inr (.inr (.inr (.inl (kSh ft k n)))))) := by rw [ew_1, hp_set_ne (hp_ne_ao ht ha)]; exact ht
    have hv' : w_1 va = some (.inl (G.2.2.1 1, 4, .inr (.inr (.inr (.inl (kSh fv k n)))))) := by rw [ew_1, hp_set_ne (hp_ne_ao hv' ha)]; exact hv'
    have ha : w_1 a = some (.inr (2, [.ref ta, .ref va, .int (nI (n + 1))])) := by rw [ew_1]; exact hp_set_eq _ _ _
    exact W.vret hx hb hr (fun t ht hW => ⟨⟨w_1, rfl, by rw [ew_1, ew0, hk], eWo ht hI⟩, hS.F ht⟩) hS.2.2 d_Tr_makeRoom_54
  · have hk : i < k := by
      rcases Nat.lt_or_ge i k with q | q
      · exact q
      · exact absurd ((nI_leI (by omega) (by omega)).mpr q) c1
    refine lv_aload_n hx hb d_Tr_makeRoom_10 rfl (lv_at hl 1 rfl) ?_
    refine hp_get (ci := 2) (v := .ref ta) (C := R_Tr) (T := F_Tr) (N := 3) hx hb hg i_Tr hown hK hI ha rfl 0 (by decide) (hg _ k_153) (fun _ h9 => h9) rfl d_Tr_makeRoom_11 ?_
    refine lv_iload_n hx hb d_Tr_makeRoom_14 rfl (lv_at hl 0 rfl) ?_
    refine lv_aload_n hx hb d_Tr_makeRoom_15 rfl (lv_at hl 1 rfl) ?_
    refine hp_get (ci := 2) (v := .ref ta) (C := R_Tr) (T := F_Tr) (N := 3) hx hb hg i_Tr hown hK hI ha rfl 0 (by decide) (hg _ k_153) (fun _ h9 => h9) rfl d_Tr_makeRoom_16 ?_
    refine lv_iload_n hx hb d_Tr_makeRoom_19 rfl (lv_at hl 0 rfl) ?_
    refine lv_iconst (v := 1) hx hb d_Tr_makeRoom_20 (by decide) ?_
    refine lv_isub hx hb d_Tr_makeRoom_21 ?_
    rw [nI_sub1 (by omega)]
    refine hp_dald hx hb hK hI 1 ht rfl (vp_in_nI (by omega) (by decide)) d_Tr_makeRoom_22 ?_
    rw [nI_clamp (n := k - 1) (by omega)]
    refine hp_dast hx hb hK hI hS 1 ht rfl (vp_in_nI (by omega) (by decide)) d_Tr_makeRoom_23 (fun H locs hI hS hsz => ?_)
    rw [nI_clamp (n := k) (by omega)] at hI
    obtain ⟨f_2, ef_2⟩ : ∃ z, z = vf_upd (kSh ft k n) k ((kSh ft k n) (k - 1)) := ⟨_, rfl⟩
    rw [← ef_2] at hI
    obtain ⟨w_3, ew_3⟩ : ∃ z, z = hp_set w0 ta (.inl (G.2.2.1 1, 4, .inr (.inr (.inr (.inl f_2))))) := ⟨_, rfl⟩
    have hI : eI G S0 w_3 H := by rw [ew_3]; exact hI
    have ha : w_3 a = some (.inr (2, [.ref ta, .ref va, .int (nI n)])) := by rw [ew_3, hp_set_ne (hp_ne_oa ha ht)]; exact ha
    have hv' : w_3 va = some (.inl (G.2.2.1 1, 4, .inr (.inr (.inr (.inl (kSh fv k n)))))) := by rw [ew_3, hp_set_ne htv.symm]; exact hv'
    have ht : w_3 ta = some (.inl (G.2.2.1 1, 4, .inr (.inr (.inr (.inl f_2))))) := by rw [ew_3]; exact hp_set_eq _ _ _
    refine lv_aload_n hx hb d_Tr_makeRoom_24 rfl (lv_at hl 1 rfl) ?_
    refine hp_get (ci := 2) (v := .ref va) (C := R_Tr) (T := F_Tr) (N := 3) hx hb hg i_Tr hown hK hI ha rfl 1 (by decide) (hg _ k_154) (fun _ h9 => h9) rfl d_Tr_makeRoom_25 ?_
    refine lv_iload_n hx hb d_Tr_makeRoom_28 rfl (lv_at hl 0 rfl) ?_
    refine lv_aload_n hx hb d_Tr_makeRoom_29 rfl (lv_at hl 1 rfl) ?_
    refine hp_get (ci := 2) (v := .ref va) (C := R_Tr) (T := F_Tr) (N := 3) hx hb hg i_Tr hown hK hI ha rfl 1 (by decide) (hg _ k_154) (fun _ h9 => h9) rfl d_Tr_makeRoom_30 ?_
    refine lv_iload_n hx hb d_Tr_makeRoom_33 rfl (lv_at hl 0 rfl) ?_
    refine lv_iconst (v := 1) hx hb d_Tr_makeRoom_34 (by decide) ?_
    refine lv_isub hx hb d_Tr_makeRoom_35 ?_
    rw [nI_sub1 (by omega)]
    refine hp_dald hx hb hK hI 1 hv' rfl (vp_in_nI (by omega) (by decide)) d_Tr_makeRoom_36 ?_
    rw [nI_clamp (n := k - 1) (by omega)]
    refine hp_dast hx hb hK hI hS 1 hv' rfl (vp_in_nI (by omega) (by decide)) d_Tr_makeRoom_37 (fun H locs hI hS hsz => ?_)
    rw [nI_clamp (n := k) (by omega)] at hI
    obtain ⟨f_4, ef_4⟩ : ∃ z, z = vf_upd (kSh fv k n) k ((kSh fv k n) (k - 1)) := ⟨_, rfl⟩
    rw [← ef_4] at hI
    obtain ⟨w_5, ew_5⟩ : ∃ z, z = hp_set w_3 va (.inl (G.2.2.1 1, 4, .inr (.inr (.inr (.inl f_4))))) := ⟨_, rfl⟩
    have hI : eI G S0 w_5 H := by rw [ew_5]; exact hI
    have ha : w_5 a = some (.inr (2, [.ref ta, .ref va, .int (nI n)])) := by rw [ew_5, hp_set_ne (hp_ne_oa ha hv')]; exact ha
    have ht : w_5 ta = some (.inl (G.2.2.1 1, 4, .inr (.inr (.inr (.inl f_2))))) := by rw [ew_5, hp_set_ne htv]; exact ht
    have hv' : w_5 va = some (.inl (G.2.2.1 1, 4, .inr (.inr (.inr (.inl f_4))))) := by rw [ew_5]; exact hp_set_eq _ _ _
    refine lv_iinc (v := nI (k - 1)) (lv' := [(2, .int (nI (k - 1))), (0, .ref a), (1, .int (nI i))]) hx hb d_Tr_makeRoom_38 hl (k := 0) rfl (by have := nI_dec (k - 1); rw [show k - 1 + 1 = k by omega] at this; exact this) (by decide) rfl (fun ls hl => ?_)
    refine lv_goto (tgt := 5) hx hb d_Tr_makeRoom_41 (by decide) ?_
    refine ih (k - 1) (k - 1, ls, H, locs, w_5) (by omega) ⟨by show i ≤ k - 1; omega, by show k - 1 ≤ n; omega, rfl, hl, hI, hS, ?_⟩
    show w_5 = hp_set (hp_set w ta (aD G 4 (kSh ft (k - 1) n))) va (aD G 4 (kSh fv (k - 1) n))
    rw [ew_5, ew_3, ef_4, ef_2, kSh_step ft (by omega) h2, kSh_step fv (by omega) h2, ew0]
    funext q
    by_cases q1 : q = va <;> by_cases q2 : q = ta <;> simp [hp_set, q1, q2]
/-- the place of a time among the first n -/
def kAt (ft : Nat → UInt64) (u : UInt64) : Nat → Nat
  | 0 => 0
  | k + 1 => if kAt ft u k = k ∧ FP.dcmp (ft k) u = some .lt then k + 1 else kAt ft u k
theorem kAt_le (ft : Nat → UInt64) (u : UInt64) : ∀ n, kAt ft u n ≤ n
  | 0 => Nat.le_refl 0
  | n + 1 => by
    have h := kAt_le ft u n
    unfold kAt
    by_cases hc : kAt ft u n = n ∧ FP.dcmp (ft n) u = some .lt
    · rw [if_pos hc]; exact Nat.le_refl _
    · rw [if_neg hc]; omega
theorem kAt_stop (ft : Nat → UInt64) (u : UInt64) {k : Nat} (hk : kAt ft u k = k) (hs : ¬ FP.dcmp (ft k) u = some .lt) : ∀ n, k ≤ n → kAt ft u n = k := by
  intro n hn
  induction n with
  | zero => rw [show k = 0 by omega]; rfl
  | succ n ih =>
    rcases Nat.lt_or_ge n k with q | q
    · rw [show n + 1 = k by omega, hk]
    · have e := ih q
      show (if kAt ft u n = n ∧ FP.dcmp (ft n) u = some .lt then n + 1 else kAt ft u n) = k
      rw [if_neg, e]
      rintro ⟨q1, q2⟩
      rw [e] at q1
      rw [← q1] at q2
      exact hs q2
theorem kAt_go (ft : Nat → UInt64) (u : UInt64) {k : Nat} (hk : kAt ft u k = k) (hs : FP.dcmp (ft k) u = some .lt) : kAt ft u (k + 1) = k + 1 := by
  show (if kAt ft u k = k ∧ FP.dcmp (ft k) u = some .lt then k + 1 else kAt ft u k) = k + 1
  rw [if_pos ⟨hk, hs⟩]
/-- there is a frame of that time -/
def kSame (ft : Nat → UInt64) (n : Nat) (u : UInt64) : Prop := kAt ft u n < n ∧ FP.dcmp (ft (kAt ft u n)) u = some .eq
set_option maxHeartbeats 4000000 in
set_option maxRecDepth 100000 in
theorem m_Tr_put (l : Launch) (G : EG) (S0 : Nat) (w : hp_M) (a ta va n : Nat) (ft fv : Nat → UInt64) (u v : UInt64) (hn : n ≤ 4) (htv : ta ≠ va) (ha : w a = some (oTr ta va n)) (ht : w ta = some (aD G 4 ft)) (hv' : w va = some (aD G 4 fv)) : Met l y_Tr_put w_Tr_put (rl 1 0 0) (eP G S0 w [.ref a, .double u, .double v]) (va_Qi (fun r z =>
    (kSame ft n u → r = 1 ∧ z = hp_set (hp_set w ta (aD G 4 (vf_upd ft (kAt ft u n) u))) va (aD G 4 (vf_upd fv (kAt ft u n) v))) ∧
    (¬ kSame ft n u → n = 4 → r = 0 ∧ z = w) ∧
    (¬ kSame ft n u → ¬ n = 4 → r = 1 ∧ z = hp_set (hp_set (hp_set w ta (aD G 4 (vf_upd (kSh ft (kAt ft u n) n) (kAt ft u n) u))) va (aD G 4 (vf_upd (kSh fv (kAt ft u n) n) (kAt ft u n) v))) a (oTr ta va (n + 1)))) (eW G S0) (hp_A S0)) 0 0 (hp_A S0) := by
  refine Met.ofW (cc := b_Tr_put) (maxL := 6) (ret := (some .boolean)) (by decide) rfl ?_
  intro p e s m args below meth c s₁ B hml hv
  obtain ⟨rfl, hE, hI, hz⟩ := hv
  have hx := B.exec
  have hb := B.bytes
  have hr := B.returns
  have hts := atoms_spec (ws := w_Tr_put) B.pre
  have hg : ∀ w ∈ gw, w.before _ s = true := fun w h => hts w (List.mem_cons_of_mem _ h)
  have hown : s.vm.findClass "SceneEasel$Track" = some m.cls := findClass_of_methodNamed B.named
  have hlocks := B.notSynchronized
  have hK := hE.K
  have hS : va_S (hp_A S0) s.heap s.heap [] := va_S.rf
  have hl := lv_entry ([.ref a, .double u, .double v]) (n := 6) (Nat.le_of_ble_eq_true rfl)
  rw [lg_entry_eq]
  generalize (lg_sl ([.ref a, .double u, .double v]) ++ List.replicate (6 - (lg_sl ([.ref a, .double u, .double v])).length) Slot.unset).toArray = ls at hl ⊢
  have hl : lv_has ls 6 [(0, .ref a), (1, .double u), (3, .double v)] := hl
  have hle := kAt_le ft u n
  have hat : a ≠ ta := hp_ne_oa ha ht
  have hav : a ≠ va := hp_ne_oa ha hv'
  refine lv_iconst (v := 0) hx hb d_Tr_put_0 (by decide) ?_
  refine lv_istore (lv' := [(5, .int 0), (0, .ref a), (1, .double u), (3, .double v)]) hx hb d_Tr_put_1 hl (by decide) rfl (fun ls hl => ?_)
  refine W.mi1 (fun ls : Array Slot => lv_has ls 6 [(5, .int (nI (kAt ft u n))), (0, .ref a), (1, .double u), (3, .double v)]) (fun ls => F0 m 30 ls []) (fun ls hl => ?_) (fun key => ?_)
  · obtain ⟨i, ei⟩ : ∃ z, z = kAt ft u n := ⟨_, rfl⟩
    have hsm : kSame ft n u ↔ i < n ∧ FP.dcmp (ft i) u = some .eq := by unfold kSame; rw [← ei]
    rw [← ei] at hl hle ⊢
    refine W.mi1 (fun ls : Array Slot => ¬ kSame ft n u ∧ lv_has ls 6 [(5, .int (nI i)), (0, .ref a), (1, .double u), (3, .double v)]) (fun ls => F0 m 51 ls []) (fun ls hq => ?_) (fun key => ?_)
    · obtain ⟨hns, hl⟩ := hq
      refine lv_aload_n hx hb d_Tr_put_51 rfl (lv_at hl 1 rfl) ?_
      refine hp_get (ci := 2) (v := .int (nI n)) (C := R_Tr) (T := F_Tr) (N := 3) hx hb hg i_Tr hown hK hI ha rfl 2 (by decide) (hg _ k_155) (fun _ h9 => h9) rfl d_Tr_put_52 ?_
      refine lv_iconst (v := 4) hx hb d_Tr_put_55 (by decide) ?_
      refine lv_icmp_ne (tgt := 61) hx hb d_Tr_put_56 (by decide) (fun c1 => ?_) (fun c1 => ?_)
      · have h4 : ¬ n = 4 := fun h => c1 (by rw [h]; rfl)
        refine lv_aload_n hx hb d_Tr_put_61 rfl (lv_at hl 1 rfl) ?_
        refine lv_iload hx hb d_Tr_put_62 (lv_at hl 0 rfl) ?_
        refine ec_v (va_runV (As := [.int (nI i)]) (rest := []) ⟨hx, hb, hml, hown, hts⟩ (m_Tr_makeRoom l G S0 w a ta va n i ft fv (by omega) hle htv ha ht hv') (cwV 1 hts (gw_V k_539 k_541 k_17 k_66 k_542) rfl rfl rfl (by decide +kernel) ⟨Nat.le_of_ble_eq_true rfl, Nat.le_of_ble_eq_true rfl⟩) (eB.preV hE hI hS hz rfl ha) rfl rfl hl.1 rfl (lv_room (Nat.le_of_ble_eq_true rfl)) d_Tr_put_64 ⟨Nat.le_of_ble_eq_true rfl, Nat.le_of_ble_eq_true rfl⟩) hS (fun w_1 H locs ew_1 hI hsz hS => ?_)
        have ha2 : w_1 a = some (oTr ta va (n + 1)) := by rw [ew_1]; exact hp_set_eq _ _ _
        have ht2 : w_1 ta = some (aD G 4 (kSh ft i n)) := by rw [ew_1, hp_set_ne hat.symm, hp_set_ne htv]; exact hp_set_eq _ _ _
        have hv2 : w_1 va = some (aD G 4 (kSh fv i n)) := by rw [ew_1, hp_set_ne hav.symm]; exact hp_set_eq _ _ _
        refine lv_aload_n hx hb d_Tr_put_67 rfl (lv_at hl 1 rfl) ?_
        refine hp_get (ci := 2) (v := .ref ta) (C := R_Tr) (T := F_Tr) (N := 3) hx hb hg i_Tr hown hK hI ha2 rfl 0 (by decide) (hg _ k_153) (fun _ h9 => h9) rfl d_Tr_put_68 ?_
        refine lv_iload hx hb d_Tr_put_71 (lv_at hl 0 rfl) ?_
        refine lv_dload_n hx hb d_Tr_put_73 rfl (lv_at hl 2 rfl) ?_
        refine hp_dast hx hb hK hI hS 1 ht2 rfl (vp_in_nI (by omega) (by decide)) d_Tr_put_74 (fun H locs hI hS hsz => ?_)
        rw [nI_clamp (n := i) (by omega)] at hI
        obtain ⟨f_2, ef_2⟩ : ∃ z, z = vf_upd (kSh ft i n) i u := ⟨_, rfl⟩
        rw [← ef_2] at hI
        obtain ⟨w_3, ew_3⟩ : ∃ z, z = hp_set w_1 ta (.inl (G.2.2.1 1, 4, .inr (.inr (.inr (.inl f_2))))) := ⟨_, rfl⟩
        have hI : eI G S0 w_3 H := by rw [ew_3]; exact hI
        have ha2 : w_3 a = some (.inr (2, [.ref ta, .ref va, .int (nI (n + 1))])) := by rw [ew_3, hp_set_ne (hp_ne_oa ha2 ht2)]; exact ha2
        have hv2 : w_3 va = some (.inl (G.2.2.1 1, 4, .inr (.inr (.inr (.inl (kSh fv i n)))))) := by rw [ew_3, hp_set_ne htv.symm]; exact hv2
        have ht2 : w_3 ta = some (.inl (G.2.2.1 1, 4, .inr (.inr (.inr (.inl f_2))))) := by rw [ew_3]; exact hp_set_eq _ _ _
        refine lv_aload_n hx hb d_Tr_put_75 rfl (lv_at hl 1 rfl) ?_
        refine hp_get (ci := 2) (v := .ref va) (C := R_Tr) (T := F_Tr) (N := 3) hx hb hg i_Tr hown hK hI ha2 rfl 1 (by decide) (hg _ k_154) (fun _ h9 => h9) rfl d_Tr_put_76 ?_
        refine lv_iload hx hb d_Tr_put_79 (lv_at hl 0 rfl) ?_
        refine lv_dload_n hx hb d_Tr_put_81 rfl (lv_at hl 3 rfl) ?_
        refine hp_dast hx hb hK hI hS 1 hv2 rfl (vp_in_nI (by omega) (by decide)) d_Tr_put_82 (fun H locs hI hS hsz => ?_)
        rw [nI_clamp (n := i) (by omega)] at hI
        obtain ⟨f_4, ef_4⟩ : ∃ z, z = vf_upd (kSh fv i n) i v := ⟨_, rfl⟩
        rw [← ef_4] at hI
        obtain ⟨w_5, ew_5⟩ : ∃ z, z = hp_set w_3 va (.inl (G.2.2.1 1, 4, .inr (.inr (.inr (.inl f_4))))) := ⟨_, rfl⟩
        have hI : eI G S0 w_5 H := by rw [ew_5]; exact hI
        have ha2 : w_5 a = some (.inr (2, [.ref ta, .ref va, .int (nI (n + 1))])) := by rw [ew_5, hp_set_ne (hp_ne_oa ha2 hv2)]; exact ha2
        have ht2 : w_5 ta = some (.inl (G.2.2.1 1, 4, .inr (.inr (.inr (.inl f_2))))) := by rw [ew_5, hp_set_ne htv]; exact ht2
        have hv2 : w_5 va = some (.inl (G.2.2.1 1, 4, .inr (.inr (.inr (.inl f_4))))) := by rw [ew_5]; exact hp_set_eq _ _ _
        refine lv_iconst (v := 1) hx hb d_Tr_put_83 (by decide) ?_
        have e9 : w_5 = hp_set (hp_set (hp_set w ta (aD G 4 (vf_upd (kSh ft i n) i u))) va (aD G 4 (vf_upd (kSh fv i n) i v))) a (oTr ta va (n + 1)) := by
          rw [ew_5, ew_3, ef_4, ef_2, ew_1]
          funext q
          by_cases q1 : q = va <;> by_cases q2 : q = ta <;> by_cases q3 : q = a <;> simp [hp_set, q1, q2, q3, hat, hav, htv, hat.symm, hav.symm, htv.symm]
        exact W.zret (v := 1) hx hb hr rfl (fun t ht hW => ⟨⟨1, w_5, rfl, ⟨fun h => absurd h hns, fun _ h => absurd h h4, fun _ _ => ⟨rfl, e9⟩⟩, eWo ht hI⟩, hS.F ht⟩) hS.2.2 d_Tr_put_84
      · have h4 : n = 4 := (nI_eq (a := n) (b := 4) (by omega) (by decide)).mp c1
        refine lv_iconst (v := 0) hx hb d_Tr_put_59 (by decide) ?_
        exact W.zret (v := 0) hx hb hr rfl (fun t ht hW => ⟨⟨0, w, rfl, ⟨fun h => absurd h hns, fun _ _ => ⟨rfl, rfl⟩, fun _ h => absurd h4 h⟩, eWo ht hI⟩, hS.F ht⟩) hS.2.2 d_Tr_put_60
    · refine lv_iload hx hb d_Tr_put_30 (lv_at hl 0 rfl) ?_
      refine lv_aload_n hx hb d_Tr_put_32 rfl (lv_at hl 1 rfl) ?_
      refine hp_get (ci := 2) (v := .int (nI n)) (C := R_Tr) (T := F_Tr) (N := 3) hx hb hg i_Tr hown hK hI ha rfl 2 (by decide) (hg _ k_155) (fun _ h9 => h9) rfl d_Tr_put_33 ?_
      refine lv_icmp_eq (tgt := 51) hx hb d_Tr_put_36 (by decide) (fun c1 => ?_) (fun c1 => ?_)
      · have h9 := (nI_eq (a := i) (b := n) (by omega) (by omega)).mp c1
        exact key ls ⟨fun h => by have := (hsm.mp h).1; omega, hl⟩
      · have hlt : i < n := by
          have : ¬ i = n := fun h => c1 (by rw [h])
          omega
        refine lv_aload_n hx hb d_Tr_put_39 rfl (lv_at hl 1 rfl) ?_
        refine hp_get (ci := 2) (v := .ref ta) (C := R_Tr) (T := F_Tr) (N := 3) hx hb hg i_Tr hown hK hI ha rfl 0 (by decide) (hg _ k_153) (fun _ h9 => h9) rfl d_Tr_put_40 ?_
        refine lv_iload hx hb d_Tr_put_43 (lv_at hl 0 rfl) ?_
        refine hp_dald hx hb hK hI 1 ht rfl (vp_in_nI (by omega) (by decide)) d_Tr_put_45 ?_
        rw [nI_clamp (n := i) (by omega)]
        refine lv_dload_n hx hb d_Tr_put_46 rfl (lv_at hl 2 rfl) ?_
        refine lv_dcmp hx hb d_Tr_put_47 ?_
        refine lv_if_eq (tgt := 67) hx hb d_Tr_put_48 (by decide) (fun c2 => ?_) (fun c2 => ?_)
        · have hs : kSame ft n u := hsm.mpr ⟨hlt, cv_l_eq.mp c2⟩
          refine lv_aload_n hx hb d_Tr_put_67 rfl (lv_at hl 1 rfl) ?_
          refine hp_get (ci := 2) (v := .ref ta) (C := R_Tr) (T := F_Tr) (N := 3) hx hb hg i_Tr hown hK hI ha rfl 0 (by decide) (hg _ k_153) (fun _ h9 => h9) rfl d_Tr_put_68 ?_
          refine lv_iload hx hb d_Tr_put_71 (lv_at hl 0 rfl) ?_
          refine lv_dload_n hx hb d_Tr_put_73 rfl (lv_at hl 2 rfl) ?_
          refine hp_dast hx hb hK hI hS 1 ht rfl (vp_in_nI (by omega) (by decide)) d_Tr_put_74 (fun H locs hI hS hsz => ?_)
          rw [nI_clamp (n := i) (by omega)] at hI
          obtain ⟨f_6, ef_6⟩ : ∃ z, z = vf_upd ft i u := ⟨_, rfl⟩
          rw [← ef_6] at hI
          obtain ⟨w_7, ew_7⟩ : ∃ z, z = hp_set w ta (.inl (G.2.2.1 1, 4, .inr (.inr (.inr (.inl f_6))))) := ⟨_, rfl⟩
          have hI : eI G S0 w_7 H := by rw [ew_7]; exact hI
          have ha : w_7 a = some (.inr (2, [.ref ta, .ref va, .int (nI n)])) := by rw [ew_7, hp_set_ne (hp_ne_oa ha ht)]; exact ha
          have hv' : w_7 va = some (.inl (G.2.2.1 1, 4, .inr (.inr (.inr (.inl fv))))) := by rw [ew_7, hp_set_ne htv.symm]; exact hv'
          have ht : w_7 ta = some (.inl (G.2.2.1 1, 4, .inr (.inr (.inr (.inl f_6))))) := by rw [ew_7]; exact hp_set_eq _ _ _
          refine lv_aload_n hx hb d_Tr_put_75 rfl (lv_at hl 1 rfl) ?_
          refine hp_get (ci := 2) (v := .ref va) (C := R_Tr) (T := F_Tr) (N := 3) hx hb hg i_Tr hown hK hI ha rfl 1 (by decide) (hg _ k_154) (fun _ h9 => h9) rfl d_Tr_put_76 ?_
          refine lv_iload hx hb d_Tr_put_79 (lv_at hl 0 rfl) ?_
          refine lv_dload_n hx hb d_Tr_put_81 rfl (lv_at hl 3 rfl) ?_
          refine hp_dast hx hb hK hI hS 1 hv' rfl (vp_in_nI (by omega) (by decide)) d_Tr_put_82 (fun H locs hI hS hsz => ?_)
          rw [nI_clamp (n := i) (by omega)] at hI
          obtain ⟨f_8, ef_8⟩ : ∃ z, z = vf_upd fv i v := ⟨_, rfl⟩
          rw [← ef_8] at hI
          obtain ⟨w_9, ew_9⟩ : ∃ z, z = hp_set w_7 va (.inl (G.2.2.1 1, 4, .inr (.inr (.inr (.inl f_8))))) := ⟨_, rfl⟩
          have hI : eI G S0 w_9 H := by rw [ew_9]; exact hI
          have ha : w_9 a = some (.inr (2, [.ref ta, .ref va, .int (nI n)])) := by rw [ew_9, hp_set_ne (hp_ne_oa ha hv')]; exact ha
          have ht : w_9 ta = some (.inl (G.2.2.1 1, 4, .inr (.inr (.inr (.inl f_6))))) := by rw [ew_9, hp_set_ne htv]; exact ht
          have hv' : w_9 va = some (.inl (G.2.2.1 1, 4, .inr (.inr (.inr (.inl f_8))))) := by rw [ew_9]; exact hp_set_eq _ _ _
          refine lv_iconst (v := 1) hx hb d_Tr_put_83 (by decide) ?_
          exact W.zret (v := 1) hx hb hr rfl (fun t ht hW => ⟨⟨1, w_9, rfl, ⟨fun _ => ⟨rfl, by rw [ew_9, ew_7, ef_8, ef_6]⟩, fun h => absurd hs h, fun h => absurd hs h⟩, eWo ht hI⟩, hS.F ht⟩) hS.2.2 d_Tr_put_84
        · exact key ls ⟨fun h => c2 (cv_l_eq.mpr (hsm.mp h).2), hl⟩
  · refine W.lp1 (fun j (q : Nat × Array Slot) => q.1 ≤ n ∧ kAt ft u q.1 = q.1 ∧ j = 4 - q.1 ∧ lv_has q.2 6 [(5, .int (nI q.1)), (0, .ref a), (1, .double u), (3, .double v)]) (fun q => F0 m 3 q.2 []) 4 (0, ls) ⟨Nat.zero_le n, rfl, rfl, hl⟩ ?_
    rintro j ⟨k, ls⟩ ⟨h1, h2, h3, hl⟩ ih
    dsimp only at h1 h2 h3 hl ⊢
    refine lv_iload hx hb d_Tr_put_3 (lv_at hl 0 rfl) ?_
    refine lv_aload_n hx hb d_Tr_put_5 rfl (lv_at hl 1 rfl) ?_
    refine hp_get (ci := 2) (v := .int (nI n)) (C := R_Tr) (T := F_Tr) (N := 3) hx hb hg i_Tr hown hK hI ha rfl 2 (by decide) (hg _ k_155) (fun _ h9 => h9) rfl d_Tr_put_6 ?_
    refine lv_icmp_ge (tgt := 30) hx hb d_Tr_put_9 (by decide) (fun c1 => ?_) (fun c1 => ?_)
    · have h9 := (nI_leI (a := n) (b := k) (by omega) (by omega)).mp c1
      exact key ls (by rw [show kAt ft u n = k by rw [show n = k by omega]; exact h2]; exact hl)
    · have hlt : k < n := by
        rcases Nat.lt_or_ge k n with q | q
        · exact q
        · exact absurd ((nI_leI (by omega) (by omega)).mpr q) c1
      refine lv_aload_n hx hb d_Tr_put_12 rfl (lv_at hl 1 rfl) ?_
      refine hp_get (ci := 2) (v := .ref ta) (C := R_Tr) (T := F_Tr) (N := 3) hx hb hg i_Tr hown hK hI ha rfl 0 (by decide) (hg _ k_153) (fun _ h9 => h9) rfl d_Tr_put_13 ?_
      refine lv_iload hx hb d_Tr_put_16 (lv_at hl 0 rfl) ?_
      refine hp_dald hx hb hK hI 1 ht rfl (vp_in_nI (by omega) (by decide)) d_Tr_put_18 ?_
      rw [nI_clamp (n := k) (by omega)]
      refine lv_dload_n hx hb d_Tr_put_19 rfl (lv_at hl 2 rfl) ?_
      refine lv_dcmp hx hb d_Tr_put_20 ?_
      refine lv_if_ge (tgt := 30) hx hb d_Tr_put_21 (by decide) (fun c2 => ?_) (fun c2 => ?_)
      · exact key ls (by rw [kAt_stop ft u h2 (cv_g_ge.mp c2) n h1]; exact hl)
      · refine lv_iinc (v := nI (k + 1)) (lv' := [(5, .int (nI (k + 1))), (0, .ref a), (1, .double u), (3, .double v)]) hx hb d_Tr_put_24 hl (k := 0) rfl (nI_inc k) (by decide) rfl (fun ls hl => ?_)
        refine lv_goto (tgt := 3) hx hb d_Tr_put_27 (by decide) ?_
        exact ih (4 - (k + 1)) (k + 1, ls) (by omega) ⟨hlt, kAt_go ft u h2 (Classical.not_not.mp (fun h => c2 (cv_g_ge.mpr h))), rfl, hl⟩
end
section
/-! throws of Easel -/
section XT
variable {p : Program} {l : Launch} {e : Env} {R : Room} {s : State} {m : MethodId} {args : Array Value} {below : List Frame} {meth : Method} {c : Code} {H : Heap} {locs : List Loc} {cells slots : Nat}
variable {G : EG} {S0 : Nat} {w : hp_M} {ls : Array Slot} {rest : List Value}
theorem xt_throw {cc : ByteArray} {pc : Nat} {cls9 text : String} {names : List String} {ik is ic mc ms : Nat} {px : String → hp_M → Prop} {Qc : Array Value → State → Outcome → State → Prop}
    (kk : Cond.classLink "SceneEasel" ik cls9 ∈ gw) (ki : Cond.initialized cls9 ∈ gw) (hs : ("SceneEasel", is, text) ∈ strs) (hfit : Bundle.fit cls9 = true ∧ ∀ n ∈ names, Bundle.fit n = true)
    (x1 : ∀ w ∈ (vx_atS "SceneEasel" ic cls9 names).filter goodWord, w ∈ gw) (x2 : ∀ w ∈ (vx_atS "SceneEasel" ic cls9 names).filter (fun w => !goodWord w), w ∈ nw)
    (x3 : ∀ w ∈ Cond.classLink "SceneEasel" ik cls9 :: Cond.initialized cls9 :: vx_atS "SceneEasel" ic cls9 names, vx_ot w = true) (hn : names.length = 2)
    (hx : p.tables.exec = Jvm.exec) (hb : c.code = cc) (hlt : l.stackTraces = false) (hown : s.vm.findClass "SceneEasel" = some m.cls) (hg : ∀ w ∈ gw, w.before args s = true) (hE : en G S0 s) (hI : eI G S0 w H) (hS : va_S (hp_A S0) s.heap H locs) (hsize : ls.size = c.maxLocals)
    (d0 : decode cc pc = .ok (.new ik, 3)) (d3 : decode cc (pc + 3) = .ok (.dup, 1)) (d4 : decode cc (pc + 4) = .ok (.ldc is, 2)) (d6 : decode cc (pc + 6) = .ok (.invokespecial ic, 3)) (d9 : decode cc (pc + 9) = .ok (.athrow, 1))
    (hnx : ∀ x ∈ c.exceptionTable.toList, False) (hlocks : meth.locks = false) (hpx : px cls9 w)
    (hR1 : 6 ≤ R.frames) (hR2 : (rest.map fun v => v.category).sum + 82 ≤ R.locals) (hR3 : cells + 1 ≤ R.cells) (hR4 : slots + 6 ≤ R.slots) (hc : cells + 1 ≤ mc) (hsl : slots + 6 ≤ ms) :
    W p l e R s m args below meth c H locs cells slots (vx_MQ below Qc (eX G S0 px) args s mc ms (hp_A S0)) (F0 m pc ls rest) := by
  refine vx_throwS (sa := eS G is) (text := text) (names := names) (A := hp_A S0) hx hb hlt hown hfit.1 hfit.2 (hg _ kk) (hg _ ki) (hE.str hs) (vx_hat (B := nw) (fun w h => hg w (x1 w h)) x2 (fun w h => hE.N h)) x3 hE.ZU hE.ZN hS hsize d0 d3 d4 d6 d9 (fun x h => (hnx x h).elim) (by omega) (by rw [hn]; omega) hR3 hR4 hlocks ?_ hS.2.2 hc hsl
  intro t hvm hz hk
  exact ⟨w, trivial, ⟨hpx, hI.grow hk⟩, Nat.le_trans hS.1 hz, fun q h1 h2 => (hk q (Nat.lt_of_lt_of_le h1 hS.1)).trans (hS.2.1 q h1 h2)⟩
end XT
abbrev iae : String := "java/lang/IllegalArgumentException"
abbrev ise : String := "java/lang/IllegalStateException"
abbrev nse : String := "java/util/NoSuchElementException"
abbrev rte : List String := ["java/lang/RuntimeException", "java/lang/Exception"]
set_option maxRecDepth 20000 in
theorem x1_iae : ∀ w ∈ (vx_atS "SceneEasel" 223 iae rte).filter goodWord, w ∈ gw := by
  have h : ∀ w ∈ (vx_atS "SceneEasel" 223 iae rte).filter goodWord, w ∈ lw_tbl := by decide +kernel
  exact fun w hw => gw_of (h w hw) (List.mem_filter.mp hw).2
set_option maxRecDepth 20000 in
theorem x2_iae : ∀ w ∈ (vx_atS "SceneEasel" 223 iae rte).filter (fun w => !goodWord w), w ∈ nw := by
  have h : ∀ w ∈ (vx_atS "SceneEasel" 223 iae rte).filter (fun w => !goodWord w), w ∈ lw_tbl ∧ nwk w = true := by decide +kernel
  exact fun w hw => List.mem_filter.mpr (h w hw)
set_option maxRecDepth 20000 in
theorem x3_iae : ∀ w ∈ Cond.classLink "SceneEasel" 219 iae :: Cond.initialized iae :: vx_atS "SceneEasel" 223 iae rte, vx_ot w = true := by decide +kernel
theorem xf_iae : Bundle.fit iae = true ∧ ∀ n ∈ rte, Bundle.fit n = true := by decide +kernel
set_option maxRecDepth 20000 in
theorem x1_ise : ∀ w ∈ (vx_atS "SceneEasel" 41 ise rte).filter goodWord, w ∈ gw := by
  have h : ∀ w ∈ (vx_atS "SceneEasel" 41 ise rte).filter goodWord, w ∈ lw_tbl := by decide +kernel
  exact fun w hw => gw_of (h w hw) (List.mem_filter.mp hw).2
set_option maxRecDepth 20000 in
theorem x2_ise : ∀ w ∈ (vx_atS "SceneEasel" 41 ise rte).filter (fun w => !goodWord w), w ∈ nw := by
  have h : ∀ w ∈ (vx_atS "SceneEasel" 41 ise rte).filter (fun w => !goodWord w), w ∈ lw_tbl ∧ nwk w = true := by decide +kernel
  exact fun w hw => List.mem_filter.mpr (h w hw)
set_option maxRecDepth 20000 in
theorem x3_ise : ∀ w ∈ Cond.classLink "SceneEasel" 37 ise :: Cond.initialized ise :: vx_atS "SceneEasel" 41 ise rte, vx_ot w = true := by decide +kernel
theorem xf_ise : Bundle.fit ise = true ∧ ∀ n ∈ rte, Bundle.fit n = true := by decide +kernel
/-! the checks of Easel that only throw -/
abbrev pIA (w : hp_M) (P : Prop) : String → hp_M → Prop := fun E u => E = iae ∧ u = w ∧ P
end
section
set_option maxHeartbeats 4000000 in
set_option maxRecDepth 100000 in
theorem m_Ea_requireWithin (l : Launch) (hlt : l.stackTraces = false) (G : EG) (S0 : Nat) (w : hp_M) (x lo hi : Int32) : vx_Met l y_Ea_requireWithin w_Ea_requireWithin (rl 0 1 6) (eP G S0 w [.int x, .int lo, .int hi]) (va_Qv (fun u => u = w ∧ (lo ≤ x ∧ x ≤ hi)) (eW G S0) (hp_A S0)) (eX G S0 (pIA w (¬ (lo ≤ x ∧ x ≤ hi)))) 1 6 (hp_A S0) := by
  refine vx_ofW (cc := b_Ea_requireWithin) (maxL := 3) (ret := none) (by decide) rfl ?_
  intro p e s m args below meth c s₁ B hml hnx hv
  obtain ⟨rfl, hE, hI, hz⟩ := hv
  have hx := B.exec
  have hb := B.bytes
  have hr := B.returns
  have hts := atoms_spec (ws := w_Ea_requireWithin) B.pre
  have hg : ∀ w ∈ gw, w.before _ s = true := fun w h => hts w (List.mem_cons_of_mem _ h)
  have hown : s.vm.findClass "SceneEasel" = some m.cls := findClass_of_methodNamed B.named
  have hlocks := B.notSynchronized
  have hK := hE.K
  have hS : va_S (hp_A S0) s.heap s.heap [] := va_S.rf
  have hl := lv_entry ([.int x, .int lo, .int hi]) (n := 3) (Nat.le_of_ble_eq_true rfl)
  rw [lg_entry_eq]
  generalize (lg_sl ([.int x, .int lo, .int hi]) ++ List.replicate (3 - (lg_sl ([.int x, .int lo, .int hi])).length) Slot.unset).toArray = ls at hl ⊢
  have hl : lv_has ls 3 [(0, .int x), (1, .int lo), (2, .int hi)] := hl
  refine lv_iload_n hx hb d_Ea_requireWithin_0 rfl (lv_at hl 0 rfl) ?_
  refine lv_iload_n hx hb d_Ea_requireWithin_1 rfl (lv_at hl 1 rfl) ?_
  refine lv_icmp_lt (tgt := 10) hx hb d_Ea_requireWithin_2 (by decide) (fun c1 => ?_) (fun c1 => ?_)
  · exact xt_throw (names := rte) (text := "a number out of range") k_304 k_71 (by decide +kernel) xf_iae x1_iae x2_iae x3_iae rfl hx hb hlt hown hg hE hI hS (hl.1.trans hml.symm) d_Ea_requireWithin_10 d_Ea_requireWithin_13 d_Ea_requireWithin_14 d_Ea_requireWithin_16 d_Ea_requireWithin_19 hnx hlocks (⟨rfl, rfl, fun h => absurd c1 (Int32.not_lt.mpr h.1)⟩) (Nat.le_of_ble_eq_true rfl) (Nat.le_of_ble_eq_true rfl) (Nat.le_of_ble_eq_true rfl) (Nat.le_of_ble_eq_true rfl) (Nat.le_of_ble_eq_true rfl) (Nat.le_of_ble_eq_true rfl)
  · refine lv_iload_n hx hb d_Ea_requireWithin_5 rfl (lv_at hl 0 rfl) ?_
    refine lv_iload_n hx hb d_Ea_requireWithin_6 rfl (lv_at hl 2 rfl) ?_
    refine lv_icmp_le (tgt := 20) hx hb d_Ea_requireWithin_7 (by decide) (fun c2 => ?_) (fun c2 => ?_)
    · refine vx_ret ?_
      refine W.widen (k := 1) (n := 6) (Nat.le_of_ble_eq_true rfl) (Nat.le_of_ble_eq_true rfl) ?_
      exact W.vret hx hb hr (fun t ht hW => ⟨⟨w, rfl, ⟨rfl, Int32.not_lt.mp c1, c2⟩, eWo ht hI⟩, hS.F ht⟩) hS.2.2 d_Ea_requireWithin_20
    · exact xt_throw (names := rte) (text := "a number out of range") k_304 k_71 (by decide +kernel) xf_iae x1_iae x2_iae x3_iae rfl hx hb hlt hown hg hE hI hS (hl.1.trans hml.symm) d_Ea_requireWithin_10 d_Ea_requireWithin_13 d_Ea_requireWithin_14 d_Ea_requireWithin_16 d_Ea_requireWithin_19 hnx hlocks (⟨rfl, rfl, fun h => c2 h.2⟩) (Nat.le_of_ble_eq_true rfl) (Nat.le_of_ble_eq_true rfl) (Nat.le_of_ble_eq_true rfl) (Nat.le_of_ble_eq_true rfl) (Nat.le_of_ble_eq_true rfl) (Nat.le_of_ble_eq_true rfl)
set_option maxHeartbeats 4000000 in
set_option maxRecDepth 100000 in
theorem m_Ea_requireBetween (l : Launch) (hlt : l.stackTraces = false) (G : EG) (S0 : Nat) (w : hp_M) (x lo hi : UInt64) : vx_Met l y_Ea_requireBetween w_Ea_requireBetween (rl 0 1 6) (eP G S0 w [.double x, .double lo, .double hi]) (va_Qv (fun u => u = w ∧ (dge x lo ∧ dle x hi)) (eW G S0) (hp_A S0)) (eX G S0 (pIA w (¬ (dge x lo ∧ dle x hi)))) 1 6 (hp_A S0) := by
  refine vx_ofW (cc := b_Ea_requireBetween) (maxL := 6) (ret := none) (by decide) rfl ?_
  intro p e s m args below meth c s₁ B hml hnx hv
  obtain ⟨rfl, hE, hI, hz⟩ := hv
  have hx := B.exec
  have hb := B.bytes
  have hr := B.returns
  have hts := atoms_spec (ws := w_Ea_requireBetween) B.pre
  have hg : ∀ w ∈ gw, w.before _ s = true := fun w h => hts w (List.mem_cons_of_mem _ h)
  have hown : s.vm.findClass "SceneEasel" = some m.cls := findClass_of_methodNamed B.named
  have hlocks := B.notSynchronized
  have hK := hE.K
  have hS : va_S (hp_A S0) s.heap s.heap [] := va_S.rf
  have hl := lv_entry ([.double x, .double lo, .double hi]) (n := 6) (Nat.le_of_ble_eq_true rfl)
  rw [lg_entry_eq]
  generalize (lg_sl ([.double x, .double lo, .double hi]) ++ List.replicate (6 - (lg_sl ([.double x, .double lo, .double hi])).length) Slot.unset).toArray = ls at hl ⊢
  have hl : lv_has ls 6 [(0, .double x), (2, .double lo), (4, .double hi)] := hl
  refine lv_dload_n hx hb d_Ea_requireBetween_0 rfl (lv_at hl 0 rfl) ?_
  refine lv_dload_n hx hb d_Ea_requireBetween_1 rfl (lv_at hl 1 rfl) ?_
  refine lv_dcmp hx hb d_Ea_requireBetween_2 ?_
  refine lv_if_lt (tgt := 13) hx hb d_Ea_requireBetween_3 (by decide) (fun c1 => ?_) (fun c1 => ?_)
  · exact xt_throw (names := rte) (text := "a number out of range") k_304 k_71 (by decide +kernel) xf_iae x1_iae x2_iae x3_iae rfl hx hb hlt hown hg hE hI hS (hl.1.trans hml.symm) d_Ea_requireBetween_13 d_Ea_requireBetween_16 d_Ea_requireBetween_17 d_Ea_requireBetween_19 d_Ea_requireBetween_22 hnx hlocks (⟨rfl, rfl, fun h => absurd c1 (Int32.not_lt.mpr (cv_l_ge.mpr h.1))⟩) (Nat.le_of_ble_eq_true rfl) (Nat.le_of_ble_eq_true rfl) (Nat.le_of_ble_eq_true rfl) (Nat.le_of_ble_eq_true rfl) (Nat.le_of_ble_eq_true rfl) (Nat.le_of_ble_eq_true rfl)
  · refine lv_dload_n hx hb d_Ea_requireBetween_6 rfl (lv_at hl 0 rfl) ?_
    refine lv_dload hx hb d_Ea_requireBetween_7 (lv_at hl 2 rfl) ?_
    refine lv_dcmp hx hb d_Ea_requireBetween_9 ?_
    refine lv_if_le (tgt := 23) hx hb d_Ea_requireBetween_10 (by decide) (fun c2 => ?_) (fun c2 => ?_)
    · refine vx_ret ?_
      refine W.widen (k := 1) (n := 6) (Nat.le_of_ble_eq_true rfl) (Nat.le_of_ble_eq_true rfl) ?_
      exact W.vret hx hb hr (fun t ht hW => ⟨⟨w, rfl, ⟨rfl, cv_l_ge.mp (Int32.not_lt.mp c1), cv_g_le.mp c2⟩, eWo ht hI⟩, hS.F ht⟩) hS.2.2 d_Ea_requireBetween_23
    · exact xt_throw (names := rte) (text := "a number out of range") k_304 k_71 (by decide +kernel) xf_iae x1_iae x2_iae x3_iae rfl hx hb hlt hown hg hE hI hS (hl.1.trans hml.symm) d_Ea_requireBetween_13 d_Ea_requireBetween_16 d_Ea_requireBetween_17 d_Ea_requireBetween_19 d_Ea_requireBetween_22 hnx hlocks (⟨rfl, rfl, fun h => c2 (cv_g_le.mpr h.2)⟩) (Nat.le_of_ble_eq_true rfl) (Nat.le_of_ble_eq_true rfl) (Nat.le_of_ble_eq_true rfl) (Nat.le_of_ble_eq_true rfl) (Nat.le_of_ble_eq_true rfl) (Nat.le_of_ble_eq_true rfl)
/-- a number is a whole one of so many parts -/
def dWhole (x : UInt64) (k : Int32) : Prop := FP.dcmp (FP.dmul x (FP.i2d k)) (FP.i2d (FP.d2i (FP.dmul x (FP.i2d k)))) = some .eq
set_option maxHeartbeats 4000000 in
set_option maxRecDepth 100000 in
theorem m_Ea_requireMultiple (l : Launch) (hlt : l.stackTraces = false) (G : EG) (S0 : Nat) (w : hp_M) (x : UInt64) (k : Int32) (hn : vf_n64 (FP.dmul x (FP.i2d k))) : vx_Met l y_Ea_requireMultiple w_Ea_requireMultiple (rl 0 1 6) (eP G S0 w [.double x, .int k]) (va_Qv (fun u => u = w ∧ dWhole x k) (eW G S0) (hp_A S0)) (eX G S0 (pIA w (¬ dWhole x k))) 1 6 (hp_A S0) := by
  refine vx_ofW (cc := b_Ea_requireMultiple) (maxL := 5) (ret := none) (by decide) rfl ?_
  intro p e s m args below meth c s₁ B hml hnx hv
  obtain ⟨rfl, hE, hI, hz⟩ := hv
  have hx := B.exec
  have hb := B.bytes
  have hr := B.returns
  have hts := atoms_spec (ws := w_Ea_requireMultiple) B.pre
  have hg : ∀ w ∈ gw, w.before _ s = true := fun w h => hts w (List.mem_cons_of_mem _ h)
  have hown : s.vm.findClass "SceneEasel" = some m.cls := findClass_of_methodNamed B.named
  have hlocks := B.notSynchronized
  have hK := hE.K
  have hS : va_S (hp_A S0) s.heap s.heap [] := va_S.rf
  have hl := lv_entry ([.double x, .int k]) (n := 5) (Nat.le_of_ble_eq_true rfl)
  rw [lg_entry_eq]
  generalize (lg_sl ([.double x, .int k]) ++ List.replicate (5 - (lg_sl ([.double x, .int k])).length) Slot.unset).toArray = ls at hl ⊢
  have hl : lv_has ls 5 [(0, .double x), (2, .int k)] := hl
  refine lv_dload_n hx hb d_Ea_requireMultiple_0 rfl (lv_at hl 0 rfl) ?_
  refine lv_iload_n hx hb d_Ea_requireMultiple_1 rfl (lv_at hl 1 rfl) ?_
  refine lv_i2d hx hb d_Ea_requireMultiple_2 ?_
  refine lv_dmul hx hb d_Ea_requireMultiple_3 hn ?_
  refine lv_dstore_n (lv' := [(3, .double (FP.dmul x (FP.i2d k))), (0, .double x), (2, .int k)]) hx hb d_Ea_requireMultiple_4 rfl hl (by decide) rfl (fun ls hl => ?_)
  refine lv_dload_n hx hb d_Ea_requireMultiple_5 rfl (lv_at hl 0 rfl) ?_
  refine lv_dload_n hx hb d_Ea_requireMultiple_6 rfl (lv_at hl 0 rfl) ?_
  refine lv_d2i hx hb d_Ea_requireMultiple_7 ?_
  refine lv_i2d hx hb d_Ea_requireMultiple_8 ?_
  refine lv_dcmp hx hb d_Ea_requireMultiple_9 ?_
  refine lv_if_eq (tgt := 23) hx hb d_Ea_requireMultiple_10 (by decide) (fun c1 => ?_) (fun c1 => ?_)
  · refine vx_ret ?_
    refine W.widen (k := 1) (n := 6) (Nat.le_of_ble_eq_true rfl) (Nat.le_of_ble_eq_true rfl) ?_
    exact W.vret hx hb hr (fun t ht hW => ⟨⟨w, rfl, ⟨rfl, cv_l_eq.mp c1⟩, eWo ht hI⟩, hS.F ht⟩) hS.2.2 d_Ea_requireMultiple_23
  · exact xt_throw (names := rte) (text := "a number that is no such part of a whole") k_304 k_71 (by decide +kernel) xf_iae x1_iae x2_iae x3_iae rfl hx hb hlt hown hg hE hI hS (hl.1.trans hml.symm) d_Ea_requireMultiple_13 d_Ea_requireMultiple_16 d_Ea_requireMultiple_17 d_Ea_requireMultiple_19 d_Ea_requireMultiple_22 hnx hlocks (⟨rfl, rfl, fun h => c1 (cv_l_eq.mpr h)⟩) (Nat.le_of_ble_eq_true rfl) (Nat.le_of_ble_eq_true rfl) (Nat.le_of_ble_eq_true rfl) (Nat.le_of_ble_eq_true rfl) (Nat.le_of_ble_eq_true rfl) (Nat.le_of_ble_eq_true rfl)
end
section
abbrev c1000 : UInt64 := 4652007308841189376
abbrev c100 : UInt64 := 4636737291354636288
abbrev cm100 : UInt64 := 13860109328209412096
abbrev c0125 : UInt64 := 4593671619917905920
abbrev cm2 : UInt64 := 13835058055282163712
abbrev c2 : UInt64 := 4611686018427387904
abbrev c15 : UInt64 := 4624633867356078080
abbrev inT (x : UInt64) : Prop := dge x FP.dconst0 ∧ dle x c1000
abbrev inL (x : UInt64) : Prop := (dge x c0125 ∧ dle x c100) ∧ dWhole x 8
abbrev inP (x : UInt64) : Prop := (dge x cm100 ∧ dle x c100) ∧ dWhole x 8
abbrev inV (k : Nat) (x : UInt64) : Prop := (k = 2 → (dge x cm2 ∧ dle x c2) ∧ dWhole x 1) ∧ (k = 3 → (dge x FP.dconst1 ∧ dle x c15) ∧ dWhole x 1) ∧ (k ≠ 2 → k ≠ 3 → inP x)
theorem fx_nmulI {x : UInt64} (hx : FP.Core.DFin x) (k : Int32) : vf_n64 (FP.dmul x (FP.i2d k)) := fx_nmul hx (FP.Core.i2d_fin k)
set_option maxHeartbeats 4000000 in
set_option maxRecDepth 100000 in
theorem m_Ea_requireTime (l : Launch) (hlt : l.stackTraces = false) (G : EG) (S0 : Nat) (w : hp_M) (x : UInt64) : vx_Met l y_Ea_requireTime w_Ea_requireTime (rl 1 1 6) (eP G S0 w [.double x]) (va_Qv (fun u => u = w ∧ inT x) (eW G S0) (hp_A S0)) (eX G S0 (pIA w (¬ inT x))) 1 6 (hp_A S0) := by
  refine vx_ofW (cc := b_Ea_requireTime) (maxL := 2) (ret := none) (by decide) rfl ?_
  intro p e s m args below meth c s₁ B hml hnx hv
  obtain ⟨rfl, hE, hI, hz⟩ := hv
  have hx := B.exec
  have hb := B.bytes
  have hr := B.returns
  have hts := atoms_spec (ws := w_Ea_requireTime) B.pre
  have hg : ∀ w ∈ gw, w.before _ s = true := fun w h => hts w (List.mem_cons_of_mem _ h)
  have hown : s.vm.findClass "SceneEasel" = some m.cls := findClass_of_methodNamed B.named
  have hlocks := B.notSynchronized
  have hK := hE.K
  have hS : va_S (hp_A S0) s.heap s.heap [] := va_S.rf
  have hl := lv_entry ([.double x]) (n := 2) (Nat.le_of_ble_eq_true rfl)
  rw [lg_entry_eq]
  generalize (lg_sl ([.double x]) ++ List.replicate (2 - (lg_sl ([.double x])).length) Slot.unset).toArray = ls at hl ⊢
  have hl : lv_has ls 2 [(0, .double x)] := hl
  refine lv_dload_n hx hb d_Ea_requireTime_0 rfl (lv_at hl 0 rfl) ?_
  refine lv_dconst0 hx hb d_Ea_requireTime_1 ?_
  refine lv_ldc2d (v := 4652007308841189376) hx hb hown (hg _ k_528) d_Ea_requireTime_2 ?_
  refine xc_v (vx_runS (As := [.double x, .double FP.dconst0, .double 4652007308841189376]) (rest := []) ⟨hx, hb, hml, hown, hts⟩ (m_Ea_requireBetween l hlt G S0 w x FP.dconst0 c1000) (cwS 3 hts (gw_S k_473 k_474 k_60 k_475) rfl rfl rfl (by decide +kernel) ⟨Nat.le_of_ble_eq_true rfl, Nat.le_of_ble_eq_true rfl⟩) (eB.preS hE hI hS hz) rfl rfl hl.1 rfl (lv_room (Nat.le_of_ble_eq_true rfl)) d_Ea_requireTime_5 ⟨Nat.le_of_ble_eq_true rfl, Nat.le_of_ble_eq_true rfl⟩) hS (fun E9 ce9 q9 u9 H9 locs9 hpx9 hI9 hsz9 hS9 g1 g2 g3 => xc_out hnx hlocks g1 g2 g3 (hpx9) hI9 hS9 (Nat.le_of_ble_eq_true rfl) (Nat.le_of_ble_eq_true rfl)) (fun w_1 H locs ew_1 hI hsz hS => ?_)
  obtain ⟨ew_1, h1⟩ := ew_1
  have ew_1 := ew_1.symm
  subst ew_1
  refine vx_ret ?_
  exact W.vret hx hb hr (fun t ht hW => ⟨⟨w, rfl, ⟨rfl, h1⟩, eWo ht hI⟩, hS.F ht⟩) hS.2.2 d_Ea_requireTime_8
set_option maxHeartbeats 4000000 in
set_option maxRecDepth 100000 in
theorem m_Ea_requireLength (l : Launch) (hlt : l.stackTraces = false) (G : EG) (S0 : Nat) (w : hp_M) (x : UInt64) (hf : FP.Core.DFin x) : vx_Met l y_Ea_requireLength w_Ea_requireLength (rl 1 2 12) (eP G S0 w [.double x]) (va_Qv (fun u => u = w ∧ inL x) (eW G S0) (hp_A S0)) (eX G S0 (pIA w (¬ inL x))) 2 12 (hp_A S0) := by
  refine vx_ofW (cc := b_Ea_requireLength) (maxL := 2) (ret := none) (by decide) rfl ?_
  intro p e s m args below meth c s₁ B hml hnx hv
  obtain ⟨rfl, hE, hI, hz⟩ := hv
  have hx := B.exec
  have hb := B.bytes
  have hr := B.returns
  have hts := atoms_spec (ws := w_Ea_requireLength) B.pre
  have hg : ∀ w ∈ gw, w.before _ s = true := fun w h => hts w (List.mem_cons_of_mem _ h)
  have hown : s.vm.findClass "SceneEasel" = some m.cls := findClass_of_methodNamed B.named
  have hlocks := B.notSynchronized
  have hK := hE.K
  have hS : va_S (hp_A S0) s.heap s.heap [] := va_S.rf
  have hl := lv_entry ([.double x]) (n := 2) (Nat.le_of_ble_eq_true rfl)
  rw [lg_entry_eq]
  generalize (lg_sl ([.double x]) ++ List.replicate (2 - (lg_sl ([.double x])).length) Slot.unset).toArray = ls at hl ⊢
  have hl : lv_has ls 2 [(0, .double x)] := hl
  refine lv_dload_n hx hb d_Ea_requireLength_0 rfl (lv_at hl 0 rfl) ?_
  refine lv_ldc2d (v := 4593671619917905920) hx hb hown (hg _ k_471) d_Ea_requireLength_1 ?_
  refine lv_ldc2d (v := 4636737291354636288) hx hb hown (hg _ k_472) d_Ea_requireLength_4 ?_
  refine xc_v (vx_runS (As := [.double x, .double 4593671619917905920, .double 4636737291354636288]) (rest := []) ⟨hx, hb, hml, hown, hts⟩ (m_Ea_requireBetween l hlt G S0 w x c0125 c100) (cwS 3 hts (gw_S k_473 k_474 k_60 k_475) rfl rfl rfl (by decide +kernel) ⟨Nat.le_of_ble_eq_true rfl, Nat.le_of_ble_eq_true rfl⟩) (eB.preS hE hI hS hz) rfl rfl hl.1 rfl (lv_room (Nat.le_of_ble_eq_true rfl)) d_Ea_requireLength_7 ⟨Nat.le_of_ble_eq_true rfl, Nat.le_of_ble_eq_true rfl⟩) hS (fun E9 ce9 q9 u9 H9 locs9 hpx9 hI9 hsz9 hS9 g1 g2 g3 => xc_out hnx hlocks g1 g2 g3 (⟨hpx9.1, hpx9.2.1, fun h => hpx9.2.2 h.1⟩) hI9 hS9 (Nat.le_of_ble_eq_true rfl) (Nat.le_of_ble_eq_true rfl)) (fun w_1 H locs ew_1 hI hsz hS => ?_)
  obtain ⟨ew_1, h1⟩ := ew_1
  have ew_1 := ew_1.symm
  subst ew_1
  refine lv_dload_n hx hb d_Ea_requireLength_10 rfl (lv_at hl 0 rfl) ?_
  refine lv_bipush (v := 8) hx hb d_Ea_requireLength_11 (by decide) ?_
  refine xc_v (vx_runS (As := [.double x, .int 8]) (rest := []) ⟨hx, hb, hml, hown, hts⟩ (m_Ea_requireMultiple l hlt G S0 w x 8 (fx_nmulI hf 8)) (cwS 2 hts (gw_S k_476 k_477 k_60 k_478) rfl rfl rfl (by decide +kernel) ⟨Nat.le_of_ble_eq_true rfl, Nat.le_of_ble_eq_true rfl⟩) (eB.preS hE hI hS hz) rfl rfl hl.1 rfl (lv_room (Nat.le_of_ble_eq_true rfl)) d_Ea_requireLength_13 ⟨Nat.le_of_ble_eq_true rfl, Nat.le_of_ble_eq_true rfl⟩) hS (fun E9 ce9 q9 u9 H9 locs9 hpx9 hI9 hsz9 hS9 g1 g2 g3 => xc_out hnx hlocks g1 g2 g3 (⟨hpx9.1, hpx9.2.1, fun h => hpx9.2.2 h.2⟩) hI9 hS9 (Nat.le_of_ble_eq_true rfl) (Nat.le_of_ble_eq_true rfl)) (fun w_2 H locs ew_2 hI hsz hS => ?_)
  obtain ⟨ew_2, h2⟩ := ew_2
  have ew_2 := ew_2.symm
  subst ew_2
  refine vx_ret ?_
  exact W.vret hx hb hr (fun t ht hW => ⟨⟨w, rfl, ⟨rfl, h1, h2⟩, eWo ht hI⟩, hS.F ht⟩) hS.2.2 d_Ea_requireLength_16
set_option maxHeartbeats 4000000 in
set_option maxRecDepth 100000 in
theorem m_Ea_requirePlace (l : Launch) (hlt : l.stackTraces = false) (G : EG) (S0 : Nat) (w : hp_M) (x : UInt64) (hf : FP.Core.DFin x) : vx_Met l y_Ea_requirePlace w_Ea_requirePlace (rl 1 2 12) (eP G S0 w [.double x]) (va_Qv (fun u => u = w ∧ inP x) (eW G S0) (hp_A S0)) (eX G S0 (pIA w (¬ inP x))) 2 12 (hp_A S0) := by
  refine vx_ofW (cc := b_Ea_requirePlace) (maxL := 2) (ret := none) (by decide) rfl ?_
  intro p e s m args below meth c s₁ B hml hnx hv
  obtain ⟨rfl, hE, hI, hz⟩ := hv
  have hx := B.exec
  have hb := B.bytes
  have hr := B.returns
  have hts := atoms_spec (ws := w_Ea_requirePlace) B.pre
  have hg : ∀ w ∈ gw, w.before _ s = true := fun w h => hts w (List.mem_cons_of_mem _ h)
  have hown : s.vm.findClass "SceneEasel" = some m.cls := findClass_of_methodNamed B.named
  have hlocks := B.notSynchronized
  have hK := hE.K
  have hS : va_S (hp_A S0) s.heap s.heap [] := va_S.rf
  have hl := lv_entry ([.double x]) (n := 2) (Nat.le_of_ble_eq_true rfl)
  rw [lg_entry_eq]
  generalize (lg_sl ([.double x]) ++ List.replicate (2 - (lg_sl ([.double x])).length) Slot.unset).toArray = ls at hl ⊢
  have hl : lv_has ls 2 [(0, .double x)] := hl
  refine lv_dload_n hx hb d_Ea_requirePlace_0 rfl (lv_at hl 0 rfl) ?_
  refine lv_ldc2d (v := 13860109328209412096) hx hb hown (hg _ k_495) d_Ea_requirePlace_1 ?_
  refine lv_ldc2d (v := 4636737291354636288) hx hb hown (hg _ k_472) d_Ea_requirePlace_4 ?_
  refine xc_v (vx_runS (As := [.double x, .double 13860109328209412096, .double 4636737291354636288]) (rest := []) ⟨hx, hb, hml, hown, hts⟩ (m_Ea_requireBetween l hlt G S0 w x cm100 c100) (cwS 3 hts (gw_S k_473 k_474 k_60 k_475) rfl rfl rfl (by decide +kernel) ⟨Nat.le_of_ble_eq_true rfl, Nat.le_of_ble_eq_true rfl⟩) (eB.preS hE hI hS hz) rfl rfl hl.1 rfl (lv_room (Nat.le_of_ble_eq_true rfl)) d_Ea_requirePlace_7 ⟨Nat.le_of_ble_eq_true rfl, Nat.le_of_ble_eq_true rfl⟩) hS (fun E9 ce9 q9 u9 H9 locs9 hpx9 hI9 hsz9 hS9 g1 g2 g3 => xc_out hnx hlocks g1 g2 g3 (⟨hpx9.1, hpx9.2.1, fun h => hpx9.2.2 h.1⟩) hI9 hS9 (Nat.le_of_ble_eq_true rfl) (Nat.le_of_ble_eq_true rfl)) (fun w_1 H locs ew_1 hI hsz hS => ?_)
  obtain ⟨ew_1, h1⟩ := ew_1
  have ew_1 := ew_1.symm
  subst ew_1
  refine lv_dload_n hx hb d_Ea_requirePlace_10 rfl (lv_at hl 0 rfl) ?_
  refine lv_bipush (v := 8) hx hb d_Ea_requirePlace_11 (by decide) ?_
  refine xc_v (vx_runS (As := [.double x, .int 8]) (rest := []) ⟨hx, hb, hml, hown, hts⟩ (m_Ea_requireMultiple l hlt G S0 w x 8 (fx_nmulI hf 8)) (cwS 2 hts (gw_S k_476 k_477 k_60 k_478) rfl rfl rfl (by decide +kernel) ⟨Nat.le_of_ble_eq_true rfl, Nat.le_of_ble_eq_true rfl⟩) (eB.preS hE hI hS hz) rfl rfl hl.1 rfl (lv_room (Nat.le_of_ble_eq_true rfl)) d_Ea_requirePlace_13 ⟨Nat.le_of_ble_eq_true rfl, Nat.le_of_ble_eq_true rfl⟩) hS (fun E9 ce9 q9 u9 H9 locs9 hpx9 hI9 hsz9 hS9 g1 g2 g3 => xc_out hnx hlocks g1 g2 g3 (⟨hpx9.1, hpx9.2.1, fun h => hpx9.2.2 h.2⟩) hI9 hS9 (Nat.le_of_ble_eq_true rfl) (Nat.le_of_ble_eq_true rfl)) (fun w_2 H locs ew_2 hI hsz hS => ?_)
  obtain ⟨ew_2, h2⟩ := ew_2
  have ew_2 := ew_2.symm
  subst ew_2
  refine vx_ret ?_
  exact W.vret hx hb hr (fun t ht hW => ⟨⟨w, rfl, ⟨rfl, h1, h2⟩, eWo ht hI⟩, hS.F ht⟩) hS.2.2 d_Ea_requirePlace_16
set_option maxHeartbeats 4000000 in
set_option maxRecDepth 100000 in
theorem m_Ea_requireValue (l : Launch) (hlt : l.stackTraces = false) (G : EG) (S0 : Nat) (w : hp_M) (k : Nat) (hk : k < 4) (x : UInt64) (hf : FP.Core.DFin x) : vx_Met l y_Ea_requireValue w_Ea_requireValue (rl 2 2 12) (eP G S0 w [.int (nI k), .double x]) (va_Qv (fun u => u = w ∧ inV k x) (eW G S0) (hp_A S0)) (eX G S0 (pIA w (¬ inV k x))) 2 12 (hp_A S0) := by
  refine vx_ofW (cc := b_Ea_requireValue) (maxL := 3) (ret := none) (by decide) rfl ?_
  intro p e s m args below meth c s₁ B hml hnx hv
  obtain ⟨rfl, hE, hI, hz⟩ := hv
  have hx := B.exec
  have hb := B.bytes
  have hr := B.returns
  have hts := atoms_spec (ws := w_Ea_requireValue) B.pre
  have hg : ∀ w ∈ gw, w.before _ s = true := fun w h => hts w (List.mem_cons_of_mem _ h)
  have hown : s.vm.findClass "SceneEasel" = some m.cls := findClass_of_methodNamed B.named
  have hlocks := B.notSynchronized
  have hK := hE.K
  have hS : va_S (hp_A S0) s.heap s.heap [] := va_S.rf
  have hl := lv_entry ([.int (nI k), .double x]) (n := 3) (Nat.le_of_ble_eq_true rfl)
  rw [lg_entry_eq]
  generalize (lg_sl ([.int (nI k), .double x]) ++ List.replicate (3 - (lg_sl ([.int (nI k), .double x])).length) Slot.unset).toArray = ls at hl ⊢
  have hl : lv_has ls 3 [(0, .int (nI k)), (1, .double x)] := hl
  have e2 : nI k = 2 ↔ k = 2 := nI_eq (a := k) (b := 2) (by omega) (by decide)
  have e3 : nI k = 3 ↔ k = 3 := nI_eq (a := k) (b := 3) (by omega) (by decide)
  refine lv_iload_n hx hb d_Ea_requireValue_0 rfl (lv_at hl 0 rfl) ?_
  refine lv_iconst (v := 2) hx hb d_Ea_requireValue_1 (by decide) ?_
  refine lv_icmp_ne (tgt := 23) hx hb d_Ea_requireValue_2 (by decide) (fun c1 => ?_) (fun c1 => ?_)
  · have q2 : ¬ k = 2 := fun h => c1 (e2.mpr h)
    refine lv_iload_n hx hb d_Ea_requireValue_23 rfl (lv_at hl 0 rfl) ?_
    refine lv_iconst (v := 3) hx hb d_Ea_requireValue_24 (by decide) ?_
    refine lv_icmp_ne (tgt := 44) hx hb d_Ea_requireValue_25 (by decide) (fun c2 => ?_) (fun c2 => ?_)
    · have q3 : ¬ k = 3 := fun h => c2 (e3.mpr h)
      refine lv_dload_n hx hb d_Ea_requireValue_44 rfl (lv_at hl 1 rfl) ?_
      refine xc_v (vx_runS (As := [.double x]) (rest := []) ⟨hx, hb, hml, hown, hts⟩ (m_Ea_requirePlace l hlt G S0 w x hf) (cwS 1 hts (gw_S k_492 k_493 k_60 k_494) rfl rfl rfl (by decide +kernel) ⟨Nat.le_of_ble_eq_true rfl, Nat.le_of_ble_eq_true rfl⟩) (eB.preS hE hI hS hz) rfl rfl hl.1 rfl (lv_room (Nat.le_of_ble_eq_true rfl)) d_Ea_requireValue_45 ⟨Nat.le_of_ble_eq_true rfl, Nat.le_of_ble_eq_true rfl⟩) hS (fun E9 ce9 q9 u9 H9 locs9 hpx9 hI9 hsz9 hS9 g1 g2 g3 => xc_out hnx hlocks g1 g2 g3 (⟨hpx9.1, hpx9.2.1, fun h => hpx9.2.2 (h.2.2 q2 q3)⟩) hI9 hS9 (Nat.le_of_ble_eq_true rfl) (Nat.le_of_ble_eq_true rfl)) (fun w_1 H locs ew_1 hI hsz hS => ?_)
      obtain ⟨ew_1, h1⟩ := ew_1
      have ew_1 := ew_1.symm
      subst ew_1
      refine vx_ret ?_
      exact W.vret hx hb hr (fun t ht hW => ⟨⟨w, rfl, ⟨rfl, fun h => absurd h q2, fun h => absurd h q3, fun _ _ => h1⟩, eWo ht hI⟩, hS.F ht⟩) hS.2.2 d_Ea_requireValue_48
    · have q3 : k = 3 := e3.mp c2
      refine lv_dload_n hx hb d_Ea_requireValue_28 rfl (lv_at hl 1 rfl) ?_
      refine lv_dconst1 hx hb d_Ea_requireValue_29 ?_
      refine lv_ldc2d (v := 4624633867356078080) hx hb hown (hg _ k_534) d_Ea_requireValue_30 ?_
      refine xc_v (vx_runS (As := [.double x, .double FP.dconst1, .double 4624633867356078080]) (rest := []) ⟨hx, hb, hml, hown, hts⟩ (m_Ea_requireBetween l hlt G S0 w x FP.dconst1 c15) (cwS 3 hts (gw_S k_473 k_474 k_60 k_475) rfl rfl rfl (by decide +kernel) ⟨Nat.le_of_ble_eq_true rfl, Nat.le_of_ble_eq_true rfl⟩) (eB.preS hE hI hS hz) rfl rfl hl.1 rfl (lv_room (Nat.le_of_ble_eq_true rfl)) d_Ea_requireValue_33 ⟨Nat.le_of_ble_eq_true rfl, Nat.le_of_ble_eq_true rfl⟩) hS (fun E9 ce9 q9 u9 H9 locs9 hpx9 hI9 hsz9 hS9 g1 g2 g3 => xc_out hnx hlocks g1 g2 g3 (⟨hpx9.1, hpx9.2.1, fun h => hpx9.2.2 (h.2.1 q3).1⟩) hI9 hS9 (Nat.le_of_ble_eq_true rfl) (Nat.le_of_ble_eq_true rfl)) (fun w_2 H locs ew_2 hI hsz hS => ?_)
      obtain ⟨ew_2, h1⟩ := ew_2
      have ew_2 := ew_2.symm
      subst ew_2
      refine lv_dload_n hx hb d_Ea_requireValue_36 rfl (lv_at hl 1 rfl) ?_
      refine lv_iconst (v := 1) hx hb d_Ea_requireValue_37 (by decide) ?_
      refine xc_v (vx_runS (As := [.double x, .int 1]) (rest := []) ⟨hx, hb, hml, hown, hts⟩ (m_Ea_requireMultiple l hlt G S0 w x 1 (fx_nmulI hf 1)) (cwS 2 hts (gw_S k_476 k_477 k_60 k_478) rfl rfl rfl (by decide +kernel) ⟨Nat.le_of_ble_eq_true rfl, Nat.le_of_ble_eq_true rfl⟩) (eB.preS hE hI hS hz) rfl rfl hl.1 rfl (lv_room (Nat.le_of_ble_eq_true rfl)) d_Ea_requireValue_38 ⟨Nat.le_of_ble_eq_true rfl, Nat.le_of_ble_eq_true rfl⟩) hS (fun E9 ce9 q9 u9 H9 locs9 hpx9 hI9 hsz9 hS9 g1 g2 g3 => xc_out hnx hlocks g1 g2 g3 (⟨hpx9.1, hpx9.2.1, fun h => hpx9.2.2 (h.2.1 q3).2⟩) hI9 hS9 (Nat.le_of_ble_eq_true rfl) (Nat.le_of_ble_eq_true rfl)) (fun w_3 H locs ew_3 hI hsz hS => ?_)
      obtain ⟨ew_3, h2⟩ := ew_3
      have ew_3 := ew_3.symm
      subst ew_3
      refine lv_goto (tgt := 48) hx hb d_Ea_requireValue_41 (by decide) ?_
      refine vx_ret ?_
      exact W.vret hx hb hr (fun t ht hW => ⟨⟨w, rfl, ⟨rfl, fun h => absurd h q2, fun _ => ⟨h1, h2⟩, fun _ h => absurd q3 h⟩, eWo ht hI⟩, hS.F ht⟩) hS.2.2 d_Ea_requireValue_48
  · have q2 : k = 2 := e2.mp c1
    refine lv_dload_n hx hb d_Ea_requireValue_5 rfl (lv_at hl 1 rfl) ?_
    refine lv_ldc2d (v := 13835058055282163712) hx hb hown (hg _ k_532) d_Ea_requireValue_6 ?_
    refine lv_ldc2d (v := 4611686018427387904) hx hb hown (hg _ k_533) d_Ea_requireValue_9 ?_
    refine xc_v (vx_runS (As := [.double x, .double 13835058055282163712, .double 4611686018427387904]) (rest := []) ⟨hx, hb, hml, hown, hts⟩ (m_Ea_requireBetween l hlt G S0 w x cm2 c2) (cwS 3 hts (gw_S k_473 k_474 k_60 k_475) rfl rfl rfl (by decide +kernel) ⟨Nat.le_of_ble_eq_true rfl, Nat.le_of_ble_eq_true rfl⟩) (eB.preS hE hI hS hz) rfl rfl hl.1 rfl (lv_room (Nat.le_of_ble_eq_true rfl)) d_Ea_requireValue_12 ⟨Nat.le_of_ble_eq_true rfl, Nat.le_of_ble_eq_true rfl⟩) hS (fun E9 ce9 q9 u9 H9 locs9 hpx9 hI9 hsz9 hS9 g1 g2 g3 => xc_out hnx hlocks g1 g2 g3 (⟨hpx9.1, hpx9.2.1, fun h => hpx9.2.2 (h.1 q2).1⟩) hI9 hS9 (Nat.le_of_ble_eq_true rfl) (Nat.le_of_ble_eq_true rfl)) (fun w_4 H locs ew_4 hI hsz hS => ?_)
    obtain ⟨ew_4, h1⟩ := ew_4
    have ew_4 := ew_4.symm
    subst ew_4
    refine lv_dload_n hx hb d_Ea_requireValue_15 rfl (lv_at hl 1 rfl) ?_
    refine lv_iconst (v := 1) hx hb d_Ea_requireValue_16 (by decide) ?_
    refine xc_v (vx_runS (As := [.double x, .int 1]) (rest := []) ⟨hx, hb, hml, hown, hts⟩ (m_Ea_requireMultiple l hlt G S0 w x 1 (fx_nmulI hf 1)) (cwS 2 hts (gw_S k_476 k_477 k_60 k_478) rfl rfl rfl (by decide +kernel) ⟨Nat.le_of_ble_eq_true rfl, Nat.le_of_ble_eq_true rfl⟩) (eB.preS hE hI hS hz) rfl rfl hl.1 rfl (lv_room (Nat.le_of_ble_eq_true rfl)) d_Ea_requireValue_17 ⟨Nat.le_of_ble_eq_true rfl, Nat.le_of_ble_eq_true rfl⟩) hS (fun E9 ce9 q9 u9 H9 locs9 hpx9 hI9 hsz9 hS9 g1 g2 g3 => xc_out hnx hlocks g1 g2 g3 (⟨hpx9.1, hpx9.2.1, fun h => hpx9.2.2 (h.1 q2).2⟩) hI9 hS9 (Nat.le_of_ble_eq_true rfl) (Nat.le_of_ble_eq_true rfl)) (fun w_5 H locs ew_5 hI hsz hS => ?_)
    obtain ⟨ew_5, h2⟩ := ew_5
    have ew_5 := ew_5.symm
    subst ew_5
    refine lv_goto (tgt := 48) hx hb d_Ea_requireValue_20 (by decide) ?_
    refine vx_ret ?_
    exact W.vret hx hb hr (fun t ht hW => ⟨⟨w, rfl, ⟨rfl, fun _ => ⟨h1, h2⟩, fun h => absurd (q2.symm.trans h) (by decide), fun h => absurd q2 h⟩, eWo ht hI⟩, hS.F ht⟩) hS.2.2 d_Ea_requireValue_48
end
section
/-! ArrayList -/
theorem gw_SA {own : String} {idx : Nat} {y : MethodName} {c c0 : Cond} (h1 : Cond.methodLink own idx y ∈ gw) (h2 : Cond.static y ∈ gw) (h4 : Cond.initialized y.cls ∈ gw) (h5 : c ∈ gw) : GoodIn (c0 :: gw) (va_wsS own idx y (c :: gw)) := by
  intro w hw
  unfold va_wsS at hw
  rcases List.mem_append.mp hw with hw | hw
  · simp only [List.mem_cons, List.not_mem_nil, or_false] at hw
    rcases hw with rfl | rfl | rfl
    · exact gw_good c0 _ h1
    · exact gw_good c0 _ h2
    · exact gw_good c0 _ h4
  · exact gw_code h5 w hw
abbrev oAl (mc : Int32) (ea n : Nat) : va_E := .inr (4, [.int mc, .ref ea, .int (nI n)])
abbrev aO (G : EG) (n : Nat) (f : Nat → Option Nat) : va_E := .inl (G.2.2.1 6, n, .inr (.inr (.inr (.inr f))))
set_option maxHeartbeats 4000000 in
set_option maxRecDepth 100000 in
theorem m_Al_size (l : Launch) (G : EG) (S0 : Nat) (w : hp_M) (a ea n : Nat) {mc : Int32} (ha : w a = some (oAl mc ea n)) : Met l y_Al_size w_Al_size (rl 0 0 0) (eP G S0 w [.ref a]) (va_Qi (fun r z => r = nI n ∧ z = w) (eW G S0) (hp_A S0)) 0 0 (hp_A S0) := by
  refine Met.ofW (cc := b_Al_size) (maxL := 1) (ret := (some .int)) (by decide) rfl ?_
  intro p e s m args below meth c s₁ B hml hv
  obtain ⟨rfl, hE, hI, hz⟩ := hv
  have hx := B.exec
  have hb := B.bytes
  have hr := B.returns
  have hts := atoms_spec (ws := w_Al_size) B.pre
  have hg : ∀ w ∈ gw, w.before _ s = true := fun w h => hts w (List.mem_cons_of_mem _ h)
  have hown : s.vm.findClass "java/util/ArrayList" = some m.cls := findClass_of_methodNamed B.named
  have hlocks := B.notSynchronized
  have hK := hE.K
  have hS : va_S (hp_A S0) s.heap s.heap [] := va_S.rf
  have hl := lv_entry ([.ref a]) (n := 1) (Nat.le_of_ble_eq_true rfl)
  rw [lg_entry_eq]
  generalize (lg_sl ([.ref a]) ++ List.replicate (1 - (lg_sl ([.ref a])).length) Slot.unset).toArray = ls at hl ⊢
  have hl : lv_has ls 1 [(0, .ref a)] := hl
  refine lv_aload_n hx hb d_Al_size_0 rfl (lv_at hl 0 rfl) ?_
  refine hp_get (ci := 4) (v := .int (nI n)) (C := R_Al) (T := F_Al) (N := 3) hx hb hg i_Al hown hK hI ha rfl 2 (by decide) (hg _ k_110) (fun _ h9 => h9) rfl d_Al_size_1 ?_
  exact W.iret (v := (nI n)) hx hb hr (fun t ht hW => ⟨⟨(nI n), w, rfl, ⟨rfl, rfl⟩, eWo ht hI⟩, hS.F ht⟩) hS.2.2 d_Al_size_4
set_option maxHeartbeats 4000000 in
set_option maxRecDepth 100000 in
theorem m_Al_isEmpty (l : Launch) (G : EG) (S0 : Nat) (w : hp_M) (a ea n : Nat) (hn : n < 2 ^ 31) {mc : Int32} (ha : w a = some (oAl mc ea n)) : Met l y_Al_isEmpty w_Al_isEmpty (rl 0 0 0) (eP G S0 w [.ref a]) (va_Qi (fun r z => r = (if n = 0 then 1 else 0) ∧ z = w) (eW G S0) (hp_A S0)) 0 0 (hp_A S0) := by
  refine Met.ofW (cc := b_Al_isEmpty) (maxL := 1) (ret := (some .boolean)) (by decide) rfl ?_
  intro p e s m args below meth c s₁ B hml hv
  obtain ⟨rfl, hE, hI, hz⟩ := hv
  have hx := B.exec
  have hb := B.bytes
  have hr := B.returns
  have hts := atoms_spec (ws := w_Al_isEmpty) B.pre
  have hg : ∀ w ∈ gw, w.before _ s = true := fun w h => hts w (List.mem_cons_of_mem _ h)
  have hown : s.vm.findClass "java/util/ArrayList" = some m.cls := findClass_of_methodNamed B.named
  have hlocks := B.notSynchronized
  have hK := hE.K
  have hS : va_S (hp_A S0) s.heap s.heap [] := va_S.rf
  have hl := lv_entry ([.ref a]) (n := 1) (Nat.le_of_ble_eq_true rfl)
  rw [lg_entry_eq]
  generalize (lg_sl ([.ref a]) ++ List.replicate (1 - (lg_sl ([.ref a])).length) Slot.unset).toArray = ls at hl ⊢
  have hl : lv_has ls 1 [(0, .ref a)] := hl
  have e0 : nI n = 0 ↔ n = 0 := nI_eq (a := n) (b := 0) hn (by decide)
  refine lv_aload_n hx hb d_Al_isEmpty_0 rfl (lv_at hl 0 rfl) ?_
  refine hp_get (ci := 4) (v := .int (nI n)) (C := R_Al) (T := F_Al) (N := 3) hx hb hg i_Al hown hK hI ha rfl 2 (by decide) (hg _ k_110) (fun _ h9 => h9) rfl d_Al_isEmpty_1 ?_
  refine lv_if_ne (tgt := 11) hx hb d_Al_isEmpty_4 (by decide) (fun c1 => ?_) (fun c1 => ?_)
  · refine lv_iconst (v := 0) hx hb d_Al_isEmpty_11 (by decide) ?_
    exact W.zret (v := 0) hx hb hr rfl (fun t ht hW => ⟨⟨0, w, rfl, ⟨by rw [if_neg (fun h => c1 (e0.mpr h))], rfl⟩, eWo ht hI⟩, hS.F ht⟩) hS.2.2 d_Al_isEmpty_12
  · refine lv_iconst (v := 1) hx hb d_Al_isEmpty_7 (by decide) ?_
    refine lv_goto (tgt := 12) hx hb d_Al_isEmpty_8 (by decide) ?_
    exact W.zret (v := 1) hx hb hr rfl (fun t ht hW => ⟨⟨1, w, rfl, ⟨by rw [if_pos (e0.mp c1)], rfl⟩, eWo ht hI⟩, hS.F ht⟩) hS.2.2 d_Al_isEmpty_12
set_option maxHeartbeats 4000000 in
set_option maxRecDepth 100000 in
theorem m_Pr_checkIndex (l : Launch) (G : EG) (S0 : Nat) (w : hp_M) (i n : Nat) (hi : i < n) (hn : n < 2 ^ 31) : Met l y_Pr_checkIndex w_Pr_checkIndex (rl 0 0 0) (eP G S0 w [.int (nI i), .int (nI n), .null]) (va_Qi (fun r z => r = nI i ∧ z = w) (eW G S0) (hp_A S0)) 0 0 (hp_A S0) := by
  refine Met.ofW (cc := b_Pr_checkIndex) (maxL := 3) (ret := (some .int)) (by decide) rfl ?_
  intro p e s m args below meth c s₁ B hml hv
  obtain ⟨rfl, hE, hI, hz⟩ := hv
  have hx := B.exec
  have hb := B.bytes
  have hr := B.returns
  have hts := atoms_spec (ws := w_Pr_checkIndex) B.pre
  have hg : ∀ w ∈ gw, w.before _ s = true := fun w h => hts w (List.mem_cons_of_mem _ h)
  have hown : s.vm.findClass "jdk/internal/util/Preconditions" = some m.cls := findClass_of_methodNamed B.named
  have hlocks := B.notSynchronized
  have hK := hE.K
  have hS : va_S (hp_A S0) s.heap s.heap [] := va_S.rf
  have hl := lv_entry ([.int (nI i), .int (nI n), .null]) (n := 3) (Nat.le_of_ble_eq_true rfl)
  rw [lg_entry_eq]
  generalize (lg_sl ([.int (nI i), .int (nI n), .null]) ++ List.replicate (3 - (lg_sl ([.int (nI i), .int (nI n), .null])).length) Slot.unset).toArray = ls at hl ⊢
  have hl : lv_has ls 3 [(0, .int (nI i)), (1, .int (nI n)), (2, .null)] := hl
  refine lv_iload_n hx hb d_Pr_checkIndex_0 rfl (lv_at hl 0 rfl) ?_
  refine lv_if_lt (tgt := 9) hx hb d_Pr_checkIndex_1 (by decide) (fun c9 => absurd c9 (nI_pos (by omega))) (fun c9 => ?_)
  refine lv_iload_n hx hb d_Pr_checkIndex_4 rfl (lv_at hl 0 rfl) ?_
  refine lv_iload_n hx hb d_Pr_checkIndex_5 rfl (lv_at hl 1 rfl) ?_
  refine lv_icmp_lt (tgt := 16) hx hb d_Pr_checkIndex_6 (by decide) (fun c9 => ?_) (fun c9 => absurd (nI_lt hi hn) c9)
  refine lv_iload_n hx hb d_Pr_checkIndex_16 rfl (lv_at hl 0 rfl) ?_
  exact W.iret (v := (nI i)) hx hb hr (fun t ht hW => ⟨⟨(nI i), w, rfl, ⟨rfl, rfl⟩, eWo ht hI⟩, hS.F ht⟩) hS.2.2 d_Pr_checkIndex_17
set_option maxHeartbeats 4000000 in
set_option maxRecDepth 100000 in
theorem m_Ob_checkIndex (l : Launch) (G : EG) (S0 : Nat) (w : hp_M) (i n : Nat) (hi : i < n) (hn : n < 2 ^ 31) : Met l y_Ob_checkIndex w_Ob_checkIndex (rl 1 0 0) (eP G S0 w [.int (nI i), .int (nI n)]) (va_Qi (fun r z => r = nI i ∧ z = w) (eW G S0) (hp_A S0)) 0 0 (hp_A S0) := by
  refine Met.ofW (cc := b_Ob_checkIndex) (maxL := 2) (ret := (some .int)) (by decide) rfl ?_
  intro p e s m args below meth c s₁ B hml hv
  obtain ⟨rfl, hE, hI, hz⟩ := hv
  have hx := B.exec
  have hb := B.bytes
  have hr := B.returns
  have hts := atoms_spec (ws := w_Ob_checkIndex) B.pre
  have hg : ∀ w ∈ gw, w.before _ s = true := fun w h => hts w (List.mem_cons_of_mem _ h)
  have hown : s.vm.findClass "java/util/Objects" = some m.cls := findClass_of_methodNamed B.named
  have hlocks := B.notSynchronized
  have hK := hE.K
  have hS : va_S (hp_A S0) s.heap s.heap [] := va_S.rf
  have hl := lv_entry ([.int (nI i), .int (nI n)]) (n := 2) (Nat.le_of_ble_eq_true rfl)
  rw [lg_entry_eq]
  generalize (lg_sl ([.int (nI i), .int (nI n)]) ++ List.replicate (2 - (lg_sl ([.int (nI i), .int (nI n)])).length) Slot.unset).toArray = ls at hl ⊢
  have hl : lv_has ls 2 [(0, .int (nI i)), (1, .int (nI n))] := hl
  refine lv_iload_n hx hb d_Ob_checkIndex_0 rfl (lv_at hl 0 rfl) ?_
  refine lv_iload_n hx hb d_Ob_checkIndex_1 rfl (lv_at hl 1 rfl) ?_
  refine lv_null hx hb d_Ob_checkIndex_2 ?_
  refine ec_i (va_runS (As := [.int (nI i), .int (nI n), .null]) (rest := []) ⟨hx, hb, hml, hown, hts⟩ (m_Pr_checkIndex l G S0 w i n hi hn) (va_cwS 3 hts (gw_SA k_599 k_600 k_79 k_601) rfl rfl rfl (by decide +kernel) ⟨Nat.le_of_ble_eq_true rfl, Nat.le_of_ble_eq_true rfl⟩) (eB.preS hE hI hS hz) rfl rfl hl.1 rfl (lv_room (Nat.le_of_ble_eq_true rfl)) d_Ob_checkIndex_3 ⟨Nat.le_of_ble_eq_true rfl, Nat.le_of_ble_eq_true rfl⟩) hS (fun r_2 w_1 H locs ew_1 hI hsz hS => ?_)
  obtain ⟨er_2, ew_1⟩ := ew_1
  have ew_1 := ew_1.symm
  subst ew_1
  exact W.iret (v := r_2) hx hb hr (fun t ht hW => ⟨⟨r_2, w, rfl, ⟨er_2, rfl⟩, eWo ht hI⟩, hS.F ht⟩) hS.2.2 d_Ob_checkIndex_6
set_option maxHeartbeats 4000000 in
set_option maxRecDepth 100000 in
theorem m_Al_elementData (l : Launch) (G : EG) (S0 : Nat) (w : hp_M) (a ea n i : Nat) (cap : Nat) (f : Nat → Option Nat) (hi : i < cap) (hc : cap < 2 ^ 31) {mc : Int32} (ha : w a = some (oAl mc ea n)) (he : w ea = some (aO G cap f)) : Met l y_Al_elementData w_Al_elementData (rl 0 0 0) (eP G S0 w [.ref a, .int (nI i)]) (va_Qo (fun r z => r = f i ∧ z = w) (eW G S0) (hp_A S0)) 0 0 (hp_A S0) := by
  refine Met.ofW (cc := b_Al_elementData) (maxL := 2) (ret := (some (.object "java/lang/Object"))) (by decide) rfl ?_
  intro p e s m args below meth c s₁ B hml hv
  obtain ⟨rfl, hE, hI, hz⟩ := hv
  have hx := B.exec
  have hb := B.bytes
  have hr := B.returns
  have hts := atoms_spec (ws := w_Al_elementData) B.pre
  have hg : ∀ w ∈ gw, w.before _ s = true := fun w h => hts w (List.mem_cons_of_mem _ h)
  have hown : s.vm.findClass "java/util/ArrayList" = some m.cls := findClass_of_methodNamed B.named
  have hlocks := B.notSynchronized
  have hK := hE.K
  have hS : va_S (hp_A S0) s.heap s.heap [] := va_S.rf
  have hl := lv_entry ([.ref a, .int (nI i)]) (n := 2) (Nat.le_of_ble_eq_true rfl)
  rw [lg_entry_eq]
  generalize (lg_sl ([.ref a, .int (nI i)]) ++ List.replicate (2 - (lg_sl ([.ref a, .int (nI i)])).length) Slot.unset).toArray = ls at hl ⊢
  have hl : lv_has ls 2 [(0, .ref a), (1, .int (nI i))] := hl
  refine lv_aload_n hx hb d_Al_elementData_0 rfl (lv_at hl 0 rfl) ?_
  refine hp_get (ci := 4) (v := .ref ea) (C := R_Al) (T := F_Al) (N := 3) hx hb hg i_Al hown hK hI ha rfl 1 (by decide) (hg _ k_109) (fun _ h9 => h9) rfl d_Al_elementData_1 ?_
  refine lv_iload_n hx hb d_Al_elementData_4 rfl (lv_at hl 1 rfl) ?_
  refine hp_aald hx hb hK hI 6 he rfl (vp_in_nI hi hc) d_Al_elementData_5 ?_
  rw [nI_clamp (n := i) (by omega)]
  exact W.aret (v := va_rf (f i)) hx hb hr (Or.inl ⟨_, rfl⟩) (va_rf_or _) (fun t ht hW => ⟨⟨(f i), w, rfl, ⟨rfl, rfl⟩, eWo ht hI⟩, hS.F ht⟩) hS.2.2 d_Al_elementData_6
set_option maxHeartbeats 4000000 in
set_option maxRecDepth 100000 in
theorem m_Al_get (l : Launch) (G : EG) (S0 : Nat) (w : hp_M) (a ea n i : Nat) (cap : Nat) (f : Nat → Option Nat) (hi : i < n) (hnc : n ≤ cap) (hc : cap < 2 ^ 31) {mc : Int32} (ha : w a = some (oAl mc ea n)) (he : w ea = some (aO G cap f)) : Met l y_Al_get w_Al_get (rl 2 0 0) (eP G S0 w [.ref a, .int (nI i)]) (va_Qo (fun r z => r = f i ∧ z = w) (eW G S0) (hp_A S0)) 0 0 (hp_A S0) := by
  refine Met.ofW (cc := b_Al_get) (maxL := 2) (ret := (some (.object "java/lang/Object"))) (by decide) rfl ?_
  intro p e s m args below meth c s₁ B hml hv
  obtain ⟨rfl, hE, hI, hz⟩ := hv
  have hx := B.exec
  have hb := B.bytes
  have hr := B.returns
  have hts := atoms_spec (ws := w_Al_get) B.pre
  have hg : ∀ w ∈ gw, w.before _ s = true := fun w h => hts w (List.mem_cons_of_mem _ h)
  have hown : s.vm.findClass "java/util/ArrayList" = some m.cls := findClass_of_methodNamed B.named
  have hlocks := B.notSynchronized
  have hK := hE.K
  have hS : va_S (hp_A S0) s.heap s.heap [] := va_S.rf
  have hl := lv_entry ([.ref a, .int (nI i)]) (n := 2) (Nat.le_of_ble_eq_true rfl)
  rw [lg_entry_eq]
  generalize (lg_sl ([.ref a, .int (nI i)]) ++ List.replicate (2 - (lg_sl ([.ref a, .int (nI i)])).length) Slot.unset).toArray = ls at hl ⊢
  have hl : lv_has ls 2 [(0, .ref a), (1, .int (nI i))] := hl
  refine lv_iload_n hx hb d_Al_get_0 rfl (lv_at hl 1 rfl) ?_
  refine lv_aload_n hx hb d_Al_get_1 rfl (lv_at hl 0 rfl) ?_
  refine hp_get (ci := 4) (v := .int (nI n)) (C := R_Al) (T := F_Al) (N := 3) hx hb hg i_Al hown hK hI ha rfl 2 (by decide) (hg _ k_110) (fun _ h9 => h9) rfl d_Al_get_2 ?_
  refine ec_i (va_runS (As := [.int (nI i), .int (nI n)]) (rest := []) ⟨hx, hb, hml, hown, hts⟩ (m_Ob_checkIndex l G S0 w i n hi (by omega)) (va_cwS 2 hts (gw_SA k_596 k_597 k_78 k_598) rfl rfl rfl (by decide +kernel) ⟨Nat.le_of_ble_eq_true rfl, Nat.le_of_ble_eq_true rfl⟩) (eB.preS hE hI hS hz) rfl rfl hl.1 rfl (lv_room (Nat.le_of_ble_eq_true rfl)) d_Al_get_5 ⟨Nat.le_of_ble_eq_true rfl, Nat.le_of_ble_eq_true rfl⟩) hS (fun r_2 w_1 H locs ew_1 hI hsz hS => ?_)
  obtain ⟨er_2, ew_1⟩ := ew_1
  have ew_1 := ew_1.symm
  subst ew_1
  refine lv_pop hx hb d_Al_get_8 rfl ?_
  refine lv_aload_n hx hb d_Al_get_9 rfl (lv_at hl 0 rfl) ?_
  refine lv_iload_n hx hb d_Al_get_10 rfl (lv_at hl 1 rfl) ?_
  refine ec_o (va_runV (As := [.int (nI i)]) (rest := []) ⟨hx, hb, hml, hown, hts⟩ (m_Al_elementData l G S0 w a ea n i cap f (by omega) hc ha he) (cwV 1 hts (gw_V k_602 k_603 k_604 k_64 k_605) rfl rfl rfl (by decide +kernel) ⟨Nat.le_of_ble_eq_true rfl, Nat.le_of_ble_eq_true rfl⟩) (eB.preV hE hI hS hz rfl ha) rfl rfl hl.1 rfl (lv_room (Nat.le_of_ble_eq_true rfl)) d_Al_get_11 ⟨Nat.le_of_ble_eq_true rfl, Nat.le_of_ble_eq_true rfl⟩) hS (fun r_4 w_3 H locs ew_3 hI hsz hS => ?_)
  obtain ⟨er_4, ew_3⟩ := ew_3
  have ew_3 := ew_3.symm
  subst ew_3
  exact W.aret (v := va_rf r_4) hx hb hr (Or.inl ⟨_, rfl⟩) (va_rf_or _) (fun t ht hW => ⟨⟨r_4, w, rfl, ⟨er_4, rfl⟩, eWo ht hI⟩, hS.F ht⟩) hS.2.2 d_Al_get_14
end
section
/-! the state: what the document tells (DS), what lies in memory beside it (MS) -/
abbrev DS : Type := (Nat → Bool) × (Nat → Nat → Int32) × (Nat → Nat → UInt64) × (Nat → List Nat) × (Nat → Option Nat) × (Nat → Nat → Nat) × (Nat → Nat → Nat → UInt64) × (Nat → Nat → Nat → UInt64) × (Nat → Int32) × Int32
/-- is the node there -/
abbrev sTh (d : DS) : Nat → Bool := d.1
/-- 0 kind, 1 colour, 2 hidden, 3 turn, 4 stretch, 5 mode -/
abbrev sNi (d : DS) : Nat → Nat → Int32 := d.2.1
/-- 0 p, 1 q, 2 x, 3 y, 4 step -/
abbrev sNd (d : DS) : Nat → Nat → UInt64 := d.2.2.1
abbrev sCh (d : DS) : Nat → List Nat := d.2.2.2.1
abbrev sPa (d : DS) : Nat → Option Nat := d.2.2.2.2.1
/-- how many key frames, their times, their values -/
abbrev sTn (d : DS) : Nat → Nat → Nat := d.2.2.2.2.2.1
abbrev sTt (d : DS) : Nat → Nat → Nat → UInt64 := d.2.2.2.2.2.2.1
abbrev sTv (d : DS) : Nat → Nat → Nat → UInt64 := d.2.2.2.2.2.2.2.1
abbrev sCl (d : DS) : Nat → Int32 := d.2.2.2.2.2.2.2.2.1
abbrev sPt (d : DS) : Int32 := d.2.2.2.2.2.2.2.2.2
abbrev MS : Type := (Nat × Nat × Nat) × (Nat → Nat → Nat) × (Nat → Nat) × (Nat → Int32) × (Nat → Nat → UInt64) × (Nat → Nat → Int32) × (Nat → Int32 × UInt64 × UInt64 × UInt64 × UInt64)
abbrev mEo (m : MS) : Nat := m.1.1
abbrev mNa (m : MS) : Nat := m.1.2.1
abbrev mCa (m : MS) : Nat := m.1.2.2
/-- addresses of a node: 0 itself, 1 its list, 2 its tracks' array, 3 its extent, 4 the list's array, 5.. its tracks, 9.. their times, 13.. their values -/
abbrev mAd (m : MS) : Nat → Nat → Nat := m.2.1
abbrev mCap (m : MS) : Nat → Nat := m.2.2.1
abbrev mMc (m : MS) : Nat → Int32 := m.2.2.2.1
/-- what was settled: 0 x, 1 y -/
abbrev mNx (m : MS) : Nat → Nat → UInt64 := m.2.2.2.2.1
/-- 0 stretch, 1 colour -/
abbrev mNi (m : MS) : Nat → Nat → Int32 := m.2.2.2.2.2.1
abbrev mXt (m : MS) : Nat → Int32 × UInt64 × UInt64 × UInt64 × UInt64 := m.2.2.2.2.2.2
/-- where the parent lies -/
def pAd (m : MS) (d : DS) (k : Nat) : Option Nat := (sPa d k).map (fun g => mAd m g 0)
abbrev nC (m : MS) (d : DS) (k : Nat) : va_E := .inr (1, [.int (nI k), .int (sNi d k 0), .int (sNi d k 1), .ref (mAd m k 1), .ref (mAd m k 2), .ref (mAd m k 3), va_rf (pAd m d k), .int (sNi d k 2), .double (sNd d k 0), .double (sNd d k 1), .double (sNd d k 2), .double (sNd d k 3), .int (sNi d k 3), .int (sNi d k 4), .int (sNi d k 5), .double (sNd d k 4), .double (mNx m k 0), .double (mNx m k 1), .int (mNi m k 0), .int (mNi m k 1)])
abbrev aN (G : EG) (n : Nat) (f : Nat → Option Nat) : va_E := .inl (G.2.2.1 4, n, .inr (.inr (.inr (.inr f))))
abbrev aT (G : EG) (n : Nat) (f : Nat → Option Nat) : va_E := .inl (G.2.2.1 5, n, .inr (.inr (.inr (.inr f))))
abbrev aI (G : EG) (n : Nat) (f : Nat → Int32) : va_E := .inl (G.2.2.1 0, n, .inl f)
def elA (G : EG) (m : MS) (k : Nat) : Nat := if mCap m k = 0 then eO G else mAd m k 4
def elF (m : MS) (d : DS) (k : Nat) : Nat → Option Nat := fun j => ((sCh d k)[j]?).map (fun c => mAd m c 0)
def trF (m : MS) (k : Nat) : Nat → Option Nat := fun i => if i < 4 then some (mAd m k (5 + i)) else none
def noF (m : MS) (d : DS) : Nat → Option Nat := fun k => if sTh d k then some (mAd m k 0) else none
def nPic (G : EG) (m : MS) (d : DS) (w : hp_M) (k : Nat) : Prop :=
  w (mAd m k 0) = some (nC m d k) ∧ w (mAd m k 1) = some (oAl (mMc m k) (elA G m k) (sCh d k).length) ∧ (mCap m k ≠ 0 → w (mAd m k 4) = some (aO G (mCap m k) (elF m d k))) ∧
  w (mAd m k 2) = some (aT G 4 (trF m k)) ∧ w (mAd m k 3) = some (oEx (mXt m k).1 (mXt m k).2.1 (mXt m k).2.2.1 (mXt m k).2.2.2.1 (mXt m k).2.2.2.2) ∧
  (∀ i, i < 4 → w (mAd m k (5 + i)) = some (oTr (mAd m k (9 + i)) (mAd m k (13 + i)) (sTn d k i)) ∧ w (mAd m k (9 + i)) = some (aD G 4 (sTt d k i)) ∧ w (mAd m k (13 + i)) = some (aD G 4 (sTv d k i)) ∧ sTn d k i ≤ 4) ∧
  (sCh d k).length ≤ mCap m k ∧ (mCap m k = 0 ∨ mCap m k = 10 ∨ mCap m k = 15)
/-- a place that a node holds -/
def vR (m : MS) (k r : Nat) : Prop := r < 17 ∧ (r = 4 → mCap m k ≠ 0)
def ePic (G : EG) (m : MS) (d : DS) (w : hp_M) : Prop :=
  w (mEo m) = some (.inr (3, [.ref (mAd m 0 0), .ref (mNa m), .ref (mCa m), .int (sPt d)])) ∧ w (mNa m) = some (aN G 14 (noF m d)) ∧ w (mCa m) = some (aI G 192 (sCl d)) ∧
  (∀ k, k < 14 → sTh d k = true → nPic G m d w k) ∧
  (∀ k r k' r', k < 14 → k' < 14 → sTh d k = true → sTh d k' = true → vR m k r → vR m k' r' → mAd m k r = mAd m k' r' → k = k' ∧ r = r')
/-- the tree: parents, children, depths -/
def tOk (d : DS) (dp : Nat → Nat) : Prop :=
  sTh d 0 = true ∧ sPa d 0 = none ∧ sNi d 0 0 = 0 ∧ dp 0 = 0 ∧
  (∀ k, k < 14 → sTh d k = true → k ≠ 0 → ∃ g, g < 14 ∧ sPa d k = some g ∧ sTh d g = true ∧ sNi d g 0 = 0 ∧ dp k = dp g + 1 ∧ k ∈ sCh d g) ∧
  (∀ g, g < 14 → sTh d g = true → (sCh d g).Nodup ∧ (∀ c ∈ sCh d g, c < 14 ∧ sTh d c = true ∧ sPa d c = some g) ∧ (sNi d g 0 ≠ 0 → sCh d g = [])) ∧
  (∀ k, k < 14 → sTh d k = true → dp k ≤ 5)
theorem ePic.node {G : EG} {m : MS} {d : DS} {w : hp_M} (h : ePic G m d w) {k : Nat} (hk : k < 14) (ht : sTh d k = true) : w (mAd m k 0) = some (nC m d k) := (h.2.2.2.1 k hk ht).1
theorem tOk.up {d : DS} {dp : Nat → Nat} (h : tOk d dp) {k : Nat} (hk : k < 14) (ht : sTh d k = true) : (k = 0 ∧ sPa d k = none ∧ dp k = 0) ∨ ∃ g, g < 14 ∧ sPa d k = some g ∧ sTh d g = true ∧ sNi d g 0 = 0 ∧ dp k = dp g + 1 ∧ k ∈ sCh d g := by
  by_cases h0 : k = 0
  · subst h0
    exact Or.inl ⟨rfl, h.2.1, h.2.2.2.1⟩
  · exact Or.inr (h.2.2.2.2.1 k hk ht h0)
/-- on the way up from the parent: nobody, or a node of the tree -/
def upO (d : DS) (dp : Nat → Nat) (o : Option Nat) (n : Nat) : Prop := match o with
  | none => n = 0
  | some g => g < 14 ∧ sTh d g = true ∧ n = dp g + 1
theorem tOk.upO {d : DS} {dp : Nat → Nat} (h : tOk d dp) {k : Nat} (hk : k < 14) (ht : sTh d k = true) : upO d dp (sPa d k) (dp k) := by
  rcases h.up hk ht with ⟨-, h1, h2⟩ | ⟨g, h1, h2, h3, -, h5, -⟩
  · rw [h1, h2]; rfl
  · rw [h2]; exact ⟨h1, h3, h5⟩
set_option maxHeartbeats 4000000 in
set_option maxRecDepth 100000 in
theorem m_No_depth (l : Launch) (G : EG) (S0 : Nat) (w : hp_M) (ms : MS) (d : DS) (dp : Nat → Nat) (hp' : ePic G ms d w) (htr : tOk d dp) (k : Nat) (hk : k < 14) (hkt : sTh d k = true) : Met l y_No_depth w_No_depth (rl 0 0 0) (eP G S0 w [.ref (mAd ms k 0)]) (va_Qi (fun r z => r = nI (dp k) ∧ z = w) (eW G S0) (hp_A S0)) 0 0 (hp_A S0) := by
  refine Met.ofW (cc := b_No_depth) (maxL := 3) (ret := (some .int)) (by decide) rfl ?_
  intro p e s m args below meth c s₁ B hml hv
  obtain ⟨rfl, hE, hI, hz⟩ := hv
  have hx := B.exec
  have hb := B.bytes
  have hr := B.returns
  have hts := atoms_spec (ws := w_No_depth) B.pre
  have hg : ∀ w ∈ gw, w.before _ s = true := fun w h => hts w (List.mem_cons_of_mem _ h)
  have hown : s.vm.findClass "SceneEasel$Node" = some m.cls := findClass_of_methodNamed B.named
  have hlocks := B.notSynchronized
  have hK := hE.K
  have hS : va_S (hp_A S0) s.heap s.heap [] := va_S.rf
  have hl := lv_entry ([.ref (mAd ms k 0)]) (n := 3) (Nat.le_of_ble_eq_true rfl)
  rw [lg_entry_eq]
  generalize (lg_sl ([.ref (mAd ms k 0)]) ++ List.replicate (3 - (lg_sl ([.ref (mAd ms k 0)])).length) Slot.unset).toArray = ls at hl ⊢
  have hl : lv_has ls 3 [(0, .ref (mAd ms k 0))] := hl
  have hk5 := htr.2.2.2.2.2.2 k hk hkt
  have hn := hp'.node hk hkt
  refine lv_iconst (v := 0) hx hb d_No_depth_0 (by decide) ?_
  refine lv_istore_n (lv' := [(1, .int 0), (0, .ref (mAd ms k 0))]) hx hb d_No_depth_1 rfl hl (by decide) rfl (fun ls hl => ?_)
  refine lv_aload_n hx hb d_No_depth_2 rfl (lv_at hl 1 rfl) ?_
  refine hp_get (ci := 1) (v := va_rf (pAd ms d k)) (C := R_No) (T := F_No) (N := 20) hx hb hg i_No hown hK hI hn rfl 6 (by decide) (hg _ k_177) (fun _ h9 => h9) rfl d_No_depth_3 ?_
  have hu := htr.upO hk hkt
  refine W.mi1 (fun q : Option Nat × Nat × Nat × Array Slot => upO d dp q.1 q.2.2.1 ∧ q.2.1 + q.2.2.1 = dp k ∧ lv_has q.2.2.2 3 [(2, va_rf (q.1.map (fun g => mAd ms g 0))), (1, .int (nI q.2.1)), (0, .ref (mAd ms k 0))]) (fun q => F0 m 7 q.2.2.2 []) (fun q hq => ?_) (fun key => ?_)
  · refine W.lp1 (fun j (q : Option Nat × Nat × Nat × Array Slot) => j = q.2.2.1 ∧ upO d dp q.1 q.2.2.1 ∧ q.2.1 + q.2.2.1 = dp k ∧ lv_has q.2.2.2 3 [(2, va_rf (q.1.map (fun g => mAd ms g 0))), (1, .int (nI q.2.1)), (0, .ref (mAd ms k 0))]) (fun q => F0 m 7 q.2.2.2 []) q.2.2.1 q ⟨rfl, hq⟩ ?_
    rintro j ⟨o, c0, n0, ls⟩ ⟨h1, h2, h3, hl⟩ ih
    dsimp only at h1 h2 h3 hl ⊢
    cases o with
    | none =>
      have hl : lv_has ls 3 [(2, .null), (1, .int (nI c0)), (0, .ref (mAd ms k 0))] := hl
      have h9 : n0 = 0 := h2
      refine lv_aload_nN hx hb d_No_depth_7 rfl (lv_at hl 0 rfl) ?_
      refine lv_ifnullN (tgt := 22) hx hb d_No_depth_8 (by decide) ?_
      refine lv_iload_n hx hb d_No_depth_22 rfl (lv_at hl 1 rfl) ?_
      exact W.iret (v := (nI c0)) hx hb hr (fun t ht hW => ⟨⟨(nI c0), w, rfl, ⟨by rw [show c0 = dp k by omega], rfl⟩, eWo ht hI⟩, hS.F ht⟩) hS.2.2 d_No_depth_23
    | some g =>
      have hl : lv_has ls 3 [(2, .ref (mAd ms g 0)), (1, .int (nI c0)), (0, .ref (mAd ms k 0))] := hl
      obtain ⟨h4, h5, h6⟩ : g < 14 ∧ sTh d g = true ∧ n0 = dp g + 1 := h2
      have hng := hp'.node h4 h5
      refine lv_aload_n hx hb d_No_depth_7 rfl (lv_at hl 0 rfl) ?_
      refine lv_ifnull hx hb d_No_depth_8 ?_
      refine lv_iinc (v := nI (c0 + 1)) (lv' := [(1, .int (nI (c0 + 1))), (2, .ref (mAd ms g 0)), (0, .ref (mAd ms k 0))]) hx hb d_No_depth_11 hl (k := 1) rfl (nI_inc c0) (by decide) rfl (fun ls hl => ?_)
      refine lv_aload_n hx hb d_No_depth_14 rfl (lv_at hl 1 rfl) ?_
      refine hp_get (ci := 1) (v := va_rf (pAd ms d g)) (C := R_No) (T := F_No) (N := 20) hx hb hg i_No hown hK hI hng rfl 6 (by decide) (hg _ k_177) (fun _ h9 => h9) rfl d_No_depth_15 ?_
      have hu := htr.upO h4 h5
      unfold pAd
      cases ho : sPa d g with
      | none =>
        rw [ho] at hu
        refine lv_astore_nN (lv' := [(2, .null), (1, .int (nI (c0 + 1))), (0, .ref (mAd ms k 0))]) hx hb d_No_depth_18 rfl hl (by decide) rfl (fun ls hl => ?_)
        refine lv_goto (tgt := 7) hx hb d_No_depth_19 (by decide) ?_
        exact ih 0 (none, c0 + 1, 0, ls) (by omega) ⟨rfl, rfl, by show c0 + 1 + 0 = dp k; have h9 : dp g = 0 := hu; omega, hl⟩
      | some g2 =>
        rw [ho] at hu
        refine lv_astore_n (lv' := [(2, .ref (mAd ms g2 0)), (1, .int (nI (c0 + 1))), (0, .ref (mAd ms k 0))]) hx hb d_No_depth_18 rfl hl (by decide) rfl (fun ls hl => ?_)
        refine lv_goto (tgt := 7) hx hb d_No_depth_19 (by decide) ?_
        obtain ⟨h7, h8, h9⟩ : g2 < 14 ∧ sTh d g2 = true ∧ dp g = dp g2 + 1 := hu
        exact ih (dp g2 + 1) (some g2, c0 + 1, dp g2 + 1, ls) (by omega) ⟨rfl, ⟨h7, h8, rfl⟩, by show c0 + 1 + (dp g2 + 1) = dp k; omega, lv_sub hl [0, 1, 2] rfl⟩
  · unfold pAd
    cases ho : sPa d k with
    | none =>
      rw [ho] at hu
      refine lv_astore_nN (lv' := [(2, .null), (1, .int 0), (0, .ref (mAd ms k 0))]) hx hb d_No_depth_6 rfl hl (by decide) rfl (fun ls hl => ?_)
      exact key (none, 0, 0, ls) ⟨rfl, by show 0 + 0 = dp k; have h9 : dp k = 0 := hu; omega, hl⟩
    | some g =>
      rw [ho] at hu
      refine lv_astore_n (lv' := [(2, .ref (mAd ms g 0)), (1, .int 0), (0, .ref (mAd ms k 0))]) hx hb d_No_depth_6 rfl hl (by decide) rfl (fun ls hl => ?_)
      exact key (some g, 0, dp k, ls) ⟨hu, by show 0 + dp k = dp k; omega, hl⟩
end
section
/-! up the tree: isIn, rank; frames -/
section WLoops
variable {p : Program} {l : Launch} {e : Env} {R : Room} {s : State} {m : MethodId} {args : Array Value} {below : List Frame} {meth : Method} {c : Code} {Q : State → Prop} {G : EG} {S0 : Nat}
/-- a loop: the world and the locals by a value, a number that falls -/
theorem W.lpw {α : Type} {H0 : Heap} {l0 : List Loc} {ls0 : Array Slot} (P : Nat → α → Prop) (wf : α → hp_M) (lf : α → List (Nat × Value)) (cf sf : α → Nat) (nl pc : Nat) (st : α → List Value) (N : Nat) (v0 : α) (h0 : P N v0) (hl0 : lv_has ls0 nl (lf v0)) (hI0 : eI G S0 (wf v0) H0) (hS0 : va_S (hp_A S0) s.heap H0 l0)
    (step : ∀ n v ls H locs, P n v → lv_has ls nl (lf v) → eI G S0 (wf v) H → va_S (hp_A S0) s.heap H locs → (∀ n' v' ls' H' locs', n' < n → P n' v' → lv_has ls' nl (lf v') → eI G S0 (wf v') H' → va_S (hp_A S0) s.heap H' locs' → W p l e R s m args below meth c H' locs' (cf v') (sf v') Q (F0 m pc ls' (st v'))) → W p l e R s m args below meth c H locs (cf v) (sf v) Q (F0 m pc ls (st v))) :
    W p l e R s m args below meth c H0 l0 (cf v0) (sf v0) Q (F0 m pc ls0 (st v0)) := by
  have key : ∀ N n v ls H locs, n < N → P n v → lv_has ls nl (lf v) → eI G S0 (wf v) H → va_S (hp_A S0) s.heap H locs → W p l e R s m args below meth c H locs (cf v) (sf v) Q (F0 m pc ls (st v)) := by
    intro N
    induction N with
    | zero => intro n v ls H locs h; exact absurd h (Nat.not_lt_zero n)
    | succ N ih =>
      intro n v ls H locs h h1 h2 h3 h4
      exact step n v ls H locs h1 h2 h3 h4 (fun n' v' ls' H' locs' g1 g2 g3 g4 g5 => ih n' v' ls' H' locs' (by omega) g2 g3 g4 g5)
  exact key (N + 1) N v0 ls0 H0 l0 (Nat.lt_succ_self N) h0 hl0 hI0 hS0
/-- what comes behind a joint, taken once -/
theorem W.midw {α : Type} {H0 : Heap} {l0 : List Loc} {g0 : JFrame} {c0 s0 : Nat} (P : α → Prop) (wf : α → hp_M) (lf : α → List (Nat × Value)) (cf sf : α → Nat) (nl pc : Nat) (st : α → List Value)
    (k : ∀ v ls H locs, P v → lv_has ls nl (lf v) → eI G S0 (wf v) H → va_S (hp_A S0) s.heap H locs → W p l e R s m args below meth c H locs (cf v) (sf v) Q (F0 m pc ls (st v)))
    (kk : (∀ v ls H locs, P v → lv_has ls nl (lf v) → eI G S0 (wf v) H → va_S (hp_A S0) s.heap H locs → W p l e R s m args below meth c H locs (cf v) (sf v) Q (F0 m pc ls (st v))) → W p l e R s m args below meth c H0 l0 c0 s0 Q g0) : W p l e R s m args below meth c H0 l0 c0 s0 Q g0 := kk k
end WLoops
def upN (d : DS) : Nat → Nat → Option Nat
  | 0, k => some k
  | j + 1, k => (sPa d k).bind (upN d j)
/-- a node is in another, or is it -/
def inn (d : DS) (k n : Nat) : Prop := ∃ j, upN d j k = some n
theorem inn_iff (d : DS) (k n : Nat) : inn d k n ↔ k = n ∨ ∃ g, sPa d k = some g ∧ inn d g n := by
  constructor
  · rintro ⟨j, h⟩
    cases j with
    | zero => exact Or.inl (Option.some.inj h)
    | succ j =>
      cases hg : sPa d k with
      | none => simp [upN, hg] at h
      | some g => exact Or.inr ⟨g, rfl, j, by simpa [upN, hg] using h⟩
  · rintro (h | ⟨g, h1, j, h2⟩)
    · exact ⟨0, by rw [h]; rfl⟩
    · exact ⟨j + 1, by simp [upN, h1, h2]⟩
theorem ePic.ad0 {G : EG} {m : MS} {d : DS} {w : hp_M} (h : ePic G m d w) {k k' : Nat} (hk : k < 14) (ht : sTh d k = true) (hk' : k' < 14) (ht' : sTh d k' = true) : mAd m k 0 = mAd m k' 0 ↔ k = k' :=
  ⟨fun e => (h.2.2.2.2 k 0 k' 0 hk hk' ht ht' ⟨by decide, fun e => absurd e (by decide)⟩ ⟨by decide, fun e => absurd e (by decide)⟩ e).1, fun e => by rw [e]⟩
theorem some_ad0 {G : EG} {m : MS} {d : DS} {w : hp_M} (h : ePic G m d w) {k k' : Nat} (hk : k < 14) (ht : sTh d k = true) (hk' : k' < 14) (ht' : sTh d k' = true) : some (mAd m k 0) = some (mAd m k' 0) ↔ k = k' :=
  ⟨fun e => (h.ad0 hk ht hk' ht').mp (Option.some.inj e), fun e => by rw [e]⟩
set_option maxHeartbeats 4000000 in
set_option maxRecDepth 100000 in
theorem m_No_isIn (l : Launch) (G : EG) (S0 : Nat) (w : hp_M) (ms : MS) (d : DS) (dp : Nat → Nat) (hp' : ePic G ms d w) (htr : tOk d dp) (k n : Nat) (hk : k < 14) (hkt : sTh d k = true) (hn : n < 14) (hnt : sTh d n = true) : Met l y_No_isIn w_No_isIn (rl 0 0 0) (eP G S0 w [.ref (mAd ms k 0), .ref (mAd ms n 0)]) (va_Qi (fun r z => ((r = 1 ∧ inn d k n) ∨ (r = 0 ∧ ¬ inn d k n)) ∧ z = w) (eW G S0) (hp_A S0)) 0 0 (hp_A S0) := by
  refine Met.ofW (cc := b_No_isIn) (maxL := 3) (ret := (some .boolean)) (by decide) rfl ?_
  intro p e s m args below meth c s₁ B hml hv
  obtain ⟨rfl, hE, hI, hz⟩ := hv
  have hx := B.exec
  have hb := B.bytes
  have hr := B.returns
  have hts := atoms_spec (ws := w_No_isIn) B.pre
  have hg : ∀ w ∈ gw, w.before _ s = true := fun w h => hts w (List.mem_cons_of_mem _ h)
  have hown : s.vm.findClass "SceneEasel$Node" = some m.cls := findClass_of_methodNamed B.named
  have hlocks := B.notSynchronized
  have hK := hE.K
  have hS : va_S (hp_A S0) s.heap s.heap [] := va_S.rf
  have hl := lv_entry ([.ref (mAd ms k 0), .ref (mAd ms n 0)]) (n := 3) (Nat.le_of_ble_eq_true rfl)
  rw [lg_entry_eq]
  generalize (lg_sl ([.ref (mAd ms k 0), .ref (mAd ms n 0)]) ++ List.replicate (3 - (lg_sl ([.ref (mAd ms k 0), .ref (mAd ms n 0)])).length) Slot.unset).toArray = ls at hl ⊢
  have hl : lv_has ls 3 [(0, .ref (mAd ms k 0)), (1, .ref (mAd ms n 0))] := hl
  refine lv_aload_n hx hb d_No_isIn_0 rfl (lv_at hl 0 rfl) ?_
  refine lv_astore_n (lv' := [(2, .ref (mAd ms k 0)), (0, .ref (mAd ms k 0)), (1, .ref (mAd ms n 0))]) hx hb d_No_isIn_1 rfl hl (by decide) rfl (fun ls hl => ?_)
  refine W.lp1 (fun j (q : Option Nat × Nat × Array Slot) => j = q.2.1 ∧ upO d dp q.1 q.2.1 ∧ (inn d k n ↔ ∃ g, q.1 = some g ∧ inn d g n) ∧ lv_has q.2.2 3 [(2, va_rf (q.1.map (fun g => mAd ms g 0))), (0, .ref (mAd ms k 0)), (1, .ref (mAd ms n 0))]) (fun q => F0 m 2 q.2.2 []) (dp k + 1) (some k, dp k + 1, ls) ⟨rfl, ⟨hk, hkt, rfl⟩, ⟨fun h => ⟨k, rfl, h⟩, fun ⟨g, h1, h2⟩ => by cases h1; exact h2⟩, hl⟩ ?_
  rintro j ⟨o, n0, ls⟩ ⟨h1, h2, h3, hl⟩ ih
  dsimp only at h1 h2 h3 hl ⊢
  cases o with
  | none =>
    have hl : lv_has ls 3 [(2, .null), (0, .ref (mAd ms k 0)), (1, .ref (mAd ms n 0))] := hl
    refine lv_aload_nN hx hb d_No_isIn_2 rfl (lv_at hl 0 rfl) ?_
    refine lv_ifnullN (tgt := 21) hx hb d_No_isIn_3 (by decide) ?_
    refine lv_iconst (v := 0) hx hb d_No_isIn_21 (by decide) ?_
    exact W.zret (v := 0) hx hb hr rfl (fun t ht hW => ⟨⟨0, w, rfl, ⟨Or.inr ⟨rfl, fun h => by obtain ⟨g, h8, -⟩ := h3.mp h; cases h8⟩, rfl⟩, eWo ht hI⟩, hS.F ht⟩) hS.2.2 d_No_isIn_22
  | some g =>
    have hl : lv_has ls 3 [(2, .ref (mAd ms g 0)), (0, .ref (mAd ms k 0)), (1, .ref (mAd ms n 0))] := hl
    obtain ⟨h4, h5, h6⟩ : g < 14 ∧ sTh d g = true ∧ n0 = dp g + 1 := h2
    have hng := hp'.node h4 h5
    refine lv_aload_n hx hb d_No_isIn_2 rfl (lv_at hl 0 rfl) ?_
    refine lv_ifnull hx hb d_No_isIn_3 ?_
    refine lv_aload_n hx hb d_No_isIn_6 rfl (lv_at hl 0 rfl) ?_
    refine lv_aload_n hx hb d_No_isIn_7 rfl (lv_at hl 2 rfl) ?_
    refine lv_acmp_ne (rx := (some (mAd ms g 0))) (ry := (some (mAd ms n 0))) (tgt := 13) hx hb d_No_isIn_8 (by decide) (fun c1 => ?_) (fun c1 => ?_)
    · have hgn : g ≠ n := fun h => c1 ((some_ad0 hp' h4 h5 hn hnt).mpr h)
      refine lv_aload_n hx hb d_No_isIn_13 rfl (lv_at hl 0 rfl) ?_
      refine hp_get (ci := 1) (v := va_rf (pAd ms d g)) (C := R_No) (T := F_No) (N := 20) hx hb hg i_No hown hK hI hng rfl 6 (by decide) (hg _ k_177) (fun _ h9 => h9) rfl d_No_isIn_14 ?_
      have hu := htr.upO h4 h5
      unfold pAd
      have h3' : inn d k n ↔ ∃ g', sPa d g = some g' ∧ inn d g' n := by
        constructor
        · intro h
          obtain ⟨g', e1, e2⟩ := h3.mp h
          cases e1
          rcases (inn_iff d g n).mp e2 with e3 | e3
          · exact absurd e3 hgn
          · exact e3
        · intro h
          exact h3.mpr ⟨g, rfl, (inn_iff d g n).mpr (Or.inr h)⟩
      cases ho : sPa d g with
      | none =>
        rw [ho] at hu h3'
        refine lv_astore_nN (lv' := [(2, .null), (0, .ref (mAd ms k 0)), (1, .ref (mAd ms n 0))]) hx hb d_No_isIn_17 rfl hl (by decide) rfl (fun ls hl => ?_)
        refine lv_goto (tgt := 2) hx hb d_No_isIn_18 (by decide) ?_
        exact ih 0 (none, 0, ls) (by omega) ⟨rfl, rfl, h3', lv_sub hl [0, 1, 2] rfl⟩
      | some g2 =>
        rw [ho] at hu h3'
        refine lv_astore_n (lv' := [(2, .ref (mAd ms g2 0)), (0, .ref (mAd ms k 0)), (1, .ref (mAd ms n 0))]) hx hb d_No_isIn_17 rfl hl (by decide) rfl (fun ls hl => ?_)
        refine lv_goto (tgt := 2) hx hb d_No_isIn_18 (by decide) ?_
        obtain ⟨h7, h8, h9⟩ : g2 < 14 ∧ sTh d g2 = true ∧ dp g = dp g2 + 1 := hu
        exact ih (dp g2 + 1) (some g2, dp g2 + 1, ls) (by omega) ⟨rfl, ⟨h7, h8, rfl⟩, h3', hl⟩
    · have hgn : g = n := (some_ad0 hp' h4 h5 hn hnt).mp c1
      refine lv_iconst (v := 1) hx hb d_No_isIn_11 (by decide) ?_
      exact W.zret (v := 1) hx hb hr rfl (fun t ht hW => ⟨⟨1, w, rfl, ⟨Or.inl ⟨rfl, h3.mpr ⟨g, rfl, (inn_iff d g n).mpr (Or.inl hgn)⟩⟩, rfl⟩, eWo ht hI⟩, hS.F ht⟩) hS.2.2 d_No_isIn_12
/-- how many frames in the first properties -/
def frS (d : DS) (k : Nat) : Nat → Nat
  | 0 => 0
  | i + 1 => frS d k i + sTn d k i
theorem trF_lt {m : MS} {k i : Nat} (h : i < 4) : trF m k i = some (mAd m k (5 + i)) := if_pos h
set_option maxHeartbeats 4000000 in
set_option maxRecDepth 100000 in
theorem m_No_frames (l : Launch) (G : EG) (S0 : Nat) (w : hp_M) (ms : MS) (d : DS) (hp' : ePic G ms d w) (k : Nat) (hk : k < 14) (hkt : sTh d k = true) : Met l y_No_frames w_No_frames (rl 0 0 0) (eP G S0 w [.ref (mAd ms k 0)]) (va_Qi (fun r z => r = nI (frS d k 4) ∧ z = w) (eW G S0) (hp_A S0)) 0 0 (hp_A S0) := by
  refine Met.ofW (cc := b_No_frames) (maxL := 3) (ret := (some .int)) (by decide) rfl ?_
  intro p e s m args below meth c s₁ B hml hv
  obtain ⟨rfl, hE, hI, hz⟩ := hv
  have hx := B.exec
  have hb := B.bytes
  have hr := B.returns
  have hts := atoms_spec (ws := w_No_frames) B.pre
  have hg : ∀ w ∈ gw, w.before _ s = true := fun w h => hts w (List.mem_cons_of_mem _ h)
  have hown : s.vm.findClass "SceneEasel$Node" = some m.cls := findClass_of_methodNamed B.named
  have hlocks := B.notSynchronized
  have hK := hE.K
  have hS : va_S (hp_A S0) s.heap s.heap [] := va_S.rf
  have hl := lv_entry ([.ref (mAd ms k 0)]) (n := 3) (Nat.le_of_ble_eq_true rfl)
  rw [lg_entry_eq]
  generalize (lg_sl ([.ref (mAd ms k 0)]) ++ List.replicate (3 - (lg_sl ([.ref (mAd ms k 0)])).length) Slot.unset).toArray = ls at hl ⊢
  have hl : lv_has ls 3 [(0, .ref (mAd ms k 0))] := hl
  obtain ⟨hn, -, -, hta, -, htk, -, -⟩ := hp'.2.2.2.1 k hk hkt
  refine lv_iconst (v := 0) hx hb d_No_frames_0 (by decide) ?_
  refine lv_istore_n (lv' := [(1, .int 0), (0, .ref (mAd ms k 0))]) hx hb d_No_frames_1 rfl hl (by decide) rfl (fun ls hl => ?_)
  refine lv_iconst (v := 0) hx hb d_No_frames_2 (by decide) ?_
  refine lv_istore_n (lv' := [(2, .int 0), (1, .int 0), (0, .ref (mAd ms k 0))]) hx hb d_No_frames_3 rfl hl (by decide) rfl (fun ls hl => ?_)
  refine W.lp1 (fun j (q : Nat × Array Slot) => q.1 ≤ 4 ∧ j = 4 - q.1 ∧ lv_has q.2 3 [(2, .int (nI q.1)), (1, .int (nI (frS d k q.1))), (0, .ref (mAd ms k 0))]) (fun q => F0 m 4 q.2 []) 4 (0, ls) ⟨Nat.zero_le 4, rfl, hl⟩ ?_
  rintro j ⟨i, ls⟩ ⟨h1, h2, hl⟩ ih
  dsimp only at h1 h2 hl ⊢
  refine lv_iload_n hx hb d_No_frames_4 rfl (lv_at hl 0 rfl) ?_
  refine lv_iconst (v := 4) hx hb d_No_frames_5 (by decide) ?_
  refine lv_icmp_ge (tgt := 27) hx hb d_No_frames_6 (by decide) (fun c1 => ?_) (fun c1 => ?_)
  · have hi : 4 ≤ i := (nI_leI (a := 4) (b := i) (by omega) (by omega)).mp c1
    refine lv_iload_n hx hb d_No_frames_27 rfl (lv_at hl 1 rfl) ?_
    exact W.iret (v := (nI (frS d k i))) hx hb hr (fun t ht hW => ⟨⟨(nI (frS d k i)), w, rfl, ⟨by rw [show i = 4 by omega], rfl⟩, eWo ht hI⟩, hS.F ht⟩) hS.2.2 d_No_frames_28
  · have hi : i < 4 := by
      rcases Nat.lt_or_ge i 4 with q | q
      · exact q
      · exact absurd ((nI_leI (a := 4) (b := i) (by omega) (by omega)).mpr q) c1
    refine lv_iload_n hx hb d_No_frames_9 rfl (lv_at hl 1 rfl) ?_
    refine lv_aload_n hx hb d_No_frames_10 rfl (lv_at hl 2 rfl) ?_
    refine hp_get (ci := 1) (v := .ref (mAd ms k 2)) (C := R_No) (T := F_No) (N := 20) hx hb hg i_No hown hK hI hn rfl 4 (by decide) (hg _ k_173) (fun _ h9 => h9) rfl d_No_frames_11 ?_
    refine lv_iload_n hx hb d_No_frames_14 rfl (lv_at hl 0 rfl) ?_
    refine hp_aald hx hb hK hI 5 hta rfl (vp_in_nI hi (by decide)) d_No_frames_15 ?_
    rw [nI_clamp (n := i) (by omega)]
    rw [trF_lt hi]
    have ht5 := (htk i hi).1
    refine hp_getN (ci := 2) (v := .int (nI (sTn d k i))) (C := R_Tr) (T := F_Tr) (N := 3) hx hb hg i_Tr hown hK hI ht5 rfl 2 (by decide) (hE.N q_156) (fun _ h9 => h9) rfl d_No_frames_16 ?_
    refine lv_iadd hx hb d_No_frames_19 ?_
    rw [nI_add]
    refine lv_istore_n (lv' := [(1, .int (nI (frS d k i + sTn d k i))), (2, .int (nI i)), (0, .ref (mAd ms k 0))]) hx hb d_No_frames_20 rfl hl (by decide) rfl (fun ls hl => ?_)
    refine lv_iinc (v := nI (i + 1)) (lv' := [(2, .int (nI (i + 1))), (1, .int (nI (frS d k i + sTn d k i))), (0, .ref (mAd ms k 0))]) hx hb d_No_frames_21 hl (k := 1) rfl (nI_inc i) (by decide) rfl (fun ls hl => ?_)
    refine lv_goto (tgt := 4) hx hb d_No_frames_24 (by decide) ?_
    exact ih (3 - i) (i + 1, ls) (by omega) ⟨by show i + 1 ≤ 4; omega, by show 3 - i = 4 - (i + 1); omega, hl⟩
/-- the place among the parent's children -/
def rkF (d : DS) (k : Nat) : Nat := match sPa d k with
  | none => 0
  | some g => (sCh d g).idxOf k
theorem elF_lt {m : MS} {d : DS} {g i : Nat} (h : i < (sCh d g).length) : elF m d g i = some (mAd m ((sCh d g)[i]'h) 0) := by
  unfold elF
  rw [List.getElem?_eq_getElem h]
  rfl
theorem idx_ge {l : List Nat} {k i : Nat} (h : ∀ j (hj : j < l.length), j < i → l[j] ≠ k) (hi : i ≤ l.length) : i ≤ l.idxOf k := by
  rcases Nat.lt_or_ge (l.idxOf k) i with q | q
  · have hq : l.idxOf k < l.length := by omega
    exact absurd (List.getElem_idxOf hq) (h _ hq q)
  · exact q
theorem idx_le {l : List Nat} {k : Nat} : ∀ {i : Nat} (hi : i < l.length), l[i] = k → l.idxOf k ≤ i := by
  induction l with
  | nil => intro i hi; exact absurd hi (Nat.not_lt_zero i)
  | cons x xs ih =>
    intro i hi h
    rw [List.idxOf_cons]
    cases i with
    | zero =>
      have h : x = k := h
      subst h
      simp
    | succ i =>
      have := ih (i := i) (by simpa using hi) (by simpa using h)
      cases x == k <;> simp <;> omega
set_option maxHeartbeats 4000000 in
set_option maxRecDepth 100000 in
theorem m_No_rank (l : Launch) (G : EG) (S0 : Nat) (w : hp_M) (ms : MS) (d : DS) (dp : Nat → Nat) (hp' : ePic G ms d w) (htr : tOk d dp) (k : Nat) (hk : k < 14) (hkt : sTh d k = true) : Met l y_No_rank w_No_rank (rl 3 0 0) (eP G S0 w [.ref (mAd ms k 0)]) (va_Qi (fun r z => r = nI (rkF d k) ∧ z = w) (eW G S0) (hp_A S0)) 0 0 (hp_A S0) := by
  refine Met.ofW (cc := b_No_rank) (maxL := 2) (ret := (some .int)) (by decide) rfl ?_
  intro p e s m args below meth c s₁ B hml hv
  obtain ⟨rfl, hE, hI, hz⟩ := hv
  have hx := B.exec
  have hb := B.bytes
  have hr := B.returns
  have hts := atoms_spec (ws := w_No_rank) B.pre
  have hg : ∀ w ∈ gw, w.before _ s = true := fun w h => hts w (List.mem_cons_of_mem _ h)
  have hown : s.vm.findClass "SceneEasel$Node" = some m.cls := findClass_of_methodNamed B.named
  have hlocks := B.notSynchronized
  have hK := hE.K
  have hS : va_S (hp_A S0) s.heap s.heap [] := va_S.rf
  have hl := lv_entry ([.ref (mAd ms k 0)]) (n := 2) (Nat.le_of_ble_eq_true rfl)
  rw [lg_entry_eq]
  generalize (lg_sl ([.ref (mAd ms k 0)]) ++ List.replicate (2 - (lg_sl ([.ref (mAd ms k 0)])).length) Slot.unset).toArray = ls at hl ⊢
  have hl : lv_has ls 2 [(0, .ref (mAd ms k 0))] := hl
  have hn := hp'.node hk hkt
  unfold nC pAd at hn
  unfold rkF
  rcases htr.up hk hkt with ⟨-, ho, -⟩ | ⟨g, hg1, ho, hgt, -, -, hkg⟩
  · rw [ho] at hn ⊢
    refine lv_iconst (v := 0) hx hb d_No_rank_0 (by decide) ?_
    refine lv_istore_n (lv' := [(1, .int 0), (0, .ref (mAd ms k 0))]) hx hb d_No_rank_1 rfl hl (by decide) rfl (fun ls hl => ?_)
    refine lv_aload_n hx hb d_No_rank_2 rfl (lv_at hl 1 rfl) ?_
    refine hp_get (ci := 1) (v := .null) (C := R_No) (T := F_No) (N := 20) hx hb hg i_No hown hK hI hn rfl 6 (by decide) (hg _ k_177) (fun _ h9 => h9) rfl d_No_rank_3 ?_
    refine lv_ifnullN (tgt := 44) hx hb d_No_rank_6 (by decide) ?_
    refine lv_iload_n hx hb d_No_rank_44 rfl (lv_at hl 0 rfl) ?_
    exact W.iret (v := 0) hx hb hr (fun t ht hW => ⟨⟨0, w, rfl, ⟨rfl, rfl⟩, eWo ht hI⟩, hS.F ht⟩) hS.2.2 d_No_rank_45
  · rw [ho] at hn ⊢
    dsimp only [Option.map] at hn ⊢
    refine lv_iconst (v := 0) hx hb d_No_rank_0 (by decide) ?_
    refine lv_istore_n (lv' := [(1, .int 0), (0, .ref (mAd ms k 0))]) hx hb d_No_rank_1 rfl hl (by decide) rfl (fun ls hl => ?_)
    refine lv_aload_n hx hb d_No_rank_2 rfl (lv_at hl 1 rfl) ?_
    refine hp_get (ci := 1) (v := .ref (mAd ms g 0)) (C := R_No) (T := F_No) (N := 20) hx hb hg i_No hown hK hI hn rfl 6 (by decide) (hg _ k_177) (fun _ h9 => h9) rfl d_No_rank_3 ?_
    refine lv_ifnull hx hb d_No_rank_6 ?_
    obtain ⟨hng, hal, hel, -, -, -, hlc, hcap⟩ := hp'.2.2.2.1 g hg1 hgt
    have hlen := List.length_pos_of_mem hkg
    have hc0 : mCap ms g ≠ 0 := by omega
    have hel := hel hc0
    rw [show elA G ms g = mAd ms g 4 from if_neg hc0] at hal
    have hix : (sCh d g).idxOf k < (sCh d g).length := List.idxOf_lt_length_of_mem hkg
    refine W.lpw (fun j (i : Nat) => i ≤ (sCh d g).idxOf k ∧ j = (sCh d g).idxOf k - i) (fun (i : Nat) => w) (fun (i : Nat) => [(1, .int (nI i)), (0, .ref (mAd ms k 0))]) (fun (i : Nat) => 0) (fun (i : Nat) => 0) 2 9 (fun (i : Nat) => []) ((sCh d g).idxOf k) (0) (⟨Nat.zero_le _, rfl⟩) (lv_sub hl [0, 1] rfl) hI hS ?_
    rintro j i ls H locs hP hl hI hS ih
    try dsimp only at hP hl hI ⊢
    obtain ⟨h1, h2⟩ := hP
    refine lv_iload_n hx hb d_No_rank_9 rfl (lv_at hl 0 rfl) ?_
    refine lv_aload_n hx hb d_No_rank_10 rfl (lv_at hl 1 rfl) ?_
    refine hp_get (ci := 1) (v := .ref (mAd ms g 0)) (C := R_No) (T := F_No) (N := 20) hx hb hg i_No hown hK hI hn rfl 6 (by decide) (hg _ k_177) (fun _ h9 => h9) rfl d_No_rank_11 ?_
    refine hp_get (ci := 1) (v := .ref (mAd ms g 1)) (C := R_No) (T := F_No) (N := 20) hx hb hg i_No hown hK hI hng rfl 3 (by decide) (hg _ k_171) (fun _ h9 => h9) rfl d_No_rank_14 ?_
    refine ec_i (va_runV (As := []) (rest := [.int (nI i)]) ⟨hx, hb, hml, hown, hts⟩ (m_Al_size l G S0 w (mAd ms g 1) (mAd ms g 4) (sCh d g).length hal) (cwV 0 hts (gw_V k_588 k_589 k_590 k_64 k_591) rfl rfl rfl (by decide +kernel) ⟨Nat.le_of_ble_eq_true rfl, Nat.le_of_ble_eq_true rfl⟩) (eB.preV hE hI hS hz rfl hal) rfl rfl hl.1 rfl (lv_room (Nat.le_of_ble_eq_true rfl)) d_No_rank_17 ⟨Nat.le_of_ble_eq_true rfl, Nat.le_of_ble_eq_true rfl⟩) hS (fun sz w_3 H locs ew_3 hI hsz hS => ?_)
    obtain ⟨esz, ew_3⟩ := ew_3
    have ew_3 := ew_3.symm
    subst ew_3
    subst esz
    refine lv_icmp_ge (tgt := 44) hx hb d_No_rank_20 (by decide) (fun c9 => absurd c9 ((fun h => by have := (nI_leI (a := (sCh d g).length) (b := i) (by omega) (by omega)).mp h; omega))) (fun c9 => ?_)
    refine lv_aload_n hx hb d_No_rank_23 rfl (lv_at hl 1 rfl) ?_
    refine hp_get (ci := 1) (v := .ref (mAd ms g 0)) (C := R_No) (T := F_No) (N := 20) hx hb hg i_No hown hK hI hn rfl 6 (by decide) (hg _ k_177) (fun _ h9 => h9) rfl d_No_rank_24 ?_
    refine hp_get (ci := 1) (v := .ref (mAd ms g 1)) (C := R_No) (T := F_No) (N := 20) hx hb hg i_No hown hK hI hng rfl 3 (by decide) (hg _ k_171) (fun _ h9 => h9) rfl d_No_rank_27 ?_
    refine lv_iload_n hx hb d_No_rank_30 rfl (lv_at hl 0 rfl) ?_
    refine ec_o (va_runV (As := [.int (nI i)]) (rest := []) ⟨hx, hb, hml, hown, hts⟩ (m_Al_get l G S0 w (mAd ms g 1) (mAd ms g 4) (sCh d g).length i (mCap ms g) (elF ms d g) (by omega) hlc (by omega) hal hel) (cwV 1 hts (gw_V k_592 k_593 k_594 k_64 k_595) rfl rfl rfl (by decide +kernel) ⟨Nat.le_of_ble_eq_true rfl, Nat.le_of_ble_eq_true rfl⟩) (eB.preV hE hI hS hz rfl hal) rfl rfl hl.1 rfl (lv_room (Nat.le_of_ble_eq_true rfl)) d_No_rank_31 ⟨Nat.le_of_ble_eq_true rfl, Nat.le_of_ble_eq_true rfl⟩) hS (fun gt w_4 H locs ew_4 hI hsz hS => ?_)
    obtain ⟨egt, ew_4⟩ := ew_4
    have ew_4 := ew_4.symm
    subst ew_4
    rw [elF_lt (show i < (sCh d g).length by omega)] at egt
    have hci := (htr.2.2.2.2.2.1 g hg1 hgt).2.1 _ (List.getElem_mem (show i < (sCh d g).length by omega))
    subst egt
    refine lv_aload_n hx hb d_No_rank_34 rfl (lv_at hl 1 rfl) ?_
    refine lv_acmp_eq (rx := (some (mAd ms ((sCh d g)[i]) 0))) (ry := (some (mAd ms k 0))) (tgt := 44) hx hb d_No_rank_35 (by decide) (fun c1 => ?_) (fun c1 => ?_)
    · have hck := (some_ad0 hp' hci.1 hci.2.1 hk hkt).mp c1
      have := idx_le (show i < (sCh d g).length by omega) hck
      refine lv_iload_n hx hb d_No_rank_44 rfl (lv_at hl 0 rfl) ?_
      exact W.iret (v := (nI i)) hx hb hr (fun t ht hW => ⟨⟨(nI i), w, rfl, ⟨by rw [show i = (sCh d g).idxOf k by omega], rfl⟩, eWo ht hI⟩, hS.F ht⟩) hS.2.2 d_No_rank_45
    · have hne : i ≠ (sCh d g).idxOf k := by
        intro h
        subst h
        exact c1 ((some_ad0 hp' hci.1 hci.2.1 hk hkt).mpr (List.getElem_idxOf hix))
      refine lv_iinc (v := nI (i + 1)) (lv' := [(1, .int (nI (i + 1))), (0, .ref (mAd ms k 0))]) hx hb d_No_rank_38 hl (k := 0) rfl (nI_inc i) (by decide) rfl (fun ls hl => ?_)
      refine lv_goto (tgt := 9) hx hb d_No_rank_41 (by decide) ?_
      exact ih ((sCh d g).idxOf k - (i + 1)) (i + 1) ls H locs (by omega) (⟨by omega, rfl⟩) (lv_sub hl [0, 1] rfl) hI hS
end
section
/-! bounds of doubles; equal bits -/
theorem fx_le {k : Nat} {m n : Int} {x y : UInt64} (hx : fx k m x) (hy : fx k n y) : dle x y ↔ m ≤ n := by
  show (FP.dcmp x y = some .lt ∨ FP.dcmp x y = some .eq) ↔ _
  rw [fx_cmp hx hy, Option.some.injEq, Option.some.injEq, FP.Core.compare_lt_iff, FP.Core.compare_eq_iff]
  omega
theorem fx_ge {k : Nat} {m n : Int} {x y : UInt64} (hx : fx k m x) (hy : fx k n y) : dge x y ↔ n ≤ m := by
  show (FP.dcmp x y = some .gt ∨ FP.dcmp x y = some .eq) ↔ _
  rw [fx_cmp hx hy, Option.some.injEq, Option.some.injEq, FP.Core.compare_gt_iff, FP.Core.compare_eq_iff]
  omega
theorem fx_eq {k : Nat} {m n : Int} {x y : UInt64} (hx : fx k m x) (hy : fx k n y) : FP.dcmp x y = some .eq ↔ m = n := by
  rw [fx_cmp hx hy, Option.some.injEq, FP.Core.compare_eq_iff]
theorem fx_lt {k : Nat} {m n : Int} {x y : UInt64} (hx : fx k m x) (hy : fx k n y) : FP.dcmp x y = some .lt ↔ m < n := by
  rw [fx_cmp hx hy, Option.some.injEq, FP.Core.compare_lt_iff]
theorem fx_gt {k : Nat} {m n : Int} {x y : UInt64} (hx : fx k m x) (hy : fx k n y) : FP.dcmp x y = some .gt ↔ n < m := by
  rw [fx_cmp hx hy, Option.some.injEq, FP.Core.compare_gt_iff]
theorem fx_nz {k : Nat} {n : Int} {x : UInt64} (hx : fx k n x) (hn : n ≠ 0) : ¬ FP.Core.DZero x := by
  rintro ⟨s, q, h⟩
  have h2 := hx.2
  rw [h] at h2
  have e : FP.Core.zval FP.Core.b64 (.fin s 0 q) = 0 := by
    unfold FP.Core.zval FP.Core.zmag FP.Core.inUnits
    cases s <;> simp [FP.Core.sgn, FP.Core.signed]
  rw [e, Int.zero_mul] at h2
  rcases Int.mul_eq_zero.mp h2.symm with h3 | h3
  · exact hn h3
  · exact absurd h3 (Int.ne_of_gt fx_one)
theorem fx_inj {k : Nat} {n : Int} {x y : UInt64} (hx : fx k n x) (hy : fx k n y) (hn : n ≠ 0) : x = y :=
  FP.Core.eq_bits (fx_nz hy hn) ((fx_eq hx hy).mpr rfl)
theorem fx_bnd {k : Nat} {n : Int} {x : UInt64} {b : Nat} (hx : fx k n x) (h : n.natAbs ≤ b * 2 ^ k) : (FP.Core.zval FP.Core.b64 (FP.Core.val64 x)).natAbs ≤ b * FP.Core.one64 := by
  have h2 := congrArg Int.natAbs hx.2
  rw [Int.natAbs_mul, Int.natAbs_mul, Int.natAbs_natCast, Int.natAbs_natCast] at h2
  have p := Nat.two_pow_pos k
  refine Nat.le_of_mul_le_mul_right ?_ p
  rw [h2]
  have := Nat.mul_le_mul_right FP.Core.one64 h
  calc n.natAbs * FP.Core.one64 ≤ b * 2 ^ k * FP.Core.one64 := this
    _ = b * FP.Core.one64 * 2 ^ k := Nat.mul_right_comm _ _ _
/-- a rounded ratio that is bounded by a short whole number -/
theorem fx_rr {s : Bool} {A B : Nat} {e : Int} {x : UInt64} (hv : FP.Core.val64 x = FP.Core.roundRatio FP.Core.b64 s A B e) (hB : 0 < B) {b Q : Nat} (hb : b < 2 ^ 53) (q1 : FP.Core.b64.qmin = -(Q : Int)) (q2 : FP.Core.one64 = 2 ^ Q) {e0 : Int} (h0 : e0 ≤ -(Q : Int)) (h0e : e0 ≤ e) (h : A * 2 ^ (e - e0).toNat ≤ b * 2 ^ Q * 2 ^ (-(Q : Int) - e0).toNat * B) :
    FP.Core.DFin x ∧ (FP.Core.zval FP.Core.b64 (FP.Core.val64 x)).natAbs ≤ b * FP.Core.one64 := by
  obtain ⟨v, hV⟩ : ∃ v, fx 0 (b : Int) v := by
    refine ⟨FP.l2d (Int64.ofInt (b : Int)), ?_⟩
    have e1 : (Int64.ofInt (b : Int)).toInt = (b : Int) := Int64.toInt_ofInt_of_le (by omega) (by omega)
    have := fx_l2d (v := Int64.ofInt (b : Int)) (by rw [e1]; omega)
    rw [e1] at this
    exact this
  have hVm : FP.Core.zmag FP.Core.b64 (FP.Core.val64 v) = b * FP.Core.one64 := by
    have h2 := congrArg Int.natAbs hV.2
    rw [Int.natAbs_mul, Int.natAbs_mul, Int.natAbs_natCast, Int.natAbs_natCast, Int.natAbs_natCast, Nat.pow_zero, Nat.mul_one] at h2
    unfold FP.Core.zval at h2
    rw [FP.Core.natAbs_signed] at h2
    exact h2
  have hm : FP.Core.zmag FP.Core.b64 (FP.Core.roundRatio FP.Core.b64 s A B e) ≤ FP.Core.zmag FP.Core.b64 (FP.Core.val64 v) := by
    refine FP.Core.zmag_roundRatio_le FP.Core.good_b64 hB (FP.Core.val64_fits v) hV.1.ne_nan (by rw [q1]; exact h0) h0e ?_
    rw [hVm, q1, q2]
    exact h
  have hf : FP.Core.DFin x := by
    rcases FP.Core.roundRatio_cases FP.Core.b64 s A B e with ⟨c, q, h9⟩ | h9
    · exact ⟨s, c, q, hv.trans h9⟩
    · rw [h9] at hm
      have := FP.Core.DFin.zval_lt hV.1
      have h8 : FP.Core.zmag FP.Core.b64 (.inf s) = FP.Core.b64.tails * 2 ^ (FP.Core.b64.exps - 2) := rfl
      rw [h8] at hm
      omega
  refine ⟨hf, ?_⟩
  unfold FP.Core.zval
  rw [FP.Core.natAbs_signed, hv, ← hVm]
  exact hm
theorem fx_qm {x : UInt64} {s : Bool} {c Q : Nat} {q : Int} (q1 : FP.Core.b64.qmin = -(Q : Int)) (ex : FP.Core.val64 x = .fin s c q) : -(Q : Int) ≤ q := by
  have := FP.Core.val64_fits x
  rw [ex] at this
  rw [← q1]
  exact this.2.1
/-- a quotient is bounded -/
theorem fx_qle {j k b : Nat} {m n : Int} {x y : UInt64} (hx : fx k m x) (hy : fx j n y) (hn : n ≠ 0) (hb : b < 2 ^ 53) (h : m.natAbs * 2 ^ j ≤ b * n.natAbs * 2 ^ k) : FP.Core.DFin (FP.ddiv x y) ∧ (FP.Core.zval FP.Core.b64 (FP.Core.val64 (FP.ddiv x y))).natAbs ≤ b * FP.Core.one64 := by
  obtain ⟨s, t, c, d, q, r, hv, hd, ex, ey, hs, ht⟩ := fx_quo hx hy hn
  obtain ⟨Q, q1, q2, q3, q4, q5⟩ := fx_Q
  have h1 := fx_zm q1 q2 ex hx.2
  have h2 := fx_zm q1 q2 ey hy.2
  have hqx := fx_qm q1 ex
  have hqy := fx_qm q1 ey
  refine fx_rr hv hd hb q1 q2 (e0 := -(2 * (Q : Int)) - r) (by omega) (by omega) ?_
  have e1 : (q - r - (-(2 * (Q : Int)) - r)).toNat = (q + Q).toNat + Q := by omega
  have e2 : (-(Q : Int) - (-(2 * (Q : Int)) - r)).toNat = (r + Q).toNat := by omega
  rw [e1, e2, Nat.pow_add]
  have h3 : c * 2 ^ (q + Q).toNat ≤ b * (d * 2 ^ (r + Q).toNat) := by
    refine Nat.le_of_mul_le_mul_right ?_ (Nat.mul_pos (Nat.two_pow_pos k) (Nat.two_pow_pos j))
    calc c * 2 ^ (q + Q).toNat * (2 ^ k * 2 ^ j) = (c * 2 ^ (q + Q).toNat * 2 ^ k) * 2 ^ j := by ac_rfl
      _ = (m.natAbs * 2 ^ j) * 2 ^ Q := by rw [h1]; ac_rfl
      _ ≤ (b * n.natAbs * 2 ^ k) * 2 ^ Q := Nat.mul_le_mul_right _ h
      _ = b * (n.natAbs * 2 ^ Q) * 2 ^ k := by ac_rfl
      _ = b * (d * 2 ^ (r + Q).toNat * 2 ^ j) * 2 ^ k := by rw [h2]
      _ = b * (d * 2 ^ (r + Q).toNat) * (2 ^ k * 2 ^ j) := by ac_rfl
  calc c * (2 ^ (q + Q).toNat * 2 ^ Q) = c * 2 ^ (q + Q).toNat * 2 ^ Q := by ac_rfl
    _ ≤ b * (d * 2 ^ (r + Q).toNat) * 2 ^ Q := Nat.mul_le_mul_right _ h3
    _ = b * 2 ^ Q * 2 ^ (r + Q).toNat * d := by ac_rfl
/-- a product is bounded -/
theorem fx_mle {a b : Nat} {x y : UInt64} (hx : FP.Core.DFin x) (hy : FP.Core.DFin y) (ha : (FP.Core.zval FP.Core.b64 (FP.Core.val64 x)).natAbs ≤ a * FP.Core.one64) (hb : (FP.Core.zval FP.Core.b64 (FP.Core.val64 y)).natAbs ≤ b * FP.Core.one64) (h : a * b < 2 ^ 53) : FP.Core.DFin (FP.dmul x y) ∧ (FP.Core.zval FP.Core.b64 (FP.Core.val64 (FP.dmul x y))).natAbs ≤ a * b * FP.Core.one64 := by
  obtain ⟨s, c, q, ex⟩ := hx
  obtain ⟨t, d, r, ey⟩ := hy
  obtain ⟨Q, q1, q2, q3, q4, q5⟩ := fx_Q
  have hqx := fx_qm q1 ex
  have hqy := fx_qm q1 ey
  rw [ex] at ha
  rw [ey] at hb
  unfold FP.Core.zval at ha hb
  rw [FP.Core.natAbs_signed] at ha hb
  have ha : c * 2 ^ (q - FP.Core.b64.qmin).toNat ≤ a * FP.Core.one64 := ha
  have hb : d * 2 ^ (r - FP.Core.b64.qmin).toNat ≤ b * FP.Core.one64 := hb
  rw [q1, q2] at ha hb
  have hv : FP.Core.val64 (FP.dmul x y) = FP.Core.roundRatio FP.Core.b64 (s != t) (c * d) 1 (q + r) := by
    show FP.Core.val64 (FP.Core.dmul x y) = _
    rw [FP.Core.val64_dmul, ex, ey]
    rfl
  refine fx_rr hv (by decide) h q1 q2 (e0 := -(2 * (Q : Int))) (by omega) (by omega) ?_
  have e1 : (q + r - (-(2 * (Q : Int)))).toNat = (q - (-(Q : Int))).toNat + (r - (-(Q : Int))).toNat := by omega
  have e2 : (-(Q : Int) - (-(2 * (Q : Int)))).toNat = Q := by omega
  rw [e1, e2, Nat.pow_add, Nat.mul_one]
  calc c * d * (2 ^ (q - (-(Q : Int))).toNat * 2 ^ (r - (-(Q : Int))).toNat) = (c * 2 ^ (q - (-(Q : Int))).toNat) * (d * 2 ^ (r - (-(Q : Int))).toNat) := by ac_rfl
    _ ≤ (a * 2 ^ Q) * (b * 2 ^ Q) := Nat.mul_le_mul ha hb
    _ = a * b * 2 ^ Q * 2 ^ Q := by ac_rfl
/-- the floor of what is bounded -/
theorem fx_flb {z : UInt64} {b : Nat} (hz : FP.Core.DFin z) (h : (FP.Core.zval FP.Core.b64 (FP.Core.val64 z)).natAbs ≤ b * FP.Core.one64) (hb : b < 2 ^ 52) : ∃ N : Int, N.natAbs ≤ b ∧ fx 0 N (fx_fl z) := by
  have hP := fx_one
  have hPn := FP.Core.one64_pos
  refine ⟨_, ?_, fx_fl_spec hz (Nat.lt_of_le_of_lt h ((Nat.mul_lt_mul_right hPn).mpr hb))⟩
  generalize FP.Core.zval FP.Core.b64 (FP.Core.val64 z) = Z at h ⊢
  generalize FP.Core.one64 = P at *
  have h1 : Z ≤ (b : Int) * (P : Int) := by
    have : (Z.natAbs : Int) ≤ ((b * P : Nat) : Int) := by exact_mod_cast h
    rw [Int.natCast_mul] at this
    omega
  have h2 : -(b : Int) * (P : Int) ≤ Z := by
    have : (Z.natAbs : Int) ≤ ((b * P : Nat) : Int) := by exact_mod_cast h
    rw [Int.natCast_mul] at this
    rw [Int.neg_mul]
    omega
  have h3 : Z / (P : Int) ≤ b := by
    have := Int.ediv_le_ediv hP h1
    rwa [Int.mul_ediv_cancel _ (Int.ne_of_gt hP)] at this
  have h4 : -(b : Int) ≤ Z / (P : Int) := (Int.le_ediv_iff_mul_le hP).mpr h2
  omega
theorem fx_c64 : fx 0 64 fx_64 := by
  have h := fx_i2d 64
  have e : FP.i2d 64 = fx_64 := by decide +kernel
  rw [e] at h
  exact h
theorem fx_rdb {y : UInt64} {b : Nat} (hy : FP.Core.DFin y) (h : (FP.Core.zval FP.Core.b64 (FP.Core.val64 y)).natAbs ≤ b * FP.Core.one64) (hb : b * 64 < 2 ^ 52) : ∃ N : Int, N.natAbs ≤ b * 64 ∧ fx 6 N (fx_rd y) := by
  obtain ⟨h1, h2⟩ := fx_mle hy fx_c64.1 h (fx_bnd (b := 64) fx_c64 (by decide)) (by omega)
  obtain ⟨N, h3, h4⟩ := fx_flb h1 h2 hb
  refine ⟨N, h3, ?_⟩
  unfold fx_rd
  exact fx_div (by decide) h4 fx_c64 (by decide) (by rw [Nat.pow_zero]; rw [show (2 : Nat) ^ (0 + 6) = 64 from rfl]; omega) (by omega)
theorem fx_notnan {x : UInt64} (h : FP.Core.dIsNaN x = false) : vf_n64 x := fx_nnan ((FP.Core.notNaN_iff x).mp h)
theorem fx_flfin (z : UInt64) : FP.Core.dIsNaN (fx_fl z) = false := by
  unfold fx_fl
  split
  · exact FP.Core.dsub_out (FP.Core.DFin.notNaN (FP.Core.l2d_fin _)) fx_c1.1
  · exact FP.Core.DFin.notNaN (FP.Core.l2d_fin _)
/-- the floor as the model works it out -/
def fx_mfl (z : UInt64) : UInt64 := if FP.dcmp (FP.l2d (FP.d2l z)) z = some .gt then FP.l2d (FP.d2l z - 1) else FP.l2d (FP.d2l z)
theorem fx_mfl_eq {z : UInt64} {b : Nat} (hz : FP.Core.DFin z) (h : (FP.Core.zval FP.Core.b64 (FP.Core.val64 z)).natAbs ≤ b * FP.Core.one64) (hb : b < 2 ^ 52) : fx_mfl z = fx_fl z := by
  have hPn := FP.Core.one64_pos
  have habs : (FP.d2l z).toInt.natAbs ≤ b := by
    have hcv : (FP.d2l z).toInt = max (-2 ^ 63) (min (2 ^ 63 - 1) (FP.Core.signed (FP.Core.sgn (FP.Core.val64 z)) (FP.Core.zmag FP.Core.b64 (FP.Core.val64 z) / FP.Core.one64))) := FP.Core.d2l_val hz.ne_nan
    unfold FP.Core.zval at h
    rw [FP.Core.natAbs_signed] at h
    have hq : FP.Core.zmag FP.Core.b64 (FP.Core.val64 z) / FP.Core.one64 ≤ b := Nat.div_le_of_le_mul (by rw [Nat.mul_comm]; exact h)
    generalize FP.Core.zmag FP.Core.b64 (FP.Core.val64 z) / FP.Core.one64 = A at hq hcv
    rw [hcv]
    cases FP.Core.sgn (FP.Core.val64 z)
    · rw [show FP.Core.signed false A = (A : Int) from rfl]; omega
    · rw [show FP.Core.signed true A = -(A : Int) from rfl]; omega
  unfold fx_mfl fx_fl
  split
  · generalize FP.d2l z = w at habs
    have e1 : (w - 1).toInt = w.toInt - 1 := by
      rw [Int64.toInt_sub]
      have h1 : (1 : Int64).toInt = 1 := by decide
      rw [h1]
      exact Int.bmod_eq_of_le (by omega) (by omega)
    by_cases h1 : w = 1
    · subst h1
      decide +kernel
    · have h2 : w.toInt ≠ 1 := fun h2 => h1 (Int64.toInt.inj (by rw [h2]; rfl))
      have g1 := fx_l2d (v := w - 1) (by rw [e1]; omega)
      rw [e1] at g1
      exact fx_inj g1 (fx_sub (by decide) (fx_l2d (v := w) (by omega)) fx_c1 (by omega)) (by omega)
  · rfl
/-- a power of two multiplies as its opposite divides -/
theorem fx_shr {c : UInt64} (hc : FP.Core.DFin c) {k : Int32} (hk : k = -2 ∨ k = -1 ∨ k = 0 ∨ k = 1 ∨ k = 2) : FP.dmul c (pw2 (-k)) = FP.ddiv c (pw2 k) := by
  obtain ⟨s, cc, q, ex⟩ := hc
  have key : ∀ (x y : UInt64) (r : Int), FP.Core.val64 x = .fin false (2 ^ 52) (-r - 52) → FP.Core.val64 y = .fin false (2 ^ 52) (r - 52) → FP.Core.dmul c x = FP.Core.ddiv c y := by
    intro x y r hx hy
    have h1 : FP.Core.val64 (FP.Core.dmul c x) = FP.Core.roundRatio FP.Core.b64 (s != false) (cc * 2 ^ 52) 1 (q + (-r - 52)) := by
      rw [FP.Core.val64_dmul, ex, hx]
      rfl
    have h2 : FP.Core.val64 (FP.Core.ddiv c y) = FP.Core.roundRatio FP.Core.b64 (s != false) cc (2 ^ 52) (q - (r - 52)) := by
      rw [FP.Core.val64_ddiv, ex, hy]
      generalize hD : (2 ^ 52 : Nat) = D
      have hD0 : ¬ D = 0 := by rw [← hD]; decide
      show (if D = 0 then (if cc = 0 then FP.Core.Datum.nan else .inf (s != false)) else FP.Core.roundRatio FP.Core.b64 (s != false) cc D (q - (r - 52))) = _
      rw [if_neg hD0]
    refine FP.Core.val64_inj (by rw [h1]; exact FP.Core.roundRatio_ne_nan _ _ _ _ _) ?_
    rw [h1, h2]
    refine FP.Core.roundRatio_congr (by decide) (by decide) ?_
    have e1 : (q + (-r - 52) - (q - (r - 52))).toNat = 0 := by omega
    have e2 : (q - (r - 52) - (q + (-r - 52))).toNat = 104 := by omega
    rw [e1, e2, Nat.pow_zero, Nat.mul_one, Nat.mul_one, Nat.mul_assoc, ← Nat.pow_add]
  show FP.Core.dmul c _ = FP.Core.ddiv c _
  rcases hk with rfl | rfl | rfl | rfl | rfl
  · exact key _ _ (-2) (by decide +kernel) (by decide +kernel)
  · exact key _ _ (-1) (by decide +kernel) (by decide +kernel)
  · exact key _ _ 0 (by decide +kernel) (by decide +kernel)
  · exact key _ _ 1 (by decide +kernel) (by decide +kernel)
  · exact key _ _ 2 (by decide +kernel) (by decide +kernel)
end
