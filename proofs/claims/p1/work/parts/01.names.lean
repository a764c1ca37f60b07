-- ===== PART A: goes FIRST, ahead of the names: the tables' words, and 'selects' of the private methods out of them =====
/-- a private method of a class that the tables say can be made, by its rows of tables_1 -/
def lw_okq (q : MethodName × Nat) : Prop := (q.1.cls ≠ "java/lang/invoke/MethodHandle" ∧ q.1.cls ≠ "java/lang/invoke/VarHandle") ∧ Cond.instantiable q.1.cls q.2 ∈ tables_1 ∧ Cond.privateMethod q.1 ∈ tables_1 ∧ Cond.instanceMethod q.1 ∈ tables_1
theorem lw_p0 : lw_okq (⟨"MovingStairs$Reader", "cut", "()V"⟩, 10) := ⟨⟨by decide +kernel, by decide +kernel⟩, List.mem_of_getElem? (i := 373) (by decide +kernel), List.mem_of_getElem? (i := 555) (by decide +kernel), List.mem_of_getElem? (i := 556) (by decide +kernel)⟩
theorem lw_p1 : lw_okq (⟨"MovingStairs$Reader", "cutOne", "(I)I"⟩, 10) := ⟨⟨by decide +kernel, by decide +kernel⟩, List.mem_of_getElem? (i := 373) (by decide +kernel), List.mem_of_getElem? (i := 559) (by decide +kernel), List.mem_of_getElem? (i := 560) (by decide +kernel)⟩
theorem lw_p2 : lw_okq (⟨"MovingStairs$Reader", "byteAt", "(I)I"⟩, 10) := ⟨⟨by decide +kernel, by decide +kernel⟩, List.mem_of_getElem? (i := 373) (by decide +kernel), List.mem_of_getElem? (i := 563) (by decide +kernel), List.mem_of_getElem? (i := 564) (by decide +kernel)⟩
theorem lw_p3 : lw_okq (⟨"MovingStairs$Reader", "addWord", "(II)V"⟩, 10) := ⟨⟨by decide +kernel, by decide +kernel⟩, List.mem_of_getElem? (i := 373) (by decide +kernel), List.mem_of_getElem? (i := 570) (by decide +kernel), List.mem_of_getElem? (i := 571) (by decide +kernel)⟩
theorem lw_p4 : lw_okq (⟨"MovingStairs$Reader", "isWord", "(IIII)Z"⟩, 10) := ⟨⟨by decide +kernel, by decide +kernel⟩, List.mem_of_getElem? (i := 373) (by decide +kernel), List.mem_of_getElem? (i := 623) (by decide +kernel), List.mem_of_getElem? (i := 624) (by decide +kernel)⟩
theorem lw_p5 : lw_okq (⟨"MovingStairs$Reader", "addToken", "(III)V"⟩, 10) := ⟨⟨by decide +kernel, by decide +kernel⟩, List.mem_of_getElem? (i := 373) (by decide +kernel), List.mem_of_getElem? (i := 630) (by decide +kernel), List.mem_of_getElem? (i := 631) (by decide +kernel)⟩
theorem lw_p6 : lw_okq (⟨"MovingStairs$Reader", "kind", "()I"⟩, 10) := ⟨⟨by decide +kernel, by decide +kernel⟩, List.mem_of_getElem? (i := 373) (by decide +kernel), List.mem_of_getElem? (i := 640) (by decide +kernel), List.mem_of_getElem? (i := 641) (by decide +kernel)⟩
theorem lw_p7 : lw_okq (⟨"MovingStairs$Reader", "readClause", "(LMovingStairs$Text;)Z"⟩, 10) := ⟨⟨by decide +kernel, by decide +kernel⟩, List.mem_of_getElem? (i := 373) (by decide +kernel), List.mem_of_getElem? (i := 644) (by decide +kernel), List.mem_of_getElem? (i := 645) (by decide +kernel)⟩
theorem lw_p8 : lw_okq (⟨"MovingStairs$Reader", "fails", "(I)Z"⟩, 10) := ⟨⟨by decide +kernel, by decide +kernel⟩, List.mem_of_getElem? (i := 373) (by decide +kernel), List.mem_of_getElem? (i := 648) (by decide +kernel), List.mem_of_getElem? (i := 649) (by decide +kernel)⟩
theorem lw_p9 : lw_okq (⟨"MovingStairs$Reader", "readSum", "(LMovingStairs$Text;I)Z"⟩, 10) := ⟨⟨by decide +kernel, by decide +kernel⟩, List.mem_of_getElem? (i := 373) (by decide +kernel), List.mem_of_getElem? (i := 660) (by decide +kernel), List.mem_of_getElem? (i := 661) (by decide +kernel)⟩
theorem lw_p10 : lw_okq (⟨"MovingStairs$Reader", "readProduct", "(LMovingStairs$Text;I)Z"⟩, 10) := ⟨⟨by decide +kernel, by decide +kernel⟩, List.mem_of_getElem? (i := 373) (by decide +kernel), List.mem_of_getElem? (i := 664) (by decide +kernel), List.mem_of_getElem? (i := 665) (by decide +kernel)⟩
theorem lw_p11 : lw_okq (⟨"MovingStairs$Reader", "readOne", "(LMovingStairs$Text;I)Z"⟩, 10) := ⟨⟨by decide +kernel, by decide +kernel⟩, List.mem_of_getElem? (i := 373) (by decide +kernel), List.mem_of_getElem? (i := 668) (by decide +kernel), List.mem_of_getElem? (i := 669) (by decide +kernel)⟩
theorem lw_p12 : lw_okq (⟨"MovingStairs$Reader", "value", "()I"⟩, 10) := ⟨⟨by decide +kernel, by decide +kernel⟩, List.mem_of_getElem? (i := 373) (by decide +kernel), List.mem_of_getElem? (i := 672) (by decide +kernel), List.mem_of_getElem? (i := 673) (by decide +kernel)⟩
theorem lw_p13 : lw_okq (⟨"MovingStairs$Reader", "readEither", "(LMovingStairs$Text;)Z"⟩, 10) := ⟨⟨by decide +kernel, by decide +kernel⟩, List.mem_of_getElem? (i := 373) (by decide +kernel), List.mem_of_getElem? (i := 680) (by decide +kernel), List.mem_of_getElem? (i := 681) (by decide +kernel)⟩
theorem lw_p14 : lw_okq (⟨"MovingStairs$Reader", "readBoth", "(LMovingStairs$Text;)Z"⟩, 10) := ⟨⟨by decide +kernel, by decide +kernel⟩, List.mem_of_getElem? (i := 373) (by decide +kernel), List.mem_of_getElem? (i := 684) (by decide +kernel), List.mem_of_getElem? (i := 685) (by decide +kernel)⟩
theorem lw_p15 : lw_okq (⟨"MovingStairs$Reader", "readAsk", "(LMovingStairs$Text;I)Z"⟩, 10) := ⟨⟨by decide +kernel, by decide +kernel⟩, List.mem_of_getElem? (i := 373) (by decide +kernel), List.mem_of_getElem? (i := 688) (by decide +kernel), List.mem_of_getElem? (i := 689) (by decide +kernel)⟩
def lw_privs_1 : List (MethodName × Nat) := [(⟨"MovingStairs$Reader", "cut", "()V"⟩, 10), (⟨"MovingStairs$Reader", "cutOne", "(I)I"⟩, 10), (⟨"MovingStairs$Reader", "byteAt", "(I)I"⟩, 10), (⟨"MovingStairs$Reader", "addWord", "(II)V"⟩, 10), (⟨"MovingStairs$Reader", "isWord", "(IIII)Z"⟩, 10), (⟨"MovingStairs$Reader", "addToken", "(III)V"⟩, 10), (⟨"MovingStairs$Reader", "kind", "()I"⟩, 10), (⟨"MovingStairs$Reader", "readClause", "(LMovingStairs$Text;)Z"⟩, 10), (⟨"MovingStairs$Reader", "fails", "(I)Z"⟩, 10), (⟨"MovingStairs$Reader", "readSum", "(LMovingStairs$Text;I)Z"⟩, 10), (⟨"MovingStairs$Reader", "readProduct", "(LMovingStairs$Text;I)Z"⟩, 10), (⟨"MovingStairs$Reader", "readOne", "(LMovingStairs$Text;I)Z"⟩, 10), (⟨"MovingStairs$Reader", "value", "()I"⟩, 10), (⟨"MovingStairs$Reader", "readEither", "(LMovingStairs$Text;)Z"⟩, 10), (⟨"MovingStairs$Reader", "readBoth", "(LMovingStairs$Text;)Z"⟩, 10), (⟨"MovingStairs$Reader", "readAsk", "(LMovingStairs$Text;I)Z"⟩, 10)]
theorem lw_r1 : ∀ q ∈ lw_privs_1, lw_okq q := List.forall_mem_cons.mpr ⟨lw_p0, List.forall_mem_cons.mpr ⟨lw_p1, List.forall_mem_cons.mpr ⟨lw_p2, List.forall_mem_cons.mpr ⟨lw_p3, List.forall_mem_cons.mpr ⟨lw_p4, List.forall_mem_cons.mpr ⟨lw_p5, List.forall_mem_cons.mpr ⟨lw_p6, List.forall_mem_cons.mpr ⟨lw_p7, List.forall_mem_cons.mpr ⟨lw_p8, List.forall_mem_cons.mpr ⟨lw_p9, List.forall_mem_cons.mpr ⟨lw_p10, List.forall_mem_cons.mpr ⟨lw_p11, List.forall_mem_cons.mpr ⟨lw_p12, List.forall_mem_cons.mpr ⟨lw_p13, List.forall_mem_cons.mpr ⟨lw_p14, List.forall_mem_cons.mpr ⟨lw_p15, fun _ h => absurd h List.not_mem_nil⟩⟩⟩⟩⟩⟩⟩⟩⟩⟩⟩⟩⟩⟩⟩⟩
theorem lw_p16 : lw_okq (⟨"MovingStairs", "mayRun", "(I)Z"⟩, 7) := ⟨⟨by decide +kernel, by decide +kernel⟩, List.mem_of_getElem? (i := 23) (by decide +kernel), List.mem_of_getElem? (i := 709) (by decide +kernel), List.mem_of_getElem? (i := 710) (by decide +kernel)⟩
theorem lw_p17 : lw_okq (⟨"MovingStairs", "law", "()LMovingStairs$Text;"⟩, 7) := ⟨⟨by decide +kernel, by decide +kernel⟩, List.mem_of_getElem? (i := 23) (by decide +kernel), List.mem_of_getElem? (i := 713) (by decide +kernel), List.mem_of_getElem? (i := 714) (by decide +kernel)⟩
theorem lw_p18 : lw_okq (⟨"MovingStairs$Mover", "comeInBursts", "(LMovingStairs$Station;LMovingStairs$Text;)V"⟩, 2) := ⟨⟨by decide +kernel, by decide +kernel⟩, List.mem_of_getElem? (i := 343) (by decide +kernel), List.mem_of_getElem? (i := 729) (by decide +kernel), List.mem_of_getElem? (i := 730) (by decide +kernel)⟩
theorem lw_p19 : lw_okq (⟨"MovingStairs$Mover", "isSo", "(LMovingStairs$Station;LMovingStairs$Text;II)Z"⟩, 2) := ⟨⟨by decide +kernel, by decide +kernel⟩, List.mem_of_getElem? (i := 343) (by decide +kernel), List.mem_of_getElem? (i := 747) (by decide +kernel), List.mem_of_getElem? (i := 748) (by decide +kernel)⟩
theorem lw_p20 : lw_okq (⟨"MovingStairs$Text", "worth", "(II[I)I"⟩, 7) := ⟨⟨by decide +kernel, by decide +kernel⟩, List.mem_of_getElem? (i := 413) (by decide +kernel), List.mem_of_getElem? (i := 755) (by decide +kernel), List.mem_of_getElem? (i := 756) (by decide +kernel)⟩
theorem lw_p21 : lw_okq (⟨"MovingStairs$Mover", "openHalls", "(LMovingStairs$Station;LMovingStairs$Text;)V"⟩, 2) := ⟨⟨by decide +kernel, by decide +kernel⟩, List.mem_of_getElem? (i := 343) (by decide +kernel), List.mem_of_getElem? (i := 777) (by decide +kernel), List.mem_of_getElem? (i := 778) (by decide +kernel)⟩
theorem lw_p22 : lw_okq (⟨"MovingStairs$Mover", "letIn", "(LMovingStairs$Station;I)V"⟩, 2) := ⟨⟨by decide +kernel, by decide +kernel⟩, List.mem_of_getElem? (i := 343) (by decide +kernel), List.mem_of_getElem? (i := 781) (by decide +kernel), List.mem_of_getElem? (i := 782) (by decide +kernel)⟩
theorem lw_p23 : lw_okq (⟨"MovingStairs$Mover", "turnEmptyLinks", "(LMovingStairs$Station;)V"⟩, 2) := ⟨⟨by decide +kernel, by decide +kernel⟩, List.mem_of_getElem? (i := 343) (by decide +kernel), List.mem_of_getElem? (i := 786) (by decide +kernel), List.mem_of_getElem? (i := 787) (by decide +kernel)⟩
theorem lw_p24 : lw_okq (⟨"MovingStairs$Routes", "findFor", "(LMovingStairs$Station;I)V"⟩, 3) := ⟨⟨by decide +kernel, by decide +kernel⟩, List.mem_of_getElem? (i := 349) (by decide +kernel), List.mem_of_getElem? (i := 798) (by decide +kernel), List.mem_of_getElem? (i := 799) (by decide +kernel)⟩
theorem lw_p25 : lw_okq (⟨"MovingStairs$Routes", "leads", "(LMovingStairs$Link;II)Z"⟩, 3) := ⟨⟨by decide +kernel, by decide +kernel⟩, List.mem_of_getElem? (i := 349) (by decide +kernel), List.mem_of_getElem? (i := 804) (by decide +kernel), List.mem_of_getElem? (i := 805) (by decide +kernel)⟩
theorem lw_p26 : lw_okq (⟨"MovingStairs$Routes", "shorten", "(III)V"⟩, 3) := ⟨⟨by decide +kernel, by decide +kernel⟩, List.mem_of_getElem? (i := 349) (by decide +kernel), List.mem_of_getElem? (i := 816) (by decide +kernel), List.mem_of_getElem? (i := 817) (by decide +kernel)⟩
theorem lw_p27 : lw_okq (⟨"MovingStairs$Routes", "between", "(II)I"⟩, 3) := ⟨⟨by decide +kernel, by decide +kernel⟩, List.mem_of_getElem? (i := 349) (by decide +kernel), List.mem_of_getElem? (i := 820) (by decide +kernel), List.mem_of_getElem? (i := 821) (by decide +kernel)⟩
theorem lw_p28 : lw_okq (⟨"MovingStairs$Routes", "lowestFirst", "(LMovingStairs$Station;III)I"⟩, 3) := ⟨⟨by decide +kernel, by decide +kernel⟩, List.mem_of_getElem? (i := 349) (by decide +kernel), List.mem_of_getElem? (i := 824) (by decide +kernel), List.mem_of_getElem? (i := 825) (by decide +kernel)⟩
theorem lw_p29 : lw_okq (⟨"MovingStairs$Mover", "moveLinks", "(LMovingStairs$Station;LMovingStairs$Text;)V"⟩, 2) := ⟨⟨by decide +kernel, by decide +kernel⟩, List.mem_of_getElem? (i := 343) (by decide +kernel), List.mem_of_getElem? (i := 828) (by decide +kernel), List.mem_of_getElem? (i := 829) (by decide +kernel)⟩
theorem lw_p30 : lw_okq (⟨"MovingStairs$Mover", "lift", "(LMovingStairs$Station;III)V"⟩, 2) := ⟨⟨by decide +kernel, by decide +kernel⟩, List.mem_of_getElem? (i := 343) (by decide +kernel), List.mem_of_getElem? (i := 832) (by decide +kernel), List.mem_of_getElem? (i := 833) (by decide +kernel)⟩
theorem lw_p31 : lw_okq (⟨"MovingStairs$Mover", "goalOfMost", "(LMovingStairs$Station;III)I"⟩, 2) := ⟨⟨by decide +kernel, by decide +kernel⟩, List.mem_of_getElem? (i := 343) (by decide +kernel), List.mem_of_getElem? (i := 837) (by decide +kernel), List.mem_of_getElem? (i := 838) (by decide +kernel)⟩
def lw_privs_2 : List (MethodName × Nat) := [(⟨"MovingStairs", "mayRun", "(I)Z"⟩, 7), (⟨"MovingStairs", "law", "()LMovingStairs$Text;"⟩, 7), (⟨"MovingStairs$Mover", "comeInBursts", "(LMovingStairs$Station;LMovingStairs$Text;)V"⟩, 2), (⟨"MovingStairs$Mover", "isSo", "(LMovingStairs$Station;LMovingStairs$Text;II)Z"⟩, 2), (⟨"MovingStairs$Text", "worth", "(II[I)I"⟩, 7), (⟨"MovingStairs$Mover", "openHalls", "(LMovingStairs$Station;LMovingStairs$Text;)V"⟩, 2), (⟨"MovingStairs$Mover", "letIn", "(LMovingStairs$Station;I)V"⟩, 2), (⟨"MovingStairs$Mover", "turnEmptyLinks", "(LMovingStairs$Station;)V"⟩, 2), (⟨"MovingStairs$Routes", "findFor", "(LMovingStairs$Station;I)V"⟩, 3), (⟨"MovingStairs$Routes", "leads", "(LMovingStairs$Link;II)Z"⟩, 3), (⟨"MovingStairs$Routes", "shorten", "(III)V"⟩, 3), (⟨"MovingStairs$Routes", "between", "(II)I"⟩, 3), (⟨"MovingStairs$Routes", "lowestFirst", "(LMovingStairs$Station;III)I"⟩, 3), (⟨"MovingStairs$Mover", "moveLinks", "(LMovingStairs$Station;LMovingStairs$Text;)V"⟩, 2), (⟨"MovingStairs$Mover", "lift", "(LMovingStairs$Station;III)V"⟩, 2), (⟨"MovingStairs$Mover", "goalOfMost", "(LMovingStairs$Station;III)I"⟩, 2)]
theorem lw_r2 : ∀ q ∈ lw_privs_2, lw_okq q := List.forall_mem_cons.mpr ⟨lw_p16, List.forall_mem_cons.mpr ⟨lw_p17, List.forall_mem_cons.mpr ⟨lw_p18, List.forall_mem_cons.mpr ⟨lw_p19, List.forall_mem_cons.mpr ⟨lw_p20, List.forall_mem_cons.mpr ⟨lw_p21, List.forall_mem_cons.mpr ⟨lw_p22, List.forall_mem_cons.mpr ⟨lw_p23, List.forall_mem_cons.mpr ⟨lw_p24, List.forall_mem_cons.mpr ⟨lw_p25, List.forall_mem_cons.mpr ⟨lw_p26, List.forall_mem_cons.mpr ⟨lw_p27, List.forall_mem_cons.mpr ⟨lw_p28, List.forall_mem_cons.mpr ⟨lw_p29, List.forall_mem_cons.mpr ⟨lw_p30, List.forall_mem_cons.mpr ⟨lw_p31, fun _ h => absurd h List.not_mem_nil⟩⟩⟩⟩⟩⟩⟩⟩⟩⟩⟩⟩⟩⟩⟩⟩
theorem lw_p32 : lw_okq (⟨"MovingStairs$Mover", "walkOf", "(LMovingStairs$Station;LMovingStairs$Text;LMovingStairs$Link;)I"⟩, 2) := ⟨⟨by decide +kernel, by decide +kernel⟩, List.mem_of_getElem? (i := 343) (by decide +kernel), List.mem_of_getElem? (i := 854) (by decide +kernel), List.mem_of_getElem? (i := 855) (by decide +kernel)⟩
theorem lw_p33 : lw_okq (⟨"MovingStairs$Mover", "stepOff", "(LMovingStairs$Station;LMovingStairs$Link;I)Z"⟩, 2) := ⟨⟨by decide +kernel, by decide +kernel⟩, List.mem_of_getElem? (i := 343) (by decide +kernel), List.mem_of_getElem? (i := 884) (by decide +kernel), List.mem_of_getElem? (i := 885) (by decide +kernel)⟩
theorem lw_p34 : lw_okq (⟨"MovingStairs$Mover", "moveFixed", "(LMovingStairs$Station;LMovingStairs$Link;)V"⟩, 2) := ⟨⟨by decide +kernel, by decide +kernel⟩, List.mem_of_getElem? (i := 343) (by decide +kernel), List.mem_of_getElem? (i := 894) (by decide +kernel), List.mem_of_getElem? (i := 895) (by decide +kernel)⟩
theorem lw_p35 : lw_okq (⟨"MovingStairs$Mover", "countSecond", "(LMovingStairs$Station;)V"⟩, 2) := ⟨⟨by decide +kernel, by decide +kernel⟩, List.mem_of_getElem? (i := 343) (by decide +kernel), List.mem_of_getElem? (i := 909) (by decide +kernel), List.mem_of_getElem? (i := 910) (by decide +kernel)⟩
theorem lw_p36 : lw_okq (⟨"MovingStairs", "mayTurn", "(I)Z"⟩, 7) := ⟨⟨by decide +kernel, by decide +kernel⟩, List.mem_of_getElem? (i := 23) (by decide +kernel), List.mem_of_getElem? (i := 946) (by decide +kernel), List.mem_of_getElem? (i := 947) (by decide +kernel)⟩
theorem lw_p37 : lw_okq (⟨"MovingStairs", "waitedByWays", "(III)I"⟩, 7) := ⟨⟨by decide +kernel, by decide +kernel⟩, List.mem_of_getElem? (i := 23) (by decide +kernel), List.mem_of_getElem? (i := 956) (by decide +kernel), List.mem_of_getElem? (i := 957) (by decide +kernel)⟩
theorem lw_p38 : lw_okq (⟨"MovingStairs", "beginTrial", "()LMovingStairs$Text;"⟩, 7) := ⟨⟨by decide +kernel, by decide +kernel⟩, List.mem_of_getElem? (i := 23) (by decide +kernel), List.mem_of_getElem? (i := 960) (by decide +kernel), List.mem_of_getElem? (i := 961) (by decide +kernel)⟩
theorem lw_p39 : lw_okq (⟨"MovingStairs", "shutByBar", "(III)I"⟩, 7) := ⟨⟨by decide +kernel, by decide +kernel⟩, List.mem_of_getElem? (i := 23) (by decide +kernel), List.mem_of_getElem? (i := 988) (by decide +kernel), List.mem_of_getElem? (i := 989) (by decide +kernel)⟩
theorem lw_p40 : lw_okq (⟨"MovingStairs", "offByMode", "(III)I"⟩, 7) := ⟨⟨by decide +kernel, by decide +kernel⟩, List.mem_of_getElem? (i := 23) (by decide +kernel), List.mem_of_getElem? (i := 1008) (by decide +kernel), List.mem_of_getElem? (i := 1009) (by decide +kernel)⟩
theorem lw_p41 : lw_okq (⟨"MovingStairs", "carriedAlone", "(IIII)I"⟩, 7) := ⟨⟨by decide +kernel, by decide +kernel⟩, List.mem_of_getElem? (i := 23) (by decide +kernel), List.mem_of_getElem? (i := 1019) (by decide +kernel), List.mem_of_getElem? (i := 1020) (by decide +kernel)⟩
theorem lw_p42 : lw_okq (⟨"MovingStairs$Mends", "bestNext", "(I)I"⟩, 6) := ⟨⟨by decide +kernel, by decide +kernel⟩, List.mem_of_getElem? (i := 61) (by decide +kernel), List.mem_of_getElem? (i := 1071) (by decide +kernel), List.mem_of_getElem? (i := 1072) (by decide +kernel)⟩
theorem lw_p43 : lw_okq (⟨"MovingStairs$Mends", "countBy", "(II)I"⟩, 6) := ⟨⟨by decide +kernel, by decide +kernel⟩, List.mem_of_getElem? (i := 61) (by decide +kernel), List.mem_of_getElem? (i := 1075) (by decide +kernel), List.mem_of_getElem? (i := 1076) (by decide +kernel)⟩
theorem lw_p44 : lw_okq (⟨"MovingStairsModel", "isHall", "(I)Z"⟩, 42) := ⟨⟨by decide +kernel, by decide +kernel⟩, List.mem_of_getElem? (i := 1137) (by decide +kernel), List.mem_of_getElem? (i := 1283) (by decide +kernel), List.mem_of_getElem? (i := 1284) (by decide +kernel)⟩
theorem lw_p45 : lw_okq (⟨"MovingStairsModel", "tells", "(III)V"⟩, 42) := ⟨⟨by decide +kernel, by decide +kernel⟩, List.mem_of_getElem? (i := 1137) (by decide +kernel), List.mem_of_getElem? (i := 1291) (by decide +kernel), List.mem_of_getElem? (i := 1292) (by decide +kernel)⟩
theorem lw_p46 : lw_okq (⟨"MovingStairsModel", "isStairs", "(I)Z"⟩, 42) := ⟨⟨by decide +kernel, by decide +kernel⟩, List.mem_of_getElem? (i := 1137) (by decide +kernel), List.mem_of_getElem? (i := 1299) (by decide +kernel), List.mem_of_getElem? (i := 1300) (by decide +kernel)⟩
theorem lw_p47 : lw_okq (⟨"MovingStairsModel", "isLink", "(I)Z"⟩, 42) := ⟨⟨by decide +kernel, by decide +kernel⟩, List.mem_of_getElem? (i := 1137) (by decide +kernel), List.mem_of_getElem? (i := 1303) (by decide +kernel), List.mem_of_getElem? (i := 1304) (by decide +kernel)⟩
def lw_privs_3 : List (MethodName × Nat) := [(⟨"MovingStairs$Mover", "walkOf", "(LMovingStairs$Station;LMovingStairs$Text;LMovingStairs$Link;)I"⟩, 2), (⟨"MovingStairs$Mover", "stepOff", "(LMovingStairs$Station;LMovingStairs$Link;I)Z"⟩, 2), (⟨"MovingStairs$Mover", "moveFixed", "(LMovingStairs$Station;LMovingStairs$Link;)V"⟩, 2), (⟨"MovingStairs$Mover", "countSecond", "(LMovingStairs$Station;)V"⟩, 2), (⟨"MovingStairs", "mayTurn", "(I)Z"⟩, 7), (⟨"MovingStairs", "waitedByWays", "(III)I"⟩, 7), (⟨"MovingStairs", "beginTrial", "()LMovingStairs$Text;"⟩, 7), (⟨"MovingStairs", "shutByBar", "(III)I"⟩, 7), (⟨"MovingStairs", "offByMode", "(III)I"⟩, 7), (⟨"MovingStairs", "carriedAlone", "(IIII)I"⟩, 7), (⟨"MovingStairs$Mends", "bestNext", "(I)I"⟩, 6), (⟨"MovingStairs$Mends", "countBy", "(II)I"⟩, 6), (⟨"MovingStairsModel", "isHall", "(I)Z"⟩, 42), (⟨"MovingStairsModel", "tells", "(III)V"⟩, 42), (⟨"MovingStairsModel", "isStairs", "(I)Z"⟩, 42), (⟨"MovingStairsModel", "isLink", "(I)Z"⟩, 42)]
theorem lw_r3 : ∀ q ∈ lw_privs_3, lw_okq q := List.forall_mem_cons.mpr ⟨lw_p32, List.forall_mem_cons.mpr ⟨lw_p33, List.forall_mem_cons.mpr ⟨lw_p34, List.forall_mem_cons.mpr ⟨lw_p35, List.forall_mem_cons.mpr ⟨lw_p36, List.forall_mem_cons.mpr ⟨lw_p37, List.forall_mem_cons.mpr ⟨lw_p38, List.forall_mem_cons.mpr ⟨lw_p39, List.forall_mem_cons.mpr ⟨lw_p40, List.forall_mem_cons.mpr ⟨lw_p41, List.forall_mem_cons.mpr ⟨lw_p42, List.forall_mem_cons.mpr ⟨lw_p43, List.forall_mem_cons.mpr ⟨lw_p44, List.forall_mem_cons.mpr ⟨lw_p45, List.forall_mem_cons.mpr ⟨lw_p46, List.forall_mem_cons.mpr ⟨lw_p47, fun _ h => absurd h List.not_mem_nil⟩⟩⟩⟩⟩⟩⟩⟩⟩⟩⟩⟩⟩⟩⟩⟩
theorem lw_p48 : lw_okq (⟨"MovingStairsModel", "linkOf", "(II)I"⟩, 42) := ⟨⟨by decide +kernel, by decide +kernel⟩, List.mem_of_getElem? (i := 1137) (by decide +kernel), List.mem_of_getElem? (i := 1307) (by decide +kernel), List.mem_of_getElem? (i := 1308) (by decide +kernel)⟩
theorem lw_p49 : lw_okq (⟨"MovingStairsModel", "loadOf", "(I)I"⟩, 42) := ⟨⟨by decide +kernel, by decide +kernel⟩, List.mem_of_getElem? (i := 1137) (by decide +kernel), List.mem_of_getElem? (i := 1311) (by decide +kernel), List.mem_of_getElem? (i := 1312) (by decide +kernel)⟩
theorem lw_p50 : lw_okq (⟨"MovingStairsModel", "put", "(I)V"⟩, 42) := ⟨⟨by decide +kernel, by decide +kernel⟩, List.mem_of_getElem? (i := 1137) (by decide +kernel), List.mem_of_getElem? (i := 1332) (by decide +kernel), List.mem_of_getElem? (i := 1333) (by decide +kernel)⟩
theorem lw_p51 : lw_okq (⟨"MovingStairsModel", "next", "()V"⟩, 42) := ⟨⟨by decide +kernel, by decide +kernel⟩, List.mem_of_getElem? (i := 1137) (by decide +kernel), List.mem_of_getElem? (i := 1344) (by decide +kernel), List.mem_of_getElem? (i := 1345) (by decide +kernel)⟩
theorem lw_p52 : lw_okq (⟨"MovingStairsModel", "asks", "()V"⟩, 42) := ⟨⟨by decide +kernel, by decide +kernel⟩, List.mem_of_getElem? (i := 1137) (by decide +kernel), List.mem_of_getElem? (i := 1369) (by decide +kernel), List.mem_of_getElem? (i := 1370) (by decide +kernel)⟩
theorem lw_p53 : lw_okq (⟨"MovingStairsModel", "isWord", "(I)Z"⟩, 42) := ⟨⟨by decide +kernel, by decide +kernel⟩, List.mem_of_getElem? (i := 1137) (by decide +kernel), List.mem_of_getElem? (i := 1373) (by decide +kernel), List.mem_of_getElem? (i := 1374) (by decide +kernel)⟩
theorem lw_p54 : lw_okq (⟨"MovingStairsModel", "opensSign", "(I)Z"⟩, 42) := ⟨⟨by decide +kernel, by decide +kernel⟩, List.mem_of_getElem? (i := 1137) (by decide +kernel), List.mem_of_getElem? (i := 1377) (by decide +kernel), List.mem_of_getElem? (i := 1378) (by decide +kernel)⟩
theorem lw_p55 : lw_okq (⟨"MovingStairsModel", "errs", "(I)V"⟩, 42) := ⟨⟨by decide +kernel, by decide +kernel⟩, List.mem_of_getElem? (i := 1137) (by decide +kernel), List.mem_of_getElem? (i := 1381) (by decide +kernel), List.mem_of_getElem? (i := 1382) (by decide +kernel)⟩
theorem lw_p56 : lw_okq (⟨"MovingStairsModel", "opensFrame", "(I)V"⟩, 42) := ⟨⟨by decide +kernel, by decide +kernel⟩, List.mem_of_getElem? (i := 1137) (by decide +kernel), List.mem_of_getElem? (i := 1385) (by decide +kernel), List.mem_of_getElem? (i := 1386) (by decide +kernel)⟩
theorem lw_p57 : lw_okq (⟨"MovingStairsModel", "begins", "()V"⟩, 42) := ⟨⟨by decide +kernel, by decide +kernel⟩, List.mem_of_getElem? (i := 1137) (by decide +kernel), List.mem_of_getElem? (i := 1389) (by decide +kernel), List.mem_of_getElem? (i := 1390) (by decide +kernel)⟩
theorem lw_p58 : lw_okq (⟨"MovingStairsModel", "emits", "(II)V"⟩, 42) := ⟨⟨by decide +kernel, by decide +kernel⟩, List.mem_of_getElem? (i := 1137) (by decide +kernel), List.mem_of_getElem? (i := 1393) (by decide +kernel), List.mem_of_getElem? (i := 1394) (by decide +kernel)⟩
theorem lw_p59 : lw_okq (⟨"MovingStairsModel", "oneIsOver", "()V"⟩, 42) := ⟨⟨by decide +kernel, by decide +kernel⟩, List.mem_of_getElem? (i := 1137) (by decide +kernel), List.mem_of_getElem? (i := 1397) (by decide +kernel), List.mem_of_getElem? (i := 1398) (by decide +kernel)⟩
theorem lw_p60 : lw_okq (⟨"MovingStairsModel", "top", "()I"⟩, 42) := ⟨⟨by decide +kernel, by decide +kernel⟩, List.mem_of_getElem? (i := 1137) (by decide +kernel), List.mem_of_getElem? (i := 1401) (by decide +kernel), List.mem_of_getElem? (i := 1402) (by decide +kernel)⟩
theorem lw_p61 : lw_okq (⟨"MovingStairsModel", "isSign", "(I)Z"⟩, 42) := ⟨⟨by decide +kernel, by decide +kernel⟩, List.mem_of_getElem? (i := 1137) (by decide +kernel), List.mem_of_getElem? (i := 1405) (by decide +kernel), List.mem_of_getElem? (i := 1406) (by decide +kernel)⟩
theorem lw_p62 : lw_okq (⟨"MovingStairsModel", "goesOn", "()V"⟩, 42) := ⟨⟨by decide +kernel, by decide +kernel⟩, List.mem_of_getElem? (i := 1137) (by decide +kernel), List.mem_of_getElem? (i := 1409) (by decide +kernel), List.mem_of_getElem? (i := 1410) (by decide +kernel)⟩
theorem lw_p63 : lw_okq (⟨"MovingStairsModel", "waitsFor", "(I)V"⟩, 42) := ⟨⟨by decide +kernel, by decide +kernel⟩, List.mem_of_getElem? (i := 1137) (by decide +kernel), List.mem_of_getElem? (i := 1413) (by decide +kernel), List.mem_of_getElem? (i := 1414) (by decide +kernel)⟩
def lw_privs_4 : List (MethodName × Nat) := [(⟨"MovingStairsModel", "linkOf", "(II)I"⟩, 42), (⟨"MovingStairsModel", "loadOf", "(I)I"⟩, 42), (⟨"MovingStairsModel", "put", "(I)V"⟩, 42), (⟨"MovingStairsModel", "next", "()V"⟩, 42), (⟨"MovingStairsModel", "asks", "()V"⟩, 42), (⟨"MovingStairsModel", "isWord", "(I)Z"⟩, 42), (⟨"MovingStairsModel", "opensSign", "(I)Z"⟩, 42), (⟨"MovingStairsModel", "errs", "(I)V"⟩, 42), (⟨"MovingStairsModel", "opensFrame", "(I)V"⟩, 42), (⟨"MovingStairsModel", "begins", "()V"⟩, 42), (⟨"MovingStairsModel", "emits", "(II)V"⟩, 42), (⟨"MovingStairsModel", "oneIsOver", "()V"⟩, 42), (⟨"MovingStairsModel", "top", "()I"⟩, 42), (⟨"MovingStairsModel", "isSign", "(I)Z"⟩, 42), (⟨"MovingStairsModel", "goesOn", "()V"⟩, 42), (⟨"MovingStairsModel", "waitsFor", "(I)V"⟩, 42)]
theorem lw_r4 : ∀ q ∈ lw_privs_4, lw_okq q := List.forall_mem_cons.mpr ⟨lw_p48, List.forall_mem_cons.mpr ⟨lw_p49, List.forall_mem_cons.mpr ⟨lw_p50, List.forall_mem_cons.mpr ⟨lw_p51, List.forall_mem_cons.mpr ⟨lw_p52, List.forall_mem_cons.mpr ⟨lw_p53, List.forall_mem_cons.mpr ⟨lw_p54, List.forall_mem_cons.mpr ⟨lw_p55, List.forall_mem_cons.mpr ⟨lw_p56, List.forall_mem_cons.mpr ⟨lw_p57, List.forall_mem_cons.mpr ⟨lw_p58, List.forall_mem_cons.mpr ⟨lw_p59, List.forall_mem_cons.mpr ⟨lw_p60, List.forall_mem_cons.mpr ⟨lw_p61, List.forall_mem_cons.mpr ⟨lw_p62, List.forall_mem_cons.mpr ⟨lw_p63, fun _ h => absurd h List.not_mem_nil⟩⟩⟩⟩⟩⟩⟩⟩⟩⟩⟩⟩⟩⟩⟩⟩
theorem lw_p64 : lw_okq (⟨"MovingStairsModel", "works", "(I)V"⟩, 42) := ⟨⟨by decide +kernel, by decide +kernel⟩, List.mem_of_getElem? (i := 1137) (by decide +kernel), List.mem_of_getElem? (i := 1420) (by decide +kernel), List.mem_of_getElem? (i := 1421) (by decide +kernel)⟩
theorem lw_p65 : lw_okq (⟨"MovingStairsModel", "askIsOver", "()V"⟩, 42) := ⟨⟨by decide +kernel, by decide +kernel⟩, List.mem_of_getElem? (i := 1137) (by decide +kernel), List.mem_of_getElem? (i := 1427) (by decide +kernel), List.mem_of_getElem? (i := 1428) (by decide +kernel)⟩
theorem lw_p66 : lw_okq (⟨"MovingStairsModel", "clauseIsOver", "()V"⟩, 42) := ⟨⟨by decide +kernel, by decide +kernel⟩, List.mem_of_getElem? (i := 1137) (by decide +kernel), List.mem_of_getElem? (i := 1431) (by decide +kernel), List.mem_of_getElem? (i := 1432) (by decide +kernel)⟩
theorem lw_p67 : lw_okq (⟨"MovingStairsModel", "asksOn", "()V"⟩, 42) := ⟨⟨by decide +kernel, by decide +kernel⟩, List.mem_of_getElem? (i := 1137) (by decide +kernel), List.mem_of_getElem? (i := 1435) (by decide +kernel), List.mem_of_getElem? (i := 1436) (by decide +kernel)⟩
theorem lw_p68 : lw_okq (⟨"MovingStairsModel", "clause", "()V"⟩, 42) := ⟨⟨by decide +kernel, by decide +kernel⟩, List.mem_of_getElem? (i := 1137) (by decide +kernel), List.mem_of_getElem? (i := 1439) (by decide +kernel), List.mem_of_getElem? (i := 1440) (by decide +kernel)⟩
theorem lw_p69 : lw_okq (⟨"MovingStairsModel", "wasWalk", "()Z"⟩, 42) := ⟨⟨by decide +kernel, by decide +kernel⟩, List.mem_of_getElem? (i := 1137) (by decide +kernel), List.mem_of_getElem? (i := 1443) (by decide +kernel), List.mem_of_getElem? (i := 1444) (by decide +kernel)⟩
theorem lw_p70 : lw_okq (⟨"MovingStairsModel", "keepsText", "(I)V"⟩, 42) := ⟨⟨by decide +kernel, by decide +kernel⟩, List.mem_of_getElem? (i := 1137) (by decide +kernel), List.mem_of_getElem? (i := 1447) (by decide +kernel), List.mem_of_getElem? (i := 1448) (by decide +kernel)⟩
theorem lw_p71 : lw_okq (⟨"MovingStairsModel", "routes", "(II)V"⟩, 42) := ⟨⟨by decide +kernel, by decide +kernel⟩, List.mem_of_getElem? (i := 1137) (by decide +kernel), List.mem_of_getElem? (i := 1463) (by decide +kernel), List.mem_of_getElem? (i := 1464) (by decide +kernel)⟩
theorem lw_p72 : lw_okq (⟨"MovingStairsModel", "costFrom", "(III)I"⟩, 42) := ⟨⟨by decide +kernel, by decide +kernel⟩, List.mem_of_getElem? (i := 1137) (by decide +kernel), List.mem_of_getElem? (i := 1468) (by decide +kernel), List.mem_of_getElem? (i := 1469) (by decide +kernel)⟩
theorem lw_p73 : lw_okq (⟨"MovingStairsModel", "footOf", "(I)I"⟩, 42) := ⟨⟨by decide +kernel, by decide +kernel⟩, List.mem_of_getElem? (i := 1137) (by decide +kernel), List.mem_of_getElem? (i := 1472) (by decide +kernel), List.mem_of_getElem? (i := 1473) (by decide +kernel)⟩
theorem lw_p74 : lw_okq (⟨"MovingStairsModel", "otherEnd", "(II)I"⟩, 42) := ⟨⟨by decide +kernel, by decide +kernel⟩, List.mem_of_getElem? (i := 1137) (by decide +kernel), List.mem_of_getElem? (i := 1476) (by decide +kernel), List.mem_of_getElem? (i := 1477) (by decide +kernel)⟩
theorem lw_p75 : lw_okq (⟨"MovingStairsModel", "isRun", "(I)Z"⟩, 42) := ⟨⟨by decide +kernel, by decide +kernel⟩, List.mem_of_getElem? (i := 1137) (by decide +kernel), List.mem_of_getElem? (i := 1484) (by decide +kernel), List.mem_of_getElem? (i := 1485) (by decide +kernel)⟩
theorem lw_p76 : lw_okq (⟨"MovingStairsModel", "second", "()V"⟩, 42) := ⟨⟨by decide +kernel, by decide +kernel⟩, List.mem_of_getElem? (i := 1137) (by decide +kernel), List.mem_of_getElem? (i := 1488) (by decide +kernel), List.mem_of_getElem? (i := 1489) (by decide +kernel)⟩
theorem lw_p77 : lw_okq (⟨"MovingStairsModel", "bursts", "(I)V"⟩, 42) := ⟨⟨by decide +kernel, by decide +kernel⟩, List.mem_of_getElem? (i := 1137) (by decide +kernel), List.mem_of_getElem? (i := 1492) (by decide +kernel), List.mem_of_getElem? (i := 1493) (by decide +kernel)⟩
theorem lw_p78 : lw_okq (⟨"MovingStairsModel", "comes", "(IIII)V"⟩, 42) := ⟨⟨by decide +kernel, by decide +kernel⟩, List.mem_of_getElem? (i := 1137) (by decide +kernel), List.mem_of_getElem? (i := 1496) (by decide +kernel), List.mem_of_getElem? (i := 1497) (by decide +kernel)⟩
theorem lw_p79 : lw_okq (⟨"MovingStairsModel", "isSome", "(II)Z"⟩, 42) := ⟨⟨by decide +kernel, by decide +kernel⟩, List.mem_of_getElem? (i := 1137) (by decide +kernel), List.mem_of_getElem? (i := 1500) (by decide +kernel), List.mem_of_getElem? (i := 1501) (by decide +kernel)⟩
def lw_privs_5 : List (MethodName × Nat) := [(⟨"MovingStairsModel", "works", "(I)V"⟩, 42), (⟨"MovingStairsModel", "askIsOver", "()V"⟩, 42), (⟨"MovingStairsModel", "clauseIsOver", "()V"⟩, 42), (⟨"MovingStairsModel", "asksOn", "()V"⟩, 42), (⟨"MovingStairsModel", "clause", "()V"⟩, 42), (⟨"MovingStairsModel", "wasWalk", "()Z"⟩, 42), (⟨"MovingStairsModel", "keepsText", "(I)V"⟩, 42), (⟨"MovingStairsModel", "routes", "(II)V"⟩, 42), (⟨"MovingStairsModel", "costFrom", "(III)I"⟩, 42), (⟨"MovingStairsModel", "footOf", "(I)I"⟩, 42), (⟨"MovingStairsModel", "otherEnd", "(II)I"⟩, 42), (⟨"MovingStairsModel", "isRun", "(I)Z"⟩, 42), (⟨"MovingStairsModel", "second", "()V"⟩, 42), (⟨"MovingStairsModel", "bursts", "(I)V"⟩, 42), (⟨"MovingStairsModel", "comes", "(IIII)V"⟩, 42), (⟨"MovingStairsModel", "isSome", "(II)Z"⟩, 42)]
theorem lw_r5 : ∀ q ∈ lw_privs_5, lw_okq q := List.forall_mem_cons.mpr ⟨lw_p64, List.forall_mem_cons.mpr ⟨lw_p65, List.forall_mem_cons.mpr ⟨lw_p66, List.forall_mem_cons.mpr ⟨lw_p67, List.forall_mem_cons.mpr ⟨lw_p68, List.forall_mem_cons.mpr ⟨lw_p69, List.forall_mem_cons.mpr ⟨lw_p70, List.forall_mem_cons.mpr ⟨lw_p71, List.forall_mem_cons.mpr ⟨lw_p72, List.forall_mem_cons.mpr ⟨lw_p73, List.forall_mem_cons.mpr ⟨lw_p74, List.forall_mem_cons.mpr ⟨lw_p75, List.forall_mem_cons.mpr ⟨lw_p76, List.forall_mem_cons.mpr ⟨lw_p77, List.forall_mem_cons.mpr ⟨lw_p78, List.forall_mem_cons.mpr ⟨lw_p79, fun _ h => absurd h List.not_mem_nil⟩⟩⟩⟩⟩⟩⟩⟩⟩⟩⟩⟩⟩⟩⟩⟩
theorem lw_p80 : lw_okq (⟨"MovingStairsModel", "inHall", "(I)I"⟩, 42) := ⟨⟨by decide +kernel, by decide +kernel⟩, List.mem_of_getElem? (i := 1137) (by decide +kernel), List.mem_of_getElem? (i := 1504) (by decide +kernel), List.mem_of_getElem? (i := 1505) (by decide +kernel)⟩
theorem lw_p81 : lw_okq (⟨"MovingStairsModel", "countOf", "(II)I"⟩, 42) := ⟨⟨by decide +kernel, by decide +kernel⟩, List.mem_of_getElem? (i := 1137) (by decide +kernel), List.mem_of_getElem? (i := 1508) (by decide +kernel), List.mem_of_getElem? (i := 1509) (by decide +kernel)⟩
theorem lw_p82 : lw_okq (⟨"MovingStairsModel", "hallOf", "(II)I"⟩, 42) := ⟨⟨by decide +kernel, by decide +kernel⟩, List.mem_of_getElem? (i := 1137) (by decide +kernel), List.mem_of_getElem? (i := 1512) (by decide +kernel), List.mem_of_getElem? (i := 1513) (by decide +kernel)⟩
theorem lw_p83 : lw_okq (⟨"MovingStairsModel", "saysOf", "(I)J"⟩, 42) := ⟨⟨by decide +kernel, by decide +kernel⟩, List.mem_of_getElem? (i := 1137) (by decide +kernel), List.mem_of_getElem? (i := 1516) (by decide +kernel), List.mem_of_getElem? (i := 1517) (by decide +kernel)⟩
theorem lw_p84 : lw_okq (⟨"MovingStairsModel", "lets", "(I)V"⟩, 42) := ⟨⟨by decide +kernel, by decide +kernel⟩, List.mem_of_getElem? (i := 1137) (by decide +kernel), List.mem_of_getElem? (i := 1528) (by decide +kernel), List.mem_of_getElem? (i := 1529) (by decide +kernel)⟩
theorem lw_p85 : lw_okq (⟨"MovingStairsModel", "allRoutes", "()V"⟩, 42) := ⟨⟨by decide +kernel, by decide +kernel⟩, List.mem_of_getElem? (i := 1137) (by decide +kernel), List.mem_of_getElem? (i := 1532) (by decide +kernel), List.mem_of_getElem? (i := 1533) (by decide +kernel)⟩
theorem lw_p86 : lw_okq (⟨"MovingStairsModel", "stairs", "(II)V"⟩, 42) := ⟨⟨by decide +kernel, by decide +kernel⟩, List.mem_of_getElem? (i := 1137) (by decide +kernel), List.mem_of_getElem? (i := 1536) (by decide +kernel), List.mem_of_getElem? (i := 1537) (by decide +kernel)⟩
theorem lw_p87 : lw_okq (⟨"MovingStairsModel", "walkOf", "(I)I"⟩, 42) := ⟨⟨by decide +kernel, by decide +kernel⟩, List.mem_of_getElem? (i := 1137) (by decide +kernel), List.mem_of_getElem? (i := 1540) (by decide +kernel), List.mem_of_getElem? (i := 1541) (by decide +kernel)⟩
theorem lw_p88 : lw_okq (⟨"MovingStairsModel", "climbs", "(II)V"⟩, 42) := ⟨⟨by decide +kernel, by decide +kernel⟩, List.mem_of_getElem? (i := 1137) (by decide +kernel), List.mem_of_getElem? (i := 1546) (by decide +kernel), List.mem_of_getElem? (i := 1547) (by decide +kernel)⟩
theorem lw_p89 : lw_okq (⟨"MovingStairsModel", "placeOf", "(III)I"⟩, 42) := ⟨⟨by decide +kernel, by decide +kernel⟩, List.mem_of_getElem? (i := 1137) (by decide +kernel), List.mem_of_getElem? (i := 1550) (by decide +kernel), List.mem_of_getElem? (i := 1551) (by decide +kernel)⟩
theorem lw_p90 : lw_okq (⟨"MovingStairsModel", "stepsOff", "(II)Z"⟩, 42) := ⟨⟨by decide +kernel, by decide +kernel⟩, List.mem_of_getElem? (i := 1137) (by decide +kernel), List.mem_of_getElem? (i := 1554) (by decide +kernel), List.mem_of_getElem? (i := 1555) (by decide +kernel)⟩
theorem lw_p91 : lw_okq (⟨"MovingStairsModel", "headOf", "(I)I"⟩, 42) := ⟨⟨by decide +kernel, by decide +kernel⟩, List.mem_of_getElem? (i := 1137) (by decide +kernel), List.mem_of_getElem? (i := 1558) (by decide +kernel), List.mem_of_getElem? (i := 1559) (by decide +kernel)⟩
theorem lw_p92 : lw_okq (⟨"MovingStairsModel", "moves", "(II)Z"⟩, 42) := ⟨⟨by decide +kernel, by decide +kernel⟩, List.mem_of_getElem? (i := 1137) (by decide +kernel), List.mem_of_getElem? (i := 1562) (by decide +kernel), List.mem_of_getElem? (i := 1563) (by decide +kernel)⟩
theorem lw_p93 : lw_okq (⟨"MovingStairsModel", "trips", "(I)V"⟩, 42) := ⟨⟨by decide +kernel, by decide +kernel⟩, List.mem_of_getElem? (i := 1137) (by decide +kernel), List.mem_of_getElem? (i := 1566) (by decide +kernel), List.mem_of_getElem? (i := 1567) (by decide +kernel)⟩
theorem lw_p94 : lw_okq (⟨"MovingStairsModel", "takes", "(II)V"⟩, 42) := ⟨⟨by decide +kernel, by decide +kernel⟩, List.mem_of_getElem? (i := 1137) (by decide +kernel), List.mem_of_getElem? (i := 1570) (by decide +kernel), List.mem_of_getElem? (i := 1571) (by decide +kernel)⟩
theorem lw_p95 : lw_okq (⟨"MovingStairsModel", "mostOf", "(III)I"⟩, 42) := ⟨⟨by decide +kernel, by decide +kernel⟩, List.mem_of_getElem? (i := 1137) (by decide +kernel), List.mem_of_getElem? (i := 1574) (by decide +kernel), List.mem_of_getElem? (i := 1575) (by decide +kernel)⟩
def lw_privs_6 : List (MethodName × Nat) := [(⟨"MovingStairsModel", "inHall", "(I)I"⟩, 42), (⟨"MovingStairsModel", "countOf", "(II)I"⟩, 42), (⟨"MovingStairsModel", "hallOf", "(II)I"⟩, 42), (⟨"MovingStairsModel", "saysOf", "(I)J"⟩, 42), (⟨"MovingStairsModel", "lets", "(I)V"⟩, 42), (⟨"MovingStairsModel", "allRoutes", "()V"⟩, 42), (⟨"MovingStairsModel", "stairs", "(II)V"⟩, 42), (⟨"MovingStairsModel", "walkOf", "(I)I"⟩, 42), (⟨"MovingStairsModel", "climbs", "(II)V"⟩, 42), (⟨"MovingStairsModel", "placeOf", "(III)I"⟩, 42), (⟨"MovingStairsModel", "stepsOff", "(II)Z"⟩, 42), (⟨"MovingStairsModel", "headOf", "(I)I"⟩, 42), (⟨"MovingStairsModel", "moves", "(II)Z"⟩, 42), (⟨"MovingStairsModel", "trips", "(I)V"⟩, 42), (⟨"MovingStairsModel", "takes", "(II)V"⟩, 42), (⟨"MovingStairsModel", "mostOf", "(III)I"⟩, 42)]
theorem lw_r6 : ∀ q ∈ lw_privs_6, lw_okq q := List.forall_mem_cons.mpr ⟨lw_p80, List.forall_mem_cons.mpr ⟨lw_p81, List.forall_mem_cons.mpr ⟨lw_p82, List.forall_mem_cons.mpr ⟨lw_p83, List.forall_mem_cons.mpr ⟨lw_p84, List.forall_mem_cons.mpr ⟨lw_p85, List.forall_mem_cons.mpr ⟨lw_p86, List.forall_mem_cons.mpr ⟨lw_p87, List.forall_mem_cons.mpr ⟨lw_p88, List.forall_mem_cons.mpr ⟨lw_p89, List.forall_mem_cons.mpr ⟨lw_p90, List.forall_mem_cons.mpr ⟨lw_p91, List.forall_mem_cons.mpr ⟨lw_p92, List.forall_mem_cons.mpr ⟨lw_p93, List.forall_mem_cons.mpr ⟨lw_p94, List.forall_mem_cons.mpr ⟨lw_p95, fun _ h => absurd h List.not_mem_nil⟩⟩⟩⟩⟩⟩⟩⟩⟩⟩⟩⟩⟩⟩⟩⟩
theorem lw_p96 : lw_okq (⟨"MovingStairsModel", "sideFor", "(IZ)I"⟩, 42) := ⟨⟨by decide +kernel, by decide +kernel⟩, List.mem_of_getElem? (i := 1137) (by decide +kernel), List.mem_of_getElem? (i := 1578) (by decide +kernel), List.mem_of_getElem? (i := 1579) (by decide +kernel)⟩
theorem lw_p97 : lw_okq (⟨"MovingStairsModel", "lifts", "(III)V"⟩, 42) := ⟨⟨by decide +kernel, by decide +kernel⟩, List.mem_of_getElem? (i := 1137) (by decide +kernel), List.mem_of_getElem? (i := 1582) (by decide +kernel), List.mem_of_getElem? (i := 1583) (by decide +kernel)⟩
theorem lw_p98 : lw_okq (⟨"MovingStairsModel", "isOver", "(I)Z"⟩, 42) := ⟨⟨by decide +kernel, by decide +kernel⟩, List.mem_of_getElem? (i := 1137) (by decide +kernel), List.mem_of_getElem? (i := 1586) (by decide +kernel), List.mem_of_getElem? (i := 1587) (by decide +kernel)⟩
theorem lw_p99 : lw_okq (⟨"MovingStairsModel", "areStairs", "(I)Z"⟩, 42) := ⟨⟨by decide +kernel, by decide +kernel⟩, List.mem_of_getElem? (i := 1137) (by decide +kernel), List.mem_of_getElem? (i := 1610) (by decide +kernel), List.mem_of_getElem? (i := 1611) (by decide +kernel)⟩
theorem lw_p100 : lw_okq (⟨"MovingStairsModel", "saves", "()V"⟩, 42) := ⟨⟨by decide +kernel, by decide +kernel⟩, List.mem_of_getElem? (i := 1137) (by decide +kernel), List.mem_of_getElem? (i := 1614) (by decide +kernel), List.mem_of_getElem? (i := 1615) (by decide +kernel)⟩
theorem lw_p101 : lw_okq (⟨"MovingStairsModel", "runs", "(I)V"⟩, 42) := ⟨⟨by decide +kernel, by decide +kernel⟩, List.mem_of_getElem? (i := 1137) (by decide +kernel), List.mem_of_getElem? (i := 1619) (by decide +kernel), List.mem_of_getElem? (i := 1620) (by decide +kernel)⟩
theorem lw_p102 : lw_okq (⟨"MovingStairsModel", "putsBack", "()V"⟩, 42) := ⟨⟨by decide +kernel, by decide +kernel⟩, List.mem_of_getElem? (i := 1137) (by decide +kernel), List.mem_of_getElem? (i := 1623) (by decide +kernel), List.mem_of_getElem? (i := 1624) (by decide +kernel)⟩
theorem lw_p103 : lw_okq (⟨"MovingStairsModel", "isStair", "(I)Z"⟩, 42) := ⟨⟨by decide +kernel, by decide +kernel⟩, List.mem_of_getElem? (i := 1137) (by decide +kernel), List.mem_of_getElem? (i := 1635) (by decide +kernel), List.mem_of_getElem? (i := 1636) (by decide +kernel)⟩
theorem lw_p104 : lw_okq (⟨"MovingStairsModel", "carries", "(IIII)I"⟩, 42) := ⟨⟨by decide +kernel, by decide +kernel⟩, List.mem_of_getElem? (i := 1137) (by decide +kernel), List.mem_of_getElem? (i := 1648) (by decide +kernel), List.mem_of_getElem? (i := 1649) (by decide +kernel)⟩
theorem lw_p105 : lw_okq (⟨"MovingStairsModel", "loneMoves", "(II)I"⟩, 42) := ⟨⟨by decide +kernel, by decide +kernel⟩, List.mem_of_getElem? (i := 1137) (by decide +kernel), List.mem_of_getElem? (i := 1652) (by decide +kernel), List.mem_of_getElem? (i := 1653) (by decide +kernel)⟩
theorem lw_p106 : lw_okq (⟨"MovingStairsModel", "daysOf", "(IIZ)I"⟩, 42) := ⟨⟨by decide +kernel, by decide +kernel⟩, List.mem_of_getElem? (i := 1137) (by decide +kernel), List.mem_of_getElem? (i := 1668) (by decide +kernel), List.mem_of_getElem? (i := 1669) (by decide +kernel)⟩
theorem lw_p107 : lw_okq (⟨"MovingStairsModel", "countsBy", "(III)I"⟩, 42) := ⟨⟨by decide +kernel, by decide +kernel⟩, List.mem_of_getElem? (i := 1137) (by decide +kernel), List.mem_of_getElem? (i := 1681) (by decide +kernel), List.mem_of_getElem? (i := 1682) (by decide +kernel)⟩
theorem lw_p108 : lw_okq (⟨"MovingStairsModel", "aboveOf", "(II)I"⟩, 42) := ⟨⟨by decide +kernel, by decide +kernel⟩, List.mem_of_getElem? (i := 1137) (by decide +kernel), List.mem_of_getElem? (i := 1685) (by decide +kernel), List.mem_of_getElem? (i := 1686) (by decide +kernel)⟩
theorem lw_p109 : lw_okq (⟨"MovingStairsModel", "chain", "(III)I"⟩, 42) := ⟨⟨by decide +kernel, by decide +kernel⟩, List.mem_of_getElem? (i := 1137) (by decide +kernel), List.mem_of_getElem? (i := 1701) (by decide +kernel), List.mem_of_getElem? (i := 1702) (by decide +kernel)⟩
def lw_privs_7 : List (MethodName × Nat) := [(⟨"MovingStairsModel", "sideFor", "(IZ)I"⟩, 42), (⟨"MovingStairsModel", "lifts", "(III)V"⟩, 42), (⟨"MovingStairsModel", "isOver", "(I)Z"⟩, 42), (⟨"MovingStairsModel", "areStairs", "(I)Z"⟩, 42), (⟨"MovingStairsModel", "saves", "()V"⟩, 42), (⟨"MovingStairsModel", "runs", "(I)V"⟩, 42), (⟨"MovingStairsModel", "putsBack", "()V"⟩, 42), (⟨"MovingStairsModel", "isStair", "(I)Z"⟩, 42), (⟨"MovingStairsModel", "carries", "(IIII)I"⟩, 42), (⟨"MovingStairsModel", "loneMoves", "(II)I"⟩, 42), (⟨"MovingStairsModel", "daysOf", "(IIZ)I"⟩, 42), (⟨"MovingStairsModel", "countsBy", "(III)I"⟩, 42), (⟨"MovingStairsModel", "aboveOf", "(II)I"⟩, 42), (⟨"MovingStairsModel", "chain", "(III)I"⟩, 42)]
theorem lw_r7 : ∀ q ∈ lw_privs_7, lw_okq q := List.forall_mem_cons.mpr ⟨lw_p96, List.forall_mem_cons.mpr ⟨lw_p97, List.forall_mem_cons.mpr ⟨lw_p98, List.forall_mem_cons.mpr ⟨lw_p99, List.forall_mem_cons.mpr ⟨lw_p100, List.forall_mem_cons.mpr ⟨lw_p101, List.forall_mem_cons.mpr ⟨lw_p102, List.forall_mem_cons.mpr ⟨lw_p103, List.forall_mem_cons.mpr ⟨lw_p104, List.forall_mem_cons.mpr ⟨lw_p105, List.forall_mem_cons.mpr ⟨lw_p106, List.forall_mem_cons.mpr ⟨lw_p107, List.forall_mem_cons.mpr ⟨lw_p108, List.forall_mem_cons.mpr ⟨lw_p109, fun _ h => absurd h List.not_mem_nil⟩⟩⟩⟩⟩⟩⟩⟩⟩⟩⟩⟩⟩⟩
def lw_privs : List (MethodName × Nat) := lw_privs_1 ++ (lw_privs_2 ++ (lw_privs_3 ++ (lw_privs_4 ++ (lw_privs_5 ++ (lw_privs_6 ++ (lw_privs_7))))))
def lw_tbl : List Cond := k2_sels lw_privs ++ tables_1
theorem lw_privs_ok : ∀ q ∈ lw_privs, lw_okq q := by
  show ∀ q ∈ lw_privs_1 ++ (lw_privs_2 ++ (lw_privs_3 ++ (lw_privs_4 ++ (lw_privs_5 ++ (lw_privs_6 ++ (lw_privs_7)))))), lw_okq q
  exact List.forall_mem_append.mpr ⟨lw_r1, List.forall_mem_append.mpr ⟨lw_r2, List.forall_mem_append.mpr ⟨lw_r3, List.forall_mem_append.mpr ⟨lw_r4, List.forall_mem_append.mpr ⟨lw_r5, List.forall_mem_append.mpr ⟨lw_r6, lw_r7⟩⟩⟩⟩⟩⟩
-- ===== end of PART A; then your names; then what follows =====
theorem goodIn_r {big : List Cond} (ws : List Cond) (ps : List Nat) (hp : ws = ps.filterMap (fun i => big[i]?)) (h : ws.all goodWord = true) : GoodIn big ws := by
  intro w hw
  have h1 := List.all_eq_true.mp h w hw
  rw [hp] at hw
  obtain ⟨i, -, hi⟩ := List.mem_filterMap.mp hw
  have hm : w ∈ big := by first | exact List.mem_of_getElem? hi | exact List.getElem?_mem hi
  exact ⟨hm, good_of_word h1⟩
theorem goodIn_app {big a b : List Cond} (ha : GoodIn big a) (hb : GoodIn big b) : GoodIn big (a ++ b) := fun w h => (List.mem_append.mp h).elim (ha w) (hb w)
theorem goodIn_ca {big a b : List Cond} {c : Cond} (ha : GoodIn big (c :: a)) (hb : GoodIn big b) : GoodIn big (c :: (a ++ b)) := fun w h => (List.mem_cons.mp h).elim (fun e => ha w (List.mem_cons.mpr (Or.inl e))) (fun h => (List.mem_append.mp h).elim (fun h => ha w (List.mem_cons.mpr (Or.inr h))) (hb w))
def RX0 : String := "MovingStairs$Burst"
def TX0 : u_T := fun k => match k with
  | 0 => ("MovingStairs$Burst", "second", "I", false)
  | 1 => ("MovingStairs$Burst", "every", "I", false)
  | 2 => ("MovingStairs$Burst", "hall", "I", false)
  | 3 => ("MovingStairs$Burst", "goal", "I", false)
  | 4 => ("MovingStairs$Burst", "size", "I", false)
  | 5 => ("MovingStairs$Burst", "kind", "I", false)
  | _ => ("MovingStairs$Burst", "street", "Z", false)
def tyX0 : Nat → FieldType := fun k => match k with
  | 0 => .int
  | 1 => .int
  | 2 => .int
  | 3 => .int
  | 4 => .int
  | 5 => .int
  | _ => .boolean
abbrev wsX00 : List Cond := u_ws RX0 TX0 7
theorem nmX0 : ∀ a, a < 7 → ∀ b, b < 7 → a ≠ b → (TX0 a).2.1 ≠ (TX0 b).2.1 := by decide +kernel
theorem tyX0_ok : ∀ k, k < 7 → parseFieldDescriptor (TX0 k).2.2.1 = some (tyX0 k) := by decide +kernel
abbrev cX0_init : ByteArray := prog_2_method_1_code
def yX0_init : MethodName := ⟨RX0, "<init>", "()V"⟩
abbrev cX0_copy : ByteArray := prog_2_method_2_code
def yX0_copy : MethodName := ⟨RX0, "copy", "(LMovingStairs$Burst;)V"⟩
abbrev cX0_isDue : ByteArray := prog_2_method_3_code
def yX0_isDue : MethodName := ⟨RX0, "isDue", "(I)Z"⟩
def RX1 : String := "MovingStairs$Days"
def TX1 : u_T := fun k => match k with
  | 0 => ("MovingStairs$Days", "sums", "[I", true)
  | 1 => ("MovingStairs$Days", "many", "[I", true)
  | _ => ("MovingStairs$Days", "count", "I", false)
def tyX1 : Nat → FieldType := fun k => match k with
  | 0 => .array .int
  | 1 => .array .int
  | _ => .int
abbrev wsX10 : List Cond := u_ws RX1 TX1 3
theorem nmX1 : ∀ a, a < 3 → ∀ b, b < 3 → a ≠ b → (TX1 a).2.1 ≠ (TX1 b).2.1 := by decide +kernel
theorem tyX1_ok : ∀ k, k < 3 → parseFieldDescriptor (TX1 k).2.2.1 = some (tyX1 k) := by decide +kernel
abbrev cX1_init : ByteArray := prog_3_method_1_code
def yX1_init : MethodName := ⟨RX1, "<init>", "()V"⟩
abbrev cX1_tell : ByteArray := prog_3_method_2_code
def yX1_tell : MethodName := ⟨RX1, "tell", "(ZII)I"⟩
abbrev cX1_copy : ByteArray := prog_3_method_3_code
def yX1_copy : MethodName := ⟨RX1, "copy", "(LMovingStairs$Days;)V"⟩
abbrev cX1_meanEffect : ByteArray := prog_3_method_4_code
def yX1_meanEffect : MethodName := ⟨RX1, "meanEffect", "()I"⟩
def RX2 : String := "MovingStairs$Hall"
def TX2 : u_T := fun k => match k with
  | 0 => ("MovingStairs$Hall", "inside", "[I", true)
  | 1 => ("MovingStairs$Hall", "outside", "[I", true)
  | 2 => ("MovingStairs$Hall", "room", "I", false)
  | 3 => ("MovingStairs$Hall", "bar", "I", false)
  | 4 => ("MovingStairs$Hall", "count", "I", false)
  | 5 => ("MovingStairs$Hall", "outsideCount", "I", false)
  | 6 => ("MovingStairs$Hall", "shutSeconds", "I", false)
  | 7 => ("MovingStairs$Hall", "over", "I", false)
  | _ => ("MovingStairs$Hall", "shut", "Z", false)
def tyX2 : Nat → FieldType := fun k => match k with
  | 0 => .array .int
  | 1 => .array .int
  | 2 => .int
  | 3 => .int
  | 4 => .int
  | 5 => .int
  | 6 => .int
  | 7 => .int
  | _ => .boolean
abbrev wsX20 : List Cond := u_ws RX2 TX2 9
theorem nmX2 : ∀ a, a < 9 → ∀ b, b < 9 → a ≠ b → (TX2 a).2.1 ≠ (TX2 b).2.1 := by decide +kernel
theorem tyX2_ok : ∀ k, k < 9 → parseFieldDescriptor (TX2 k).2.2.1 = some (tyX2 k) := by decide +kernel
abbrev cX2_init : ByteArray := prog_4_method_1_code
def yX2_init : MethodName := ⟨RX2, "<init>", "()V"⟩
abbrev cX2_build : ByteArray := prog_4_method_2_code
def yX2_build : MethodName := ⟨RX2, "build", "(I)V"⟩
abbrev cX2_copy : ByteArray := prog_4_method_3_code
def yX2_copy : MethodName := ⟨RX2, "copy", "(LMovingStairs$Hall;)V"⟩
abbrev cX2_isOver : ByteArray := prog_4_method_4_code
def yX2_isOver : MethodName := ⟨RX2, "isOver", "()Z"⟩
abbrev cX2_waiting : ByteArray := prog_4_method_5_code
def yX2_waiting : MethodName := ⟨RX2, "waiting", "(II)I"⟩
abbrev cX2_change : ByteArray := prog_4_method_6_code
def yX2_change : MethodName := ⟨RX2, "change", "(III)V"⟩
abbrev cX2_changeOutside : ByteArray := prog_4_method_7_code
def yX2_changeOutside : MethodName := ⟨RX2, "changeOutside", "(III)V"⟩
def RX3 : String := "MovingStairs$Link"
def TX3 : u_T := fun k => match k with
  | 0 => ("MovingStairs$Link", "steps", "[I", true)
  | 1 => ("MovingStairs$Link", "kind", "I", false)
  | 2 => ("MovingStairs$Link", "low", "I", false)
  | 3 => ("MovingStairs$Link", "high", "I", false)
  | 4 => ("MovingStairs$Link", "size", "I", false)
  | 5 => ("MovingStairs$Link", "cycle", "I", false)
  | 6 => ("MovingStairs$Link", "way", "I", false)
  | 7 => ("MovingStairs$Link", "wanted", "I", false)
  | 8 => ("MovingStairs$Link", "mode", "I", false)
  | 9 => ("MovingStairs$Link", "count", "I", false)
  | 10 => ("MovingStairs$Link", "takenSoFar", "I", false)
  | 11 => ("MovingStairs$Link", "offSoFar", "I", false)
  | 12 => ("MovingStairs$Link", "going", "Z", false)
  | _ => ("MovingStairs$Link", "tripped", "Z", false)
def tyX3 : Nat → FieldType := fun k => match k with
  | 0 => .array .int
  | 1 => .int
  | 2 => .int
  | 3 => .int
  | 4 => .int
  | 5 => .int
  | 6 => .int
  | 7 => .int
  | 8 => .int
  | 9 => .int
  | 10 => .int
  | 11 => .int
  | 12 => .boolean
  | _ => .boolean
abbrev wsX30 : List Cond := u_ws RX3 TX3 14
theorem nmX3 : ∀ a, a < 14 → ∀ b, b < 14 → a ≠ b → (TX3 a).2.1 ≠ (TX3 b).2.1 := by decide +kernel
theorem tyX3_ok : ∀ k, k < 14 → parseFieldDescriptor (TX3 k).2.2.1 = some (tyX3 k) := by decide +kernel
abbrev cX3_init : ByteArray := prog_5_method_1_code
def yX3_init : MethodName := ⟨RX3, "<init>", "()V"⟩
abbrev cX3_build : ByteArray := prog_5_method_2_code
def yX3_build : MethodName := ⟨RX3, "build", "(IIIII)V"⟩
abbrev cX3_copy : ByteArray := prog_5_method_3_code
def yX3_copy : MethodName := ⟨RX3, "copy", "(LMovingStairs$Link;)V"⟩
abbrev cX3_foot : ByteArray := prog_5_method_4_code
def yX3_foot : MethodName := ⟨RX3, "foot", "()I"⟩
abbrev cX3_head : ByteArray := prog_5_method_5_code
def yX3_head : MethodName := ⟨RX3, "head", "()I"⟩
abbrev cX3_takesNow : ByteArray := prog_5_method_6_code
def yX3_takesNow : MethodName := ⟨RX3, "takesNow", "()Z"⟩
abbrev cX3_seconds : ByteArray := prog_5_method_7_code
def yX3_seconds : MethodName := ⟨RX3, "seconds", "()I"⟩
abbrev cX3_turnTo : ByteArray := prog_5_method_8_code
def yX3_turnTo : MethodName := ⟨RX3, "turnTo", "(I)V"⟩
abbrev cX3_who : ByteArray := prog_5_method_9_code
def yX3_who : MethodName := ⟨RX3, "who", "(II)I"⟩
abbrev cX3_put : ByteArray := prog_5_method_10_code
def yX3_put : MethodName := ⟨RX3, "put", "(III)V"⟩
abbrev cX3_move : ByteArray := prog_5_method_11_code
def yX3_move : MethodName := ⟨RX3, "move", "(II)V"⟩
abbrev cX3_goesOn : ByteArray := prog_5_method_12_code
def yX3_goesOn : MethodName := ⟨RX3, "goesOn", "(II)Z"⟩
abbrev cX3_sideFor : ByteArray := prog_5_method_13_code
def yX3_sideFor : MethodName := ⟨RX3, "sideFor", "(ZZ)I"⟩
def RX4 : String := "MovingStairs$Loads"
def TX4 : u_T := fun k => match k with
  | 0 => ("MovingStairs$Loads", "loads", "[I", true)
  | _ => ("MovingStairs$Loads", "count", "I", false)
def tyX4 : Nat → FieldType := fun k => match k with
  | 0 => .array .int
  | _ => .int
abbrev wsX40 : List Cond := u_ws RX4 TX4 2
theorem nmX4 : ∀ a, a < 2 → ∀ b, b < 2 → a ≠ b → (TX4 a).2.1 ≠ (TX4 b).2.1 := by decide +kernel
theorem tyX4_ok : ∀ k, k < 2 → parseFieldDescriptor (TX4 k).2.2.1 = some (tyX4 k) := by decide +kernel
abbrev cX4_init : ByteArray := prog_6_method_1_code
def yX4_init : MethodName := ⟨RX4, "<init>", "()V"⟩
abbrev cX4_tell : ByteArray := prog_6_method_2_code
def yX4_tell : MethodName := ⟨RX4, "tell", "(I)I"⟩
abbrev cX4_copy : ByteArray := prog_6_method_3_code
def yX4_copy : MethodName := ⟨RX4, "copy", "(LMovingStairs$Loads;)V"⟩
abbrev cX4_steppedOn : ByteArray := prog_6_method_4_code
def yX4_steppedOn : MethodName := ⟨RX4, "steppedOn", "(IZ)I"⟩
def RX5 : String := "MovingStairs$Mends"
def TX5 : u_T := fun k => match k with
  | 0 => ("MovingStairs$Mends", "worn", "[I", true)
  | 1 => ("MovingStairs$Mends", "more", "[I", true)
  | 2 => ("MovingStairs$Mends", "limit", "[I", true)
  | 3 => ("MovingStairs$Mends", "months", "[I", true)
  | 4 => ("MovingStairs$Mends", "fewest", "[I", true)
  | _ => ("MovingStairs$Mends", "count", "I", false)
def tyX5 : Nat → FieldType := fun k => match k with
  | 0 => .array .int
  | 1 => .array .int
  | 2 => .array .int
  | 3 => .array .int
  | 4 => .array .int
  | _ => .int
abbrev wsX50 : List Cond := u_ws RX5 TX5 6
theorem nmX5 : ∀ a, a < 6 → ∀ b, b < 6 → a ≠ b → (TX5 a).2.1 ≠ (TX5 b).2.1 := by decide +kernel
theorem tyX5_ok : ∀ k, k < 6 → parseFieldDescriptor (TX5 k).2.2.1 = some (tyX5 k) := by decide +kernel
abbrev cX5_init : ByteArray := prog_7_method_1_code
def yX5_init : MethodName := ⟨RX5, "<init>", "()V"⟩
abbrev cX5_tell : ByteArray := prog_7_method_2_code
def yX5_tell : MethodName := ⟨RX5, "tell", "(IIII)I"⟩
abbrev cX5_copy : ByteArray := prog_7_method_3_code
def yX5_copy : MethodName := ⟨RX5, "copy", "(LMovingStairs$Mends;)V"⟩
abbrev cX5_weigh : ByteArray := prog_7_method_4_code
def yX5_weigh : MethodName := ⟨RX5, "weigh", "()V"⟩
abbrev cX5_inTurn : ByteArray := prog_7_method_5_code
def yX5_inTurn : MethodName := ⟨RX5, "inTurn", "(I)I"⟩
abbrev cX5_bestNext : ByteArray := prog_7_method_6_code
def yX5_bestNext : MethodName := ⟨RX5, "bestNext", "(I)I"⟩
abbrev cX5_countBy : ByteArray := prog_7_method_7_code
def yX5_countBy : MethodName := ⟨RX5, "countBy", "(II)I"⟩
def RX6 : String := "MovingStairs$Mover"
def TX6 : u_T := fun k => match k with
  | 0 => ("MovingStairs$Mover", "routes", "LMovingStairs$Routes;", true)
  | _ => ("MovingStairs$Mover", "names", "[I", true)
def tyX6 : Nat → FieldType := fun k => match k with
  | 0 => .object "MovingStairs$Routes"
  | _ => .array .int
abbrev wsX60 : List Cond := u_ws RX6 TX6 2
theorem nmX6 : ∀ a, a < 2 → ∀ b, b < 2 → a ≠ b → (TX6 a).2.1 ≠ (TX6 b).2.1 := by decide +kernel
theorem tyX6_ok : ∀ k, k < 2 → parseFieldDescriptor (TX6 k).2.2.1 = some (tyX6 k) := by decide +kernel
abbrev cX6_init : ByteArray := prog_8_method_1_code
def yX6_init : MethodName := ⟨RX6, "<init>", "()V"⟩
abbrev cX6_forgetRoutes : ByteArray := prog_8_method_2_code
def yX6_forgetRoutes : MethodName := ⟨RX6, "forgetRoutes", "()V"⟩
abbrev cX6_passSecond : ByteArray := prog_8_method_3_code
def yX6_passSecond : MethodName := ⟨RX6, "passSecond", "(LMovingStairs$Station;LMovingStairs$Text;)V"⟩
abbrev cX6_comeInBursts : ByteArray := prog_8_method_4_code
def yX6_comeInBursts : MethodName := ⟨RX6, "comeInBursts", "(LMovingStairs$Station;LMovingStairs$Text;)V"⟩
abbrev cX6_isSo : ByteArray := prog_8_method_5_code
def yX6_isSo : MethodName := ⟨RX6, "isSo", "(LMovingStairs$Station;LMovingStairs$Text;II)Z"⟩
abbrev cX6_openHalls : ByteArray := prog_8_method_6_code
def yX6_openHalls : MethodName := ⟨RX6, "openHalls", "(LMovingStairs$Station;LMovingStairs$Text;)V"⟩
abbrev cX6_letIn : ByteArray := prog_8_method_7_code
def yX6_letIn : MethodName := ⟨RX6, "letIn", "(LMovingStairs$Station;I)V"⟩
abbrev cX6_turnEmptyLinks : ByteArray := prog_8_method_8_code
def yX6_turnEmptyLinks : MethodName := ⟨RX6, "turnEmptyLinks", "(LMovingStairs$Station;)V"⟩
abbrev cX6_moveLinks : ByteArray := prog_8_method_9_code
def yX6_moveLinks : MethodName := ⟨RX6, "moveLinks", "(LMovingStairs$Station;LMovingStairs$Text;)V"⟩
abbrev cX6_lift : ByteArray := prog_8_method_10_code
def yX6_lift : MethodName := ⟨RX6, "lift", "(LMovingStairs$Station;III)V"⟩
abbrev cX6_goalOfMost : ByteArray := prog_8_method_11_code
def yX6_goalOfMost : MethodName := ⟨RX6, "goalOfMost", "(LMovingStairs$Station;III)I"⟩
abbrev cX6_walkOf : ByteArray := prog_8_method_12_code
def yX6_walkOf : MethodName := ⟨RX6, "walkOf", "(LMovingStairs$Station;LMovingStairs$Text;LMovingStairs$Link;)I"⟩
abbrev cX6_moveStair : ByteArray := prog_8_method_13_code
def yX6_moveStair : MethodName := ⟨RX6, "moveStair", "(LMovingStairs$Station;LMovingStairs$Link;)V"⟩
abbrev cX6_stepOff : ByteArray := prog_8_method_14_code
def yX6_stepOff : MethodName := ⟨RX6, "stepOff", "(LMovingStairs$Station;LMovingStairs$Link;I)Z"⟩
abbrev cX6_moveFixed : ByteArray := prog_8_method_15_code
def yX6_moveFixed : MethodName := ⟨RX6, "moveFixed", "(LMovingStairs$Station;LMovingStairs$Link;)V"⟩
abbrev cX6_takeUpToTwo : ByteArray := prog_8_method_16_code
def yX6_takeUpToTwo : MethodName := ⟨RX6, "takeUpToTwo", "(LMovingStairs$Station;II)V"⟩
abbrev cX6_countSecond : ByteArray := prog_8_method_17_code
def yX6_countSecond : MethodName := ⟨RX6, "countSecond", "(LMovingStairs$Station;)V"⟩
def RX7 : String := "MovingStairs$Reader"
def TX7 : u_T := fun k => match k with
  | 0 => ("MovingStairs$Reader", "tape", "[I", true)
  | 1 => ("MovingStairs$Reader", "kinds", "[I", true)
  | 2 => ("MovingStairs$Reader", "values", "[I", true)
  | 3 => ("MovingStairs$Reader", "places", "[I", true)
  | 4 => ("MovingStairs$Reader", "length", "I", false)
  | 5 => ("MovingStairs$Reader", "faultKind", "I", false)
  | 6 => ("MovingStairs$Reader", "faultPlace", "I", false)
  | 7 => ("MovingStairs$Reader", "tokenCount", "I", false)
  | 8 => ("MovingStairs$Reader", "next", "I", false)
  | _ => ("MovingStairs$Reader", "clause", "I", false)
def tyX7 : Nat → FieldType := fun k => match k with
  | 0 => .array .int
  | 1 => .array .int
  | 2 => .array .int
  | 3 => .array .int
  | 4 => .int
  | 5 => .int
  | 6 => .int
  | 7 => .int
  | 8 => .int
  | _ => .int
abbrev wsX70 : List Cond := u_ws RX7 TX7 10
theorem nmX7 : ∀ a, a < 10 → ∀ b, b < 10 → a ≠ b → (TX7 a).2.1 ≠ (TX7 b).2.1 := by decide +kernel
theorem tyX7_ok : ∀ k, k < 10 → parseFieldDescriptor (TX7 k).2.2.1 = some (tyX7 k) := by decide +kernel
abbrev cX7_init : ByteArray := prog_9_method_1_code
def yX7_init : MethodName := ⟨RX7, "<init>", "()V"⟩
abbrev cX7_hasRoomFor : ByteArray := prog_9_method_2_code
def yX7_hasRoomFor : MethodName := ⟨RX7, "hasRoomFor", "(I)Z"⟩
abbrev cX7_append : ByteArray := prog_9_method_3_code
def yX7_append : MethodName := ⟨RX7, "append", "(I)V"⟩
abbrev cX7_readInto : ByteArray := prog_9_method_4_code
def yX7_readInto : MethodName := ⟨RX7, "readInto", "(LMovingStairs$Text;)Z"⟩
abbrev cX7_cut : ByteArray := prog_9_method_5_code
def yX7_cut : MethodName := ⟨RX7, "cut", "()V"⟩
abbrev cX7_cutOne : ByteArray := prog_9_method_6_code
def yX7_cutOne : MethodName := ⟨RX7, "cutOne", "(I)I"⟩
abbrev cX7_byteAt : ByteArray := prog_9_method_7_code
def yX7_byteAt : MethodName := ⟨RX7, "byteAt", "(I)I"⟩
abbrev cX7_isLetter : ByteArray := prog_9_method_8_code
def yX7_isLetter : MethodName := ⟨RX7, "isLetter", "(I)Z"⟩
abbrev cX7_isDigit : ByteArray := prog_9_method_9_code
def yX7_isDigit : MethodName := ⟨RX7, "isDigit", "(I)Z"⟩
abbrev cX7_signOf : ByteArray := prog_9_method_10_code
def yX7_signOf : MethodName := ⟨RX7, "signOf", "(I)I"⟩
abbrev cX7_addToken : ByteArray := prog_9_method_11_code
def yX7_addToken : MethodName := ⟨RX7, "addToken", "(III)V"⟩
abbrev cX7_addWord : ByteArray := prog_9_method_12_code
def yX7_addWord : MethodName := ⟨RX7, "addWord", "(II)V"⟩
abbrev cX7_isWord : ByteArray := prog_9_method_13_code
def yX7_isWord : MethodName := ⟨RX7, "isWord", "(IIII)Z"⟩
abbrev cX7_kind : ByteArray := prog_9_method_14_code
def yX7_kind : MethodName := ⟨RX7, "kind", "()I"⟩
abbrev cX7_value : ByteArray := prog_9_method_15_code
def yX7_value : MethodName := ⟨RX7, "value", "()I"⟩
abbrev cX7_fails : ByteArray := prog_9_method_16_code
def yX7_fails : MethodName := ⟨RX7, "fails", "(I)Z"⟩
abbrev cX7_readClause : ByteArray := prog_9_method_17_code
def yX7_readClause : MethodName := ⟨RX7, "readClause", "(LMovingStairs$Text;)Z"⟩
abbrev cX7_readEither : ByteArray := prog_9_method_18_code
def yX7_readEither : MethodName := ⟨RX7, "readEither", "(LMovingStairs$Text;)Z"⟩
abbrev cX7_readBoth : ByteArray := prog_9_method_19_code
def yX7_readBoth : MethodName := ⟨RX7, "readBoth", "(LMovingStairs$Text;)Z"⟩
abbrev cX7_readAsk : ByteArray := prog_9_method_20_code
def yX7_readAsk : MethodName := ⟨RX7, "readAsk", "(LMovingStairs$Text;I)Z"⟩
abbrev cX7_readSum : ByteArray := prog_9_method_21_code
def yX7_readSum : MethodName := ⟨RX7, "readSum", "(LMovingStairs$Text;I)Z"⟩
abbrev cX7_readProduct : ByteArray := prog_9_method_22_code
def yX7_readProduct : MethodName := ⟨RX7, "readProduct", "(LMovingStairs$Text;I)Z"⟩
abbrev cX7_readOne : ByteArray := prog_9_method_23_code
def yX7_readOne : MethodName := ⟨RX7, "readOne", "(LMovingStairs$Text;I)Z"⟩
def RX8 : String := "MovingStairs$Routes"
def TX8 : u_T := fun k => match k with
  | 0 => ("MovingStairs$Routes", "first", "[I", true)
  | 1 => ("MovingStairs$Routes", "distance", "[I", true)
  | _ => ("MovingStairs$Routes", "known", "I", false)
def tyX8 : Nat → FieldType := fun k => match k with
  | 0 => .array .int
  | 1 => .array .int
  | _ => .int
abbrev wsX80 : List Cond := u_ws RX8 TX8 3
theorem nmX8 : ∀ a, a < 3 → ∀ b, b < 3 → a ≠ b → (TX8 a).2.1 ≠ (TX8 b).2.1 := by decide +kernel
theorem tyX8_ok : ∀ k, k < 3 → parseFieldDescriptor (TX8 k).2.2.1 = some (tyX8 k) := by decide +kernel
abbrev cX8_init : ByteArray := prog_10_method_1_code
def yX8_init : MethodName := ⟨RX8, "<init>", "()V"⟩
abbrev cX8_forget : ByteArray := prog_10_method_2_code
def yX8_forget : MethodName := ⟨RX8, "forget", "()V"⟩
abbrev cX8_firstLink : ByteArray := prog_10_method_3_code
def yX8_firstLink : MethodName := ⟨RX8, "firstLink", "(III)I"⟩
abbrev cX8_find : ByteArray := prog_10_method_4_code
def yX8_find : MethodName := ⟨RX8, "find", "(LMovingStairs$Station;)V"⟩
abbrev cX8_findFor : ByteArray := prog_10_method_5_code
def yX8_findFor : MethodName := ⟨RX8, "findFor", "(LMovingStairs$Station;I)V"⟩
abbrev cX8_leads : ByteArray := prog_10_method_6_code
def yX8_leads : MethodName := ⟨RX8, "leads", "(LMovingStairs$Link;II)Z"⟩
abbrev cX8_between : ByteArray := prog_10_method_7_code
def yX8_between : MethodName := ⟨RX8, "between", "(II)I"⟩
abbrev cX8_shorten : ByteArray := prog_10_method_8_code
def yX8_shorten : MethodName := ⟨RX8, "shorten", "(III)V"⟩
abbrev cX8_lowestFirst : ByteArray := prog_10_method_9_code
def yX8_lowestFirst : MethodName := ⟨RX8, "lowestFirst", "(LMovingStairs$Station;III)I"⟩
def RX9 : String := "MovingStairs$Station"
def TX9 : u_T := fun k => match k with
  | 0 => ("MovingStairs$Station", "halls", "[LMovingStairs$Hall;", true)
  | 1 => ("MovingStairs$Station", "links", "[LMovingStairs$Link;", true)
  | 2 => ("MovingStairs$Station", "bursts", "[LMovingStairs$Burst;", true)
  | 3 => ("MovingStairs$Station", "days", "LMovingStairs$Days;", true)
  | 4 => ("MovingStairs$Station", "mends", "LMovingStairs$Mends;", true)
  | 5 => ("MovingStairs$Station", "loads", "LMovingStairs$Loads;", true)
  | 6 => ("MovingStairs$Station", "second", "I", false)
  | 7 => ("MovingStairs$Station", "hallCount", "I", false)
  | 8 => ("MovingStairs$Station", "linkCount", "I", false)
  | 9 => ("MovingStairs$Station", "burstCount", "I", false)
  | 10 => ("MovingStairs$Station", "textCount", "I", false)
  | 11 => ("MovingStairs$Station", "textInUse", "I", false)
  | 12 => ("MovingStairs$Station", "arrived", "I", false)
  | 13 => ("MovingStairs$Station", "waited", "I", false)
  | 14 => ("MovingStairs$Station", "goneBack", "I", false)
  | _ => ("MovingStairs$Station", "trips", "I", false)
def tyX9 : Nat → FieldType := fun k => match k with
  | 0 => .array (.object "MovingStairs$Hall")
  | 1 => .array (.object "MovingStairs$Link")
  | 2 => .array (.object "MovingStairs$Burst")
  | 3 => .object "MovingStairs$Days"
  | 4 => .object "MovingStairs$Mends"
  | 5 => .object "MovingStairs$Loads"
  | 6 => .int
  | 7 => .int
  | 8 => .int
  | 9 => .int
  | 10 => .int
  | 11 => .int
  | 12 => .int
  | 13 => .int
  | 14 => .int
  | _ => .int
abbrev wsX90 : List Cond := u_ws RX9 TX9 16
theorem nmX9 : ∀ a, a < 16 → ∀ b, b < 16 → a ≠ b → (TX9 a).2.1 ≠ (TX9 b).2.1 := by decide +kernel
theorem tyX9_ok : ∀ k, k < 16 → parseFieldDescriptor (TX9 k).2.2.1 = some (tyX9 k) := by decide +kernel
abbrev cX9_init : ByteArray := prog_11_method_1_code
def yX9_init : MethodName := ⟨RX9, "<init>", "()V"⟩
abbrev cX9_hasHall : ByteArray := prog_11_method_2_code
def yX9_hasHall : MethodName := ⟨RX9, "hasHall", "(I)Z"⟩
abbrev cX9_hasLink : ByteArray := prog_11_method_3_code
def yX9_hasLink : MethodName := ⟨RX9, "hasLink", "(I)Z"⟩
abbrev cX9_hasStepped : ByteArray := prog_11_method_4_code
def yX9_hasStepped : MethodName := ⟨RX9, "hasStepped", "(I)Z"⟩
abbrev cX9_hasStair : ByteArray := prog_11_method_5_code
def yX9_hasStair : MethodName := ⟨RX9, "hasStair", "(I)Z"⟩
abbrev cX9_anyHallOver : ByteArray := prog_11_method_6_code
def yX9_anyHallOver : MethodName := ⟨RX9, "anyHallOver", "()Z"⟩
abbrev cX9_admits : ByteArray := prog_11_method_7_code
def yX9_admits : MethodName := ⟨RX9, "admits", "(II)Z"⟩
abbrev cX9_comeTo : ByteArray := prog_11_method_8_code
def yX9_comeTo : MethodName := ⟨RX9, "comeTo", "(IIII)V"⟩
abbrev cX9_copyAll : ByteArray := prog_11_method_9_code
def yX9_copyAll : MethodName := ⟨RX9, "copyAll", "(LMovingStairs$Station;)V"⟩
abbrev cX9_copyMoving : ByteArray := prog_11_method_10_code
def yX9_copyMoving : MethodName := ⟨RX9, "copyMoving", "(LMovingStairs$Station;)V"⟩
abbrev cX9_buildAlone : ByteArray := prog_11_method_11_code
def yX9_buildAlone : MethodName := ⟨RX9, "buildAlone", "(III)V"⟩
def RX10 : String := "MovingStairs$Text"
def TX10 : u_T := fun k => match k with
  | 0 => ("MovingStairs$Text", "ops", "[I", true)
  | 1 => ("MovingStairs$Text", "values", "[I", true)
  | 2 => ("MovingStairs$Text", "kinds", "[I", true)
  | 3 => ("MovingStairs$Text", "ends", "[I", true)
  | 4 => ("MovingStairs$Text", "stack", "[I", true)
  | 5 => ("MovingStairs$Text", "opCount", "I", false)
  | _ => ("MovingStairs$Text", "clauseCount", "I", false)
def tyX10 : Nat → FieldType := fun k => match k with
  | 0 => .array .int
  | 1 => .array .int
  | 2 => .array .int
  | 3 => .array .int
  | 4 => .array .int
  | 5 => .int
  | _ => .int
abbrev wsX100 : List Cond := u_ws RX10 TX10 7
theorem nmX10 : ∀ a, a < 7 → ∀ b, b < 7 → a ≠ b → (TX10 a).2.1 ≠ (TX10 b).2.1 := by decide +kernel
theorem tyX10_ok : ∀ k, k < 7 → parseFieldDescriptor (TX10 k).2.2.1 = some (tyX10 k) := by decide +kernel
abbrev cX10_init : ByteArray := prog_12_method_1_code
def yX10_init : MethodName := ⟨RX10, "<init>", "()V"⟩
abbrev cX10_add : ByteArray := prog_12_method_2_code
def yX10_add : MethodName := ⟨RX10, "add", "(II)V"⟩
abbrev cX10_has : ByteArray := prog_12_method_3_code
def yX10_has : MethodName := ⟨RX10, "has", "(I)Z"⟩
abbrev cX10_open : ByteArray := prog_12_method_4_code
def yX10_open : MethodName := ⟨RX10, "open", "(I)V"⟩
abbrev cX10_close : ByteArray := prog_12_method_5_code
def yX10_close : MethodName := ⟨RX10, "close", "()V"⟩
abbrev cX10_anySo : ByteArray := prog_12_method_6_code
def yX10_anySo : MethodName := ⟨RX10, "anySo", "(I[I)Z"⟩
abbrev cX10_walk : ByteArray := prog_12_method_7_code
def yX10_walk : MethodName := ⟨RX10, "walk", "([I)I"⟩
abbrev cX10_worth : ByteArray := prog_12_method_8_code
def yX10_worth : MethodName := ⟨RX10, "worth", "(II[I)I"⟩
abbrev cX10_joined : ByteArray := prog_12_method_9_code
def yX10_joined : MethodName := ⟨RX10, "joined", "(IJJ)J"⟩
def RX11 : String := "MovingStairs"
def TX11 : u_T := fun k => match k with
  | 0 => ("MovingStairs", "now", "LMovingStairs$Station;", true)
  | 1 => ("MovingStairs", "kept", "LMovingStairs$Station;", true)
  | 2 => ("MovingStairs", "tried", "LMovingStairs$Station;", true)
  | 3 => ("MovingStairs", "mover", "LMovingStairs$Mover;", true)
  | 4 => ("MovingStairs", "reader", "LMovingStairs$Reader;", true)
  | 5 => ("MovingStairs", "noText", "LMovingStairs$Text;", true)
  | _ => ("MovingStairs", "texts", "[LMovingStairs$Text;", true)
def tyX11 : Nat → FieldType := fun k => match k with
  | 0 => .object "MovingStairs$Station"
  | 1 => .object "MovingStairs$Station"
  | 2 => .object "MovingStairs$Station"
  | 3 => .object "MovingStairs$Mover"
  | 4 => .object "MovingStairs$Reader"
  | 5 => .object "MovingStairs$Text"
  | _ => .array (.object "MovingStairs$Text")
abbrev wsX110 : List Cond := u_ws RX11 TX11 7
theorem nmX11 : ∀ a, a < 7 → ∀ b, b < 7 → a ≠ b → (TX11 a).2.1 ≠ (TX11 b).2.1 := by decide +kernel
theorem tyX11_ok : ∀ k, k < 7 → parseFieldDescriptor (TX11 k).2.2.1 = some (tyX11 k) := by decide +kernel
abbrev cX11_init : ByteArray := prog_1_method_1_code
def yX11_init : MethodName := ⟨RX11, "<init>", "()V"⟩
abbrev cX11_hall : ByteArray := prog_1_method_2_code
def yX11_hall : MethodName := ⟨RX11, "hall", "(I)I"⟩
abbrev cX11_bar : ByteArray := prog_1_method_3_code
def yX11_bar : MethodName := ⟨RX11, "bar", "(II)Z"⟩
abbrev cX11_link : ByteArray := prog_1_method_4_code
def yX11_link : MethodName := ⟨RX11, "link", "(IIIII)I"⟩
abbrev cX11_turn : ByteArray := prog_1_method_5_code
def yX11_turn : MethodName := ⟨RX11, "turn", "(II)Z"⟩
abbrev cX11_mode : ByteArray := prog_1_method_6_code
def yX11_mode : MethodName := ⟨RX11, "mode", "(II)Z"⟩
abbrev cX11_reset : ByteArray := prog_1_method_7_code
def yX11_reset : MethodName := ⟨RX11, "reset", "(I)Z"⟩
abbrev cX11_burst : ByteArray := prog_1_method_8_code
def yX11_burst : MethodName := ⟨RX11, "burst", "(IIIIIZZ)I"⟩
abbrev cX11_feed : ByteArray := prog_1_method_9_code
def yX11_feed : MethodName := ⟨RX11, "feed", "(IIIII)I"⟩
abbrev cX11_end : ByteArray := prog_1_method_10_code
def yX11_end : MethodName := ⟨RX11, "end", "(I)I"⟩
abbrev cX11_text : ByteArray := prog_1_method_11_code
def yX11_text : MethodName := ⟨RX11, "text", "()I"⟩
abbrev cX11_fault : ByteArray := prog_1_method_12_code
def yX11_fault : MethodName := ⟨RX11, "fault", "(I)I"⟩
abbrev cX11_by : ByteArray := prog_1_method_13_code
def yX11_by : MethodName := ⟨RX11, "by", "(I)Z"⟩
abbrev cX11_run : ByteArray := prog_1_method_14_code
def yX11_run : MethodName := ⟨RX11, "run", "(I)I"⟩
abbrev cX11_of : ByteArray := prog_1_method_15_code
def yX11_of : MethodName := ⟨RX11, "of", "(II)I"⟩
abbrev cX11_on : ByteArray := prog_1_method_16_code
def yX11_on : MethodName := ⟨RX11, "on", "(II)I"⟩
abbrev cX11_step : ByteArray := prog_1_method_17_code
def yX11_step : MethodName := ⟨RX11, "step", "(III)I"⟩
abbrev cX11_route : ByteArray := prog_1_method_18_code
def yX11_route : MethodName := ⟨RX11, "route", "(IIZ)I"⟩
abbrev cX11_all : ByteArray := prog_1_method_19_code
def yX11_all : MethodName := ⟨RX11, "all", "(I)I"⟩
abbrev cX11_ways : ByteArray := prog_1_method_20_code
def yX11_ways : MethodName := ⟨RX11, "ways", "(III)I"⟩
abbrev cX11_least : ByteArray := prog_1_method_21_code
def yX11_least : MethodName := ⟨RX11, "least", "(III)I"⟩
abbrev cX11_felt : ByteArray := prog_1_method_22_code
def yX11_felt : MethodName := ⟨RX11, "felt", "(II)I"⟩
abbrev cX11_standing : ByteArray := prog_1_method_23_code
def yX11_standing : MethodName := ⟨RX11, "standing", "(II)I"⟩
abbrev cX11_alone : ByteArray := prog_1_method_24_code
def yX11_alone : MethodName := ⟨RX11, "alone", "(IIII)I"⟩
abbrev cX11_crossing : ByteArray := prog_1_method_25_code
def yX11_crossing : MethodName := ⟨RX11, "crossing", "(II)I"⟩
abbrev cX11_day : ByteArray := prog_1_method_26_code
def yX11_day : MethodName := ⟨RX11, "day", "(ZII)I"⟩
abbrev cX11_effect : ByteArray := prog_1_method_27_code
def yX11_effect : MethodName := ⟨RX11, "effect", "()I"⟩
abbrev cX11_mend : ByteArray := prog_1_method_28_code
def yX11_mend : MethodName := ⟨RX11, "mend", "(IIII)I"⟩
abbrev cX11_order : ByteArray := prog_1_method_29_code
def yX11_order : MethodName := ⟨RX11, "order", "(I)I"⟩
abbrev cX11_load : ByteArray := prog_1_method_30_code
def yX11_load : MethodName := ⟨RX11, "load", "(I)I"⟩
abbrev cX11_unload : ByteArray := prog_1_method_31_code
def yX11_unload : MethodName := ⟨RX11, "unload", "()I"⟩
abbrev cX11_taken : ByteArray := prog_1_method_32_code
def yX11_taken : MethodName := ⟨RX11, "taken", "(IZ)I"⟩
abbrev cX11_image : ByteArray := prog_1_method_33_code
def yX11_image : MethodName := ⟨RX11, "image", "()I"⟩
abbrev cX11_back : ByteArray := prog_1_method_34_code
def yX11_back : MethodName := ⟨RX11, "back", "()I"⟩
abbrev cX11_about : ByteArray := prog_1_method_35_code
def yX11_about : MethodName := ⟨RX11, "about", "(I)I"⟩
abbrev cX11_within : ByteArray := prog_1_method_36_code
def yX11_within : MethodName := ⟨RX11, "within", "(III)Z"⟩
abbrev cX11_mayRun : ByteArray := prog_1_method_37_code
def yX11_mayRun : MethodName := ⟨RX11, "mayRun", "(I)Z"⟩
abbrev cX11_mayStandAlone : ByteArray := prog_1_method_38_code
def yX11_mayStandAlone : MethodName := ⟨RX11, "mayStandAlone", "(II)Z"⟩
abbrev cX11_mayTurn : ByteArray := prog_1_method_39_code
def yX11_mayTurn : MethodName := ⟨RX11, "mayTurn", "(I)Z"⟩
abbrev cX11_law : ByteArray := prog_1_method_40_code
def yX11_law : MethodName := ⟨RX11, "law", "()LMovingStairs$Text;"⟩
abbrev cX11_beginTrial : ByteArray := prog_1_method_41_code
def yX11_beginTrial : MethodName := ⟨RX11, "beginTrial", "()LMovingStairs$Text;"⟩
abbrev cX11_waitedByWays : ByteArray := prog_1_method_42_code
def yX11_waitedByWays : MethodName := ⟨RX11, "waitedByWays", "(III)I"⟩
abbrev cX11_shutByBar : ByteArray := prog_1_method_43_code
def yX11_shutByBar : MethodName := ⟨RX11, "shutByBar", "(III)I"⟩
abbrev cX11_offByMode : ByteArray := prog_1_method_44_code
def yX11_offByMode : MethodName := ⟨RX11, "offByMode", "(III)I"⟩
abbrev cX11_carriedAlone : ByteArray := prog_1_method_45_code
def yX11_carriedAlone : MethodName := ⟨RX11, "carriedAlone", "(IIII)I"⟩
def RX12 : String := "MovingStairsModel"
def TX12 : u_T := fun k => match k with
  | 0 => ("MovingStairsModel", "a", "[I", true)
  | 1 => ("MovingStairsModel", "image", "[I", true)
  | 2 => ("MovingStairsModel", "keep", "[I", true)
  | 3 => ("MovingStairsModel", "tape", "[B", true)
  | 4 => ("MovingStairsModel", "taped", "I", false)
  | 5 => ("MovingStairsModel", "fault", "I", false)
  | 6 => ("MovingStairsModel", "faultAt", "I", false)
  | 7 => ("MovingStairsModel", "clauses", "[I", true)
  | 8 => ("MovingStairsModel", "clauseWord", "[I", true)
  | 9 => ("MovingStairsModel", "clauseAt", "[I", true)
  | 10 => ("MovingStairsModel", "order", "[I", true)
  | 11 => ("MovingStairsModel", "value", "[I", true)
  | 12 => ("MovingStairsModel", "length", "I", false)
  | 13 => ("MovingStairsModel", "at", "I", false)
  | 14 => ("MovingStairsModel", "token", "I", false)
  | 15 => ("MovingStairsModel", "sort", "I", false)
  | 16 => ("MovingStairsModel", "told", "I", false)
  | 17 => ("MovingStairsModel", "wrong", "I", false)
  | 18 => ("MovingStairsModel", "wrongAt", "I", false)
  | 19 => ("MovingStairsModel", "open", "I", false)
  | 20 => ("MovingStairsModel", "frames", "I", false)
  | 21 => ("MovingStairsModel", "frame", "[I", true)
  | 22 => ("MovingStairsModel", "compare", "[I", true)
  | 23 => ("MovingStairsModel", "waits", "I", false)
  | 24 => ("MovingStairsModel", "wait", "[I", true)
  | 25 => ("MovingStairsModel", "waitFrame", "[I", true)
  | 26 => ("MovingStairsModel", "state", "I", false)
  | 27 => ("MovingStairsModel", "newClauses", "I", false)
  | 28 => ("MovingStairsModel", "newKind", "I", false)
  | 29 => ("MovingStairsModel", "newWord", "[I", true)
  | 30 => ("MovingStairsModel", "newAt", "[I", true)
  | 31 => ("MovingStairsModel", "newOrders", "I", false)
  | 32 => ("MovingStairsModel", "newOrder", "[I", true)
  | 33 => ("MovingStairsModel", "newValue", "[I", true)
  | 34 => ("MovingStairsModel", "name", "[I", true)
  | 35 => ("MovingStairsModel", "pile", "[J", true)
  | 36 => ("MovingStairsModel", "isShut", "[Z", true)
  | 37 => ("MovingStairsModel", "route", "[I", true)
  | 38 => ("MovingStairsModel", "far", "[I", true)
  | 39 => ("MovingStairsModel", "lone", "[I", true)
  | 40 => ("MovingStairsModel", "bestTo", "[I", true)
  | _ => ("MovingStairsModel", "bestOn", "[I", true)
def tyX12 : Nat → FieldType := fun k => match k with
  | 0 => .array .int
  | 1 => .array .int
  | 2 => .array .int
  | 3 => .array .byte
  | 4 => .int
  | 5 => .int
  | 6 => .int
  | 7 => .array .int
  | 8 => .array .int
  | 9 => .array .int
  | 10 => .array .int
  | 11 => .array .int
  | 12 => .int
  | 13 => .int
  | 14 => .int
  | 15 => .int
  | 16 => .int
  | 17 => .int
  | 18 => .int
  | 19 => .int
  | 20 => .int
  | 21 => .array .int
  | 22 => .array .int
  | 23 => .int
  | 24 => .array .int
  | 25 => .array .int
  | 26 => .int
  | 27 => .int
  | 28 => .int
  | 29 => .array .int
  | 30 => .array .int
  | 31 => .int
  | 32 => .array .int
  | 33 => .array .int
  | 34 => .array .int
  | 35 => .array .long
  | 36 => .array .boolean
  | 37 => .array .int
  | 38 => .array .int
  | 39 => .array .int
  | 40 => .array .int
  | _ => .array .int
abbrev wsX120 : List Cond := u_ws RX12 TX12 42
theorem nmX12 : ∀ a, a < 42 → ∀ b, b < 42 → a ≠ b → (TX12 a).2.1 ≠ (TX12 b).2.1 := by decide +kernel
theorem tyX12_ok : ∀ k, k < 42 → parseFieldDescriptor (TX12 k).2.2.1 = some (tyX12 k) := by decide +kernel
abbrev cX12_init : ByteArray := prog_14_method_1_code
def yX12_init : MethodName := ⟨RX12, "<init>", "()V"⟩
abbrev cX12_in : ByteArray := prog_14_method_2_code
def yX12_in : MethodName := ⟨RX12, "in", "(III)Z"⟩
abbrev cX12_isHall : ByteArray := prog_14_method_3_code
def yX12_isHall : MethodName := ⟨RX12, "isHall", "(I)Z"⟩
abbrev cX12_isLink : ByteArray := prog_14_method_4_code
def yX12_isLink : MethodName := ⟨RX12, "isLink", "(I)Z"⟩
abbrev cX12_hallOf : ByteArray := prog_14_method_5_code
def yX12_hallOf : MethodName := ⟨RX12, "hallOf", "(II)I"⟩
abbrev cX12_linkOf : ByteArray := prog_14_method_6_code
def yX12_linkOf : MethodName := ⟨RX12, "linkOf", "(II)I"⟩
abbrev cX12_tells : ByteArray := prog_14_method_7_code
def yX12_tells : MethodName := ⟨RX12, "tells", "(III)V"⟩
abbrev cX12_isStairs : ByteArray := prog_14_method_8_code
def yX12_isStairs : MethodName := ⟨RX12, "isStairs", "(I)Z"⟩
abbrev cX12_hall : ByteArray := prog_14_method_9_code
def yX12_hall : MethodName := ⟨RX12, "hall", "(I)I"⟩
abbrev cX12_bar : ByteArray := prog_14_method_10_code
def yX12_bar : MethodName := ⟨RX12, "bar", "(II)Z"⟩
abbrev cX12_link : ByteArray := prog_14_method_11_code
def yX12_link : MethodName := ⟨RX12, "link", "(IIIII)I"⟩
abbrev cX12_loadOf : ByteArray := prog_14_method_12_code
def yX12_loadOf : MethodName := ⟨RX12, "loadOf", "(I)I"⟩
abbrev cX12_turn : ByteArray := prog_14_method_13_code
def yX12_turn : MethodName := ⟨RX12, "turn", "(II)Z"⟩
abbrev cX12_mode : ByteArray := prog_14_method_14_code
def yX12_mode : MethodName := ⟨RX12, "mode", "(II)Z"⟩
abbrev cX12_reset : ByteArray := prog_14_method_15_code
def yX12_reset : MethodName := ⟨RX12, "reset", "(I)Z"⟩
abbrev cX12_burst : ByteArray := prog_14_method_16_code
def yX12_burst : MethodName := ⟨RX12, "burst", "(IIIIIZZ)I"⟩
abbrev cX12_put : ByteArray := prog_14_method_17_code
def yX12_put : MethodName := ⟨RX12, "put", "(I)V"⟩
abbrev cX12_feed : ByteArray := prog_14_method_18_code
def yX12_feed : MethodName := ⟨RX12, "feed", "(IIIII)I"⟩
abbrev cX12_end : ByteArray := prog_14_method_19_code
def yX12_end : MethodName := ⟨RX12, "end", "(I)I"⟩
abbrev cX12_isLetter : ByteArray := prog_14_method_20_code
def yX12_isLetter : MethodName := ⟨RX12, "isLetter", "(I)Z"⟩
abbrev cX12_wordOf : ByteArray := prog_14_method_21_code
def yX12_wordOf : MethodName := ⟨RX12, "wordOf", "(J)I"⟩
abbrev cX12_next : ByteArray := prog_14_method_22_code
def yX12_next : MethodName := ⟨RX12, "next", "()V"⟩
abbrev cX12_isSign : ByteArray := prog_14_method_23_code
def yX12_isSign : MethodName := ⟨RX12, "isSign", "(I)Z"⟩
abbrev cX12_isWord : ByteArray := prog_14_method_24_code
def yX12_isWord : MethodName := ⟨RX12, "isWord", "(I)Z"⟩
abbrev cX12_errs : ByteArray := prog_14_method_25_code
def yX12_errs : MethodName := ⟨RX12, "errs", "(I)V"⟩
abbrev cX12_emits : ByteArray := prog_14_method_26_code
def yX12_emits : MethodName := ⟨RX12, "emits", "(II)V"⟩
abbrev cX12_opensFrame : ByteArray := prog_14_method_27_code
def yX12_opensFrame : MethodName := ⟨RX12, "opensFrame", "(I)V"⟩
abbrev cX12_top : ByteArray := prog_14_method_28_code
def yX12_top : MethodName := ⟨RX12, "top", "()I"⟩
abbrev cX12_opensSign : ByteArray := prog_14_method_29_code
def yX12_opensSign : MethodName := ⟨RX12, "opensSign", "(I)Z"⟩
abbrev cX12_rank : ByteArray := prog_14_method_30_code
def yX12_rank : MethodName := ⟨RX12, "rank", "(I)I"⟩
abbrev cX12_works : ByteArray := prog_14_method_31_code
def yX12_works : MethodName := ⟨RX12, "works", "(I)V"⟩
abbrev cX12_waitsFor : ByteArray := prog_14_method_32_code
def yX12_waitsFor : MethodName := ⟨RX12, "waitsFor", "(I)V"⟩
abbrev cX12_asks : ByteArray := prog_14_method_33_code
def yX12_asks : MethodName := ⟨RX12, "asks", "()V"⟩
abbrev cX12_begins : ByteArray := prog_14_method_34_code
def yX12_begins : MethodName := ⟨RX12, "begins", "()V"⟩
abbrev cX12_oneIsOver : ByteArray := prog_14_method_35_code
def yX12_oneIsOver : MethodName := ⟨RX12, "oneIsOver", "()V"⟩
abbrev cX12_askIsOver : ByteArray := prog_14_method_36_code
def yX12_askIsOver : MethodName := ⟨RX12, "askIsOver", "()V"⟩
abbrev cX12_isAsking : ByteArray := prog_14_method_37_code
def yX12_isAsking : MethodName := ⟨RX12, "isAsking", "(I)Z"⟩
abbrev cX12_goesOn : ByteArray := prog_14_method_38_code
def yX12_goesOn : MethodName := ⟨RX12, "goesOn", "()V"⟩
abbrev cX12_asksOn : ByteArray := prog_14_method_39_code
def yX12_asksOn : MethodName := ⟨RX12, "asksOn", "()V"⟩
abbrev cX12_clauseIsOver : ByteArray := prog_14_method_40_code
def yX12_clauseIsOver : MethodName := ⟨RX12, "clauseIsOver", "()V"⟩
abbrev cX12_wasWalk : ByteArray := prog_14_method_41_code
def yX12_wasWalk : MethodName := ⟨RX12, "wasWalk", "()Z"⟩
abbrev cX12_clause : ByteArray := prog_14_method_42_code
def yX12_clause : MethodName := ⟨RX12, "clause", "()V"⟩
abbrev cX12_text : ByteArray := prog_14_method_43_code
def yX12_text : MethodName := ⟨RX12, "text", "()I"⟩
abbrev cX12_keepsText : ByteArray := prog_14_method_44_code
def yX12_keepsText : MethodName := ⟨RX12, "keepsText", "(I)V"⟩
abbrev cX12_fault : ByteArray := prog_14_method_45_code
def yX12_fault : MethodName := ⟨RX12, "fault", "(I)I"⟩
abbrev cX12_bound : ByteArray := prog_14_method_46_code
def yX12_bound : MethodName := ⟨RX12, "bound", "(J)J"⟩
abbrev cX12_worked : ByteArray := prog_14_method_47_code
def yX12_worked : MethodName := ⟨RX12, "worked", "(IJJ)J"⟩
abbrev cX12_saysOf : ByteArray := prog_14_method_48_code
def yX12_saysOf : MethodName := ⟨RX12, "saysOf", "(I)J"⟩
abbrev cX12_by : ByteArray := prog_14_method_49_code
def yX12_by : MethodName := ⟨RX12, "by", "(I)Z"⟩
abbrev cX12_countOf : ByteArray := prog_14_method_50_code
def yX12_countOf : MethodName := ⟨RX12, "countOf", "(II)I"⟩
abbrev cX12_inHall : ByteArray := prog_14_method_51_code
def yX12_inHall : MethodName := ⟨RX12, "inHall", "(I)I"⟩
abbrev cX12_comes : ByteArray := prog_14_method_52_code
def yX12_comes : MethodName := ⟨RX12, "comes", "(IIII)V"⟩
abbrev cX12_isSome : ByteArray := prog_14_method_53_code
def yX12_isSome : MethodName := ⟨RX12, "isSome", "(II)Z"⟩
abbrev cX12_walkOf : ByteArray := prog_14_method_54_code
def yX12_walkOf : MethodName := ⟨RX12, "walkOf", "(I)I"⟩
abbrev cX12_footOf : ByteArray := prog_14_method_55_code
def yX12_footOf : MethodName := ⟨RX12, "footOf", "(I)I"⟩
abbrev cX12_headOf : ByteArray := prog_14_method_56_code
def yX12_headOf : MethodName := ⟨RX12, "headOf", "(I)I"⟩
abbrev cX12_bursts : ByteArray := prog_14_method_57_code
def yX12_bursts : MethodName := ⟨RX12, "bursts", "(I)V"⟩
abbrev cX12_lets : ByteArray := prog_14_method_58_code
def yX12_lets : MethodName := ⟨RX12, "lets", "(I)V"⟩
abbrev cX12_costFrom : ByteArray := prog_14_method_59_code
def yX12_costFrom : MethodName := ⟨RX12, "costFrom", "(III)I"⟩
abbrev cX12_otherEnd : ByteArray := prog_14_method_60_code
def yX12_otherEnd : MethodName := ⟨RX12, "otherEnd", "(II)I"⟩
abbrev cX12_routes : ByteArray := prog_14_method_61_code
def yX12_routes : MethodName := ⟨RX12, "routes", "(II)V"⟩
abbrev cX12_allRoutes : ByteArray := prog_14_method_62_code
def yX12_allRoutes : MethodName := ⟨RX12, "allRoutes", "()V"⟩
abbrev cX12_route : ByteArray := prog_14_method_63_code
def yX12_route : MethodName := ⟨RX12, "route", "(IIZ)I"⟩
abbrev cX12_mostOf : ByteArray := prog_14_method_64_code
def yX12_mostOf : MethodName := ⟨RX12, "mostOf", "(III)I"⟩
abbrev cX12_lifts : ByteArray := prog_14_method_65_code
def yX12_lifts : MethodName := ⟨RX12, "lifts", "(III)V"⟩
abbrev cX12_placeOf : ByteArray := prog_14_method_66_code
def yX12_placeOf : MethodName := ⟨RX12, "placeOf", "(III)I"⟩
abbrev cX12_stepsOff : ByteArray := prog_14_method_67_code
def yX12_stepsOff : MethodName := ⟨RX12, "stepsOff", "(II)Z"⟩
abbrev cX12_trips : ByteArray := prog_14_method_68_code
def yX12_trips : MethodName := ⟨RX12, "trips", "(I)V"⟩
abbrev cX12_moves : ByteArray := prog_14_method_69_code
def yX12_moves : MethodName := ⟨RX12, "moves", "(II)Z"⟩
abbrev cX12_climbs : ByteArray := prog_14_method_70_code
def yX12_climbs : MethodName := ⟨RX12, "climbs", "(II)V"⟩
abbrev cX12_sideFor : ByteArray := prog_14_method_71_code
def yX12_sideFor : MethodName := ⟨RX12, "sideFor", "(IZ)I"⟩
abbrev cX12_takes : ByteArray := prog_14_method_72_code
def yX12_takes : MethodName := ⟨RX12, "takes", "(II)V"⟩
abbrev cX12_stairs : ByteArray := prog_14_method_73_code
def yX12_stairs : MethodName := ⟨RX12, "stairs", "(II)V"⟩
abbrev cX12_second : ByteArray := prog_14_method_74_code
def yX12_second : MethodName := ⟨RX12, "second", "()V"⟩
abbrev cX12_isOver : ByteArray := prog_14_method_75_code
def yX12_isOver : MethodName := ⟨RX12, "isOver", "(I)Z"⟩
abbrev cX12_isRun : ByteArray := prog_14_method_76_code
def yX12_isRun : MethodName := ⟨RX12, "isRun", "(I)Z"⟩
abbrev cX12_run : ByteArray := prog_14_method_77_code
def yX12_run : MethodName := ⟨RX12, "run", "(I)I"⟩
abbrev cX12_of : ByteArray := prog_14_method_78_code
def yX12_of : MethodName := ⟨RX12, "of", "(II)I"⟩
abbrev cX12_on : ByteArray := prog_14_method_79_code
def yX12_on : MethodName := ⟨RX12, "on", "(II)I"⟩
abbrev cX12_step : ByteArray := prog_14_method_80_code
def yX12_step : MethodName := ⟨RX12, "step", "(III)I"⟩
abbrev cX12_all : ByteArray := prog_14_method_81_code
def yX12_all : MethodName := ⟨RX12, "all", "(I)I"⟩
abbrev cX12_saves : ByteArray := prog_14_method_82_code
def yX12_saves : MethodName := ⟨RX12, "saves", "()V"⟩
abbrev cX12_putsBack : ByteArray := prog_14_method_83_code
def yX12_putsBack : MethodName := ⟨RX12, "putsBack", "()V"⟩
abbrev cX12_runs : ByteArray := prog_14_method_84_code
def yX12_runs : MethodName := ⟨RX12, "runs", "(I)V"⟩
abbrev cX12_areStairs : ByteArray := prog_14_method_85_code
def yX12_areStairs : MethodName := ⟨RX12, "areStairs", "(I)Z"⟩
abbrev cX12_ways : ByteArray := prog_14_method_86_code
def yX12_ways : MethodName := ⟨RX12, "ways", "(III)I"⟩
abbrev cX12_least : ByteArray := prog_14_method_87_code
def yX12_least : MethodName := ⟨RX12, "least", "(III)I"⟩
abbrev cX12_isStair : ByteArray := prog_14_method_88_code
def yX12_isStair : MethodName := ⟨RX12, "isStair", "(I)Z"⟩
abbrev cX12_felt : ByteArray := prog_14_method_89_code
def yX12_felt : MethodName := ⟨RX12, "felt", "(II)I"⟩
abbrev cX12_standing : ByteArray := prog_14_method_90_code
def yX12_standing : MethodName := ⟨RX12, "standing", "(II)I"⟩
abbrev cX12_loneMoves : ByteArray := prog_14_method_91_code
def yX12_loneMoves : MethodName := ⟨RX12, "loneMoves", "(II)I"⟩
abbrev cX12_carries : ByteArray := prog_14_method_92_code
def yX12_carries : MethodName := ⟨RX12, "carries", "(IIII)I"⟩
abbrev cX12_alone : ByteArray := prog_14_method_93_code
def yX12_alone : MethodName := ⟨RX12, "alone", "(IIII)I"⟩
abbrev cX12_crossing : ByteArray := prog_14_method_94_code
def yX12_crossing : MethodName := ⟨RX12, "crossing", "(II)I"⟩
abbrev cX12_day : ByteArray := prog_14_method_95_code
def yX12_day : MethodName := ⟨RX12, "day", "(ZII)I"⟩
abbrev cX12_daysOf : ByteArray := prog_14_method_96_code
def yX12_daysOf : MethodName := ⟨RX12, "daysOf", "(IIZ)I"⟩
abbrev cX12_effect : ByteArray := prog_14_method_97_code
def yX12_effect : MethodName := ⟨RX12, "effect", "()I"⟩
abbrev cX12_mend : ByteArray := prog_14_method_98_code
def yX12_mend : MethodName := ⟨RX12, "mend", "(IIII)I"⟩
abbrev cX12_aboveOf : ByteArray := prog_14_method_99_code
def yX12_aboveOf : MethodName := ⟨RX12, "aboveOf", "(II)I"⟩
abbrev cX12_order : ByteArray := prog_14_method_100_code
def yX12_order : MethodName := ⟨RX12, "order", "(I)I"⟩
abbrev cX12_countsBy : ByteArray := prog_14_method_101_code
def yX12_countsBy : MethodName := ⟨RX12, "countsBy", "(III)I"⟩
abbrev cX12_load : ByteArray := prog_14_method_102_code
def yX12_load : MethodName := ⟨RX12, "load", "(I)I"⟩
abbrev cX12_unload : ByteArray := prog_14_method_103_code
def yX12_unload : MethodName := ⟨RX12, "unload", "()I"⟩
abbrev cX12_chain : ByteArray := prog_14_method_104_code
def yX12_chain : MethodName := ⟨RX12, "chain", "(III)I"⟩
abbrev cX12_taken : ByteArray := prog_14_method_105_code
def yX12_taken : MethodName := ⟨RX12, "taken", "(IZ)I"⟩
abbrev cX12_image : ByteArray := prog_14_method_106_code
def yX12_image : MethodName := ⟨RX12, "image", "()I"⟩
abbrev cX12_back : ByteArray := prog_14_method_107_code
def yX12_back : MethodName := ⟨RX12, "back", "()I"⟩
abbrev cX12_about : ByteArray := prog_14_method_108_code
def yX12_about : MethodName := ⟨RX12, "about", "(I)I"⟩
def RJx145de : String := "java/io/Serializable"
def TJx145de : u_T := fun k => match k with
  | _ => ("", "", "", false)
def tyJx145de : Nat → FieldType := fun k => match k with
  | _ => .int
abbrev wsJx145de0 : List Cond := u_ws RJx145de TJx145de 0
theorem tyJx145de_ok : ∀ k, k < 0 → parseFieldDescriptor (TJx145de k).2.2.1 = some (tyJx145de k) := by decide +kernel
def RJx9f9b0 : String := "java/lang/CharSequence"
def TJx9f9b0 : u_T := fun k => match k with
  | _ => ("", "", "", false)
def tyJx9f9b0 : Nat → FieldType := fun k => match k with
  | _ => .int
abbrev wsJx9f9b00 : List Cond := u_ws RJx9f9b0 TJx9f9b0 0
theorem tyJx9f9b0_ok : ∀ k, k < 0 → parseFieldDescriptor (TJx9f9b0 k).2.2.1 = some (tyJx9f9b0 k) := by decide +kernel
def RJxb160c : String := "java/lang/Comparable"
def TJxb160c : u_T := fun k => match k with
  | _ => ("", "", "", false)
def tyJxb160c : Nat → FieldType := fun k => match k with
  | _ => .int
abbrev wsJxb160c0 : List Cond := u_ws RJxb160c TJxb160c 0
theorem tyJxb160c_ok : ∀ k, k < 0 → parseFieldDescriptor (TJxb160c k).2.2.1 = some (tyJxb160c k) := by decide +kernel
def RJ6 : String := "java/lang/Integer"
def TJ6 : u_T := fun k => match k with
  | _ => ("", "", "", false)
def tyJ6 : Nat → FieldType := fun k => match k with
  | _ => .int
abbrev wsJ60 : List Cond := u_ws RJ6 TJ6 0
theorem tyJ6_ok : ∀ k, k < 0 → parseFieldDescriptor (TJ6 k).2.2.1 = some (tyJ6 k) := by decide +kernel
abbrev cJ6_bitCount_0f7a4 : ByteArray := prog_15_method_49_code
def yJ6_bitCount_0f7a4 : MethodName := ⟨RJ6, "bitCount", "(I)I"⟩
def RJ9 : String := "java/lang/Math"
def TJ9 : u_T := fun k => match k with
  | _ => ("", "", "", false)
def tyJ9 : Nat → FieldType := fun k => match k with
  | _ => .int
abbrev wsJ90 : List Cond := u_ws RJ9 TJ9 0
theorem tyJ9_ok : ∀ k, k < 0 → parseFieldDescriptor (TJ9 k).2.2.1 = some (tyJ9 k) := by decide +kernel
abbrev cJ9_max_7cf53 : ByteArray := prog_16_method_65_code
def yJ9_max_7cf53 : MethodName := ⟨RJ9, "max", "(II)I"⟩
abbrev cJ9_max_f86c9 : ByteArray := prog_16_method_66_code
def yJ9_max_f86c9 : MethodName := ⟨RJ9, "max", "(JJ)J"⟩
abbrev cJ9_min_7cf53 : ByteArray := prog_16_method_69_code
def yJ9_min_7cf53 : MethodName := ⟨RJ9, "min", "(II)I"⟩
abbrev cJ9_min_f86c9 : ByteArray := prog_16_method_70_code
def yJ9_min_f86c9 : MethodName := ⟨RJ9, "min", "(JJ)J"⟩
def RJ0 : String := "java/lang/String"
def TJ0 : u_T := fun k => match k with
  | _ => ("", "", "", false)
def tyJ0 : Nat → FieldType := fun k => match k with
  | _ => .int
abbrev wsJ00 : List Cond := u_ws RJ0 TJ0 0
theorem tyJ0_ok : ∀ k, k < 0 → parseFieldDescriptor (TJ0 k).2.2.1 = some (tyJ0 k) := by decide +kernel
abbrev cJ0_length_8abf5 : ByteArray := prog_17_method_54_code
def yJ0_length_8abf5 : MethodName := ⟨RJ0, "length", "()I"⟩
abbrev cJ0_charAt_5068e : ByteArray := prog_17_method_56_code
def yJ0_charAt_5068e : MethodName := ⟨RJ0, "charAt", "(I)C"⟩
abbrev cJ0_coder_7d493 : ByteArray := prog_17_method_152_code
def yJ0_coder_7d493 : MethodName := ⟨RJ0, "coder", "()B"⟩
abbrev cJ0_isLatin1_aae02 : ByteArray := prog_17_method_154_code
def yJ0_isLatin1_aae02 : MethodName := ⟨RJ0, "isLatin1", "()Z"⟩
abbrev cJ0_checkIndex_df160 : ByteArray := prog_17_method_155_code
def yJ0_checkIndex_df160 : MethodName := ⟨RJ0, "checkIndex", "(II)V"⟩
def RJ1 : String := "java/lang/StringLatin1"
def TJ1 : u_T := fun k => match k with
  | _ => ("", "", "", false)
def tyJ1 : Nat → FieldType := fun k => match k with
  | _ => .int
abbrev wsJ10 : List Cond := u_ws RJ1 TJ1 0
theorem tyJ1_ok : ∀ k, k < 0 → parseFieldDescriptor (TJ1 k).2.2.1 = some (tyJ1 k) := by decide +kernel
abbrev cJ1_charAt_3b067 : ByteArray := prog_18_method_2_code
def yJ1_charAt_3b067 : MethodName := ⟨RJ1, "charAt", "([BI)C"⟩
def RJ2 : String := "java/lang/StringUTF16"
def TJ2 : u_T := fun k => match k with
  | _ => ("", "", "", false)
def tyJ2 : Nat → FieldType := fun k => match k with
  | _ => .int
abbrev wsJ20 : List Cond := u_ws RJ2 TJ2 0
theorem tyJ2_ok : ∀ k, k < 0 → parseFieldDescriptor (TJ2 k).2.2.1 = some (tyJ2 k) := by decide +kernel
abbrev cJ2_getChar_3b067 : ByteArray := prog_19_method_5_code
def yJ2_getChar_3b067 : MethodName := ⟨RJ2, "getChar", "([BI)C"⟩
abbrev cJ2_length_9d52b : ByteArray := prog_19_method_6_code
def yJ2_length_9d52b : MethodName := ⟨RJ2, "length", "([B)I"⟩
abbrev cJ2_charAt_3b067 : ByteArray := prog_19_method_83_code
def yJ2_charAt_3b067 : MethodName := ⟨RJ2, "charAt", "([BI)C"⟩
abbrev cJ2_checkIndex_2214a : ByteArray := prog_19_method_91_code
def yJ2_checkIndex_2214a : MethodName := ⟨RJ2, "checkIndex", "(I[B)V"⟩
def RJ10 : String := "java/lang/System"
def TJ10 : u_T := fun k => match k with
  | _ => ("", "", "", false)
def tyJ10 : Nat → FieldType := fun k => match k with
  | _ => .int
abbrev wsJ100 : List Cond := u_ws RJ10 TJ10 0
theorem tyJ10_ok : ∀ k, k < 0 → parseFieldDescriptor (TJ10 k).2.2.1 = some (tyJ10 k) := by decide +kernel
def RJxfd54e : String := "java/lang/constant/Constable"
def TJxfd54e : u_T := fun k => match k with
  | _ => ("", "", "", false)
def tyJxfd54e : Nat → FieldType := fun k => match k with
  | _ => .int
abbrev wsJxfd54e0 : List Cond := u_ws RJxfd54e TJxfd54e 0
theorem tyJxfd54e_ok : ∀ k, k < 0 → parseFieldDescriptor (TJxfd54e k).2.2.1 = some (tyJxfd54e k) := by decide +kernel
def RJx3cf43 : String := "java/lang/constant/ConstantDesc"
def TJx3cf43 : u_T := fun k => match k with
  | _ => ("", "", "", false)
def tyJx3cf43 : Nat → FieldType := fun k => match k with
  | _ => .int
abbrev wsJx3cf430 : List Cond := u_ws RJx3cf43 TJx3cf43 0
theorem tyJx3cf43_ok : ∀ k, k < 0 → parseFieldDescriptor (TJx3cf43 k).2.2.1 = some (tyJx3cf43 k) := by decide +kernel
def RJ7 : String := "java/util/Arrays"
def TJ7 : u_T := fun k => match k with
  | _ => ("", "", "", false)
def tyJ7 : Nat → FieldType := fun k => match k with
  | _ => .int
abbrev wsJ70 : List Cond := u_ws RJ7 TJ7 0
theorem tyJ7_ok : ∀ k, k < 0 → parseFieldDescriptor (TJ7 k).2.2.1 = some (tyJ7 k) := by decide +kernel
abbrev cJ7_fill_53178 : ByteArray := prog_21_method_103_code
def yJ7_fill_53178 : MethodName := ⟨RJ7, "fill", "([II)V"⟩
def RJ3 : String := "jdk/internal/util/Preconditions"
def TJ3 : u_T := fun k => match k with
  | _ => ("", "", "", false)
def tyJ3 : Nat → FieldType := fun k => match k with
  | _ => .int
abbrev wsJ30 : List Cond := u_ws RJ3 TJ3 0
theorem tyJ3_ok : ∀ k, k < 0 → parseFieldDescriptor (TJ3 k).2.2.1 = some (tyJ3 k) := by decide +kernel
abbrev cJ3_checkIndex_8e157 : ByteArray := prog_22_method_11_code
def yJ3_checkIndex_8e157 : MethodName := ⟨RJ3, "checkIndex", "(IILjava/util/function/BiFunction;)I"⟩
def RL : String := "MovingStairsLaw"
abbrev cL_law : ByteArray := code
def yL_law : MethodName := ⟨RL, "law", "([I)Z"⟩
def wsL_law_r1 : List Cond := [Cond.classLink RL 7 RX11, Cond.instantiable RX11 7, Cond.initialized RX11, Cond.classLink RL 10 RX12, Cond.instantiable RX12 42, Cond.initialized RX12, Cond.methodLink RL 9 yX11_init, Cond.instanceMethod yX11_init, Cond.code yX11_init cX11_init 2 none, Cond.methodLink RX11 1 objectInit, Cond.instanceMethod objectInit, Cond.code objectInit ⟨#[0xb1]⟩ 1 none, Cond.classLink RX11 7 RX9, Cond.instantiable RX9 16, Cond.initialized RX9, Cond.fieldLink RX11 10 "MovingStairs" "now" "LMovingStairs$Station;", Cond.fieldLink RX11 16 "MovingStairs" "kept" "LMovingStairs$Station;", Cond.fieldLink RX11 19 "MovingStairs" "tried" "LMovingStairs$Station;", Cond.classLink RX11 22 RX6, Cond.instantiable RX6 2, Cond.initialized RX6, Cond.fieldLink RX11 25 "MovingStairs" "mover" "LMovingStairs$Mover;", Cond.classLink RX11 29 RX7, Cond.instantiable RX7 10]
def wsL_law_r2 : List Cond := [Cond.initialized RX7, Cond.fieldLink RX11 32 "MovingStairs" "reader" "LMovingStairs$Reader;", Cond.classLink RX11 36 RX10, Cond.instantiable RX10 7, Cond.initialized RX10, Cond.fieldLink RX11 39 "MovingStairs" "noText" "LMovingStairs$Text;", Cond.fieldLink RX11 43 "MovingStairs" "texts" "[LMovingStairs$Text;", Cond.methodLink RX11 9 yX9_init, Cond.instanceMethod yX9_init, Cond.code yX9_init cX9_init 2 none, Cond.methodLink RX9 3 objectInit, Cond.classLink RX9 9 RX2, Cond.fieldLink RX9 11 "MovingStairs$Station" "halls" "[LMovingStairs$Hall;", Cond.classLink RX9 17 RX3, Cond.fieldLink RX9 19 "MovingStairs$Station" "links" "[LMovingStairs$Link;", Cond.classLink RX9 23 RX0, Cond.fieldLink RX9 25 "MovingStairs$Station" "bursts" "[LMovingStairs$Burst;", Cond.classLink RX9 29 RX1, Cond.instantiable RX1 3, Cond.initialized RX1, Cond.fieldLink RX9 32 "MovingStairs$Station" "days" "LMovingStairs$Days;", Cond.classLink RX9 36 RX5, Cond.instantiable RX5 6, Cond.initialized RX5]
def wsL_law_r3 : List Cond := [Cond.fieldLink RX9 39 "MovingStairs$Station" "mends" "LMovingStairs$Mends;", Cond.classLink RX9 43 RX4, Cond.instantiable RX4 2, Cond.initialized RX4, Cond.fieldLink RX9 46 "MovingStairs$Station" "loads" "LMovingStairs$Loads;", Cond.fieldLink RX9 50 "MovingStairs$Station" "textInUse" "I", Cond.instantiable RX2 9, Cond.initialized RX2, Cond.instantiable RX3 14, Cond.initialized RX3, Cond.instantiable RX0 7, Cond.initialized RX0, Cond.instanceMethod yX1_init, Cond.code yX1_init cX1_init 1 none, Cond.methodLink RX1 3 objectInit, Cond.arrayClass .int, Cond.fieldLink RX1 11 "MovingStairs$Days" "sums" "[I", Cond.fieldLink RX1 15 "MovingStairs$Days" "many" "[I", Cond.instanceMethod yX5_init, Cond.code yX5_init cX5_init 1 none, Cond.methodLink RX5 3 objectInit, Cond.fieldLink RX5 11 "MovingStairs$Mends" "worn" "[I", Cond.fieldLink RX5 15 "MovingStairs$Mends" "more" "[I", Cond.fieldLink RX5 18 "MovingStairs$Mends" "limit" "[I"]
def wsL_law_r4 : List Cond := [Cond.fieldLink RX5 21 "MovingStairs$Mends" "months" "[I", Cond.fieldLink RX5 24 "MovingStairs$Mends" "fewest" "[I", Cond.instanceMethod yX4_init, Cond.code yX4_init cX4_init 1 none, Cond.methodLink RX4 3 objectInit, Cond.fieldLink RX4 11 "MovingStairs$Loads" "loads" "[I", Cond.instanceMethod yX2_init, Cond.code yX2_init cX2_init 1 none, Cond.methodLink RX2 3 objectInit, Cond.fieldLink RX2 9 "MovingStairs$Hall" "inside" "[I", Cond.fieldLink RX2 15 "MovingStairs$Hall" "outside" "[I", Cond.instanceMethod yX3_init, Cond.code yX3_init cX3_init 1 none, Cond.methodLink RX3 3 objectInit, Cond.fieldLink RX3 9 "MovingStairs$Link" "steps" "[I", Cond.instanceMethod yX0_init, Cond.code yX0_init cX0_init 1 none, Cond.methodLink RX0 1 objectInit, Cond.instanceMethod yX6_init, Cond.code yX6_init cX6_init 1 none, Cond.methodLink RX6 3 objectInit, Cond.classLink RX6 9 RX8, Cond.instantiable RX8 3, Cond.initialized RX8]
def wsL_law_r5 : List Cond := [Cond.fieldLink RX6 12 "MovingStairs$Mover" "routes" "LMovingStairs$Routes;", Cond.fieldLink RX6 20 "MovingStairs$Mover" "names" "[I", Cond.instanceMethod yX8_init, Cond.code yX8_init cX8_init 1 none, Cond.methodLink RX8 3 objectInit, Cond.fieldLink RX8 11 "MovingStairs$Routes" "first" "[I", Cond.fieldLink RX8 15 "MovingStairs$Routes" "distance" "[I", Cond.fieldLink RX8 18 "MovingStairs$Routes" "known" "I", Cond.instanceMethod yX7_init, Cond.code yX7_init cX7_init 1 none, Cond.methodLink RX7 3 objectInit, Cond.fieldLink RX7 11 "MovingStairs$Reader" "tape" "[I", Cond.fieldLink RX7 15 "MovingStairs$Reader" "kinds" "[I", Cond.fieldLink RX7 18 "MovingStairs$Reader" "values" "[I", Cond.fieldLink RX7 21 "MovingStairs$Reader" "places" "[I", Cond.fieldLink RX7 24 "MovingStairs$Reader" "faultKind" "I", Cond.fieldLink RX7 28 "MovingStairs$Reader" "faultPlace" "I", Cond.instanceMethod yX10_init, Cond.code yX10_init cX10_init 1 none, Cond.methodLink RX10 1 objectInit, Cond.fieldLink RX10 9 "MovingStairs$Text" "ops" "[I", Cond.fieldLink RX10 15 "MovingStairs$Text" "values" "[I", Cond.fieldLink RX10 18 "MovingStairs$Text" "kinds" "[I", Cond.fieldLink RX10 21 "MovingStairs$Text" "ends" "[I"]
def wsL_law_r6 : List Cond := [Cond.fieldLink RX10 24 "MovingStairs$Text" "stack" "[I", Cond.methodLink RL 12 yX12_init, Cond.instanceMethod yX12_init, Cond.code yX12_init cX12_init 2 none, Cond.methodLink RX12 1 objectInit, Cond.fieldLink RX12 7 "MovingStairsModel" "a" "[I", Cond.fieldLink RX12 13 "MovingStairsModel" "image" "[I", Cond.fieldLink RX12 16 "MovingStairsModel" "keep" "[I", Cond.arrayClass .byte, Cond.fieldLink RX12 19 "MovingStairsModel" "tape" "[B", Cond.fieldLink RX12 23 "MovingStairsModel" "fault" "I", Cond.fieldLink RX12 27 "MovingStairsModel" "faultAt" "I", Cond.fieldLink RX12 30 "MovingStairsModel" "clauses" "[I", Cond.fieldLink RX12 33 "MovingStairsModel" "clauseWord" "[I", Cond.fieldLink RX12 36 "MovingStairsModel" "clauseAt" "[I", Cond.fieldLink RX12 39 "MovingStairsModel" "order" "[I", Cond.fieldLink RX12 42 "MovingStairsModel" "value" "[I", Cond.fieldLink RX12 45 "MovingStairsModel" "frame" "[I", Cond.fieldLink RX12 48 "MovingStairsModel" "compare" "[I", Cond.fieldLink RX12 51 "MovingStairsModel" "wait" "[I", Cond.fieldLink RX12 54 "MovingStairsModel" "waitFrame" "[I", Cond.fieldLink RX12 57 "MovingStairsModel" "newWord" "[I", Cond.fieldLink RX12 60 "MovingStairsModel" "newAt" "[I", Cond.fieldLink RX12 63 "MovingStairsModel" "newOrder" "[I"]
def wsL_law_r7 : List Cond := [Cond.fieldLink RX12 66 "MovingStairsModel" "newValue" "[I", Cond.fieldLink RX12 69 "MovingStairsModel" "name" "[I", Cond.arrayClass .long, Cond.fieldLink RX12 72 "MovingStairsModel" "pile" "[J", Cond.arrayClass .boolean, Cond.fieldLink RX12 76 "MovingStairsModel" "isShut" "[Z", Cond.fieldLink RX12 80 "MovingStairsModel" "route" "[I", Cond.fieldLink RX12 83 "MovingStairsModel" "far" "[I", Cond.fieldLink RX12 86 "MovingStairsModel" "lone" "[I", Cond.fieldLink RX12 89 "MovingStairsModel" "bestTo" "[I", Cond.fieldLink RX12 92 "MovingStairsModel" "bestOn" "[I", Cond.methodLink RL 13 yX11_hall, Cond.instanceMethod yX11_hall, Cond.selects RX11 yX11_hall yX11_hall, Cond.code yX11_hall cX11_hall 2 (some .int), Cond.fieldLink RX11 51 "MovingStairs$Station" "hallCount" "I", Cond.fieldLink RX11 55 "MovingStairs$Station" "halls" "[LMovingStairs$Hall;", Cond.methodLink RX11 47 yX11_within, Cond.static yX11_within, Cond.code yX11_within cX11_within 3 (some .boolean), Cond.methodLink RX11 59 yX2_build, Cond.instanceMethod yX2_build, Cond.selects RX2 yX2_build yX2_build, Cond.code yX2_build cX2_build 2 none]
def wsL_law_r8 : List Cond := [Cond.fieldLink RX2 18 "MovingStairs$Hall" "room" "I", Cond.fieldLink RX2 22 "MovingStairs$Hall" "bar" "I", Cond.fieldLink RX2 25 "MovingStairs$Hall" "count" "I", Cond.fieldLink RX2 28 "MovingStairs$Hall" "outsideCount" "I", Cond.fieldLink RX2 31 "MovingStairs$Hall" "shutSeconds" "I", Cond.fieldLink RX2 34 "MovingStairs$Hall" "over" "I", Cond.fieldLink RX2 37 "MovingStairs$Hall" "shut" "Z", Cond.methodLink RX2 41 yJ7_fill_53178, Cond.static yJ7_fill_53178, Cond.initialized RJ7, Cond.code yJ7_fill_53178 cJ7_fill_53178 4 none, Cond.methodLink RL 17 yX12_hall, Cond.instanceMethod yX12_hall, Cond.selects RX12 yX12_hall yX12_hall, Cond.code yX12_hall cX12_hall 4 (some .int), Cond.methodLink RX12 95 yX12_in, Cond.static yX12_in, Cond.code yX12_in cX12_in 3 (some .boolean), Cond.methodLink RL 18 yX11_bar, Cond.instanceMethod yX11_bar, Cond.selects RX11 yX11_bar yX11_bar, Cond.code yX11_bar cX11_bar 3 (some .boolean), Cond.fieldLink RX11 69 "MovingStairs$Hall" "bar" "I", Cond.methodLink RX11 65 yX9_hasHall]
def wsL_law_r9 : List Cond := [Cond.instanceMethod yX9_hasHall, Cond.selects RX9 yX9_hasHall yX9_hasHall, Cond.code yX9_hasHall cX9_hasHall 2 (some .boolean), Cond.fieldLink RX9 57 "MovingStairs$Station" "hallCount" "I", Cond.methodLink RL 22 yX12_bar, Cond.instanceMethod yX12_bar, Cond.selects RX12 yX12_bar yX12_bar, Cond.code yX12_bar cX12_bar 3 (some .boolean), Cond.methodLink RX12 107 yX12_isHall, Cond.instanceMethod yX12_isHall, Cond.selects RX12 yX12_isHall yX12_isHall, Cond.code yX12_isHall cX12_isHall 2 (some .boolean), Cond.methodLink RL 23 yX11_link, Cond.instanceMethod yX11_link, Cond.selects RX11 yX11_link yX11_link, Cond.code yX11_link cX11_link 8 (some .int), Cond.fieldLink RX11 72 "MovingStairs$Station" "linkCount" "I", Cond.fieldLink RX11 75 "MovingStairs$Station" "links" "[LMovingStairs$Link;", Cond.methodLink RX11 79 yX3_build, Cond.instanceMethod yX3_build, Cond.selects RX3 yX3_build yX3_build, Cond.code yX3_build cX3_build 6 none, Cond.fieldLink RX3 15 "MovingStairs$Link" "kind" "I", Cond.fieldLink RX3 19 "MovingStairs$Link" "low" "I"]
def wsL_law_r10 : List Cond := [Cond.fieldLink RX3 22 "MovingStairs$Link" "high" "I", Cond.fieldLink RX3 25 "MovingStairs$Link" "size" "I", Cond.fieldLink RX3 28 "MovingStairs$Link" "cycle" "I", Cond.fieldLink RX3 31 "MovingStairs$Link" "way" "I", Cond.fieldLink RX3 34 "MovingStairs$Link" "wanted" "I", Cond.fieldLink RX3 37 "MovingStairs$Link" "mode" "I", Cond.fieldLink RX3 40 "MovingStairs$Link" "count" "I", Cond.fieldLink RX3 43 "MovingStairs$Link" "takenSoFar" "I", Cond.fieldLink RX3 46 "MovingStairs$Link" "offSoFar" "I", Cond.fieldLink RX3 49 "MovingStairs$Link" "going" "Z", Cond.fieldLink RX3 53 "MovingStairs$Link" "tripped" "Z", Cond.methodLink RX3 56 yJ7_fill_53178, Cond.methodLink RL 27 yX12_link, Cond.instanceMethod yX12_link, Cond.selects RX12 yX12_link yX12_link, Cond.code yX12_link cX12_link 10 (some .int), Cond.methodLink RX12 110 yX12_tells, Cond.instanceMethod yX12_tells, Cond.selects RX12 yX12_tells yX12_tells, Cond.code yX12_tells cX12_tells 4 none, Cond.methodLink RL 28 yX11_turn, Cond.instanceMethod yX11_turn, Cond.selects RX11 yX11_turn yX11_turn, Cond.code yX11_turn cX11_turn 3 (some .boolean)]
def wsL_law_r11 : List Cond := [Cond.methodLink RX11 84 yX9_hasStepped, Cond.instanceMethod yX9_hasStepped, Cond.selects RX9 yX9_hasStepped yX9_hasStepped, Cond.code yX9_hasStepped cX9_hasStepped 2 (some .boolean), Cond.fieldLink RX9 67 "MovingStairs$Link" "kind" "I", Cond.methodLink RX9 63 yX9_hasLink, Cond.instanceMethod yX9_hasLink, Cond.selects RX9 yX9_hasLink yX9_hasLink, Cond.code yX9_hasLink cX9_hasLink 2 (some .boolean), Cond.fieldLink RX9 60 "MovingStairs$Station" "linkCount" "I", Cond.methodLink RX11 87 yX3_turnTo, Cond.instanceMethod yX3_turnTo, Cond.selects RX3 yX3_turnTo yX3_turnTo, Cond.code yX3_turnTo cX3_turnTo 2 none, Cond.methodLink RL 31 yX12_turn, Cond.instanceMethod yX12_turn, Cond.selects RX12 yX12_turn yX12_turn, Cond.code yX12_turn cX12_turn 3 (some .boolean), Cond.methodLink RX12 114 yX12_isStairs, Cond.instanceMethod yX12_isStairs, Cond.selects RX12 yX12_isStairs yX12_isStairs, Cond.code yX12_isStairs cX12_isStairs 2 (some .boolean), Cond.methodLink RX12 99 yX12_isLink, Cond.instanceMethod yX12_isLink]
def wsL_law_r12 : List Cond := [Cond.selects RX12 yX12_isLink yX12_isLink, Cond.code yX12_isLink cX12_isLink 2 (some .boolean), Cond.methodLink RX12 103 yX12_linkOf, Cond.instanceMethod yX12_linkOf, Cond.selects RX12 yX12_linkOf yX12_linkOf, Cond.code yX12_linkOf cX12_linkOf 3 (some .int), Cond.methodLink RX12 117 yX12_loadOf, Cond.instanceMethod yX12_loadOf, Cond.selects RX12 yX12_loadOf yX12_loadOf, Cond.code yX12_loadOf cX12_loadOf 4 (some .int), Cond.methodLink RL 32 yX11_mode, Cond.instanceMethod yX11_mode, Cond.selects RX11 yX11_mode yX11_mode, Cond.code yX11_mode cX11_mode 3 (some .boolean), Cond.fieldLink RX11 93 "MovingStairs$Link" "mode" "I", Cond.methodLink RX11 90 yX9_hasStair, Cond.instanceMethod yX9_hasStair, Cond.selects RX9 yX9_hasStair yX9_hasStair, Cond.code yX9_hasStair cX9_hasStair 2 (some .boolean), Cond.methodLink RL 35 yX12_mode, Cond.instanceMethod yX12_mode, Cond.selects RX12 yX12_mode yX12_mode, Cond.code yX12_mode cX12_mode 3 (some .boolean), Cond.methodLink RL 36 yX11_reset]
def wsL_law_r13 : List Cond := [Cond.instanceMethod yX11_reset, Cond.selects RX11 yX11_reset yX11_reset, Cond.code yX11_reset cX11_reset 2 (some .boolean), Cond.fieldLink RX11 99 "MovingStairs$Link" "tripped" "Z", Cond.methodLink RX11 96 yX9_hasLink, Cond.methodLink RL 40 yX12_reset, Cond.instanceMethod yX12_reset, Cond.selects RX12 yX12_reset yX12_reset, Cond.code yX12_reset cX12_reset 2 (some .boolean), Cond.methodLink RL 41 yX11_burst, Cond.instanceMethod yX11_burst, Cond.selects RX11 yX11_burst yX11_burst, Cond.code yX11_burst cX11_burst 11 (some .int), Cond.constant RX11 103 (99999), Cond.fieldLink RX11 104 "MovingStairs$Station" "burstCount" "I", Cond.fieldLink RX11 107 "MovingStairs$Station" "bursts" "[LMovingStairs$Burst;", Cond.fieldLink RX11 111 "MovingStairs$Burst" "second" "I", Cond.fieldLink RX11 116 "MovingStairs$Burst" "every" "I", Cond.fieldLink RX11 119 "MovingStairs$Burst" "hall" "I", Cond.fieldLink RX11 122 "MovingStairs$Burst" "goal" "I", Cond.fieldLink RX11 125 "MovingStairs$Burst" "size" "I", Cond.fieldLink RX11 128 "MovingStairs$Burst" "kind" "I", Cond.fieldLink RX11 131 "MovingStairs$Burst" "street" "Z", Cond.methodLink RL 45 yX12_burst]
def wsL_law_r14 : List Cond := [Cond.instanceMethod yX12_burst, Cond.selects RX12 yX12_burst yX12_burst, Cond.code yX12_burst cX12_burst 10 (some .int), Cond.constant RX12 121 (99999), Cond.methodLink RL 46 yX11_feed, Cond.instanceMethod yX11_feed, Cond.selects RX11 yX11_feed yX11_feed, Cond.code yX11_feed cX11_feed 6 (some .int), Cond.fieldLink RX11 140 "MovingStairs$Reader" "length" "I", Cond.methodLink RX11 134 yX7_hasRoomFor, Cond.instanceMethod yX7_hasRoomFor, Cond.selects RX7 yX7_hasRoomFor yX7_hasRoomFor, Cond.code yX7_hasRoomFor cX7_hasRoomFor 2 (some .boolean), Cond.fieldLink RX7 31 "MovingStairs$Reader" "length" "I", Cond.methodLink RX11 137 yX7_append, Cond.instanceMethod yX7_append, Cond.selects RX7 yX7_append yX7_append, Cond.code yX7_append cX7_append 3 none, Cond.methodLink RL 49 yX12_feed, Cond.instanceMethod yX12_feed, Cond.selects RX12 yX12_feed yX12_feed, Cond.code yX12_feed cX12_feed 6 (some .int), Cond.fieldLink RX12 122 "MovingStairsModel" "taped" "I", Cond.methodLink RX12 125 yX12_put]
def wsL_law_r15 : List Cond := [Cond.instanceMethod yX12_put, Cond.selects RX12 yX12_put yX12_put, Cond.code yX12_put cX12_put 3 none, Cond.methodLink RL 50 yX11_end, Cond.instanceMethod yX11_end, Cond.selects RX11 yX11_end yX11_end, Cond.code yX11_end cX11_end 2 (some .int), Cond.methodLink RL 53 yX12_end, Cond.instanceMethod yX12_end, Cond.selects RX12 yX12_end yX12_end, Cond.code yX12_end cX12_end 2 (some .int), Cond.methodLink RL 54 yX11_text, Cond.instanceMethod yX11_text, Cond.selects RX11 yX11_text yX11_text, Cond.code yX11_text cX11_text 1 (some .int), Cond.fieldLink RX11 143 "MovingStairs$Station" "textCount" "I", Cond.methodLink RX11 146 yX7_readInto, Cond.instanceMethod yX7_readInto, Cond.selects RX7 yX7_readInto yX7_readInto, Cond.code yX7_readInto cX7_readInto 3 (some .boolean), Cond.fieldLink RX7 37 "MovingStairs$Reader" "next" "I", Cond.fieldLink RX7 40 "MovingStairs$Text" "opCount" "I", Cond.fieldLink RX7 45 "MovingStairs$Text" "clauseCount" "I", Cond.fieldLink RX7 48 "MovingStairs$Reader" "tokenCount" "I"]
def wsL_law_r16 : List Cond := [Cond.methodLink RX7 34 yX7_cut, Cond.instanceMethod yX7_cut, Cond.selects RX7 yX7_cut yX7_cut, Cond.code yX7_cut cX7_cut 3 none, Cond.methodLink RX7 59 yX7_cutOne, Cond.instanceMethod yX7_cutOne, Cond.selects RX7 yX7_cutOne yX7_cutOne, Cond.code yX7_cutOne cX7_cutOne 5 (some .int), Cond.methodLink RX7 81 Lib.Math.min.name, Cond.static Lib.Math.min.name, Cond.initialized "java/lang/Math", Cond.code Lib.Math.min.name Lib.Math.min.code 2 (some .int), Cond.methodLink RX7 67 yX7_byteAt, Cond.instanceMethod yX7_byteAt, Cond.selects RX7 yX7_byteAt yX7_byteAt, Cond.code yX7_byteAt cX7_byteAt 2 (some .int), Cond.methodLink RX7 70 yX7_isLetter, Cond.static yX7_isLetter, Cond.code yX7_isLetter cX7_isLetter 1 (some .boolean), Cond.methodLink RX7 74 yX7_addWord, Cond.instanceMethod yX7_addWord, Cond.selects RX7 yX7_addWord yX7_addWord, Cond.code yX7_addWord cX7_addWord 6 none, Cond.methodLink RX7 92 yJ0_length_8abf5]
def wsL_law_r17 : List Cond := [Cond.instanceMethod yJ0_length_8abf5, Cond.selects RJ0 yJ0_length_8abf5 yJ0_length_8abf5, Cond.initialized RJ0, Cond.code yJ0_length_8abf5 cJ0_length_8abf5 1 (some .int), Cond.fieldLink RJ0 9 "java/lang/String" "value" "[B", Cond.methodLink RJ0 335 yJ0_coder_7d493, Cond.instanceMethod yJ0_coder_7d493, Cond.selects RJ0 yJ0_coder_7d493 yJ0_coder_7d493, Cond.code yJ0_coder_7d493 cJ0_coder_7d493 1 (some .byte), Cond.fieldLink RJ0 38 "java/lang/String" "COMPACT_STRINGS" "Z", Cond.fieldLink RJ0 15 "java/lang/String" "coder" "B", Cond.methodLink RX7 96 yJ0_charAt_5068e, Cond.instanceMethod yJ0_charAt_5068e, Cond.selects RJ0 yJ0_charAt_5068e yJ0_charAt_5068e, Cond.code yJ0_charAt_5068e cJ0_charAt_5068e 2 (some .char), Cond.methodLink RJ0 492 yJ0_isLatin1_aae02, Cond.instanceMethod yJ0_isLatin1_aae02, Cond.selects RJ0 yJ0_isLatin1_aae02 yJ0_isLatin1_aae02, Cond.code yJ0_isLatin1_aae02 cJ0_isLatin1_aae02 1 (some .boolean), Cond.methodLink RJ0 495 yJ1_charAt_3b067, Cond.static yJ1_charAt_3b067, Cond.initialized RJ1, Cond.code yJ1_charAt_3b067 cJ1_charAt_3b067 2 (some .char), Cond.methodLink RJ1 9 yJ0_checkIndex_df160]
def wsL_law_r18 : List Cond := [Cond.static yJ0_checkIndex_df160, Cond.code yJ0_checkIndex_df160 cJ0_checkIndex_df160 2 none, Cond.fieldLink RJ0 1053 "jdk/internal/util/Preconditions" "SIOOBE_FORMATTER" "Ljava/util/function/BiFunction;", Cond.methodLink RJ0 1059 yJ3_checkIndex_8e157, Cond.static yJ3_checkIndex_8e157, Cond.initialized RJ3, Cond.code yJ3_checkIndex_8e157 cJ3_checkIndex_8e157 3 (some .int), Cond.methodLink RJ0 498 yJ2_charAt_3b067, Cond.static yJ2_charAt_3b067, Cond.initialized RJ2, Cond.code yJ2_charAt_3b067 cJ2_charAt_3b067 2 (some .char), Cond.methodLink RJ2 67 yJ2_checkIndex_2214a, Cond.static yJ2_checkIndex_2214a, Cond.code yJ2_checkIndex_2214a cJ2_checkIndex_2214a 2 none, Cond.methodLink RJ2 48 yJ2_length_9d52b, Cond.static yJ2_length_9d52b, Cond.code yJ2_length_9d52b cJ2_length_9d52b 1 (some .int), Cond.methodLink RJ2 414 yJ0_checkIndex_df160, Cond.methodLink RJ2 71 yJ2_getChar_3b067, Cond.static yJ2_getChar_3b067, Cond.code yJ2_getChar_3b067 cJ2_getChar_3b067 2 (some .char), Cond.fieldLink RJ2 44 "java/lang/StringUTF16" "$assertionsDisabled" "Z", Cond.fieldLink RJ2 59 "java/lang/StringUTF16" "HI_BYTE_SHIFT" "I", Cond.fieldLink RJ2 63 "java/lang/StringUTF16" "LO_BYTE_SHIFT" "I"]
def wsL_law_r19 : List Cond := [Cond.methodLink RX7 100 yX7_isWord, Cond.instanceMethod yX7_isWord, Cond.selects RX7 yX7_isWord yX7_isWord, Cond.code yX7_isWord cX7_isWord 6 (some .boolean), Cond.methodLink RX7 63 yX7_addToken, Cond.instanceMethod yX7_addToken, Cond.selects RX7 yX7_addToken yX7_addToken, Cond.code yX7_addToken cX7_addToken 4 none, Cond.methodLink RX7 78 yX7_isDigit, Cond.static yX7_isDigit, Cond.code yX7_isDigit cX7_isDigit 1 (some .boolean), Cond.methodLink RX7 87 yX7_signOf, Cond.static yX7_signOf, Cond.code yX7_signOf cX7_signOf 1 (some .int), Cond.methodLink RX7 51 yX7_kind, Cond.instanceMethod yX7_kind, Cond.selects RX7 yX7_kind yX7_kind, Cond.code yX7_kind cX7_kind 1 (some .int), Cond.methodLink RX7 55 yX7_readClause, Cond.instanceMethod yX7_readClause, Cond.selects RX7 yX7_readClause yX7_readClause, Cond.code yX7_readClause cX7_readClause 3 (some .boolean), Cond.fieldLink RX7 104 "MovingStairs$Reader" "clause" "I", Cond.methodLink RX7 107 yX7_fails]
def wsL_law_r20 : List Cond := [Cond.instanceMethod yX7_fails, Cond.selects RX7 yX7_fails yX7_fails, Cond.code yX7_fails cX7_fails 2 (some .boolean), Cond.methodLink RX7 110 yX10_has, Cond.instanceMethod yX10_has, Cond.selects RX10 yX10_has yX10_has, Cond.code yX10_has cX10_has 3 (some .boolean), Cond.fieldLink RX10 31 "MovingStairs$Text" "clauseCount" "I", Cond.methodLink RX7 113 yX10_open, Cond.instanceMethod yX10_open, Cond.selects RX10 yX10_open yX10_open, Cond.code yX10_open cX10_open 2 none, Cond.methodLink RX7 117 yX7_readSum, Cond.instanceMethod yX7_readSum, Cond.selects RX7 yX7_readSum yX7_readSum, Cond.code yX7_readSum cX7_readSum 6 (some .boolean), Cond.methodLink RX7 136 yX7_readProduct, Cond.instanceMethod yX7_readProduct, Cond.selects RX7 yX7_readProduct yX7_readProduct, Cond.methodLink RX7 130 yX10_add, Cond.instanceMethod yX10_add, Cond.selects RX10 yX10_add yX10_add, Cond.code yX10_add cX10_add 3 none, Cond.fieldLink RX10 27 "MovingStairs$Text" "opCount" "I"]
def wsL_law_r21 : List Cond := [Cond.code yX7_readOne cX7_readOne 5 (some .boolean), Cond.methodLink RX7 142 yX7_value, Cond.instanceMethod yX7_value, Cond.selects RX7 yX7_value yX7_value, Cond.code yX7_value cX7_value 1 (some .int), Cond.methodLink RX7 139 yX7_readOne, Cond.instanceMethod yX7_readOne, Cond.selects RX7 yX7_readOne yX7_readOne, Cond.code yX7_readProduct cX7_readProduct 6 (some .boolean), Cond.methodLink RX7 121 yX7_readEither, Cond.instanceMethod yX7_readEither, Cond.selects RX7 yX7_readEither yX7_readEither, Cond.code yX7_readEither cX7_readEither 4 (some .boolean), Cond.methodLink RX7 127 yX7_readBoth, Cond.instanceMethod yX7_readBoth, Cond.selects RX7 yX7_readBoth yX7_readBoth, Cond.code yX7_readBoth cX7_readBoth 4 (some .boolean), Cond.methodLink RX7 133 yX7_readAsk, Cond.instanceMethod yX7_readAsk, Cond.selects RX7 yX7_readAsk yX7_readAsk, Cond.code yX7_readAsk cX7_readAsk 5 (some .boolean), Cond.methodLink RX7 124 yX10_close, Cond.instanceMethod yX10_close, Cond.selects RX10 yX10_close yX10_close]
def wsL_law_r22 : List Cond := [Cond.code yX10_close cX10_close 1 none, Cond.methodLink RL 58 yX12_text, Cond.instanceMethod yX12_text, Cond.selects RX12 yX12_text yX12_text, Cond.code yX12_text cX12_text 1 (some .int), Cond.fieldLink RX12 160 "MovingStairsModel" "length" "I", Cond.fieldLink RX12 157 "MovingStairsModel" "at" "I", Cond.fieldLink RX12 181 "MovingStairsModel" "wrong" "I", Cond.fieldLink RX12 184 "MovingStairsModel" "wrongAt" "I", Cond.fieldLink RX12 193 "MovingStairsModel" "open" "I", Cond.fieldLink RX12 190 "MovingStairsModel" "frames" "I", Cond.fieldLink RX12 205 "MovingStairsModel" "waits" "I", Cond.fieldLink RX12 224 "MovingStairsModel" "state" "I", Cond.fieldLink RX12 252 "MovingStairsModel" "newClauses" "I", Cond.fieldLink RX12 187 "MovingStairsModel" "newOrders" "I", Cond.fieldLink RX12 166 "MovingStairsModel" "sort" "I", Cond.methodLink RX12 202 yX12_next, Cond.instanceMethod yX12_next, Cond.selects RX12 yX12_next yX12_next, Cond.code yX12_next cX12_next 5 none, Cond.fieldLink RX12 163 "MovingStairsModel" "token" "I", Cond.constantLong RX12 172 (64), Cond.fieldLink RX12 178 "MovingStairsModel" "told" "I", Cond.methodLink RX12 169 yX12_isLetter]
def wsL_law_r23 : List Cond := [Cond.static yX12_isLetter, Cond.code yX12_isLetter cX12_isLetter 1 (some .boolean), Cond.methodLink RX12 174 yX12_wordOf, Cond.static yX12_wordOf, Cond.code yX12_wordOf cX12_wordOf 2 (some .int), Cond.constantLong RX12 129 (14555947), Cond.constantLong RX12 131 (13536628), Cond.constantLong RX12 133 (9050347), Cond.constantLong RX12 135 (3058), Cond.constantLong RX12 137 (138148), Cond.constantLong RX12 139 (191476), Cond.constantLong RX12 141 (55390960548), Cond.constantLong RX12 143 (10623788), Cond.constantLong RX12 145 (599743412), Cond.constantLong RX12 147 (13302765), Cond.constantLong RX12 149 (3287609678117), Cond.constantLong RX12 151 (869424179), Cond.constantLong RX12 153 (11728996), Cond.constantLong RX12 155 (14555764), Cond.methodLink RX12 259 yX12_asks, Cond.instanceMethod yX12_asks, Cond.selects RX12 yX12_asks yX12_asks, Cond.code yX12_asks cX12_asks 2 none, Cond.methodLink RX12 218 yX12_isWord]
def wsL_law_r24 : List Cond := [Cond.instanceMethod yX12_isWord, Cond.selects RX12 yX12_isWord yX12_isWord, Cond.code yX12_isWord cX12_isWord 2 (some .boolean), Cond.methodLink RX12 221 yX12_opensSign, Cond.instanceMethod yX12_opensSign, Cond.selects RX12 yX12_opensSign yX12_opensSign, Cond.code yX12_opensSign cX12_opensSign 2 (some .boolean), Cond.methodLink RX12 196 yX12_errs, Cond.instanceMethod yX12_errs, Cond.selects RX12 yX12_errs yX12_errs, Cond.code yX12_errs cX12_errs 2 none, Cond.methodLink RX12 199 yX12_opensFrame, Cond.instanceMethod yX12_opensFrame, Cond.selects RX12 yX12_opensFrame yX12_opensFrame, Cond.code yX12_opensFrame cX12_opensFrame 2 none, Cond.methodLink RX12 262 yX12_begins, Cond.instanceMethod yX12_begins, Cond.selects RX12 yX12_begins yX12_begins, Cond.code yX12_begins cX12_begins 2 none, Cond.fieldLink RX12 230 "MovingStairsModel" "newKind" "I", Cond.methodLink RX12 211 yX12_emits, Cond.instanceMethod yX12_emits, Cond.selects RX12 yX12_emits yX12_emits, Cond.code yX12_emits cX12_emits 3 none]
def wsL_law_r25 : List Cond := [Cond.methodLink RX12 227 yX12_oneIsOver, Cond.instanceMethod yX12_oneIsOver, Cond.selects RX12 yX12_oneIsOver yX12_oneIsOver, Cond.code yX12_oneIsOver cX12_oneIsOver 1 none, Cond.methodLink RX12 236 yX12_top, Cond.instanceMethod yX12_top, Cond.selects RX12 yX12_top yX12_top, Cond.code yX12_top cX12_top 1 (some .int), Cond.methodLink RX12 233 yX12_isSign, Cond.instanceMethod yX12_isSign, Cond.selects RX12 yX12_isSign yX12_isSign, Cond.code yX12_isSign cX12_isSign 2 (some .boolean), Cond.methodLink RX12 265 yX12_goesOn, Cond.instanceMethod yX12_goesOn, Cond.selects RX12 yX12_goesOn yX12_goesOn, Cond.code yX12_goesOn cX12_goesOn 3 none, Cond.methodLink RX12 240 yX12_waitsFor, Cond.instanceMethod yX12_waitsFor, Cond.selects RX12 yX12_waitsFor yX12_waitsFor, Cond.code yX12_waitsFor cX12_waitsFor 2 none, Cond.methodLink RX12 208 yX12_rank, Cond.static yX12_rank, Cond.code yX12_rank cX12_rank 1 (some .int), Cond.methodLink RX12 215 yX12_works]
def wsL_law_r26 : List Cond := [Cond.instanceMethod yX12_works, Cond.selects RX12 yX12_works yX12_works, Cond.code yX12_works cX12_works 2 none, Cond.methodLink RX12 243 yX12_isAsking, Cond.static yX12_isAsking, Cond.code yX12_isAsking cX12_isAsking 1 (some .boolean), Cond.methodLink RX12 246 yX12_askIsOver, Cond.instanceMethod yX12_askIsOver, Cond.selects RX12 yX12_askIsOver yX12_askIsOver, Cond.code yX12_askIsOver cX12_askIsOver 1 none, Cond.methodLink RX12 249 yX12_clauseIsOver, Cond.instanceMethod yX12_clauseIsOver, Cond.selects RX12 yX12_clauseIsOver yX12_clauseIsOver, Cond.code yX12_clauseIsOver cX12_clauseIsOver 1 none, Cond.methodLink RX12 268 yX12_asksOn, Cond.instanceMethod yX12_asksOn, Cond.selects RX12 yX12_asksOn yX12_asksOn, Cond.code yX12_asksOn cX12_asksOn 1 none, Cond.methodLink RX12 271 yX12_clause, Cond.instanceMethod yX12_clause, Cond.selects RX12 yX12_clause yX12_clause, Cond.code yX12_clause cX12_clause 1 none, Cond.methodLink RX12 255 yX12_wasWalk, Cond.instanceMethod yX12_wasWalk]
def wsL_law_r27 : List Cond := [Cond.selects RX12 yX12_wasWalk yX12_wasWalk, Cond.code yX12_wasWalk cX12_wasWalk 3 (some .boolean), Cond.methodLink RX12 274 yX12_keepsText, Cond.instanceMethod yX12_keepsText, Cond.selects RX12 yX12_keepsText yX12_keepsText, Cond.code yX12_keepsText cX12_keepsText 3 none, Cond.methodLink RL 59 yX11_fault, Cond.instanceMethod yX11_fault, Cond.selects RX11 yX11_fault yX11_fault, Cond.code yX11_fault cX11_fault 2 (some .int), Cond.fieldLink RX11 150 "MovingStairs$Reader" "faultKind" "I", Cond.fieldLink RX11 153 "MovingStairs$Reader" "faultPlace" "I", Cond.methodLink RL 62 yX12_fault, Cond.instanceMethod yX12_fault, Cond.selects RX12 yX12_fault yX12_fault, Cond.code yX12_fault cX12_fault 2 (some .int), Cond.methodLink RL 63 yX11_by, Cond.instanceMethod yX11_by, Cond.selects RX11 yX11_by yX11_by, Cond.code yX11_by cX11_by 2 (some .boolean), Cond.fieldLink RX11 156 "MovingStairs$Station" "textInUse" "I", Cond.methodLink RL 66 yX12_by, Cond.instanceMethod yX12_by, Cond.selects RX12 yX12_by yX12_by]
def wsL_law_r28 : List Cond := [Cond.code yX12_by cX12_by 2 (some .boolean), Cond.methodLink RL 67 yX11_run, Cond.instanceMethod yX11_run, Cond.selects RX11 yX11_run yX11_run, Cond.code yX11_run cX11_run 4 (some .int), Cond.fieldLink RX11 173 "MovingStairs$Station" "second" "I", Cond.methodLink RX11 159 yX11_mayRun, Cond.instanceMethod yX11_mayRun, Cond.selects RX11 yX11_mayRun yX11_mayRun, Cond.code yX11_mayRun cX11_mayRun 2 (some .boolean), Cond.methodLink RX11 162 yX11_law, Cond.instanceMethod yX11_law, Cond.selects RX11 yX11_law yX11_law, Cond.code yX11_law cX11_law 1 (some (.object "MovingStairs$Text")), Cond.methodLink RX11 166 yX6_forgetRoutes, Cond.instanceMethod yX6_forgetRoutes, Cond.selects RX6 yX6_forgetRoutes yX6_forgetRoutes, Cond.code yX6_forgetRoutes cX6_forgetRoutes 1 none, Cond.methodLink RX6 24 yX8_forget, Cond.instanceMethod yX8_forget, Cond.selects RX8 yX8_forget yX8_forget, Cond.code yX8_forget cX8_forget 1 none, Cond.methodLink RX11 169 yX6_passSecond, Cond.instanceMethod yX6_passSecond]
def wsL_law_r29 : List Cond := [Cond.selects RX6 yX6_passSecond yX6_passSecond, Cond.code yX6_passSecond cX6_passSecond 3 none, Cond.fieldLink RX6 47 "MovingStairs$Station" "second" "I", Cond.methodLink RX6 27 yX6_comeInBursts, Cond.instanceMethod yX6_comeInBursts, Cond.selects RX6 yX6_comeInBursts yX6_comeInBursts, Cond.code yX6_comeInBursts cX6_comeInBursts 5 none, Cond.fieldLink RX6 53 "MovingStairs$Station" "burstCount" "I", Cond.fieldLink RX6 56 "MovingStairs$Station" "bursts" "[LMovingStairs$Burst;", Cond.fieldLink RX6 66 "MovingStairs$Burst" "hall" "I", Cond.fieldLink RX6 72 "MovingStairs$Burst" "street" "Z", Cond.fieldLink RX6 76 "MovingStairs$Burst" "goal" "I", Cond.fieldLink RX6 79 "MovingStairs$Burst" "kind" "I", Cond.fieldLink RX6 82 "MovingStairs$Burst" "size" "I", Cond.fieldLink RX6 93 "MovingStairs$Station" "goneBack" "I", Cond.fieldLink RX6 96 "MovingStairs$Station" "halls" "[LMovingStairs$Hall;", Cond.methodLink RX6 60 yX0_isDue, Cond.instanceMethod yX0_isDue, Cond.selects RX0 yX0_isDue yX0_isDue, Cond.code yX0_isDue cX0_isDue 2 (some .boolean), Cond.fieldLink RX0 13 "MovingStairs$Burst" "every" "I", Cond.fieldLink RX0 7 "MovingStairs$Burst" "second" "I", Cond.methodLink RX6 69 yX9_hasHall, Cond.methodLink RX6 85 yX9_comeTo]
def wsL_law_r30 : List Cond := [Cond.instanceMethod yX9_comeTo, Cond.selects RX9 yX9_comeTo yX9_comeTo, Cond.code yX9_comeTo cX9_comeTo 5 none, Cond.fieldLink RX9 83 "MovingStairs$Station" "arrived" "I", Cond.methodLink RX9 74 yX9_hasHall, Cond.methodLink RX9 86 yX2_change, Cond.instanceMethod yX2_change, Cond.selects RX2 yX2_change yX2_change, Cond.code yX2_change cX2_change 5 none, Cond.methodLink RX6 89 yX6_isSo, Cond.instanceMethod yX6_isSo, Cond.selects RX6 yX6_isSo yX6_isSo, Cond.code yX6_isSo cX6_isSo 6 (some .boolean), Cond.fieldLink RX6 106 "MovingStairs$Hall" "count" "I", Cond.fieldLink RX6 109 "MovingStairs$Hall" "room" "I", Cond.fieldLink RX6 112 "MovingStairs$Hall" "outsideCount" "I", Cond.methodLink RX6 115 yX10_anySo, Cond.instanceMethod yX10_anySo, Cond.selects RX10 yX10_anySo yX10_anySo, Cond.code yX10_anySo cX10_anySo 5 (some .boolean), Cond.methodLink RX10 34 yX10_worth, Cond.instanceMethod yX10_worth, Cond.selects RX10 yX10_worth yX10_worth, Cond.code yX10_worth cX10_worth 10 (some .int)]
def wsL_law_r31 : List Cond := [Cond.methodLink RX10 44 Lib.Math.max.name, Cond.static Lib.Math.max.name, Cond.code Lib.Math.max.name Lib.Math.max.code 2 (some .int), Cond.constantLong RX10 51 (-1000000), Cond.constantLong RX10 53 (1000000), Cond.methodLink RX10 55 Lib.MathLoose.min_long.x, Cond.static Lib.MathLoose.min_long.x, Cond.code Lib.MathLoose.min_long.x Lib.MathLoose.min_long.code 4 (some .long), Cond.methodLink RX10 58 Lib.MathLoose.max_long.x, Cond.static Lib.MathLoose.max_long.x, Cond.code Lib.MathLoose.max_long.x Lib.MathLoose.max_long.code 4 (some .long), Cond.methodLink RX10 47 yX10_joined, Cond.static yX10_joined, Cond.code yX10_joined cX10_joined 5 (some .long), Cond.methodLink RX6 100 yX2_changeOutside, Cond.instanceMethod yX2_changeOutside, Cond.selects RX2 yX2_changeOutside yX2_changeOutside, Cond.code yX2_changeOutside cX2_changeOutside 5 none, Cond.methodLink RX6 31 yX6_openHalls, Cond.instanceMethod yX6_openHalls, Cond.selects RX6 yX6_openHalls yX6_openHalls, Cond.code yX6_openHalls cX6_openHalls 5 none, Cond.fieldLink RX6 119 "MovingStairs$Station" "hallCount" "I", Cond.fieldLink RX6 122 "MovingStairs$Hall" "bar" "I"]
def wsL_law_r32 : List Cond := [Cond.fieldLink RX6 125 "MovingStairs$Hall" "shut" "Z", Cond.methodLink RX6 128 yX6_letIn, Cond.instanceMethod yX6_letIn, Cond.selects RX6 yX6_letIn yX6_letIn, Cond.code yX6_letIn cX6_letIn 8 none, Cond.fieldLink RX6 132 "MovingStairs$Hall" "outside" "[I", Cond.methodLink RX6 135 Lib.Math.min.name, Cond.methodLink RX6 34 yX6_turnEmptyLinks, Cond.instanceMethod yX6_turnEmptyLinks, Cond.selects RX6 yX6_turnEmptyLinks yX6_turnEmptyLinks, Cond.code yX6_turnEmptyLinks cX6_turnEmptyLinks 3 none, Cond.fieldLink RX6 141 "MovingStairs$Station" "linkCount" "I", Cond.fieldLink RX6 144 "MovingStairs$Station" "links" "[LMovingStairs$Link;", Cond.fieldLink RX6 148 "MovingStairs$Link" "count" "I", Cond.fieldLink RX6 151 "MovingStairs$Link" "wanted" "I", Cond.fieldLink RX6 154 "MovingStairs$Link" "way" "I", Cond.methodLink RX6 38 yX8_find, Cond.instanceMethod yX8_find, Cond.selects RX8 yX8_find yX8_find, Cond.code yX8_find cX8_find 5 none, Cond.fieldLink RX8 22 "MovingStairs$Station" "linkCount" "I", Cond.fieldLink RX8 27 "MovingStairs$Station" "links" "[LMovingStairs$Link;", Cond.fieldLink RX8 37 "MovingStairs$Link" "way" "I", Cond.methodLink RX8 31 yX3_takesNow]
def wsL_law_r33 : List Cond := [Cond.instanceMethod yX3_takesNow, Cond.selects RX3 yX3_takesNow yX3_takesNow, Cond.code yX3_takesNow cX3_takesNow 1 (some .boolean), Cond.methodLink RX8 40 yX8_findFor, Cond.instanceMethod yX8_findFor, Cond.selects RX8 yX8_findFor yX8_findFor, Cond.code yX8_findFor cX8_findFor 6 none, Cond.constant RX8 44 (1000000), Cond.fieldLink RX8 51 "MovingStairs$Link" "low" "I", Cond.fieldLink RX8 58 "MovingStairs$Link" "high" "I", Cond.methodLink RX8 45 yJ7_fill_53178, Cond.methodLink RX8 54 yX8_leads, Cond.instanceMethod yX8_leads, Cond.selects RX8 yX8_leads yX8_leads, Cond.code yX8_leads cX8_leads 4 (some .boolean), Cond.fieldLink RX8 77 "MovingStairs$Link" "kind" "I", Cond.methodLink RX8 80 yX3_foot, Cond.instanceMethod yX3_foot, Cond.selects RX3 yX3_foot yX3_foot, Cond.code yX3_foot cX3_foot 1 (some .int), Cond.methodLink RX8 61 yX3_seconds, Cond.instanceMethod yX3_seconds, Cond.selects RX3 yX3_seconds yX3_seconds, Cond.code yX3_seconds cX3_seconds 1 (some .int)]
def wsL_law_r34 : List Cond := [Cond.methodLink RX8 65 yX8_shorten, Cond.instanceMethod yX8_shorten, Cond.selects RX8 yX8_shorten yX8_shorten, Cond.code yX8_shorten cX8_shorten 5 none, Cond.methodLink RX8 69 yX8_between, Cond.instanceMethod yX8_between, Cond.selects RX8 yX8_between yX8_between, Cond.code yX8_between cX8_between 4 (some .int), Cond.methodLink RX8 73 yX8_lowestFirst, Cond.instanceMethod yX8_lowestFirst, Cond.selects RX8 yX8_lowestFirst yX8_lowestFirst, Cond.code yX8_lowestFirst cX8_lowestFirst 10 (some .int), Cond.methodLink RX6 41 yX6_moveLinks, Cond.instanceMethod yX6_moveLinks, Cond.selects RX6 yX6_moveLinks yX6_moveLinks, Cond.code yX6_moveLinks cX6_moveLinks 6 none, Cond.fieldLink RX6 157 "MovingStairs$Link" "kind" "I", Cond.fieldLink RX6 158 "MovingStairs$Link" "cycle" "I", Cond.fieldLink RX6 161 "MovingStairs$Link" "low" "I", Cond.fieldLink RX6 164 "MovingStairs$Link" "high" "I", Cond.methodLink RX6 167 yX6_lift, Cond.instanceMethod yX6_lift, Cond.selects RX6 yX6_lift yX6_lift, Cond.code yX6_lift cX6_lift 8 none]
def wsL_law_r35 : List Cond := [Cond.fieldLink RX6 189 "MovingStairs$Link" "size" "I", Cond.fieldLink RX6 201 "MovingStairs$Link" "takenSoFar" "I", Cond.fieldLink RX6 204 "MovingStairs$Link" "offSoFar" "I", Cond.methodLink RX6 186 yX9_hasLink, Cond.methodLink RX6 190 yX6_goalOfMost, Cond.instanceMethod yX6_goalOfMost, Cond.selects RX6 yX6_goalOfMost yX6_goalOfMost, Cond.code yX6_goalOfMost cX6_goalOfMost 9 (some .int), Cond.methodLink RX6 207 yX2_waiting, Cond.instanceMethod yX2_waiting, Cond.selects RX2 yX2_waiting yX2_waiting, Cond.code yX2_waiting cX2_waiting 4 (some .int), Cond.methodLink RX6 210 yX8_firstLink, Cond.instanceMethod yX8_firstLink, Cond.selects RX8 yX8_firstLink yX8_firstLink, Cond.code yX8_firstLink cX8_firstLink 5 (some .int), Cond.methodLink RX6 194 yX9_admits, Cond.instanceMethod yX9_admits, Cond.selects RX9 yX9_admits yX9_admits, Cond.code yX9_admits cX9_admits 3 (some .boolean), Cond.fieldLink RX9 77 "MovingStairs$Hall" "count" "I", Cond.fieldLink RX9 80 "MovingStairs$Hall" "room" "I", Cond.methodLink RX6 198 yX2_change, Cond.methodLink RX6 171 yX6_walkOf]
def wsL_law_r36 : List Cond := [Cond.instanceMethod yX6_walkOf, Cond.selects RX6 yX6_walkOf yX6_walkOf, Cond.code yX6_walkOf cX6_walkOf 4 (some .int), Cond.fieldLink RX6 214 "MovingStairs$Link" "mode" "I", Cond.methodLink RX6 217 yX3_foot, Cond.methodLink RX6 221 yX10_walk, Cond.instanceMethod yX10_walk, Cond.selects RX10 yX10_walk yX10_walk, Cond.code yX10_walk cX10_walk 4 (some .int), Cond.methodLink RX10 38 Lib.Math.min.name, Cond.methodLink RX6 175 yX6_moveStair, Cond.instanceMethod yX6_moveStair, Cond.selects RX6 yX6_moveStair yX6_moveStair, Cond.code yX6_moveStair cX6_moveStair 5 none, Cond.fieldLink RX6 225 "MovingStairs$Link" "going" "Z", Cond.fieldLink RX6 228 "MovingStairs$Link" "tripped" "Z", Cond.fieldLink RX6 238 "MovingStairs$Station" "trips" "I", Cond.methodLink RX6 231 yX3_goesOn, Cond.instanceMethod yX3_goesOn, Cond.selects RX3 yX3_goesOn yX3_goesOn, Cond.code yX3_goesOn cX3_goesOn 4 (some .boolean), Cond.methodLink RX3 68 yX3_who, Cond.instanceMethod yX3_who, Cond.selects RX3 yX3_who yX3_who]
def wsL_law_r37 : List Cond := [Cond.code yX3_who cX3_who 4 (some .int), Cond.methodLink RX3 76 yX3_move, Cond.instanceMethod yX3_move, Cond.selects RX3 yX3_move yX3_move, Cond.code yX3_move cX3_move 3 none, Cond.methodLink RX3 72 yX3_put, Cond.instanceMethod yX3_put, Cond.selects RX3 yX3_put yX3_put, Cond.code yX3_put cX3_put 5 none, Cond.methodLink RX6 234 yX6_stepOff, Cond.instanceMethod yX6_stepOff, Cond.selects RX6 yX6_stepOff yX6_stepOff, Cond.code yX6_stepOff cX6_stepOff 7 (some .boolean), Cond.methodLink RX6 241 yX3_who, Cond.methodLink RX6 244 yX3_head, Cond.instanceMethod yX3_head, Cond.selects RX3 yX3_head yX3_head, Cond.code yX3_head cX3_head 1 (some .int), Cond.methodLink RX6 247 yX3_put, Cond.methodLink RX6 179 yX6_moveFixed, Cond.instanceMethod yX6_moveFixed, Cond.selects RX6 yX6_moveFixed yX6_moveFixed, Cond.code yX6_moveFixed cX6_moveFixed 5 none, Cond.methodLink RX6 250 yX3_move]
def wsL_law_r38 : List Cond := [Cond.methodLink RX6 182 yX6_takeUpToTwo, Cond.instanceMethod yX6_takeUpToTwo, Cond.selects RX6 yX6_takeUpToTwo yX6_takeUpToTwo, Cond.code yX6_takeUpToTwo cX6_takeUpToTwo 11 none, Cond.methodLink RX6 254 yX9_hasStepped, Cond.methodLink RX6 257 yX3_takesNow, Cond.methodLink RX6 261 yX3_sideFor, Cond.instanceMethod yX3_sideFor, Cond.selects RX3 yX3_sideFor yX3_sideFor, Cond.code yX3_sideFor cX3_sideFor 4 (some .int), Cond.methodLink RX6 44 yX6_countSecond, Cond.instanceMethod yX6_countSecond, Cond.selects RX6 yX6_countSecond yX6_countSecond, Cond.code yX6_countSecond cX6_countSecond 6 none, Cond.fieldLink RX6 265 "MovingStairs$Station" "waited" "I", Cond.fieldLink RX6 268 "MovingStairs$Hall" "shutSeconds" "I", Cond.fieldLink RX6 271 "MovingStairs$Hall" "over" "I", Cond.constantLong RX6 277 (1000000000), Cond.methodLink RX6 279 Lib.MathLoose.min_long.x, Cond.methodLink RX6 274 yX2_isOver, Cond.instanceMethod yX2_isOver, Cond.selects RX2 yX2_isOver yX2_isOver, Cond.code yX2_isOver cX2_isOver 1 (some .boolean), Cond.methodLink RL 70 yX12_run]
def wsL_law_r39 : List Cond := [Cond.instanceMethod yX12_run, Cond.selects RX12 yX12_run yX12_run, Cond.code yX12_run cX12_run 3 (some .int), Cond.methodLink RX12 377 yX12_isRun, Cond.instanceMethod yX12_isRun, Cond.selects RX12 yX12_isRun yX12_isRun, Cond.code yX12_isRun cX12_isRun 2 (some .boolean), Cond.methodLink RX12 380 yX12_second, Cond.instanceMethod yX12_second, Cond.selects RX12 yX12_second yX12_second, Cond.code yX12_second cX12_second 4 none, Cond.constant RX12 317 (1000000000), Cond.methodLink RX12 359 yX12_bursts, Cond.instanceMethod yX12_bursts, Cond.selects RX12 yX12_bursts yX12_bursts, Cond.code yX12_bursts cX12_bursts 6 none, Cond.methodLink RX12 309 yX12_comes, Cond.instanceMethod yX12_comes, Cond.selects RX12 yX12_comes yX12_comes, Cond.code yX12_comes cX12_comes 5 none, Cond.methodLink RX12 313 yX12_isSome, Cond.instanceMethod yX12_isSome, Cond.selects RX12 yX12_isSome yX12_isSome, Cond.code yX12_isSome cX12_isSome 6 (some .boolean)]
def wsL_law_r40 : List Cond := [Cond.methodLink RX12 292 yX12_inHall, Cond.instanceMethod yX12_inHall, Cond.selects RX12 yX12_inHall yX12_inHall, Cond.code yX12_inHall cX12_inHall 2 (some .int), Cond.methodLink RX12 289 yX12_countOf, Cond.instanceMethod yX12_countOf, Cond.selects RX12 yX12_countOf yX12_countOf, Cond.code yX12_countOf cX12_countOf 5 (some .int), Cond.methodLink RX12 295 yX12_hallOf, Cond.instanceMethod yX12_hallOf, Cond.selects RX12 yX12_hallOf yX12_hallOf, Cond.code yX12_hallOf cX12_hallOf 3 (some .int), Cond.methodLink RX12 298 yX12_saysOf, Cond.instanceMethod yX12_saysOf, Cond.selects RX12 yX12_saysOf yX12_saysOf, Cond.code yX12_saysOf cX12_saysOf 5 (some .long), Cond.methodLink RX12 285 yX12_worked, Cond.static yX12_worked, Cond.code yX12_worked cX12_worked 5 (some .long), Cond.methodLink RX12 281 yX12_bound, Cond.static yX12_bound, Cond.code yX12_bound cX12_bound 2 (some .long), Cond.constantLong RX12 277 (1000000), Cond.constantLong RX12 279 (-1000000)]
def wsL_law_r41 : List Cond := [Cond.methodLink RX12 362 yX12_lets, Cond.instanceMethod yX12_lets, Cond.selects RX12 yX12_lets yX12_lets, Cond.code yX12_lets cX12_lets 4 none, Cond.methodLink RX12 365 yX12_allRoutes, Cond.instanceMethod yX12_allRoutes, Cond.selects RX12 yX12_allRoutes yX12_allRoutes, Cond.code yX12_allRoutes cX12_allRoutes 2 none, Cond.methodLink RX12 325 yX12_routes, Cond.instanceMethod yX12_routes, Cond.selects RX12 yX12_routes yX12_routes, Cond.code yX12_routes cX12_routes 8 none, Cond.methodLink RX12 318 yX12_costFrom, Cond.instanceMethod yX12_costFrom, Cond.selects RX12 yX12_costFrom yX12_costFrom, Cond.code yX12_costFrom cX12_costFrom 5 (some .int), Cond.methodLink RX12 304 yX12_footOf, Cond.instanceMethod yX12_footOf, Cond.selects RX12 yX12_footOf yX12_footOf, Cond.code yX12_footOf cX12_footOf 2 (some .int), Cond.methodLink RX12 322 yX12_otherEnd, Cond.instanceMethod yX12_otherEnd, Cond.selects RX12 yX12_otherEnd yX12_otherEnd, Cond.code yX12_otherEnd cX12_otherEnd 3 (some .int)]
def wsL_law_r42 : List Cond := [Cond.methodLink RX12 368 yX12_stairs, Cond.instanceMethod yX12_stairs, Cond.selects RX12 yX12_stairs yX12_stairs, Cond.code yX12_stairs cX12_stairs 5 none, Cond.methodLink RX12 344 yX12_walkOf, Cond.instanceMethod yX12_walkOf, Cond.selects RX12 yX12_walkOf yX12_walkOf, Cond.code yX12_walkOf cX12_walkOf 6 (some .int), Cond.constantLong RX12 302 (4), Cond.constantLong RX12 307 (10), Cond.methodLink RX12 347 yX12_climbs, Cond.instanceMethod yX12_climbs, Cond.selects RX12 yX12_climbs yX12_climbs, Cond.code yX12_climbs cX12_climbs 7 none, Cond.methodLink RX12 334 yX12_placeOf, Cond.instanceMethod yX12_placeOf, Cond.selects RX12 yX12_placeOf yX12_placeOf, Cond.code yX12_placeOf cX12_placeOf 4 (some .int), Cond.methodLink RX12 337 yX12_stepsOff, Cond.instanceMethod yX12_stepsOff, Cond.selects RX12 yX12_stepsOff yX12_stepsOff, Cond.code yX12_stepsOff cX12_stepsOff 5 (some .boolean), Cond.methodLink RX12 331 yX12_headOf, Cond.instanceMethod yX12_headOf]
def wsL_law_r43 : List Cond := [Cond.selects RX12 yX12_headOf yX12_headOf, Cond.code yX12_headOf cX12_headOf 2 (some .int), Cond.methodLink RX12 350 yX12_moves, Cond.instanceMethod yX12_moves, Cond.selects RX12 yX12_moves yX12_moves, Cond.code yX12_moves cX12_moves 7 (some .boolean), Cond.methodLink RX12 353 yX12_trips, Cond.instanceMethod yX12_trips, Cond.selects RX12 yX12_trips yX12_trips, Cond.code yX12_trips cX12_trips 2 none, Cond.methodLink RX12 356 yX12_takes, Cond.instanceMethod yX12_takes, Cond.selects RX12 yX12_takes yX12_takes, Cond.code yX12_takes cX12_takes 9 none, Cond.methodLink RX12 328 yX12_mostOf, Cond.instanceMethod yX12_mostOf, Cond.selects RX12 yX12_mostOf yX12_mostOf, Cond.code yX12_mostOf cX12_mostOf 8 (some .int), Cond.methodLink RX12 340 yX12_sideFor, Cond.instanceMethod yX12_sideFor, Cond.selects RX12 yX12_sideFor yX12_sideFor, Cond.code yX12_sideFor cX12_sideFor 4 (some .int), Cond.methodLink RX12 371 yX12_lifts, Cond.instanceMethod yX12_lifts]
def wsL_law_r44 : List Cond := [Cond.selects RX12 yX12_lifts yX12_lifts, Cond.code yX12_lifts cX12_lifts 6 none, Cond.methodLink RX12 374 yX12_isOver, Cond.instanceMethod yX12_isOver, Cond.selects RX12 yX12_isOver yX12_isOver, Cond.code yX12_isOver cX12_isOver 2 (some .boolean), Cond.methodLink RL 71 yX11_of, Cond.instanceMethod yX11_of, Cond.selects RX11 yX11_of yX11_of, Cond.code yX11_of cX11_of 4 (some .int), Cond.fieldLink RX11 174 "MovingStairs$Hall" "inside" "[I", Cond.fieldLink RX11 178 "MovingStairs$Hall" "count" "I", Cond.fieldLink RX11 181 "MovingStairs$Hall" "outsideCount" "I", Cond.fieldLink RX11 184 "MovingStairs$Hall" "shutSeconds" "I", Cond.fieldLink RX11 187 "MovingStairs$Hall" "over" "I", Cond.methodLink RL 75 yX12_of, Cond.instanceMethod yX12_of, Cond.selects RX12 yX12_of yX12_of, Cond.code yX12_of cX12_of 3 (some .int), Cond.methodLink RL 76 yX11_on, Cond.instanceMethod yX11_on, Cond.selects RX11 yX11_on yX11_on, Cond.code yX11_on cX11_on 4 (some .int), Cond.fieldLink RX11 190 "MovingStairs$Link" "count" "I"]
def wsL_law_r45 : List Cond := [Cond.fieldLink RX11 191 "MovingStairs$Link" "way" "I", Cond.fieldLink RX11 194 "MovingStairs$Link" "going" "Z", Cond.fieldLink RX11 197 "MovingStairs$Link" "wanted" "I", Cond.fieldLink RX11 200 "MovingStairs$Link" "takenSoFar" "I", Cond.fieldLink RX11 203 "MovingStairs$Link" "offSoFar" "I", Cond.methodLink RL 79 yX12_on, Cond.instanceMethod yX12_on, Cond.selects RX12 yX12_on yX12_on, Cond.code yX12_on cX12_on 3 (some .int), Cond.methodLink RL 80 yX11_step, Cond.instanceMethod yX11_step, Cond.selects RX11 yX11_step yX11_step, Cond.code yX11_step cX11_step 4 (some .int), Cond.fieldLink RX11 206 "MovingStairs$Link" "size" "I", Cond.methodLink RX11 207 yX3_who, Cond.methodLink RL 84 yX12_step, Cond.instanceMethod yX12_step, Cond.selects RX12 yX12_step yX12_step, Cond.code yX12_step cX12_step 4 (some .int), Cond.methodLink RL 85 yX11_route, Cond.instanceMethod yX11_route, Cond.selects RX11 yX11_route yX11_route, Cond.code yX11_route cX11_route 4 (some .int), Cond.fieldLink RX11 211 "MovingStairs$Mover" "routes" "LMovingStairs$Routes;"]
def wsL_law_r46 : List Cond := [Cond.methodLink RX11 215 yX8_find, Cond.methodLink RX11 221 yX8_firstLink, Cond.methodLink RL 89 yX12_route, Cond.instanceMethod yX12_route, Cond.selects RX12 yX12_route yX12_route, Cond.code yX12_route cX12_route 4 (some .int), Cond.methodLink RL 90 yX11_all, Cond.instanceMethod yX11_all, Cond.selects RX11 yX11_all yX11_all, Cond.code yX11_all cX11_all 2 (some .int), Cond.fieldLink RX11 225 "MovingStairs$Station" "arrived" "I", Cond.fieldLink RX11 228 "MovingStairs$Station" "waited" "I", Cond.fieldLink RX11 231 "MovingStairs$Station" "goneBack" "I", Cond.fieldLink RX11 234 "MovingStairs$Station" "trips" "I", Cond.methodLink RL 93 yX12_all, Cond.instanceMethod yX12_all, Cond.selects RX12 yX12_all yX12_all, Cond.code yX12_all cX12_all 2 (some .int), Cond.methodLink RL 94 yX11_ways, Cond.instanceMethod yX11_ways, Cond.selects RX11 yX11_ways yX11_ways, Cond.code yX11_ways cX11_ways 9 (some .int), Cond.methodLink RX11 237 yX11_mayTurn, Cond.instanceMethod yX11_mayTurn]
def wsL_law_r47 : List Cond := [Cond.selects RX11 yX11_mayTurn yX11_mayTurn, Cond.code yX11_mayTurn cX11_mayTurn 4 (some .boolean), Cond.methodLink RX11 318 yJ6_bitCount_0f7a4, Cond.static yJ6_bitCount_0f7a4, Cond.initialized RJ6, Cond.code yJ6_bitCount_0f7a4 cJ6_bitCount_0f7a4 1 (some .int), Cond.constant RJ6 265 (1431655765), Cond.constant RJ6 266 (858993459), Cond.constant RJ6 267 (252645135), Cond.methodLink RX11 240 yX11_waitedByWays, Cond.instanceMethod yX11_waitedByWays, Cond.selects RX11 yX11_waitedByWays yX11_waitedByWays, Cond.code yX11_waitedByWays cX11_waitedByWays 6 (some .int), Cond.methodLink RX11 246 yX11_beginTrial, Cond.instanceMethod yX11_beginTrial, Cond.selects RX11 yX11_beginTrial yX11_beginTrial, Cond.code yX11_beginTrial cX11_beginTrial 1 (some (.object "MovingStairs$Text")), Cond.methodLink RX11 323 yX9_copyMoving, Cond.instanceMethod yX9_copyMoving, Cond.selects RX9 yX9_copyMoving yX9_copyMoving, Cond.code yX9_copyMoving cX9_copyMoving 3 none, Cond.fieldLink RX9 107 "MovingStairs$Station" "second" "I", Cond.fieldLink RX9 110 "MovingStairs$Station" "burstCount" "I", Cond.fieldLink RX9 113 "MovingStairs$Station" "waited" "I"]
def wsL_law_r48 : List Cond := [Cond.fieldLink RX9 116 "MovingStairs$Station" "goneBack" "I", Cond.fieldLink RX9 119 "MovingStairs$Station" "trips" "I", Cond.methodLink RX9 122 yX2_copy, Cond.instanceMethod yX2_copy, Cond.selects RX2 yX2_copy yX2_copy, Cond.code yX2_copy cX2_copy 2 none, Cond.methodLink RX2 47 arraycopyName, Cond.native arraycopyName, Cond.static arraycopyName, Cond.initialized "java/lang/System", Cond.methodLink RX9 125 yX3_copy, Cond.instanceMethod yX3_copy, Cond.selects RX3 yX3_copy yX3_copy, Cond.code yX3_copy cX3_copy 2 none, Cond.methodLink RX3 62 arraycopyName, Cond.methodLink RX9 128 yX0_copy, Cond.instanceMethod yX0_copy, Cond.selects RX0 yX0_copy yX0_copy, Cond.code yX0_copy cX0_copy 2 none, Cond.fieldLink RX0 16 "MovingStairs$Burst" "hall" "I", Cond.fieldLink RX0 19 "MovingStairs$Burst" "goal" "I", Cond.fieldLink RX0 22 "MovingStairs$Burst" "size" "I", Cond.fieldLink RX0 25 "MovingStairs$Burst" "kind" "I", Cond.fieldLink RX0 28 "MovingStairs$Burst" "street" "Z"]
def wsL_law_r49 : List Cond := [Cond.methodLink RL 97 yX12_ways, Cond.instanceMethod yX12_ways, Cond.selects RX12 yX12_ways yX12_ways, Cond.code yX12_ways cX12_ways 9 (some .int), Cond.methodLink RX12 383 yX12_areStairs, Cond.instanceMethod yX12_areStairs, Cond.selects RX12 yX12_areStairs yX12_areStairs, Cond.code yX12_areStairs cX12_areStairs 5 (some .boolean), Cond.methodLink RX12 386 yX12_saves, Cond.instanceMethod yX12_saves, Cond.selects RX12 yX12_saves yX12_saves, Cond.code yX12_saves cX12_saves 2 none, Cond.methodLink RX12 389 yX12_turn, Cond.methodLink RX12 392 yX12_runs, Cond.instanceMethod yX12_runs, Cond.selects RX12 yX12_runs yX12_runs, Cond.code yX12_runs cX12_runs 3 none, Cond.methodLink RX12 395 yX12_putsBack, Cond.instanceMethod yX12_putsBack, Cond.selects RX12 yX12_putsBack yX12_putsBack, Cond.code yX12_putsBack cX12_putsBack 2 none, Cond.methodLink RL 98 yX11_least, Cond.instanceMethod yX11_least, Cond.selects RX11 yX11_least yX11_least]
def wsL_law_r50 : List Cond := [Cond.code yX11_least cX11_least 6 (some .int), Cond.methodLink RX11 243 yX11_shutByBar, Cond.instanceMethod yX11_shutByBar, Cond.selects RX11 yX11_shutByBar yX11_shutByBar, Cond.code yX11_shutByBar cX11_shutByBar 6 (some .int), Cond.methodLink RX11 326 yX9_anyHallOver, Cond.instanceMethod yX9_anyHallOver, Cond.selects RX9 yX9_anyHallOver yX9_anyHallOver, Cond.code yX9_anyHallOver cX9_anyHallOver 2 (some .boolean), Cond.methodLink RX9 70 yX2_isOver, Cond.methodLink RL 101 yX12_least, Cond.instanceMethod yX12_least, Cond.selects RX12 yX12_least yX12_least, Cond.code yX12_least cX12_least 8 (some .int), Cond.methodLink RL 102 yX11_felt, Cond.instanceMethod yX11_felt, Cond.selects RX11 yX11_felt yX11_felt, Cond.code yX11_felt cX11_felt 6 (some .int), Cond.methodLink RX11 249 yX3_foot, Cond.methodLink RX11 253 yX2_isOver, Cond.methodLink RL 105 yX12_felt, Cond.instanceMethod yX12_felt, Cond.selects RX12 yX12_felt yX12_felt, Cond.code yX12_felt cX12_felt 7 (some .int)]
def wsL_law_r51 : List Cond := [Cond.methodLink RX12 398 yX12_isStair, Cond.instanceMethod yX12_isStair, Cond.selects RX12 yX12_isStair yX12_isStair, Cond.code yX12_isStair cX12_isStair 2 (some .boolean), Cond.methodLink RL 106 yX11_standing, Cond.instanceMethod yX11_standing, Cond.selects RX11 yX11_standing yX11_standing, Cond.code yX11_standing cX11_standing 3 (some .int), Cond.constant RX11 257 (-1000000), Cond.methodLink RX11 258 yX11_offByMode, Cond.instanceMethod yX11_offByMode, Cond.selects RX11 yX11_offByMode yX11_offByMode, Cond.code yX11_offByMode cX11_offByMode 6 (some .int), Cond.methodLink RL 109 yX12_standing, Cond.instanceMethod yX12_standing, Cond.selects RX12 yX12_standing yX12_standing, Cond.code yX12_standing cX12_standing 5 (some .int), Cond.constant RX12 401 (-1000000), Cond.methodLink RL 110 yX11_alone, Cond.instanceMethod yX11_alone, Cond.selects RX11 yX11_alone yX11_alone, Cond.code yX11_alone cX11_alone 5 (some .int), Cond.methodLink RX11 261 yX11_mayStandAlone, Cond.static yX11_mayStandAlone]
def wsL_law_r52 : List Cond := [Cond.code yX11_mayStandAlone cX11_mayStandAlone 2 (some .boolean), Cond.methodLink RX11 265 yX11_carriedAlone, Cond.instanceMethod yX11_carriedAlone, Cond.selects RX11 yX11_carriedAlone yX11_carriedAlone, Cond.code yX11_carriedAlone cX11_carriedAlone 7 (some .int), Cond.methodLink RX11 329 yX9_buildAlone, Cond.instanceMethod yX9_buildAlone, Cond.selects RX9 yX9_buildAlone yX9_buildAlone, Cond.code yX9_buildAlone cX9_buildAlone 4 none, Cond.fieldLink RX9 138 "MovingStairs$Link" "mode" "I", Cond.methodLink RX9 131 yX2_build, Cond.methodLink RX9 135 yX3_build, Cond.methodLink RX9 141 yX9_comeTo, Cond.methodLink RX11 333 yX6_moveStair, Cond.methodLink RX11 337 yX6_takeUpToTwo, Cond.methodLink RL 114 yX12_alone, Cond.instanceMethod yX12_alone, Cond.selects RX12 yX12_alone yX12_alone, Cond.code yX12_alone cX12_alone 5 (some .int), Cond.methodLink RX12 405 yX12_carries, Cond.instanceMethod yX12_carries, Cond.selects RX12 yX12_carries yX12_carries, Cond.code yX12_carries cX12_carries 12 (some .int), Cond.methodLink RX12 402 yX12_loneMoves]
def wsL_law_r53 : List Cond := [Cond.instanceMethod yX12_loneMoves, Cond.selects RX12 yX12_loneMoves yX12_loneMoves, Cond.code yX12_loneMoves cX12_loneMoves 8 (some .int), Cond.methodLink RL 115 yX11_crossing, Cond.instanceMethod yX11_crossing, Cond.selects RX11 yX11_crossing yX11_crossing, Cond.code yX11_crossing cX11_crossing 5 (some .int), Cond.methodLink RL 118 yX12_crossing, Cond.instanceMethod yX12_crossing, Cond.selects RX12 yX12_crossing yX12_crossing, Cond.code yX12_crossing cX12_crossing 5 (some .int), Cond.methodLink RL 119 yX11_day, Cond.instanceMethod yX11_day, Cond.selects RX11 yX11_day yX11_day, Cond.code yX11_day cX11_day 4 (some .int), Cond.fieldLink RX11 271 "MovingStairs$Station" "days" "LMovingStairs$Days;", Cond.methodLink RX11 275 yX1_tell, Cond.instanceMethod yX1_tell, Cond.selects RX1 yX1_tell yX1_tell, Cond.code yX1_tell cX1_tell 5 (some .int), Cond.fieldLink RX1 18 "MovingStairs$Days" "count" "I", Cond.methodLink RL 123 yX12_day, Cond.instanceMethod yX12_day, Cond.selects RX12 yX12_day yX12_day]
def wsL_law_r54 : List Cond := [Cond.code yX12_day cX12_day 5 (some .int), Cond.methodLink RL 124 yX11_effect, Cond.instanceMethod yX11_effect, Cond.selects RX11 yX11_effect yX11_effect, Cond.code yX11_effect cX11_effect 1 (some .int), Cond.methodLink RX11 279 yX1_meanEffect, Cond.instanceMethod yX1_meanEffect, Cond.selects RX1 yX1_meanEffect yX1_meanEffect, Cond.code yX1_meanEffect cX1_meanEffect 11 (some .int), Cond.constantLong RX1 28 (1000), Cond.constant RX1 30 (-1000000000), Cond.methodLink RL 127 yX12_effect, Cond.instanceMethod yX12_effect, Cond.selects RX12 yX12_effect yX12_effect, Cond.code yX12_effect cX12_effect 6 (some .int), Cond.constant RX12 413 (-1000000000), Cond.methodLink RX12 409 yX12_daysOf, Cond.instanceMethod yX12_daysOf, Cond.selects RX12 yX12_daysOf yX12_daysOf, Cond.code yX12_daysOf cX12_daysOf 7 (some .int), Cond.methodLink RL 128 yX11_mend, Cond.instanceMethod yX11_mend, Cond.selects RX11 yX11_mend yX11_mend, Cond.code yX11_mend cX11_mend 6 (some .int)]
def wsL_law_r55 : List Cond := [Cond.fieldLink RX11 282 "MovingStairs$Station" "mends" "LMovingStairs$Mends;", Cond.methodLink RX11 286 yX5_tell, Cond.instanceMethod yX5_tell, Cond.selects RX5 yX5_tell yX5_tell, Cond.code yX5_tell cX5_tell 5 (some .int), Cond.fieldLink RX5 27 "MovingStairs$Mends" "count" "I", Cond.methodLink RL 131 yX12_mend, Cond.instanceMethod yX12_mend, Cond.selects RX12 yX12_mend yX12_mend, Cond.code yX12_mend cX12_mend 6 (some .int), Cond.methodLink RL 132 yX11_order, Cond.instanceMethod yX11_order, Cond.selects RX11 yX11_order yX11_order, Cond.code yX11_order cX11_order 2 (some .int), Cond.fieldLink RX11 290 "MovingStairs$Mends" "count" "I", Cond.fieldLink RX11 294 "MovingStairs$Mends" "fewest" "[I", Cond.methodLink RX11 291 yX5_weigh, Cond.instanceMethod yX5_weigh, Cond.selects RX5 yX5_weigh yX5_weigh, Cond.code yX5_weigh cX5_weigh 4 none, Cond.methodLink RX5 37 Lib.Math.min.name, Cond.methodLink RX5 43 yX5_bestNext, Cond.instanceMethod yX5_bestNext, Cond.selects RX5 yX5_bestNext yX5_bestNext]
def wsL_law_r56 : List Cond := [Cond.code yX5_bestNext cX5_bestNext 6 (some .int), Cond.methodLink RX5 47 yX5_countBy, Cond.instanceMethod yX5_countBy, Cond.selects RX5 yX5_countBy yX5_countBy, Cond.code yX5_countBy cX5_countBy 8 (some .int), Cond.methodLink RX11 297 yX5_inTurn, Cond.instanceMethod yX5_inTurn, Cond.selects RX5 yX5_inTurn yX5_inTurn, Cond.code yX5_inTurn cX5_inTurn 5 (some .int), Cond.methodLink RL 135 yX12_order, Cond.instanceMethod yX12_order, Cond.selects RX12 yX12_order yX12_order, Cond.code yX12_order cX12_order 8 (some .int), Cond.methodLink RX12 414 yX12_countsBy, Cond.instanceMethod yX12_countsBy, Cond.selects RX12 yX12_countsBy yX12_countsBy, Cond.code yX12_countsBy cX12_countsBy 10 (some .int), Cond.methodLink RX12 417 yX12_aboveOf, Cond.instanceMethod yX12_aboveOf, Cond.selects RX12 yX12_aboveOf yX12_aboveOf, Cond.code yX12_aboveOf cX12_aboveOf 6 (some .int), Cond.methodLink RL 136 yX11_load, Cond.instanceMethod yX11_load, Cond.selects RX11 yX11_load yX11_load]
def wsL_law_r57 : List Cond := [Cond.code yX11_load cX11_load 2 (some .int), Cond.fieldLink RX11 301 "MovingStairs$Station" "loads" "LMovingStairs$Loads;", Cond.methodLink RX11 305 yX4_tell, Cond.instanceMethod yX4_tell, Cond.selects RX4 yX4_tell yX4_tell, Cond.code yX4_tell cX4_tell 2 (some .int), Cond.fieldLink RX4 15 "MovingStairs$Loads" "count" "I", Cond.methodLink RL 139 yX12_load, Cond.instanceMethod yX12_load, Cond.selects RX12 yX12_load yX12_load, Cond.code yX12_load cX12_load 2 (some .int), Cond.methodLink RL 140 yX11_unload, Cond.instanceMethod yX11_unload, Cond.selects RX11 yX11_unload yX11_unload, Cond.code yX11_unload cX11_unload 2 (some .int), Cond.fieldLink RX11 309 "MovingStairs$Loads" "count" "I", Cond.methodLink RL 143 yX12_unload, Cond.instanceMethod yX12_unload, Cond.selects RX12 yX12_unload yX12_unload, Cond.code yX12_unload cX12_unload 2 (some .int), Cond.methodLink RL 144 yX11_taken, Cond.instanceMethod yX11_taken, Cond.selects RX11 yX11_taken yX11_taken, Cond.code yX11_taken cX11_taken 3 (some .int)]
def wsL_law_r58 : List Cond := [Cond.methodLink RX11 310 yX4_steppedOn, Cond.instanceMethod yX4_steppedOn, Cond.selects RX4 yX4_steppedOn yX4_steppedOn, Cond.code yX4_steppedOn cX4_steppedOn 14 (some .int), Cond.methodLink RX4 25 Lib.Math.min.name, Cond.methodLink RX4 31 Lib.Math.max.name, Cond.methodLink RL 148 yX12_taken, Cond.instanceMethod yX12_taken, Cond.selects RX12 yX12_taken yX12_taken, Cond.code yX12_taken cX12_taken 9 (some .int), Cond.methodLink RX12 420 yX12_chain, Cond.instanceMethod yX12_chain, Cond.selects RX12 yX12_chain yX12_chain, Cond.code yX12_chain cX12_chain 7 (some .int), Cond.methodLink RL 149 yX11_image, Cond.instanceMethod yX11_image, Cond.selects RX11 yX11_image yX11_image, Cond.code yX11_image cX11_image 1 (some .int), Cond.methodLink RX11 314 yX9_copyAll, Cond.instanceMethod yX9_copyAll, Cond.selects RX9 yX9_copyAll yX9_copyAll, Cond.code yX9_copyAll cX9_copyAll 2 none, Cond.fieldLink RX9 94 "MovingStairs$Station" "textCount" "I", Cond.methodLink RX9 90 yX9_copyMoving]
def wsL_law_r59 : List Cond := [Cond.methodLink RX9 97 yX1_copy, Cond.instanceMethod yX1_copy, Cond.selects RX1 yX1_copy yX1_copy, Cond.code yX1_copy cX1_copy 2 none, Cond.methodLink RX1 22 arraycopyName, Cond.methodLink RX9 101 yX5_copy, Cond.instanceMethod yX5_copy, Cond.selects RX5 yX5_copy yX5_copy, Cond.code yX5_copy cX5_copy 2 none, Cond.methodLink RX5 31 arraycopyName, Cond.methodLink RX9 104 yX4_copy, Cond.instanceMethod yX4_copy, Cond.selects RX4 yX4_copy yX4_copy, Cond.code yX4_copy cX4_copy 2 none, Cond.methodLink RX4 19 arraycopyName, Cond.methodLink RL 152 yX12_image, Cond.instanceMethod yX12_image, Cond.selects RX12 yX12_image yX12_image, Cond.code yX12_image cX12_image 2 (some .int), Cond.methodLink RL 153 yX11_back, Cond.instanceMethod yX11_back, Cond.selects RX11 yX11_back yX11_back, Cond.code yX11_back cX11_back 1 (some .int), Cond.methodLink RL 156 yX12_back]
def wsL_law_r60 : List Cond := [Cond.instanceMethod yX12_back, Cond.selects RX12 yX12_back yX12_back, Cond.code yX12_back cX12_back 2 (some .int), Cond.methodLink RL 157 yX11_about, Cond.instanceMethod yX11_about, Cond.selects RX11 yX11_about yX11_about, Cond.code yX11_about cX11_about 2 (some .int), Cond.fieldLink RX11 317 "MovingStairs$Days" "count" "I", Cond.methodLink RL 160 yX12_about, Cond.instanceMethod yX12_about, Cond.selects RX12 yX12_about yX12_about, Cond.code yX12_about cX12_about 2 (some .int)]
def wsL_law : List Cond := (wsL_law_r1 ++ (wsL_law_r2 ++ (wsL_law_r3 ++ (wsL_law_r4 ++ (wsL_law_r5 ++ (wsL_law_r6 ++ (wsL_law_r7 ++ (wsL_law_r8 ++ (wsL_law_r9 ++ (wsL_law_r10 ++ (wsL_law_r11 ++ (wsL_law_r12 ++ (wsL_law_r13 ++ (wsL_law_r14 ++ (wsL_law_r15 ++ (wsL_law_r16 ++ (wsL_law_r17 ++ (wsL_law_r18 ++ (wsL_law_r19 ++ (wsL_law_r20 ++ (wsL_law_r21 ++ (wsL_law_r22 ++ (wsL_law_r23 ++ (wsL_law_r24 ++ (wsL_law_r25 ++ (wsL_law_r26 ++ (wsL_law_r27 ++ (wsL_law_r28 ++ (wsL_law_r29 ++ (wsL_law_r30 ++ (wsL_law_r31 ++ (wsL_law_r32 ++ (wsL_law_r33 ++ (wsL_law_r34 ++ (wsL_law_r35 ++ (wsL_law_r36 ++ (wsL_law_r37 ++ (wsL_law_r38 ++ (wsL_law_r39 ++ (wsL_law_r40 ++ (wsL_law_r41 ++ (wsL_law_r42 ++ (wsL_law_r43 ++ (wsL_law_r44 ++ (wsL_law_r45 ++ (wsL_law_r46 ++ (wsL_law_r47 ++ (wsL_law_r48 ++ (wsL_law_r49 ++ (wsL_law_r50 ++ (wsL_law_r51 ++ (wsL_law_r52 ++ (wsL_law_r53 ++ (wsL_law_r54 ++ (wsL_law_r55 ++ (wsL_law_r56 ++ (wsL_law_r57 ++ (wsL_law_r58 ++ (wsL_law_r59 ++ wsL_law_r60))))))))))))))))))))))))))))))))))))))))))))))))))))))))))) ++ wsX110 ++ wsX120 ++ wsX90 ++ wsX60 ++ wsX70 ++ wsX100 ++ wsX10 ++ wsX50 ++ wsX40 ++ wsX20 ++ wsX30 ++ wsX00 ++ wsX80 ++ ([] : List Cond)
set_option maxRecDepth 20000 in
theorem wsL_law_in : ∀ w ∈ wsL_law, w ∈ lw_tbl := fun w h => (goodIn_p wsL_law [136, 139, 144, 156, 174, 201, 214, 263, 339, 456, 462, 486, 526, 1250, 578, 581, 585, 588, 1384, 1387, 592, 596, 1391, 1395, 600, 604, 1399, 1403, 609, 613, 617, 621, 1407, 1411, 1415, 1419, 1423, 625, 629, 1427, 633, 1431, 638, 1435, 643, 647, 651, 1440, 1444, 655, 1448, 659, 663, 667, 671, 738, 675, 678, 682, 687, 691, 697, 701, 704, 707, 712, 715, 718, 721, 725, 735, 742, 745, 748, 752, 756, 760, 764, 768, 772, 788, 780, 784, 776, 792, 796, 800, 804, 1452, 1456, 1459, 1463, 1481, 1485, 1489, 1493, 1497, 1501, 1505, 1509, 1513, 1517, 1521, 1525, 1528, 1532, 1535, 1539, 1543, 1547, 1551, 1555, 1559, 809, 1563, 813, 1567, 817, 821, 825, 829, 833, 837, 841, 845, 850, 855, 859, 863, 867, 870, 878, 881, 873, 885, 889, 893, 898, 902, 906, 910, 916, 920, 924, 928, 932, 936, 940, 944, 949, 953, 957, 961, 966, 971, 976, 980, 984, 988, 992, 996, 1001, 1006, 1011, 1017, 1021, 1025, 1592, 1596, 1600, 1604, 1608, 1612, 1616, 1620, 1624, 1628, 1631, 1634, 1640, 1644, 1575, 1580, 1584, 1588, 1648, 1652, 1658, 1662, 1666, 1670, 1674, 1678, 1682, 1686, 1690, 1694, 1698, 1031, 1702, 1035, 1706, 1039, 1710, 1044, 1571, 1050, 1714, 1054, 1058, 1061, 1068, 1072, 1076, 1080, 1087, 1092, 1718, 1722, 1726, 1731, 1735, 1096, 1100, 1104, 1739, 1109, 1743, 1747, 1115, 1120, 1751, 1124, 1127, 1131, 1135, 1756, 1760, 1764, 1144, 1768, 1148, 1152, 1772, 1156, 1160, 1776, 1780, 1166, 1170, 1785, 1174, 1178, 1183, 1187, 1191, 1789, 1793, 1797, 1195, 1199, 1801, 1203, 1805, 1207, 1211, 1809, 1813, 1217, 1221, 1226, 1231, 1236, 1817, 1241, 1821, 1245, 1825] (by decide +kernel) (by decide +kernel) w h).1
theorem inlX0 : ∀ w ∈ wsX00, w ∈ wsL_law := fun _ h => List.mem_append_left _ (List.mem_append_left _ (List.mem_append_right _ h))
theorem inX0 : ∀ w ∈ wsX00, w ∈ lw_tbl := fun w h => wsL_law_in w (inlX0 w h)
theorem inlX1 : ∀ w ∈ wsX10, w ∈ wsL_law := fun _ h => List.mem_append_left _ (List.mem_append_left _ (List.mem_append_left _ (List.mem_append_left _ (List.mem_append_left _ (List.mem_append_left _ (List.mem_append_left _ (List.mem_append_right _ h)))))))
theorem inX1 : ∀ w ∈ wsX10, w ∈ lw_tbl := fun w h => wsL_law_in w (inlX1 w h)
theorem inlX2 : ∀ w ∈ wsX20, w ∈ wsL_law := fun _ h => List.mem_append_left _ (List.mem_append_left _ (List.mem_append_left _ (List.mem_append_left _ (List.mem_append_right _ h))))
theorem inX2 : ∀ w ∈ wsX20, w ∈ lw_tbl := fun w h => wsL_law_in w (inlX2 w h)
theorem inlX3 : ∀ w ∈ wsX30, w ∈ wsL_law := fun _ h => List.mem_append_left _ (List.mem_append_left _ (List.mem_append_left _ (List.mem_append_right _ h)))
theorem inX3 : ∀ w ∈ wsX30, w ∈ lw_tbl := fun w h => wsL_law_in w (inlX3 w h)
theorem inlX4 : ∀ w ∈ wsX40, w ∈ wsL_law := fun _ h => List.mem_append_left _ (List.mem_append_left _ (List.mem_append_left _ (List.mem_append_left _ (List.mem_append_left _ (List.mem_append_right _ h)))))
theorem inX4 : ∀ w ∈ wsX40, w ∈ lw_tbl := fun w h => wsL_law_in w (inlX4 w h)
theorem inlX5 : ∀ w ∈ wsX50, w ∈ wsL_law := fun _ h => List.mem_append_left _ (List.mem_append_left _ (List.mem_append_left _ (List.mem_append_left _ (List.mem_append_left _ (List.mem_append_left _ (List.mem_append_right _ h))))))
theorem inX5 : ∀ w ∈ wsX50, w ∈ lw_tbl := fun w h => wsL_law_in w (inlX5 w h)
theorem inlX6 : ∀ w ∈ wsX60, w ∈ wsL_law := fun _ h => List.mem_append_left _ (List.mem_append_left _ (List.mem_append_left _ (List.mem_append_left _ (List.mem_append_left _ (List.mem_append_left _ (List.mem_append_left _ (List.mem_append_left _ (List.mem_append_left _ (List.mem_append_left _ (List.mem_append_right _ h))))))))))
theorem inX6 : ∀ w ∈ wsX60, w ∈ lw_tbl := fun w h => wsL_law_in w (inlX6 w h)
theorem inlX7 : ∀ w ∈ wsX70, w ∈ wsL_law := fun _ h => List.mem_append_left _ (List.mem_append_left _ (List.mem_append_left _ (List.mem_append_left _ (List.mem_append_left _ (List.mem_append_left _ (List.mem_append_left _ (List.mem_append_left _ (List.mem_append_left _ (List.mem_append_right _ h)))))))))
theorem inX7 : ∀ w ∈ wsX70, w ∈ lw_tbl := fun w h => wsL_law_in w (inlX7 w h)
theorem inlX8 : ∀ w ∈ wsX80, w ∈ wsL_law := fun _ h => List.mem_append_left _ (List.mem_append_right _ h)
theorem inX8 : ∀ w ∈ wsX80, w ∈ lw_tbl := fun w h => wsL_law_in w (inlX8 w h)
theorem inlX9 : ∀ w ∈ wsX90, w ∈ wsL_law := fun _ h => List.mem_append_left _ (List.mem_append_left _ (List.mem_append_left _ (List.mem_append_left _ (List.mem_append_left _ (List.mem_append_left _ (List.mem_append_left _ (List.mem_append_left _ (List.mem_append_left _ (List.mem_append_left _ (List.mem_append_left _ (List.mem_append_right _ h)))))))))))
theorem inX9 : ∀ w ∈ wsX90, w ∈ lw_tbl := fun w h => wsL_law_in w (inlX9 w h)
theorem inlX10 : ∀ w ∈ wsX100, w ∈ wsL_law := fun _ h => List.mem_append_left _ (List.mem_append_left _ (List.mem_append_left _ (List.mem_append_left _ (List.mem_append_left _ (List.mem_append_left _ (List.mem_append_left _ (List.mem_append_left _ (List.mem_append_right _ h))))))))
theorem inX10 : ∀ w ∈ wsX100, w ∈ lw_tbl := fun w h => wsL_law_in w (inlX10 w h)
theorem inlX11 : ∀ w ∈ wsX110, w ∈ wsL_law := fun _ h => List.mem_append_left _ (List.mem_append_left _ (List.mem_append_left _ (List.mem_append_left _ (List.mem_append_left _ (List.mem_append_left _ (List.mem_append_left _ (List.mem_append_left _ (List.mem_append_left _ (List.mem_append_left _ (List.mem_append_left _ (List.mem_append_left _ (List.mem_append_left _ (List.mem_append_right _ h)))))))))))))
theorem inX11 : ∀ w ∈ wsX110, w ∈ lw_tbl := fun w h => wsL_law_in w (inlX11 w h)
theorem inlX12 : ∀ w ∈ wsX120, w ∈ wsL_law := fun _ h => List.mem_append_left _ (List.mem_append_left _ (List.mem_append_left _ (List.mem_append_left _ (List.mem_append_left _ (List.mem_append_left _ (List.mem_append_left _ (List.mem_append_left _ (List.mem_append_left _ (List.mem_append_left _ (List.mem_append_left _ (List.mem_append_left _ (List.mem_append_right _ h))))))))))))
theorem inX12 : ∀ w ∈ wsX120, w ∈ lw_tbl := fun w h => wsL_law_in w (inlX12 w h)
abbrev vwCl : List vw_C := [(RX0, TX0, 7), (RX1, TX1, 3), (RX2, TX2, 9), (RX3, TX3, 14), (RX4, TX4, 2), (RX5, TX5, 6), (RX6, TX6, 2), (RX7, TX7, 10), (RX8, TX8, 3), (RX9, TX9, 16), (RX10, TX10, 7), (RX11, TX11, 7), (RX12, TX12, 42)]
