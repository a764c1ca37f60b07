-- ===== PART A: goes FIRST, ahead of the names: the tables' words, and 'selects' of the private methods out of them =====
/-- a private method of a class that the tables say can be made, by its rows of tables_1 -/
def lw_okq (q : MethodName × Nat) : Prop := (q.1.cls ≠ "java/lang/invoke/MethodHandle" ∧ q.1.cls ≠ "java/lang/invoke/VarHandle") ∧ Cond.instantiable q.1.cls q.2 ∈ tables_1 ∧ Cond.privateMethod q.1 ∈ tables_1 ∧ Cond.instanceMethod q.1 ∈ tables_1
theorem lw_p0 : lw_okq (⟨"MovingStairs$Reader", "cut", "()V"⟩, 10) := ⟨⟨by decide +kernel, by decide +kernel⟩, List.mem_of_getElem? (i := 373) (by decide +kernel), List.mem_of_getElem? (i := 555) (by decide +kernel), List.mem_of_getElem? (i := 556) (by decide +kernel)⟩
theorem lw_p1 : lw_okq (⟨"MovingStairs$Reader", "cutOne", "(I)I"⟩, 10) := ⟨⟨by decide +kernel, by decide +kernel⟩, List.mem_of_getElem? (i := 373) (by decide +kernel), List.mem_of_getElem? (i := 559) (by decide +kernel), List.mem_of_getElem? (i := 560) (by decide +kernel)⟩
theorem lw_p2 : lw_okq (⟨"MovingStairs$Reader", "byteAt", "(I)I"⟩, 10) := ⟨⟨by decide +kernel, by decide +kernel⟩, List.mem_of_getElem? (i := 373) (by decide +kernel), List.mem_of_getElem? (i := 563) (by decide +kernel), List.mem_of_getElem? (i := 564) (by decide +kernel)⟩
theorem lw_p3 : lw_okq (⟨"MovingStairs$Reader", "addWord", "(II)V"⟩, 10) := ⟨⟨by decide +kernel, by decide +kernel⟩, List.mem_of_getElem? (i := 373) (by decide +kernel), List.mem_of_getElem? (i := 570) (by decide +kernel), List.mem_of_getElem? (i := 571) (by decide +kernel)⟩
theorem lw_p4 : lw_okq (⟨"MovingStairs$Reader", "isWord", "(IIII)Z"⟩, 10) := ⟨⟨by decide +kernel, by decide +kernel⟩, List.mem_of_getElem? (i := 373) (by decide +kernel), List.mem_of_getElem? (i := 623) (by decide +kernel), List.mem_of_getElem? (i := 624) (by decide +kernel)⟩
theorem lw_p5 : lw_okq (⟨"MovingStairs$Reader", "addToken", "(III)V"⟩, 10) := ⟨⟨by decide +kernel, by decide +kernel⟩, List.mem_of_getElem? (i := 373) (by decide +kernel), List.mem_of_getElem? (i := 630) (by decide +kernel), List.mem_of_getElem? (i := 631) (by decide +kernel)⟩
theorem lw_p6 : lw_okq (⟨"MovingStairs$Reader", "kind", "()I"⟩, 10) := ⟨⟨by decide +kernel, by decide +kernel⟩, List.mem_of_getElem? (i := 373) (by decide +kernel), List.mem_of_getElem? (i := 640) (by decide +kernel), List.mem_of_getElem? (i := 641) (by decide +kernel)⟩
theorem lw_p7 : lw_okq (⟨"MovingStairs$Reader", "readClause", "(LMovingStairs$Text;)Z"⟩, 10) := ⟨⟨by decide +kernel, by decide +kernel⟩, List.mem_of_getElem? (i := 373) (by decide +kernel), List.mem_of_getElem? (i := 644) (by decide +kernel), List.mem_of_getElem? (i := 645) (by decide +kernel)⟩
theorem lw_p8 : lw_okq (⟨"MovingStairs$Reader", "fails", "(I)Z"⟩, 10) := ⟨⟨by decide +kernel, by decide +kernel⟩, List.mem_of_getElem? (i := 373) (by decide +kernel), List.mem_of_getElem? (i := 648) (by decide +kernel), List.mem_of_getElem? (i := 649) (by decide +kernel)⟩
theorem lw_p9 : lw_okq (⟨"MovingStairs$Reader", "readSum", "(LMovingStairs$Text;I)Z"⟩, 10) := ⟨⟨by decide +kernel, by decide +kernel⟩, List.mem_of_getElem? (i := 373) (by decide +kernel), List.mem_of_getElem? (i := 660) (by decide +kernel), List.mem_of_getElem? (i := 661) (by decide +kernel)⟩
theorem lw_p10 : lw_okq (⟨"MovingStairs$Reader", "readProduct", "(LMovingStairs$Text;I)Z"⟩, 10) := ⟨⟨by decide +kernel, by decide +kernel⟩, List.mem_of_getElem? (i := 373) (by decide +kernel), List.mem_of_getElem? (i := 664) (by decide +kernel), List.mem_of_getElem? (i := 665) (by decide +kernel)⟩
theorem lw_p11 : lw_okq (⟨"MovingStairs$Reader", "readOne", "(LMovingStairs$Text;I)Z"⟩, 10) := ⟨⟨by decide +kernel, by decide +kernel⟩, List.mem_of_getElem? (i := 373) (by decide +kernel), List.mem_of_getElem? (i := 668) (by decide +kernel), List.mem_of_getElem? (i := 669) (by decide +kernel)⟩
theorem lw_p12 : lw_okq (⟨"MovingStairs$Reader", "value", "()I"⟩, 10) := ⟨⟨by decide +kernel, by decide +kernel⟩, List.mem_of_getElem? (i := 373) (by decide +kernel), List.mem_of_getElem? (i := 672) (by decide +kernel), List.mem_of_getElem? (i := 673) (by decide +kernel)⟩
theorem lw_p13 : lw_okq (⟨"MovingStairs$Reader", "readEither", "(LMovingStairs$Text;)Z"⟩, 10) := ⟨⟨by decide +kernel, by decide +kernel⟩, List.mem_of_getElem? (i := 373) (by decide +kernel), List.mem_of_getElem? (i := 680) (by decide +kernel), List.mem_of_getElem? (i := 681) (by decide +kernel)⟩
theorem lw_p14 : lw_okq (⟨"MovingStairs$Reader", "readBoth", "(LMovingStairs$Text;)Z"⟩, 10) := ⟨⟨by decide +kernel, by decide +kernel⟩, List.mem_of_getElem? (i := 373) (by decide +kernel), List.mem_of_getElem? (i := 684) (by decide +kernel), List.mem_of_getElem? (i := 685) (by decide +kernel)⟩
theorem lw_p15 : lw_okq (⟨"MovingStairs$Reader", "readAsk", "(LMovingStairs$Text;I)Z"⟩, 10) := ⟨⟨by decide +kernel, by decide +kernel⟩, List.mem_of_getElem? (i := 373) (by decide +kernel), List.mem_of_getElem? (i := 688) (by decide +kernel), List.mem_of_getElem? (i := 689) (by decide +kernel)⟩
def lw_privs_1 : List (MethodName × Nat) := [(⟨"MovingStairs$Reader", "cut", "()V"⟩, 10), (⟨"MovingStairs$Reader", "cutOne", "(I)I"⟩, 10), (⟨"MovingStairs$Reader", "byteAt", "(I)I"⟩, 10), (⟨"MovingStairs$Reader", "addWord", "(II)V"⟩, 10), (⟨"MovingStairs$Reader", "isWord", "(IIII)Z"⟩, 10), (⟨"MovingStairs$Reader", "addToken", "(III)V"⟩, 10), (⟨"MovingStairs$Reader", "kind", "()I"⟩, 10), (⟨"MovingStairs$Reader", "readClause", "(LMovingStairs$Text;)Z"⟩, 10), (⟨"MovingStairs$Reader", "fails", "(I)Z"⟩, 10), (⟨"MovingStairs$Reader", "readSum", "(LMovingStairs$Text;I)Z"⟩, 10), (⟨"MovingStairs$Reader", "readProduct", "(LMovingStairs$Text;I)Z"⟩, 10), (⟨"MovingStairs$Reader", "readOne", "(LMovingStairs$Text;I)Z"⟩, 10), (⟨"MovingStairs$Reader", "value", "()I"⟩, 10), (⟨"MovingStairs$Reader", "readEither", "(LMovingStairs$Text;)Z"⟩, 10), (⟨"MovingStairs$Reader", "readBoth", "(LMovingStairs$Text;)Z"⟩, 10), (⟨"MovingStairs$Reader", "readAsk", "(LMovingStairs$Text;I)Z"⟩, 10)]
theorem lw_r1 : ∀ q ∈ lw_privs_1, lw_okq q := List.forall_mem_cons.mpr ⟨lw_p0, List.forall_mem_cons.mpr ⟨lw_p1, List.forall_mem_cons.mpr ⟨lw_p2, List.forall_mem_cons.mpr ⟨lw_p3, List.forall_mem_cons.mpr ⟨lw_p4, List.forall_mem_cons.mpr ⟨lw_p5, List.forall_mem_cons.mpr ⟨lw_p6, List.forall_mem_cons.mpr ⟨lw_p7, List.forall_mem_cons.mpr ⟨lw_p8, List.forall_mem_cons.mpr ⟨lw_p9, List.forall_mem_cons.mpr ⟨lw_p10, List.forall_mem_cons.mpr ⟨lw_p11, List.forall_mem_cons.mpr ⟨lw_p12, List.forall_mem_cons.mpr ⟨lw_p13, List.forall_mem_cons.mpr ⟨lw_p14, List.forall_mem_cons.mpr ⟨lw_p15, fun _ h => absurd h List.not_mem_nil⟩⟩⟩⟩⟩⟩⟩⟩⟩⟩⟩⟩⟩⟩⟩⟩
theorem lw_p16 : lw_okq (⟨"MovingStairs", "mayRun", "(I)Z"⟩, 7) := ⟨⟨by decide +kernel, by decide +kernel⟩, List.mem_of_getElem? (i := 23) (by decide +kernel), List.mem_of_getElem? (i := 709) (by decide +kernel), List.mem_of_getElem? (i := 710) (by decide +kernel)⟩
theorem lw_p17 : lw_okq (⟨"MovingStairs", "law", "()LMovingStairs$Text;"⟩, 7) := ⟨⟨by decide +kernel, by decide +kernel⟩, List.mem_of_getElem? (i := 23) (by decide +kernel), List.mem_of_getElem? (i := 713) (by decide +kernel), List.mem_of_getElem? (i := 714) (by decide +kernel)⟩
theorem lw_p18 : lw_okq (⟨"MovingStairs$Mover", "comeInBursts", "(LMovingStairs$Station;LMovingStairs$Text;)V"⟩, 2) := ⟨⟨by decide +kernel, by decide +kernel⟩, List.mem_of_getElem? (i := 343) (by decide +kernel), List.mem_of_getElem? (i := 729) (by decide +kernel), List.mem_of_getElem? (i := 730) (by decide +kernel)⟩
theorem lw_p19 : lw_okq (⟨"MovingStairs$Mover", "isSo", "(LMovingStairs$Station;LMovingStairs$Text;II)Z"⟩, 2) := ⟨⟨by decide +kernel, by decide +kernel⟩, List.mem_of_getElem? (i := 343) (by decide +kernel), List.mem_of_getElem? (i := 747) (by decide +kernel), List.mem_of_getElem? (i := 748) (by decide +kernel)⟩
theorem lw_p20 : lw_okq (⟨"MovingStairs$Text", "worth", "(II[I)I"⟩, 7) := ⟨⟨by decide +kernel, by decide +kernel⟩, List.mem_of_getElem? (i := 413) (by decide +kernel), List.mem_of_getElem? (i := 755) (by decide +kernel), List.mem_of_getElem? (i := 756) (by decide +kernel)⟩
theorem lw_p21 : lw_okq (⟨"MovingStairs$Mover", "openHalls", "(LMovingStairs$Station;LMovingStairs$Text;)V"⟩, 2) := ⟨⟨by decide +kernel, by decide +kernel⟩, List.mem_of_getElem? (i := 343) (by decide +kernel), List.mem_of_getElem? (i := 777) (by decide +kernel), List.mem_of_getElem? (i := 778) (by decide +kernel)⟩
theorem lw_p22 : lw_okq (⟨"MovingStairs$Mover", "letIn", "(LMovingStairs$Station;I)V"⟩, 2) := ⟨⟨by decide +kernel, by decide +kernel⟩, List.mem_of_getElem? (i := 343) (by decide +kernel), List.mem_of_getElem? (i := 781) (by decide +kernel), List.mem_of_getElem? (i := 782) (by decide +kernel)⟩
theorem lw_p23 : lw_okq (⟨"MovingStairs$Mover", "turnEmptyLinks", "(LMovingStairs$Station;)V"⟩, 2) := ⟨⟨by decide +kernel, by decide +kernel⟩, List.mem_of_getElem? (i := 343) (by decide +kernel), List.mem_of_getElem? (i := 786) (by decide +kernel), List.mem_of_getElem? (i := 787) (by decide +kernel)⟩
theorem lw_p24 : lw_okq (⟨"MovingStairs$Routes", "findFor", "(LMovingStairs$Station;I)V"⟩, 3) := ⟨⟨by decide +kernel, by decide +kernel⟩, List.mem_of_getElem? (i := 349) (by decide +kernel), List.mem_of_getElem? (i := 798) (by decide +kernel), List.mem_of_getElem? (i := 799) (by decide +kernel)⟩
theorem lw_p25 : lw_okq (⟨"MovingStairs$Routes", "leads", "(LMovingStairs$Link;II)Z"⟩, 3) := ⟨⟨by decide +kernel, by decide +kernel⟩, List.mem_of_getElem? (i := 349) (by decide +kernel), List.mem_of_getElem? (i := 804) (by decide +kernel), List.mem_of_getElem? (i := 805) (by decide +kernel)⟩
theorem lw_p26 : lw_okq (⟨"MovingStairs$Routes", "shorten", "(III)V"⟩, 3) := ⟨⟨by decide +kernel, by decide +kernel⟩, List.mem_of_getElem? (i := 349) (by decide +kernel), List.mem_of_getElem? (i := 816) (by decide +kernel), List.mem_of_getElem? (i := 817) (by decide +kernel)⟩
theorem lw_p27 : lw_okq (⟨"MovingStairs$Routes", "between", "(II)I"⟩, 3) := ⟨⟨by decide +kernel, by decide +kernel⟩, List.mem_of_getElem? (i := 349) (by decide +kernel), List.mem_of_getElem? (i := 820) (by decide +kernel), List.mem_of_getElem? (i := 821) (by decide +kernel)⟩
theorem lw_p28 : lw_okq (⟨"MovingStairs$Routes", "lowestFirst", "(LMovingStairs$Station;III)I"⟩, 3) := ⟨⟨by decide +kernel, by decide +kernel⟩, List.mem_of_getElem? (i := 349) (by decide +kernel), List.mem_of_getElem? (i := 824) (by decide +kernel), List.mem_of_getElem? (i := 825) (by decide +kernel)⟩
theorem lw_p29 : lw_okq (⟨"MovingStairs$Mover", "moveLinks", "(LMovingStairs$Station;LMovingStairs$Text;)V"⟩, 2) := ⟨⟨by decide +kernel, by decide +kernel⟩, List.mem_of_getElem? (i := 343) (by decide +kernel), List.mem_of_getElem? (i := 828) (by decide +kernel), List.mem_of_getElem? (i := 829) (by decide +kernel)⟩
theorem lw_p30 : lw_okq (⟨"MovingStairs$Mover", "lift", "(LMovingStairs$Station;III)V"⟩, 2) := ⟨⟨by decide +kernel, by decide +kernel⟩, List.mem_of_getElem? (i := 343) (by decide +kernel), List.mem_of_getElem? (i := 832) (by decide +kernel), List.mem_of_getElem? (i := 833) (by decide +kernel)⟩
theorem lw_p31 : lw_okq (⟨"MovingStairs$Mover", "goalOfMost", "(LMovingStairs$Station;III)I"⟩, 2) := ⟨⟨by decide +kernel, by decide +kernel⟩, List.mem_of_getElem? (i := 343) (by decide +kernel), List.mem_of_getElem? (i := 837) (by decide +kernel), List.mem_of_getElem? (i := 838) (by decide +kernel)⟩
def lw_privs_2 : List (MethodName × Nat) := [(⟨"MovingStairs", "mayRun", "(I)Z"⟩, 7), (⟨"MovingStairs", "law", "()LMovingStairs$Text;"⟩, 7), (⟨"MovingStairs$Mover", "comeInBursts", "(LMovingStairs$Station;LMovingStairs$Text;)V"⟩, 2), (⟨"MovingStairs$Mover", "isSo", "(LMovingStairs$Station;LMovingStairs$Text;II)Z"⟩, 2), (⟨"MovingStairs$Text", "worth", "(II[I)I"⟩, 7), (⟨"MovingStairs$Mover", "openHalls", "(LMovingStairs$Station;LMovingStairs$Text;)V"⟩, 2), (⟨"MovingStairs$Mover", "letIn", "(LMovingStairs$Station;I)V"⟩, 2), (⟨"MovingStairs$Mover", "turnEmptyLinks", "(LMovingStairs$Station;)V"⟩, 2), (⟨"MovingStairs$Routes", "findFor", "(LMovingStairs$Station;I)V"⟩, 3), (⟨"MovingStairs$Routes", "leads", "(LMovingStairs$Link;II)Z"⟩, 3), (⟨"MovingStairs$Routes", "shorten", "(III)V"⟩, 3), (⟨"MovingStairs$Routes", "between", "(II)I"⟩, 3), (⟨"MovingStairs$Routes", "lowestFirst", "(LMovingStairs$Station;III)I"⟩, 3), (⟨"MovingStairs$Mover", "moveLinks", "(LMovingStairs$Station;LMovingStairs$Text;)V"⟩, 2), (⟨"MovingStairs$Mover", "lift", "(LMovingStairs$Station;III)V"⟩, 2), (⟨"MovingStairs$Mover", "goalOfMost", "(LMovingStairs$Station;III)I"⟩, 2)]
theorem lw_r2 : ∀ q ∈ lw_privs_2, lw_okq q := List.forall_mem_cons.mpr ⟨lw_p16, List.forall_mem_cons.mpr ⟨lw_p17, List.forall_mem_cons.mpr ⟨lw_p18, List.forall_mem_cons.mpr ⟨lw_p19, List.forall_mem_cons.mpr ⟨lw_p20, List.forall_mem_cons.mpr ⟨lw_p21, List.forall_mem_cons.mpr ⟨lw_p22, List.forall_mem_cons.mpr ⟨lw_p23, List.forall_mem_cons.mpr ⟨lw_p24, List.forall_mem_cons.mpr ⟨lw_p25, List.forall_mem_cons.mpr ⟨lw_p26, List.forall_mem_cons.mpr ⟨lw_p27, List.forall_mem_cons.mpr ⟨lw_p28, List.forall_mem_cons.mpr ⟨lw_p29, List.forall_mem_cons.mpr ⟨lw_p30, List.forall_mem_cons.mpr ⟨lw_p31, fun _ h => absurd h List.not_mem_nil⟩⟩⟩⟩⟩⟩⟩⟩⟩⟩⟩⟩⟩⟩⟩⟩
theorem lw_p32 : lw_okq (⟨"MovingStairs$Mover", "walkOf", "(LMovingStairs$Station;LMovingStairs$Text;LMovingStairs$Link;)I"⟩, 2) := ⟨⟨by decide +kernel, by decide +kernel⟩, List.mem_of_getElem? (i := 343) (by decide +kernel), List.mem_of_getElem? (i := 854) (by decide +kernel), List.mem_of_getElem? (i := 855) (by decide +kernel)⟩
theorem lw_p33 : lw_okq (⟨"MovingStairs$Mover", "stepOff", "(LMovingStairs$Station;LMovingStairs$Link;I)Z"⟩, 2) := ⟨⟨by decide +kernel, by decide +kernel⟩, List.mem_of_getElem? (i := 343) (by decide +kernel), List.mem_of_getElem? (i := 884) (by decide +kernel), List.mem_of_getElem? (i := 885) (by decide +kernel)⟩
theorem lw_p34 : lw_okq (⟨"MovingStairs$Mover", "moveFixed", "(LMovingStairs$Station;LMovingStairs$Link;)V"⟩, 2) := ⟨⟨by decide +kernel, by decide +kernel⟩, List.mem_of_getElem? (i := 343) (by decide +kernel), List.mem_of_getElem? (i := 894) (by decide +kernel), List.mem_of_getElem? (i := 895) (by decide +kernel)⟩
theorem lw_p35 : lw_okq (⟨"MovingStairs$Mover", "countSecond", "(LMovingStairs$Station;)V"⟩, 2) := ⟨⟨by decide +kernel, by decide +kernel⟩, List.mem_of_getElem? (i := 343) (by decide +kernel), List.mem_of_getElem? (i := 909) (by decide +kernel), List.mem_of_getElem? (i := 910) (by decide +kernel)⟩
theorem lw_p36 : lw_okq (⟨"MovingStairs", "mayTurn", "(I)Z"⟩, 7) := ⟨⟨by decide +kernel, by decide +kernel⟩, List.mem_of_getElem? (i := 23) (by decide +kernel), List.mem_of_getElem? (i := 946) (by decide +kernel), List.mem_of_getElem? (i := 947) (by decide +kernel)⟩
theorem lw_p37 : lw_okq (⟨"MovingStairs", "waitedByWays", "(III)I"⟩, 7) := ⟨⟨by decide +kernel, by decide +kernel⟩, List.mem_of_getElem? (i := 23) (by decide +kernel), List.mem_of_getElem? (i := 956) (by decide +kernel), List.mem_of_getElem? (i := 957) (by decide +kernel)⟩
theorem lw_p38 : lw_okq (⟨"MovingStairs", "beginTrial", "()LMovingStairs$Text;"⟩, 7) := ⟨⟨by decide +kernel, by decide +kernel⟩, List.mem_of_getElem? (i := 23) (by decide +kernel), List.mem_of_getElem? (i := 960) (by decide +kernel), List.mem_of_getElem? (i := 961) (by decide +kernel)⟩
theorem lw_p39 : lw_okq (⟨"MovingStairs", "shutByBar", "(III)I"⟩, 7) := ⟨⟨by decide +kernel, by decide +kernel⟩, List.mem_of_getElem? (i := 23) (by decide +kernel), List.mem_of_getElem? (i := 988) (by decide +kernel), List.mem_of_getElem? (i := 989) (by decide +kernel)⟩
theorem lw_p40 : lw_okq (⟨"MovingStairs", "offByMode", "(III)I"⟩, 7) := ⟨⟨by decide +kernel, by decide +kernel⟩, List.mem_of_getElem? (i := 23) (by decide +kernel), List.mem_of_getElem? (i := 1008) (by decide +kernel), List.mem_of_getElem? (i := 1009) (by decide +kernel)⟩
theorem lw_p41 : lw_okq (⟨"MovingStairs", "carriedAlone", "(IIII)I"⟩, 7) := ⟨⟨by decide +kernel, by decide +kernel⟩, List.mem_of_getElem? (i := 23) (by decide +kernel), List.mem_of_getElem? (i := 1019) (by decide +kernel), List.mem_of_getElem? (i := 1020) (by decide +kernel)⟩
theorem lw_p42 : lw_okq (⟨"MovingStairs$Mends", "bestNext", "(I)I"⟩, 6) := ⟨⟨by decide +kernel, by decide +kernel⟩, List.mem_of_getElem? (i := 61) (by decide +kernel), List.mem_of_getElem? (i := 1071) (by decide +kernel), List.mem_of_getElem? (i := 1072) (by decide +kernel)⟩
theorem lw_p43 : lw_okq (⟨"MovingStairs$Mends", "countBy", "(II)I"⟩, 6) := ⟨⟨by decide +kernel, by decide +kernel⟩, List.mem_of_getElem? (i := 61) (by decide +kernel), List.mem_of_getElem? (i := 1075) (by decide +kernel), List.mem_of_getElem? (i := 1076) (by decide +kernel)⟩
theorem lw_p44 : lw_okq (⟨"MovingStairsModel", "isHall", "(I)Z"⟩, 42) := ⟨⟨by decide +kernel, by decide +kernel⟩, List.mem_of_getElem? (i := 1137) (by decide +kernel), List.mem_of_getElem? (i := 1283) (by decide +kernel), List.mem_of_getElem? (i := 1284) (by decide +kernel)⟩
theorem lw_p45 : lw_okq (⟨"MovingStairsModel", "tells", "(III)V"⟩, 42) := ⟨⟨by decide +kernel, by decide +kernel⟩, List.mem_of_getElem? (i := 1137) (by decide +kernel), List.mem_of_getElem? (i := 1291) (by decide +kernel), List.mem_of_getElem? (i := 1292) (by decide +kernel)⟩
theorem lw_p46 : lw_okq (⟨"MovingStairsModel", "isStairs", "(I)Z"⟩, 42) := ⟨⟨by decide +kernel, by decide +kernel⟩, List.mem_of_getElem? (i := 1137) (by decide +kernel), List.mem_of_getElem? (i := 1299) (by decide +kernel), List.mem_of_getElem? (i := 1300) (by decide +kernel)⟩
theorem lw_p47 : lw_okq (⟨"MovingStairsModel", "isLink", "(I)Z"⟩, 42) := ⟨⟨by decide +kernel, by decide +kernel⟩, List.mem_of_getElem? (i := 1137) (by decide +kernel), List.mem_of_getElem? (i := 1303) (by decide +kernel), List.mem_of_getElem? (i := 1304) (by decide +kernel)⟩
def lw_privs_3 : List (MethodName × Nat) := [(⟨"MovingStairs$Mover", "walkOf", "(LMovingStairs$Station;LMovingStairs$Text;LMovingStairs$Link;)I"⟩, 2), (⟨"MovingStairs$Mover", "stepOff", "(LMovingStairs$Station;LMovingStairs$Link;I)Z"⟩, 2), (⟨"MovingStairs$Mover", "moveFixed", "(LMovingStairs$Station;LMovingStairs$Link;)V"⟩, 2), (⟨"MovingStairs$Mover", "countSecond", "(LMovingStairs$Station;)V"⟩, 2), (⟨"MovingStairs", "mayTurn", "(I)Z"⟩, 7), (⟨"MovingStairs", "waitedByWays", "(III)I"⟩, 7), (⟨"MovingStairs", "beginTrial", "()LMovingStairs$Text;"⟩, 7), (⟨"MovingStairs", "shutByBar", "(III)I"⟩, 7), (⟨"MovingStairs", "offByMode", "(III)I"⟩, 7), (⟨"MovingStairs", "carriedAlone", "(IIII)I"⟩, 7), (⟨"MovingStairs$Mends", "bestNext", "(I)I"⟩, 6), (⟨"MovingStairs$Mends", "countBy", "(II)I"⟩, 6), (⟨"MovingStairsModel", "isHall", "(I)Z"⟩, 42), (⟨"MovingStairsModel", "tells", "(III)V"⟩, 42), (⟨"MovingStairsModel", "isStairs", "(I)Z"⟩, 42), (⟨"MovingStairsModel", "isLink", "(I)Z"⟩, 42)]
theorem lw_r3 : ∀ q ∈ lw_privs_3, lw_okq q := List.forall_mem_cons.mpr ⟨lw_p32, List.forall_mem_cons.mpr ⟨lw_p33, List.forall_mem_cons.mpr ⟨lw_p34, List.forall_mem_cons.mpr ⟨lw_p35, List.forall_mem_cons.mpr ⟨lw_p36, List.forall_mem_cons.mpr ⟨lw_p37, List.forall_mem_cons.mpr ⟨lw_p38, List.forall_mem_cons.mpr ⟨lw_p39, List.forall_mem_cons.mpr ⟨lw_p40, List.forall_mem_cons.mpr ⟨lw_p41, List.forall_mem_cons.mpr ⟨lw_p42, List.forall_mem_cons.mpr ⟨lw_p43, List.forall_mem_cons.mpr ⟨lw_p44, List.forall_mem_cons.mpr ⟨lw_p45, List.forall_mem_cons.mpr ⟨lw_p46, List.forall_mem_cons.mpr ⟨lw_p47, fun _ h => absurd h List.not_mem_nil⟩⟩⟩⟩⟩⟩⟩⟩⟩⟩⟩⟩⟩⟩⟩⟩
theorem lw_p48 : lw_okq (⟨"MovingStairsModel", "linkOf", "(II)I"⟩, 42) := ⟨⟨by decide +kernel, by decide +kernel⟩, List.mem_of_getElem? (i := 1137) (by decide +kernel), List.mem_of_getElem? (i := 1307) (by decide +kernel), List.mem_of_getElem? (i := 1308) (by decide +kernel)⟩
theorem lw_p49 : lw_okq (⟨"MovingStairsModel", "loadOf", "(I)I"⟩, 42) := ⟨⟨by decide +kernel, by decide +kernel⟩, List.mem_of_getElem? (i := 1137) (by decide +kernel), List.mem_of_getElem? (i := 1311) (by decide +kernel), List.mem_of_getElem? (i := 1312) (by decide +kernel)⟩
theorem lw_p50 : lw_okq (⟨"MovingStairsModel", "put", "(I)V"⟩, 42) := ⟨⟨by decide +kernel, by decide +kernel⟩, List.mem_of_getElem? (i := 1137) (by decide +kernel), List.mem_of_getElem? (i := 1332) (by decide +kernel), List.mem_of_getElem? (i := 1333) (by decide +kernel)⟩
theorem lw_p51 : lw_okq (⟨"MovingStairsModel", "next", "()V"⟩, 42) := ⟨⟨by decide +kernel, by decide +kernel⟩, List.mem_of_getElem? (i := 1137) (by decide +kernel), List.mem_of_getElem? (i := 1344) (by decide +kernel), List.mem_of_getElem? (i := 1345) (by decide +kernel)⟩
theorem lw_p52 : lw_okq (⟨"MovingStairsModel", "asks", "()V"⟩, 42) := ⟨⟨by decide +kernel, by decide +kernel⟩, List.mem_of_getElem? (i := 1137) (by decide +kernel), List.mem_of_getElem? (i := 1369) (by decide +kernel), List.mem_of_getElem? (i := 1370) (by decide +kernel)⟩
theorem lw_p53 : lw_okq (⟨"MovingStairsModel", "isWord", "(I)Z"⟩, 42) := ⟨⟨by decide +kernel, by decide +kernel⟩, List.mem_of_getElem? (i := 1137) (by decide +kernel), List.mem_of_getElem? (i := 1373) (by decide +kernel), List.mem_of_getElem? (i := 1374) (by decide +kernel)⟩
theorem lw_p54 : lw_okq (⟨"MovingStairsModel", "opensSign", "(I)Z"⟩, 42) := ⟨⟨by decide +kernel, by decide +kernel⟩, List.mem_of_getElem? (i := 1137) (by decide +kernel), List.mem_of_getElem? (i := 1377) (by decide +kernel), List.mem_of_getElem? (i := 1378) (by decide +kernel)⟩
theorem lw_p55 : lw_okq (⟨"MovingStairsModel", "errs", "(I)V"⟩, 42) := ⟨⟨by decide +kernel, by decide +kernel⟩, List.mem_of_getElem? (i := 1137) (by decide +kernel), List.mem_of_getElem? (i := 1381) (by decide +kernel), List.mem_of_getElem? (i := 1382) (by decide +kernel)⟩
theorem lw_p56 : lw_okq (⟨"MovingStairsModel", "opensFrame", "(I)V"⟩, 42) := ⟨⟨by decide +kernel, by decide +kernel⟩, List.mem_of_getElem? (i := 1137) (by decide +kernel), List.mem_of_getElem? (i := 1385) (by decide +kernel), List.mem_of_getElem? (i := 1386) (by decide +kernel)⟩
theorem lw_p57 : lw_okq (⟨"MovingStairsModel", "begins", "()V"⟩, 42) := ⟨⟨by decide +kernel, by decide +kernel⟩, List.mem_of_getElem? (i := 1137) (by decide +kernel), List.mem_of_getElem? (i := 1389) (by decide +kernel), List.mem_of_getElem? (i := 1390) (by decide +kernel)⟩
theorem lw_p58 : lw_okq (⟨"MovingStairsModel", "emits", "(II)V"⟩, 42) := ⟨⟨by decide +kernel, by decide +kernel⟩, List.mem_of_getElem? (i := 1137) (by decide +kernel), List.mem_of_getElem? (i := 1393) (by decide +kernel), List.mem_of_getElem? (i := 1394) (by decide +kernel)⟩
theorem lw_p59 : lw_okq (⟨"MovingStairsModel", "oneIsOver", "()V"⟩, 42) := ⟨⟨by decide +kernel, by decide +kernel⟩, List.mem_of_getElem? (i := 1137) (by decide +kernel), List.mem_of_getElem? (i := 1397) (by decide +kernel), List.mem_of_getElem? (i := 1398) (by decide +kernel)⟩
theorem lw_p60 : lw_okq (⟨"MovingStairsModel", "top", "()I"⟩, 42) := ⟨⟨by decide +kernel, by decide +kernel⟩, List.mem_of_getElem? (i := 1137) (by decide +kernel), List.mem_of_getElem? (i := 1401) (by decide +kernel), List.mem_of_getElem? (i := 1402) (by decide +kernel)⟩
theorem lw_p61 : lw_okq (⟨"MovingStairsModel", "isSign", "(I)Z"⟩, 42) := ⟨⟨by decide +kernel, by decide +kernel⟩, List.mem_of_getElem? (i := 1137) (by decide +kernel), List.mem_of_getElem? (i := 1405) (by decide +kernel), List.mem_of_getElem? (i := 1406) (by decide +kernel)⟩
theorem lw_p62 : lw_okq (⟨"MovingStairsModel", "goesOn", "()V"⟩, 42) := ⟨⟨by decide +kernel, by decide +kernel⟩, List.mem_of_getElem? (i := 1137) (by decide +kernel), List.mem_of_getElem? (i := 1409) (by decide +kernel), List.mem_of_getElem? (i := 1410) (by decide +kernel)⟩
theorem lw_p63 : lw_okq (⟨"MovingStairsModel", "waitsFor", "(I)V"⟩, 42) := ⟨⟨by decide +kernel, by decide +kernel⟩, List.mem_of_getElem? (i := 1137) (by decide +kernel), List.mem_of_getElem? (i := 1413) (by decide +kernel), List.mem_of_getElem? (i := 1414) (by decide +kernel)⟩
def lw_privs_4 : List (MethodName × Nat) := [(⟨"MovingStairsModel", "linkOf", "(II)I"⟩, 42), (⟨"MovingStairsModel", "loadOf", "(I)I"⟩, 42), (⟨"MovingStairsModel", "put", "(I)V"⟩, 42), (⟨"MovingStairsModel", "next", "()V"⟩, 42), (⟨"MovingStairsModel", "asks", "()V"⟩, 42), (⟨"MovingStairsModel", "isWord", "(I)Z"⟩, 42), (⟨"MovingStairsModel", "opensSign", "(I)Z"⟩, 42), (⟨"MovingStairsModel", "errs", "(I)V"⟩, 42), (⟨"MovingStairsModel", "opensFrame", "(I)V"⟩, 42), (⟨"MovingStairsModel", "begins", "()V"⟩, 42), (⟨"MovingStairsModel", "emits", "(II)V"⟩, 42), (⟨"MovingStairsModel", "oneIsOver", "()V"⟩, 42), (⟨"MovingStairsModel", "top", "()I"⟩, 42), (⟨"MovingStairsModel", "isSign", "(I)Z"⟩, 42), (⟨"MovingStairsModel", "goesOn", "()V"⟩, 42), (⟨"MovingStairsModel", "waitsFor", "(I)V"⟩, 42)]
theorem lw_r4 : ∀ q ∈ lw_privs_4, lw_okq q := List.forall_mem_cons.mpr ⟨lw_p48, List.forall_mem_cons.mpr ⟨lw_p49, List.forall_mem_cons.mpr ⟨lw_p50, List.forall_mem_cons.mpr ⟨lw_p51, List.forall_mem_cons.mpr ⟨lw_p52, List.forall_mem_cons.mpr ⟨lw_p53, List.forall_mem_cons.mpr ⟨lw_p54, List.forall_mem_cons.mpr ⟨lw_p55, List.forall_mem_cons.mpr ⟨lw_p56, List.forall_mem_cons.mpr ⟨lw_p57, List.forall_mem_cons.mpr ⟨lw_p58, List.forall_mem_cons.mpr ⟨lw_p59, List.forall_mem_cons.mpr ⟨lw_p60, List.forall_mem_cons.mpr ⟨lw_p61, List.forall_mem_cons.mpr ⟨lw_p62, List.forall_mem_cons.mpr ⟨lw_p63, fun _ h => absurd h List.not_mem_nil⟩⟩⟩⟩⟩⟩⟩⟩⟩⟩⟩⟩⟩⟩⟩⟩
theorem lw_p64 : lw_okq (⟨"MovingStairsModel", "works", "(I)V"⟩, 42) := ⟨⟨by decide +kernel, by decide +kernel⟩, List.mem_of_getElem? (i := 1137) (by decide +kernel), List.mem_of_getElem? (i := 1420) (by decide +kernel), List.mem_of_getElem? (i := 1421) (by decide +kernel)⟩
theorem lw_p65 : lw_okq (⟨"MovingStairsModel", "askIsOver", "()V"⟩, 42) := ⟨⟨by decide +kernel, by decide +kernel⟩, List.mem_of_getElem? (i := 1137) (by decide +kernel), List.mem_of_getElem? (i := 1427) (by decide +kernel), List.mem_of_getElem? (i := 1428) (by decide +kernel)⟩
theorem lw_p66 : lw_okq (⟨"MovingStairsModel", "clauseIsOver", "()V"⟩, 42) := ⟨⟨by decide +kernel, by decide +kernel⟩, List.mem_of_getElem? (i := 1137) (by decide +kernel), List.mem_of_getElem? (i := 1431) (by decide +kernel), List.mem_of_getElem? (i := 1432) (by decide +kernel)⟩
theorem lw_p67 : lw_okq (⟨"MovingStairsModel", "asksOn", "()V"⟩, 42) := ⟨⟨by decide +kernel, by decide +kernel⟩, List.mem_of_getElem? (i := 1137) (by decide +kernel), List.mem_of_getElem? (i := 1435) (by decide +kernel), List.mem_of_getElem? (i := 1436) (by decide +kernel)⟩
theorem lw_p68 : lw_okq (⟨"MovingStairsModel", "clause", "()V"⟩, 42) := ⟨⟨by decide +kernel, by decide +kernel⟩, List.mem_of_getElem? (i := 1137) (by decide +kernel), List.mem_of_getElem? (i := 1439) (by decide +kernel), List.mem_of_getElem? (i := 1440) (by decide +kernel)⟩
theorem lw_p69 : lw_okq (⟨"MovingStairsModel", "wasWalk", "()Z"⟩, 42) := ⟨⟨by decide +kernel, by decide +kernel⟩, List.mem_of_getElem? (i := 1137) (by decide +kernel), List.mem_of_getElem? (i := 1443) (by decide +kernel), List.mem_of_getElem? (i := 1444) (by decide +kernel)⟩
theorem lw_p70 : lw_okq (⟨"MovingStairsModel", "keepsText", "(I)V"⟩, 42) := ⟨⟨by decide +kernel, by decide +kernel⟩, List.mem_of_getElem? (i := 1137) (by decide +kernel), List.mem_of_getElem? (i := 1447) (by decide +kernel), List.mem_of_getElem? (i := 1448) (by decide +kernel)⟩
theorem lw_p71 : lw_okq (⟨"MovingStairsModel", "routes", "(II)V"⟩, 42) := ⟨⟨by decide +kernel, by decide +kernel⟩, List.mem_of_getElem? (i := 1137) (by decide +kernel), List.mem_of_getElem? (i := 1463) (by decide +kernel), List.mem_of_getElem? (i := 1464) (by decide +kernel)⟩
theorem lw_p72 : lw_okq (⟨"MovingStairsModel", "costFrom", "(III)I"⟩, 42) := ⟨⟨by decide +kernel, by decide +kernel⟩, List.mem_of_getElem? (i := 1137) (by decide +kernel), List.mem_of_getElem? (i := 1468) (by decide +kernel), List.mem_of_getElem? (i := 1469) (by decide +kernel)⟩
theorem lw_p73 : lw_okq (⟨"MovingStairsModel", "footOf", "(I)I"⟩, 42) := ⟨⟨by decide +kernel, by decide +kernel⟩, List.mem_of_getElem? (i := 1137) (by decide +kernel), List.mem_of_getElem? (i := 1472) (by decide +kernel), List.mem_of_getElem? (i := 1473) (by decide +kernel)⟩
theorem lw_p74 : lw_okq (⟨"MovingStairsModel", "otherEnd", "(II)I"⟩, 42) := ⟨⟨by decide +kernel, by decide +kernel⟩, List.mem_of_getElem? (i := 1137) (by decide +kernel), List.mem_of_getElem? (i := 1476) (by decide +kernel), List.mem_of_getElem? (i := 1477) (by decide +kernel)⟩
theorem lw_p75 : lw_okq (⟨"MovingStairsModel", "isRun", "(I)Z"⟩, 42) := ⟨⟨by decide +kernel, by decide +kernel⟩, List.mem_of_getElem? (i := 1137) (by decide +kernel), List.mem_of_getElem? (i := 1484) (by decide +kernel), List.mem_of_getElem? (i := 1485) (by decide +kernel)⟩
theorem lw_p76 : lw_okq (⟨"MovingStairsModel", "second", "()V"⟩, 42) := ⟨⟨by decide +kernel, by decide +kernel⟩, List.mem_of_getElem? (i := 1137) (by decide +kernel), List.mem_of_getElem? (i := 1488) (by decide +kernel), List.mem_of_getElem? (i := 1489) (by decide +kernel)⟩
theorem lw_p77 : lw_okq (⟨"MovingStairsModel", "bursts", "(I)V"⟩, 42) := ⟨⟨by decide +kernel, by decide +kernel⟩, List.mem_of_getElem? (i := 1137) (by decide +kernel), List.mem_of_getElem? (i := 1492) (by decide +kernel), List.mem_of_getElem? (i := 1493) (by decide +kernel)⟩
theorem lw_p78 : lw_okq (⟨"MovingStairsModel", "comes", "(IIII)V"⟩, 42) := ⟨⟨by decide +kernel, by decide +kernel⟩, List.mem_of_getElem? (i := 1137) (by decide +kernel), List.mem_of_getElem? (i := 1496) (by decide +kernel), List.mem_of_getElem? (i := 1497) (by decide +kernel)⟩
theorem lw_p79 : lw_okq (⟨"MovingStairsModel", "isSome", "(II)Z"⟩, 42) := ⟨⟨by decide +kernel, by decide +kernel⟩, List.mem_of_getElem? (i := 1137) (by decide +kernel), List.mem_of_getElem? (i := 1500) (by decide +kernel), List.mem_of_getElem? (i := 1501) (by decide +kernel)⟩
def lw_privs_5 : List (MethodName × Nat) := [(⟨"MovingStairsModel", "works", "(I)V"⟩, 42), (⟨"MovingStairsModel", "askIsOver", "()V"⟩, 42), (⟨"MovingStairsModel", "clauseIsOver", "()V"⟩, 42), (⟨"MovingStairsModel", "asksOn", "()V"⟩, 42), (⟨"MovingStairsModel", "clause", "()V"⟩, 42), (⟨"MovingStairsModel", "wasWalk", "()Z"⟩, 42), (⟨"MovingStairsModel", "keepsText", "(I)V"⟩, 42), (⟨"MovingStairsModel", "routes", "(II)V"⟩, 42), (⟨"MovingStairsModel", "costFrom", "(III)I"⟩, 42), (⟨"MovingStairsModel", "footOf", "(I)I"⟩, 42), (⟨"MovingStairsModel", "otherEnd", "(II)I"⟩, 42), (⟨"MovingStairsModel", "isRun", "(I)Z"⟩, 42), (⟨"MovingStairsModel", "second", "()V"⟩, 42), (⟨"MovingStairsModel", "bursts", "(I)V"⟩, 42), (⟨"MovingStairsModel", "comes", "(IIII)V"⟩, 42), (⟨"MovingStairsModel", "isSome", "(II)Z"⟩, 42)]
theorem lw_r5 : ∀ q ∈ lw_privs_5, lw_okq q := List.forall_mem_cons.mpr ⟨lw_p64, List.forall_mem_cons.mpr ⟨lw_p65, List.forall_mem_cons.mpr ⟨lw_p66, List.forall_mem_cons.mpr ⟨lw_p67, List.forall_mem_cons.mpr ⟨lw_p68, List.forall_mem_cons.mpr ⟨lw_p69, List.forall_mem_cons.mpr ⟨lw_p70, List.forall_mem_cons.mpr ⟨lw_p71, List.forall_mem_cons.mpr ⟨lw_p72, List.forall_mem_cons.mpr ⟨lw_p73, List.forall_mem_cons.mpr ⟨lw_p74, List.forall_mem_cons.mpr ⟨lw_p75, List.forall_mem_cons.mpr ⟨lw_p76, List.forall_mem_cons.mpr ⟨lw_p77, List.forall_mem_cons.mpr ⟨lw_p78, List.forall_mem_cons.mpr ⟨lw_p79, fun _ h => absurd h List.not_mem_nil⟩⟩⟩⟩⟩⟩⟩⟩⟩⟩⟩⟩⟩⟩⟩⟩
theorem lw_p80 : lw_okq (⟨"MovingStairsModel", "inHall", "(I)I"⟩, 42) := ⟨⟨by decide +kernel, by decide +kernel⟩, List.mem_of_getElem? (i := 1137) (by decide +kernel), List.mem_of_getElem? (i := 1504) (by decide +kernel), List.mem_of_getElem? (i := 1505) (by decide +kernel)⟩
theorem lw_p81 : lw_okq (⟨"MovingStairsModel", "countOf", "(II)I"⟩, 42) := ⟨⟨by decide +kernel, by decide +kernel⟩, List.mem_of_getElem? (i := 1137) (by decide +kernel), List.mem_of_getElem? (i := 1508) (by decide +kernel), List.mem_of_getElem? (i := 1509) (by decide +kernel)⟩
theorem lw_p82 : lw_okq (⟨"MovingStairsModel", "hallOf", "(II)I"⟩, 42) := ⟨⟨by decide +kernel, by decide +kernel⟩, List.mem_of_getElem? (i := 1137) (by decide +kernel), List.mem_of_getElem? (i := 1512) (by decide +kernel), List.mem_of_getElem? (i := 1513) (by decide +kernel)⟩
theorem lw_p83 : lw_okq (⟨"MovingStairsModel", "saysOf", "(I)J"⟩, 42) := ⟨⟨by decide +kernel, by decide +kernel⟩, List.mem_of_getElem? (i := 1137) (by decide +kernel), List.mem_of_getElem? (i := 1516) (by decide +kernel), List.mem_of_getElem? (i := 1517) (by decide +kernel)⟩
theorem lw_p84 : lw_okq (⟨"MovingStairsModel", "lets", "(I)V"⟩, 42) := ⟨⟨by decide +kernel, by decide +kernel⟩, List.mem_of_getElem? (i := 1137) (by decide +kernel), List.mem_of_getElem? (i := 1528) (by decide +kernel), List.mem_of_getElem? (i := 1529) (by decide +kernel)⟩
theorem lw_p85 : lw_okq (⟨"MovingStairsModel", "allRoutes", "()V"⟩, 42) := ⟨⟨by decide +kernel, by decide +kernel⟩, List.mem_of_getElem? (i := 1137) (by decide +kernel), List.mem_of_getElem? (i := 1532) (by decide +kernel), List.mem_of_getElem? (i := 1533) (by decide +kernel)⟩
theorem lw_p86 : lw_okq (⟨"MovingStairsModel", "stairs", "(II)V"⟩, 42) := ⟨⟨by decide +kernel, by decide +kernel⟩, List.mem_of_getElem? (i := 1137) (by decide +kernel), List.mem_of_getElem? (i := 1536) (by decide +kernel), List.mem_of_getElem? (i := 1537) (by decide +kernel)⟩
theorem lw_p87 : lw_okq (⟨"MovingStairsModel", "walkOf", "(I)I"⟩, 42) := ⟨⟨by decide +kernel, by decide +kernel⟩, List.mem_of_getElem? (i := 1137) (by decide +kernel), List.mem_of_getElem? (i := 1540) (by decide +kernel), List.mem_of_getElem? (i := 1541) (by decide +kernel)⟩
theorem lw_p88 : lw_okq (⟨"MovingStairsModel", "climbs", "(II)V"⟩, 42) := ⟨⟨by decide +kernel, by decide +kernel⟩, List.mem_of_getElem? (i := 1137) (by decide +kernel), List.mem_of_getElem? (i := 1546) (by decide +kernel), List.mem_of_getElem? (i := 1547) (by decide +kernel)⟩
theorem lw_p89 : lw_okq (⟨"MovingStairsModel", "placeOf", "(III)I"⟩, 42) := ⟨⟨by decide +kernel, by decide +kernel⟩, List.mem_of_getElem? (i := 1137) (by decide +kernel), List.mem_of_getElem? (i := 1550) (by decide +kernel), List.mem_of_getElem? (i := 1551) (by decide +kernel)⟩
theorem lw_p90 : lw_okq (⟨"MovingStairsModel", "stepsOff", "(II)Z"⟩, 42) := ⟨⟨by decide +kernel, by decide +kernel⟩, List.mem_of_getElem? (i := 1137) (by decide +kernel), List.mem_of_getElem? (i := 1554) (by decide +kernel), List.mem_of_getElem? (i := 1555) (by decide +kernel)⟩
theorem lw_p91 : lw_okq (⟨"MovingStairsModel", "headOf", "(I)I"⟩, 42) := ⟨⟨by decide +kernel, by decide +kernel⟩, List.mem_of_getElem? (i := 1137) (by decide +kernel), List.mem_of_getElem? (i := 1558) (by decide +kernel), List.mem_of_getElem? (i := 1559) (by decide +kernel)⟩
theorem lw_p92 : lw_okq (⟨"MovingStairsModel", "moves", "(II)Z"⟩, 42) := ⟨⟨by decide +kernel, by decide +kernel⟩, List.mem_of_getElem? (i := 1137) (by decide +kernel), List.mem_of_getElem? (i := 1562) (by decide +kernel), List.mem_of_getElem? (i := 1563) (by decide +kernel)⟩
theorem lw_p93 : lw_okq (⟨"MovingStairsModel", "trips", "(I)V"⟩, 42) := ⟨⟨by decide +kernel, by decide +kernel⟩, List.mem_of_getElem? (i := 1137) (by decide +kernel), List.mem_of_getElem? (i := 1566) (by decide +kernel), List.mem_of_getElem? (i := 1567) (by decide +kernel)⟩
theorem lw_p94 : lw_okq (⟨"MovingStairsModel", "takes", "(II)V"⟩, 42) := ⟨⟨by decide +kernel, by decide +kernel⟩, List.mem_of_getElem? (i := 1137) (by decide +kernel), List.mem_of_getElem? (i := 1570) (by decide +kernel), List.mem_of_getElem? (i := 1571) (by decide +kernel)⟩
theorem lw_p95 : lw_okq (⟨"MovingStairsModel", "mostOf", "(III)I"⟩, 42) := ⟨⟨by decide +kernel, by decide +kernel⟩, List.mem_of_getElem? (i := 1137) (by decide +kernel), List.mem_of_getElem? (i := 1574) (by decide +kernel), List.mem_of_getElem? (i := 1575) (by decide +kernel)⟩
def lw_privs_6 : List (MethodName × Nat) := [(⟨"MovingStairsModel", "inHall", "(I)I"⟩, 42), (⟨"MovingStairsModel", "countOf", "(II)I"⟩, 42), (⟨"MovingStairsModel", "hallOf", "(II)I"⟩, 42), (⟨"MovingStairsModel", "saysOf", "(I)J"⟩, 42), (⟨"MovingStairsModel", "lets", "(I)V"⟩, 42), (⟨"MovingStairsModel", "allRoutes", "()V"⟩, 42), (⟨"MovingStairsModel", "stairs", "(II)V"⟩, 42), (⟨"MovingStairsModel", "walkOf", "(I)I"⟩, 42), (⟨"MovingStairsModel", "climbs", "(II)V"⟩, 42), (⟨"MovingStairsModel", "placeOf", "(III)I"⟩, 42), (⟨"MovingStairsModel", "stepsOff", "(II)Z"⟩, 42), (⟨"MovingStairsModel", "headOf", "(I)I"⟩, 42), (⟨"MovingStairsModel", "moves", "(II)Z"⟩, 42), (⟨"MovingStairsModel", "trips", "(I)V"⟩, 42), (⟨"MovingStairsModel", "takes", "(II)V"⟩, 42), (⟨"MovingStairsModel", "mostOf", "(III)I"⟩, 42)]
theorem lw_r6 : ∀ q ∈ lw_privs_6, lw_okq q := List.forall_mem_cons.mpr ⟨lw_p80, List.forall_mem_cons.mpr ⟨lw_p81, List.forall_mem_cons.mpr ⟨lw_p82, List.forall_mem_cons.mpr ⟨lw_p83, List.forall_mem_cons.mpr ⟨lw_p84, List.forall_mem_cons.mpr ⟨lw_p85, List.forall_mem_cons.mpr ⟨lw_p86, List.forall_mem_cons.mpr ⟨lw_p87, List.forall_mem_cons.mpr ⟨lw_p88, List.forall_mem_cons.mpr ⟨lw_p89, List.forall_mem_cons.mpr ⟨lw_p90, List.forall_mem_cons.mpr ⟨lw_p91, List.forall_mem_cons.mpr ⟨lw_p92, List.forall_mem_cons.mpr ⟨lw_p93, List.forall_mem_cons.mpr ⟨lw_p94, List.forall_mem_cons.mpr ⟨lw_p95, fun _ h => absurd h List.not_mem_nil⟩⟩⟩⟩⟩⟩⟩⟩⟩⟩⟩⟩⟩⟩⟩⟩
theorem lw_p96 : lw_okq (⟨"MovingStairsModel", "sideFor", "(IZ)I"⟩, 42) := ⟨⟨by decide +kernel, by decide +kernel⟩, List.mem_of_getElem? (i := 1137) (by decide +kernel), List.mem_of_getElem? (i := 1578) (by decide +kernel), List.mem_of_getElem? (i := 1579) (by decide +kernel)⟩
theorem lw_p97 : lw_okq (⟨"MovingStairsModel", "lifts", "(III)V"⟩, 42) := ⟨⟨by decide +kernel, by decide +kernel⟩, List.mem_of_getElem? (i := 1137) (by decide +kernel), List.mem_of_getElem? (i := 1582) (by decide +kernel), List.mem_of_getElem? (i := 1583) (by decide +kernel)⟩
theorem lw_p98 : lw_okq (⟨"MovingStairsModel", "isOver", "(I)Z"⟩, 42) := ⟨⟨by decide +kernel, by decide +kernel⟩, List.mem_of_getElem? (i := 1137) (by decide +kernel), List.mem_of_getElem? (i := 1586) (by decide +kernel), List.mem_of_getElem? (i := 1587) (by decide +kernel)⟩
theorem lw_p99 : lw_okq (⟨"MovingStairsModel", "areStairs", "(I)Z"⟩, 42) := ⟨⟨by decide +kernel, by decide +kernel⟩, List.mem_of_getElem? (i := 1137) (by decide +kernel), List.mem_of_getElem? (i := 1610) (by decide +kernel), List.mem_of_getElem? (i := 1611) (by decide +kernel)⟩
theorem lw_p100 : lw_okq (⟨"MovingStairsModel", "saves", "()V"⟩, 42) := ⟨⟨by decide +kernel, by decide +kernel⟩, List.mem_of_getElem? (i := 1137) (by decide +kernel), List.mem_of_getElem? (i := 1614) (by decide +kernel), List.mem_of_getElem? (i := 1615) (by decide +kernel)⟩
theorem lw_p101 : lw_okq (⟨"MovingStairsModel", "runs", "(I)V"⟩, 42) := ⟨⟨by decide +kernel, by decide +kernel⟩, List.mem_of_getElem? (i := 1137) (by decide +kernel), List.mem_of_getElem? (i := 1619) (by decide +kernel), List.mem_of_getElem? (i := 1620) (by decide +kernel)⟩
theorem lw_p102 : lw_okq (⟨"MovingStairsModel", "putsBack", "()V"⟩, 42) := ⟨⟨by decide +kernel, by decide +kernel⟩, List.mem_of_getElem? (i := 1137) (by decide +kernel), List.mem_of_getElem? (i := 1623) (by decide +kernel), List.mem_of_getElem? (i := 1624) (by decide +kernel)⟩
theorem lw_p103 : lw_okq (⟨"MovingStairsModel", "isStair", "(I)Z"⟩, 42) := ⟨⟨by decide +kernel, by decide +kernel⟩, List.mem_of_getElem? (i := 1137) (by decide +kernel), List.mem_of_getElem? (i := 1635) (by decide +kernel), List.mem_of_getElem? (i := 1636) (by decide +kernel)⟩
theorem lw_p104 : lw_okq (⟨"MovingStairsModel", "carries", "(IIII)I"⟩, 42) := ⟨⟨by decide +kernel, by decide +kernel⟩, List.mem_of_getElem? (i := 1137) (by decide +kernel), List.mem_of_getElem? (i := 1648) (by decide +kernel), List.mem_of_getElem? (i := 1649) (by decide +kernel)⟩
theorem lw_p105 : lw_okq (⟨"MovingStairsModel", "loneMoves", "(II)I"⟩, 42) := ⟨⟨by decide +kernel, by decide +kernel⟩, List.mem_of_getElem? (i := 1137) (by decide +kernel), List.mem_of_getElem? (i := 1652) (by decide +kernel), List.mem_of_getElem? (i := 1653) (by decide +kernel)⟩
theorem lw_p106 : lw_okq (⟨"MovingStairsModel", "daysOf", "(IIZ)I"⟩, 42) := ⟨⟨by decide +kernel, by decide +kernel⟩, List.mem_of_getElem? (i := 1137) (by decide +kernel), List.mem_of_getElem? (i := 1668) (by decide +kernel), List.mem_of_getElem? (i := 1669) (by decide +kernel)⟩
theorem lw_p107 : lw_okq (⟨"MovingStairsModel", "countsBy", "(III)I"⟩, 42) := ⟨⟨by decide +kernel, by decide +kernel⟩, List.mem_of_getElem? (i := 1137) (by decide +kernel), List.mem_of_getElem? (i := 1681) (by decide +kernel), List.mem_of_getElem? (i := 1682) (by decide +kernel)⟩
theorem lw_p108 : lw_okq (⟨"MovingStairsModel", "aboveOf", "(II)I"⟩, 42) := ⟨⟨by decide +kernel, by decide +kernel⟩, List.mem_of_getElem? (i := 1137) (by decide +kernel), List.mem_of_getElem? (i := 1685) (by decide +kernel), List.mem_of_getElem? (i := 1686) (by decide +kernel)⟩
theorem lw_p109 : lw_okq (⟨"MovingStairsModel", "chain", "(III)I"⟩, 42) := ⟨⟨by decide +kernel, by decide +kernel⟩, List.mem_of_getElem? (i := 1137) (by decide +kernel), List.mem_of_getElem? (i := 1701) (by decide +kernel), List.mem_of_getElem? (i := 1702) (by decide +kernel)⟩
def lw_privs_7 : List (MethodName × Nat) := [(⟨"MovingStairsModel", "sideFor", "(IZ)I"⟩, 42), (⟨"MovingStairsModel", "lifts", "(III)V"⟩, 42), (⟨"MovingStairsModel", "isOver", "(I)Z"⟩, 42), (⟨"MovingStairsModel", "areStairs", "(I)Z"⟩, 42), (⟨"MovingStairsModel", "saves", "()V"⟩, 42), (⟨"MovingStairsModel", "runs", "(I)V"⟩, 42), (⟨"MovingStairsModel", "putsBack", "()V"⟩, 42), (⟨"MovingStairsModel", "isStair", "(I)Z"⟩, 42), (⟨"MovingStairsModel", "carries", "(IIII)I"⟩, 42), (⟨"MovingStairsModel", "loneMoves", "(II)I"⟩, 42), (⟨"MovingStairsModel", "daysOf", "(IIZ)I"⟩, 42), (⟨"MovingStairsModel", "countsBy", "(III)I"⟩, 42), (⟨"MovingStairsModel", "aboveOf", "(II)I"⟩, 42), (⟨"MovingStairsModel", "chain", "(III)I"⟩, 42)]
theorem lw_r7 : ∀ q ∈ lw_privs_7, lw_okq q := List.forall_mem_cons.mpr ⟨lw_p96, List.forall_mem_cons.mpr ⟨lw_p97, List.forall_mem_cons.mpr ⟨lw_p98, List.forall_mem_cons.mpr ⟨lw_p99, List.forall_mem_cons.mpr ⟨lw_p100, List.forall_mem_cons.mpr ⟨lw_p101, List.forall_mem_cons.mpr ⟨lw_p102, List.forall_mem_cons.mpr ⟨lw_p103, List.forall_mem_cons.mpr ⟨lw_p104, List.forall_mem_cons.mpr ⟨lw_p105, List.forall_mem_cons.mpr ⟨lw_p106, List.forall_mem_cons.mpr ⟨lw_p107, List.forall_mem_cons.mpr ⟨lw_p108, List.forall_mem_cons.mpr ⟨lw_p109, fun _ h => absurd h List.not_mem_nil⟩⟩⟩⟩⟩⟩⟩⟩⟩⟩⟩⟩⟩⟩
def lw_privs : List (MethodName × Nat) := lw_privs_1 ++ (lw_privs_2 ++ (lw_privs_3 ++ (lw_privs_4 ++ (lw_privs_5 ++ (lw_privs_6 ++ (lw_privs_7))))))
def lw_tbl : List Cond := k2_sels lw_privs ++ tables_1
theorem lw_privs_ok : ∀ q ∈ lw_privs, lw_okq q := by
  show ∀ q ∈ lw_privs_1 ++ (lw_privs_2 ++ (lw_privs_3 ++ (lw_privs_4 ++ (lw_privs_5 ++ (lw_privs_6 ++ (lw_privs_7)))))), lw_okq q
  exact List.forall_mem_append.mpr ⟨lw_r1, List.forall_mem_append.mpr ⟨lw_r2, List.forall_mem_append.mpr ⟨lw_r3, List.forall_mem_append.mpr ⟨lw_r4, List.forall_mem_append.mpr ⟨lw_r5, List.forall_mem_append.mpr ⟨lw_r6, lw_r7⟩⟩⟩⟩⟩⟩
-- ===== end of PART A; then your names; then what follows =====
theorem goodIn_r {big : List Cond} (ws : List Cond) (ps : List Nat) (hp : ws = ps.filterMap (fun i => big[i]?)) (h : ws.all goodWord = true) : GoodIn big ws := by
  intro w hw
  have h1 := List.all_eq_true.mp h w hw
  rw [hp] at hw
  obtain ⟨i, -, hi⟩ := List.mem_filterMap.mp hw
  have hm : w ∈ big := by first | exact List.mem_of_getElem? hi | exact List.getElem?_mem hi
  exact ⟨hm, good_of_word h1⟩
theorem goodIn_app {big a b : List Cond} (ha : GoodIn big a) (hb : GoodIn big b) : GoodIn big (a ++ b) := fun w h => (List.mem_append.mp h).elim (ha w) (hb w)
theorem goodIn_ca {big a b : List Cond} {c : Cond} (ha : GoodIn big (c :: a)) (hb : GoodIn big b) : GoodIn big (c :: (a ++ b)) := fun w h => (List.mem_cons.mp h).elim (fun e => ha w (List.mem_cons.mpr (Or.inl e))) (fun h => (List.mem_append.mp h).elim (fun h => ha w (List.mem_cons.mpr (Or.inr h))) (hb w))
def RX0 : String := "MovingStairs$Burst"
def TX0 : u_T := fun k => match k with
  | 0 => ("MovingStairs$Burst", "second", "I", false)
  | 1 => ("MovingStairs$Burst", "every", "I", false)
  | 2 => ("MovingStairs$Burst", "hall", "I", false)
  | 3 => ("MovingStairs$Burst", "goal", "I", false)
  | 4 => ("MovingStairs$Burst", "size", "I", false)
  | 5 => ("MovingStairs$Burst", "kind", "I", false)
  | _ => ("MovingStairs$Burst", "street", "Z", false)
def tyX0 : Nat → FieldType := fun k => match k with
  | 0 => .int
  | 1 => .int
  | 2 => .int
  | 3 => .int
  | 4 => .int
  | 5 => .int
  | _ => .boolean
abbrev wsX00 : List Cond := u_ws RX0 TX0 7
theorem nmX0 : ∀ a, a < 7 → ∀ b, b < 7 → a ≠ b → (TX0 a).2.1 ≠ (TX0 b).2.1 := by decide +kernel
theorem tyX0_ok : ∀ k, k < 7 → parseFieldDescriptor (TX0 k).2.2.1 = some (tyX0 k) := by decide +kernel
abbrev cX0_init : ByteArray := prog_2_method_1_code
def yX0_init : MethodName := ⟨RX0, "<init>", "()V"⟩
abbrev cX0_copy : ByteArray := prog_2_method_2_code
def yX0_copy : MethodName := ⟨RX0, "copy", "(LMovingStairs$Burst;)V"⟩
abbrev cX0_isDue : ByteArray := prog_2_method_3_code
def yX0_isDue : MethodName := ⟨RX0, "isDue", "(I)Z"⟩
def RX1 : String := "MovingStairs$Days"
def TX1 : u_T := fun k => match k with
  | 0 => ("MovingStairs$Days", "sums", "[I", true)
  | 1 => ("MovingStairs$Days", "many", "[I", true)
  | _ => ("MovingStairs$Days", "count", "I", false)
def tyX1 : Nat → FieldType := fun k => match k with
  | 0 => .array .int
  | 1 => .array .int
  | _ => .int
abbrev wsX10 : List Cond := u_ws RX1 TX1 3
theorem nmX1 : ∀ a, a < 3 → ∀ b, b < 3 → a ≠ b → (TX1 a).2.1 ≠ (TX1 b).2.1 := by decide +kernel
theorem tyX1_ok : ∀ k, k < 3 → parseFieldDescriptor (TX1 k).2.2.1 = some (tyX1 k) := by decide +kernel
abbrev cX1_init : ByteArray := prog_3_method_1_code
def yX1_init : MethodName := ⟨RX1, "<init>", "()V"⟩
abbrev cX1_tell : ByteArray := prog_3_method_2_code
def yX1_tell : MethodName := ⟨RX1, "tell", "(ZII)I"⟩
abbrev cX1_copy : ByteArray := prog_3_method_3_code
def yX1_copy : MethodName := ⟨RX1, "copy", "(LMovingStairs$Days;)V"⟩
abbrev cX1_meanEffect : ByteArray := prog_3_method_4_code
def yX1_meanEffect : MethodName := ⟨RX1, "meanEffect", "()I"⟩
def RX2 : String := "MovingStairs$Hall"
def TX2 : u_T := fun k => match k with
  | 0 => ("MovingStairs$Hall", "inside", "[I", true)
  | 1 => ("MovingStairs$Hall", "outside", "[I", true)
  | 2 => ("MovingStairs$Hall", "room", "I", false)
  | 3 => ("MovingStairs$Hall", "bar", "I", false)
  | 4 => ("MovingStairs$Hall", "count", "I", false)
  | 5 => ("MovingStairs$Hall", "outsideCount", "I", false)
  | 6 => ("MovingStairs$Hall", "shutSeconds", "I", false)
  | 7 => ("MovingStairs$Hall", "over", "I", false)
  | _ => ("MovingStairs$Hall", "shut", "Z", false)
def tyX2 : Nat → FieldType := fun k => match k with
  | 0 => .array .int
  | 1 => .array .int
  | 2 => .int
  | 3 => .int
  | 4 => .int
  | 5 => .int
  | 6 => .int
  | 7 => .int
  | _ => .boolean
abbrev wsX20 : List Cond := u_ws RX2 TX2 9
theorem nmX2 : ∀ a, a < 9 → ∀ b, b < 9 → a ≠ b → (TX2 a).2.1 ≠ (TX2 b).2.1 := by decide +kernel
theorem tyX2_ok : ∀ k, k < 9 → parseFieldDescriptor (TX2 k).2.2.1 = some (tyX2 k) := by decide +kernel
abbrev cX2_init : ByteArray := prog_4_method_1_code
def yX2_init : MethodName := ⟨RX2, "<init>", "()V"⟩
abbrev cX2_build : ByteArray := prog_4_method_2_code
def yX2_build : MethodName := ⟨RX2, "build", "(I)V"⟩
abbrev cX2_copy : ByteArray := prog_4_method_3_code
def yX2_copy : MethodName := ⟨RX2, "copy", "(LMovingStairs$Hall;)V"⟩
abbrev cX2_isOver : ByteArray := prog_4_method_4_code
def yX2_isOver : MethodName := ⟨RX2, "isOver", "()Z"⟩
abbrev cX2_waiting : ByteArray := prog_4_method_5_code
def yX2_waiting : MethodName := ⟨RX2, "waiting", "(II)I"⟩
abbrev cX2_change : ByteArray := prog_4_method_6_code
def yX2_change : MethodName := ⟨RX2, "change", "(III)V"⟩
abbrev cX2_changeOutside : ByteArray := prog_4_method_7_code
def yX2_changeOutside : MethodName := ⟨RX2, "changeOutside", "(III)V"⟩
def RX3 : String := "MovingStairs$Link"
def TX3 : u_T := fun k => match k with
  | 0 => ("MovingStairs$Link", "steps", "[I", true)
  | 1 => ("MovingStairs$Link", "kind", "I", false)
  | 2 => ("MovingStairs$Link", "low", "I", false)
  | 3 => ("MovingStairs$Link", "high", "I", false)
  | 4 => ("MovingStairs$Link", "size", "I", false)
  | 5 => ("MovingStairs$Link", "cycle", "I", false)
  | 6 => ("MovingStairs$Link", "way", "I", false)
  | 7 => ("MovingStairs$Link", "wanted", "I", false)
  | 8 => ("MovingStairs$Link", "mode", "I", false)
  | 9 => ("MovingStairs$Link", "count", "I", false)
  | 10 => ("MovingStairs$Link", "takenSoFar", "I", false)
  | 11 => ("MovingStairs$Link", "offSoFar", "I", false)
  | 12 => ("MovingStairs$Link", "going", "Z", false)
  | _ => ("MovingStairs$Link", "tripped", "Z", false)
def tyX3 : Nat → FieldType := fun k => match k with
  | 0 => .array .int
  | 1 => .int
  | 2 => .int
  | 3 => .int
  | 4 => .int
  | 5 => .int
  | 6 => .int
  | 7 => .int
  | 8 => .int
  | 9 => .int
  | 10 => .int
  | 11 => .int
  | 12 => .boolean
  | _ => .boolean
abbrev wsX30 : List Cond := u_ws RX3 TX3 14
theorem nmX3 : ∀ a, a < 14 → ∀ b, b < 14 → a ≠ b → (TX3 a).2.1 ≠ (TX3 b).2.1 := by decide +kernel
theorem tyX3_ok : ∀ k, k < 14 → parseFieldDescriptor (TX3 k).2.2.1 = some (tyX3 k) := by decide +kernel
abbrev cX3_init : ByteArray := prog_5_method_1_code
def yX3_init : MethodName := ⟨RX3, "<init>", "()V"⟩
abbrev cX3_build : ByteArray := prog_5_method_2_code
def yX3_build : MethodName := ⟨RX3, "build", "(IIIII)V"⟩
abbrev cX3_copy : ByteArray := prog_5_method_3_code
def yX3_copy : MethodName := ⟨RX3, "copy", "(LMovingStairs$Link;)V"⟩
abbrev cX3_foot : ByteArray := prog_5_method_4_code
def yX3_foot : MethodName := ⟨RX3, "foot", "()I"⟩
abbrev cX3_head : ByteArray := prog_5_method_5_code
def yX3_head : MethodName := ⟨RX3, "head", "()I"⟩
abbrev cX3_takesNow : ByteArray := prog_5_method_6_code
def yX3_takesNow : MethodName := ⟨RX3, "takesNow", "()Z"⟩
abbrev cX3_seconds : ByteArray := prog_5_method_7_code
def yX3_seconds : MethodName := ⟨RX3, "seconds", "()I"⟩
abbrev cX3_turnTo : ByteArray := prog_5_method_8_code
def yX3_turnTo : MethodName := ⟨RX3, "turnTo", "(I)V"⟩
abbrev cX3_who : ByteArray := prog_5_method_9_code
def yX3_who : MethodName := ⟨RX3, "who", "(II)I"⟩
abbrev cX3_put : ByteArray := prog_5_method_10_code
def yX3_put : MethodName := ⟨RX3, "put", "(III)V"⟩
abbrev cX3_move : ByteArray := prog_5_method_11_code
def yX3_move : MethodName := ⟨RX3, "move", "(II)V"⟩
abbrev cX3_goesOn : ByteArray := prog_5_method_12_code
def yX3_goesOn : MethodName := ⟨RX3, "goesOn", "(II)Z"⟩
abbrev cX3_sideFor : ByteArray := prog_5_method_13_code
def yX3_sideFor : MethodName := ⟨RX3, "sideFor", "(ZZ)I"⟩
def RX4 : String := "MovingStairs$Loads"
def TX4 : u_T := fun k => match k with
  | 0 => ("MovingStairs$Loads", "loads", "[I", true)
  | _ => ("MovingStairs$Loads", "count", "I", false)
def tyX4 : Nat → FieldType := fun k => match k with
  | 0 => .array .int
  | _ => .int
abbrev wsX40 : List Cond := u_ws RX4 TX4 2
theorem nmX4 : ∀ a, a < 2 → ∀ b, b < 2 → a ≠ b → (TX4 a).2.1 ≠ (TX4 b).2.1 := by decide +kernel
theorem tyX4_ok : ∀ k, k < 2 → parseFieldDescriptor (TX4 k).2.2.1 = some (tyX4 k) := by decide +kernel
abbrev cX4_init : ByteArray := prog_6_method_1_code
def yX4_init : MethodName := ⟨RX4, "<init>", "()V"⟩
abbrev cX4_tell : ByteArray := prog_6_method_2_code
def yX4_tell : MethodName := ⟨RX4, "tell", "(I)I"⟩
abbrev cX4_copy : ByteArray := prog_6_method_3_code
def yX4_copy : MethodName := ⟨RX4, "copy", "(LMovingStairs$Loads;)V"⟩
abbrev cX4_steppedOn : ByteArray := prog_6_method_4_code
def yX4_steppedOn : MethodName := ⟨RX4, "steppedOn", "(IZ)I"⟩
def RX5 : String := "MovingStairs$Mends"
def TX5 : u_T := fun k => match k with
  | 0 => ("MovingStairs$Mends", "worn", "[I", true)
  | 1 => ("MovingStairs$Mends", "more", "[I", true)
  | 2 => ("MovingStairs$Mends", "limit", "[I", true)
  | 3 => ("MovingStairs$Mends", "months", "[I", true)
  | 4 => ("MovingStairs$Mends", "fewest", "[I", true)
  | _ => ("MovingStairs$Mends", "count", "I", false)
def tyX5 : Nat → FieldType := fun k => match k with
  | 0 => .array .int
  | 1 => .array .int
  | 2 => .array .int
  | 3 => .array .int
  | 4 => .array .int
  | _ => .int
abbrev wsX50 : List Cond := u_ws RX5 TX5 6
theorem nmX5 : ∀ a, a < 6 → ∀ b, b < 6 → a ≠ b → (TX5 a).2.1 ≠ (TX5 b).2.1 := by decide +kernel
theorem tyX5_ok : ∀ k, k < 6 → parseFieldDescriptor (TX5 k).2.2.1 = some (tyX5 k) := by decide +kernel
abbrev cX5_init : ByteArray := prog_7_method_1_code
def yX5_init : MethodName := ⟨RX5, "<init>", "()V"⟩
abbrev cX5_tell : ByteArray := prog_7_method_2_code
def yX5_tell : MethodName := ⟨RX5, "tell", "(IIII)I"⟩
abbrev cX5_copy : ByteArray := prog_7_method_3_code
def yX5_copy : MethodName := ⟨RX5, "copy", "(LMovingStairs$Mends;)V"⟩
abbrev cX5_weigh : ByteArray := prog_7_method_4_code
def yX5_weigh : MethodName := ⟨RX5, "weigh", "()V"⟩
abbrev cX5_inTurn : ByteArray := prog_7_method_5_code
def yX5_inTurn : MethodName := ⟨RX5, "inTurn", "(I)I"⟩
abbrev cX5_bestNext : ByteArray := prog_7_method_6_code
def yX5_bestNext : MethodName := ⟨RX5, "bestNext", "(I)I"⟩
abbrev cX5_countBy : ByteArray := prog_7_method_7_code
def yX5_countBy : MethodName := ⟨RX5, "countBy", "(II)I"⟩
def RX6 : String := "MovingStairs$Mover"
def TX6 : u_T := fun k => match k with
  | 0 => ("MovingStairs$Mover", "routes", "LMovingStairs$Routes;", true)
  | _ => ("MovingStairs$Mover", "names", "[I", true)
def tyX6 : Nat → FieldType := fun k => match k with
  | 0 => .object "MovingStairs$Routes"
  | _ => .array .int
abbrev wsX60 : List Cond := u_ws RX6 TX6 2
theorem nmX6 : ∀ a, a < 2 → ∀ b, b < 2 → a ≠ b → (TX6 a).2.1 ≠ (TX6 b).2.1 := by decide +kernel
theorem tyX6_ok : ∀ k, k < 2 → parseFieldDescriptor (TX6 k).2.2.1 = some (tyX6 k) := by decide +kernel
abbrev cX6_init : ByteArray := prog_8_method_1_code
def yX6_init : MethodName := ⟨RX6, "<init>", "()V"⟩
abbrev cX6_forgetRoutes : ByteArray := prog_8_method_2_code
def yX6_forgetRoutes : MethodName := ⟨RX6, "forgetRoutes", "()V"⟩
abbrev cX6_passSecond : ByteArray := prog_8_method_3_code
def yX6_passSecond : MethodName := ⟨RX6, "passSecond", "(LMovingStairs$Station;LMovingStairs$Text;)V"⟩
abbrev cX6_comeInBursts : ByteArray := prog_8_method_4_code
def yX6_comeInBursts : MethodName := ⟨RX6, "comeInBursts", "(LMovingStairs$Station;LMovingStairs$Text;)V"⟩
abbrev cX6_isSo : ByteArray := prog_8_method_5_code
def yX6_isSo : MethodName := ⟨RX6, "isSo", "(LMovingStairs$Station;LMovingStairs$Text;II)Z"⟩
abbrev cX6_openHalls : ByteArray := prog_8_method_6_code
def yX6_openHalls : MethodName := ⟨RX6, "openHalls", "(LMovingStairs$Station;LMovingStairs$Text;)V"⟩
abbrev cX6_letIn : ByteArray := prog_8_method_7_code
def yX6_letIn : MethodName := ⟨RX6, "letIn", "(LMovingStairs$Station;I)V"⟩
abbrev cX6_turnEmptyLinks : ByteArray := prog_8_method_8_code
def yX6_turnEmptyLinks : MethodName := ⟨RX6, "turnEmptyLinks", "(LMovingStairs$Station;)V"⟩
abbrev cX6_moveLinks : ByteArray := prog_8_method_9_code
def yX6_moveLinks : MethodName := ⟨RX6, "moveLinks", "(LMovingStairs$Station;LMovingStairs$Text;)V"⟩
abbrev cX6_lift : ByteArray := prog_8_method_10_code
def yX6_lift : MethodName := ⟨RX6, "lift", "(LMovingStairs$Station;III)V"⟩
abbrev cX6_goalOfMost : ByteArray := prog_8_method_11_code
def yX6_goalOfMost : MethodName := ⟨RX6, "goalOfMost", "(LMovingStairs$Station;III)I"⟩
abbrev cX6_walkOf : ByteArray := prog_8_method_12_code
def yX6_walkOf : MethodName := ⟨RX6, "walkOf", "(LMovingStairs$Station;LMovingStairs$Text;LMovingStairs$Link;)I"⟩
abbrev cX6_moveStair : ByteArray := prog_8_method_13_code
def yX6_moveStair : MethodName := ⟨RX6, "moveStair", "(LMovingStairs$Station;LMovingStairs$Link;)V"⟩
abbrev cX6_stepOff : ByteArray := prog_8_method_14_code
def yX6_stepOff : MethodName := ⟨RX6, "stepOff", "(LMovingStairs$Station;LMovingStairs$Link;I)Z"⟩
abbrev cX6_moveFixed : ByteArray := prog_8_method_15_code
def yX6_moveFixed : MethodName := ⟨RX6, "moveFixed", "(LMovingStairs$Station;LMovingStairs$Link;)V"⟩
abbrev cX6_takeUpToTwo : ByteArray := prog_8_method_16_code
def yX6_takeUpToTwo : MethodName := ⟨RX6, "takeUpToTwo", "(LMovingStairs$Station;II)V"⟩
abbrev cX6_countSecond : ByteArray := prog_8_method_17_code
def yX6_countSecond : MethodName := ⟨RX6, "countSecond", "(LMovingStairs$Station;)V"⟩
def RX7 : String := "MovingStairs$Reader"
def TX7 : u_T := fun k => match k with
  | 0 => ("MovingStairs$Reader", "tape", "[I", true)
  | 1 => ("MovingStairs$Reader", "kinds", "[I", true)
  | 2 => ("MovingStairs$Reader", "values", "[I", true)
  | 3 => ("MovingStairs$Reader", "places", "[I", true)
  | 4 => ("MovingStairs$Reader", "length", "I", false)
  | 5 => ("MovingStairs$Reader", "faultKind", "I", false)
  | 6 => ("MovingStairs$Reader", "faultPlace", "I", false)
  | 7 => ("MovingStairs$Reader", "tokenCount", "I", false)
  | 8 => ("MovingStairs$Reader", "next", "I", false)
  | _ => ("MovingStairs$Reader", "clause", "I", false)
def tyX7 : Nat → FieldType := fun k => match k with
  | 0 => .array .int
  | 1 => .array .int
  | 2 => .array .int
  | 3 => .array .int
  | 4 => .int
  | 5 => .int
  | 6 => .int
  | 7 => .int
  | 8 => .int
  | _ => .int
abbrev wsX70 : List Cond := u_ws RX7 TX7 10
theorem nmX7 : ∀ a, a < 10 → ∀ b, b < 10 → a ≠ b → (TX7 a).2.1 ≠ (TX7 b).2.1 := by decide +kernel
theorem tyX7_ok : ∀ k, k < 10 → parseFieldDescriptor (TX7 k).2.2.1 = some (tyX7 k) := by decide +kernel
abbrev cX7_init : ByteArray := prog_9_method_1_code
def yX7_init : MethodName := ⟨RX7, "<init>", "()V"⟩
abbrev cX7_hasRoomFor : ByteArray := prog_9_method_2_code
def yX7_hasRoomFor : MethodName := ⟨RX7, "hasRoomFor", "(I)Z"⟩
abbrev cX7_append : ByteArray := prog_9_method_3_code
def yX7_append : MethodName := ⟨RX7, "append", "(I)V"⟩
abbrev cX7_readInto : ByteArray := prog_9_method_4_code
def yX7_readInto : MethodName := ⟨RX7, "readInto", "(LMovingStairs$Text;)Z"⟩
abbrev cX7_cut : ByteArray := prog_9_method_5_code
def yX7_cut : MethodName := ⟨RX7, "cut", "()V"⟩
abbrev cX7_cutOne : ByteArray := prog_9_method_6_code
def yX7_cutOne : MethodName := ⟨RX7, "cutOne", "(I)I"⟩
abbrev cX7_byteAt : ByteArray := prog_9_method_7_code
def yX7_byteAt : MethodName := ⟨RX7, "byteAt", "(I)I"⟩
abbrev cX7_isLetter : ByteArray := prog_9_method_8_code
def yX7_isLetter : MethodName := ⟨RX7, "isLetter", "(I)Z"⟩
abbrev cX7_isDigit : ByteArray := prog_9_method_9_code
def yX7_isDigit : MethodName := ⟨RX7, "isDigit", "(I)Z"⟩
abbrev cX7_signOf : ByteArray := prog_9_method_10_code
def yX7_signOf : MethodName := ⟨RX7, "signOf", "(I)I"⟩
abbrev cX7_addToken : ByteArray := prog_9_method_11_code
def yX7_addToken : MethodName := ⟨RX7, "addToken", "(III)V"⟩
abbrev cX7_addWord : ByteArray := prog_9_method_12_code
def yX7_addWord : MethodName := ⟨RX7, "addWord", "(II)V"⟩
abbrev cX7_isWord : ByteArray := prog_9_method_13_code
def yX7_isWord : MethodName := ⟨RX7, "isWord", "(IIII)Z"⟩
abbrev cX7_kind : ByteArray := prog_9_method_14_code
def yX7_kind : MethodName := ⟨RX7, "kind", "()I"⟩
abbrev cX7_value : ByteArray := prog_9_method_15_code
def yX7_value : MethodName := ⟨RX7, "value", "()I"⟩
abbrev cX7_fails : ByteArray := prog_9_method_16_code
def yX7_fails : MethodName := ⟨RX7, "fails", "(I)Z"⟩
abbrev cX7_readClause : ByteArray := prog_9_method_17_code
def yX7_readClause : MethodName := ⟨RX7, "readClause", "(LMovingStairs$Text;)Z"⟩
abbrev cX7_readEither : ByteArray := prog_9_method_18_code
def yX7_readEither : MethodName := ⟨RX7, "readEither", "(LMovingStairs$Text;)Z"⟩
abbrev cX7_readBoth : ByteArray := prog_9_method_19_code
def yX7_readBoth : MethodName := ⟨RX7, "readBoth", "(LMovingStairs$Text;)Z"⟩
abbrev cX7_readAsk : ByteArray := prog_9_method_20_code
def yX7_readAsk : MethodName := ⟨RX7, "readAsk", "(LMovingStairs$Text;I)Z"⟩
abbrev cX7_readSum : ByteArray := prog_9_method_21_code
def yX7_readSum : MethodName := ⟨RX7, "readSum", "(LMovingStairs$Text;I)Z"⟩
abbrev cX7_readProduct : ByteArray := prog_9_method_22_code
def yX7_readProduct : MethodName := ⟨RX7, "readProduct", "(LMovingStairs$Text;I)Z"⟩
abbrev cX7_readOne : ByteArray := prog_9_method_23_code
def yX7_readOne : MethodName := ⟨RX7, "readOne", "(LMovingStairs$Text;I)Z"⟩
def RX8 : String := "MovingStairs$Routes"
def TX8 : u_T := fun k => match k with
  | 0 => ("MovingStairs$Routes", "first", "[I", true)
  | 1 => ("MovingStairs$Routes", "distance", "[I", true)
  | _ => ("MovingStairs$Routes", "known", "I", false)
def tyX8 : Nat → FieldType := fun k => match k with
  | 0 => .array .int
  | 1 => .array .int
  | _ => .int
abbrev wsX80 : List Cond := u_ws RX8 TX8 3
theorem nmX8 : ∀ a, a < 3 → ∀ b, b < 3 → a ≠ b → (TX8 a).2.1 ≠ (TX8 b).2.1 := by decide +kernel
theorem tyX8_ok : ∀ k, k < 3 → parseFieldDescriptor (TX8 k).2.2.1 = some (tyX8 k) := by decide +kernel
abbrev cX8_init : ByteArray := prog_10_method_1_code
def yX8_init : MethodName := ⟨RX8, "<init>", "()V"⟩
abbrev cX8_forget : ByteArray := prog_10_method_2_code
def yX8_forget : MethodName := ⟨RX8, "forget", "()V"⟩
abbrev cX8_firstLink : ByteArray := prog_10_method_3_code
def yX8_firstLink : MethodName := ⟨RX8, "firstLink", "(III)I"⟩
abbrev cX8_find : ByteArray := prog_10_method_4_code
def yX8_find : MethodName := ⟨RX8, "find", "(LMovingStairs$Station;)V"⟩
abbrev cX8_findFor : ByteArray := prog_10_method_5_code
def yX8_findFor : MethodName := ⟨RX8, "findFor", "(LMovingStairs$Station;I)V"⟩
abbrev cX8_leads : ByteArray := prog_10_method_6_code
def yX8_leads : MethodName := ⟨RX8, "leads", "(LMovingStairs$Link;II)Z"⟩
abbrev cX8_between : ByteArray := prog_10_method_7_code
def yX8_between : MethodName := ⟨RX8, "between", "(II)I"⟩
abbrev cX8_shorten : ByteArray := prog_10_method_8_code
def yX8_shorten : MethodName := ⟨RX8, "shorten", "(III)V"⟩
abbrev cX8_lowestFirst : ByteArray := prog_10_method_9_code
def yX8_lowestFirst : MethodName := ⟨RX8, "lowestFirst", "(LMovingStairs$Station;III)I"⟩
def RX9 : String := "MovingStairs$Station"
def TX9 : u_T := fun k => match k with
  | 0 => ("MovingStairs$Station", "halls", "[LMovingStairs$Hall;", true)
  | 1 => ("MovingStairs$Station", "links", "[LMovingStairs$Link;", true)
  | 2 => ("MovingStairs$Station", "bursts", "[LMovingStairs$Burst;", true)
  | 3 => ("MovingStairs$Station", "days", "LMovingStairs$Days;", true)
  | 4 => ("MovingStairs$Station", "mends", "LMovingStairs$Mends;", true)
  | 5 => ("MovingStairs$Station", "loads", "LMovingStairs$Loads;", true)
  | 6 => ("MovingStairs$Station", "second", "I", false)
  | 7 => ("MovingStairs$Station", "hallCount", "I", false)
  | 8 => ("MovingStairs$Station", "linkCount", "I", false)
  | 9 => ("MovingStairs$Station", "burstCount", "I", false)
  | 10 => ("MovingStairs$Station", "textCount", "I", false)
  | 11 => ("MovingStairs$Station", "textInUse", "I", false)
  | 12 => ("MovingStairs$Station", "arrived", "I", false)
  | 13 => ("MovingStairs$Station", "waited", "I", false)
  | 14 => ("MovingStairs$Station", "goneBack", "I", false)
  | _ => ("MovingStairs$Station", "trips", "I", false)
def tyX9 : Nat → FieldType := fun k => match k with
  | 0 => .array (.object "MovingStairs$Hall")
  | 1 => .array (.object "MovingStairs$Link")
  | 2 => .array (.object "MovingStairs$Burst")
  | 3 => .object "MovingStairs$Days"
  | 4 => .object "MovingStairs$Mends"
  | 5 => .object "MovingStairs$Loads"
  | 6 => .int
  | 7 => .int
  | 8 => .int
  | 9 => .int
  | 10 => .int
  | 11 => .int
  | 12 => .int
  | 13 => .int
  | 14 => .int
  | _ => .int
abbrev wsX90 : List Cond := u_ws RX9 TX9 16
theorem nmX9 : ∀ a, a < 16 → ∀ b, b < 16 → a ≠ b → (TX9 a).2.1 ≠ (TX9 b).2.1 := by decide +kernel
theorem tyX9_ok : ∀ k, k < 16 → parseFieldDescriptor (TX9 k).2.2.1 = some (tyX9 k) := by decide +kernel
abbrev cX9_init : ByteArray := prog_11_method_1_code
def yX9_init : MethodName := ⟨RX9, "<init>", "()V"⟩
abbrev cX9_hasHall : ByteArray := prog_11_method_2_code
def yX9_hasHall : MethodName := ⟨RX9, "hasHall", "(I)Z"⟩
abbrev cX9_hasLink : ByteArray := prog_11_method_3_code
def yX9_hasLink : MethodName := ⟨RX9, "hasLink", "(I)Z"⟩
abbrev cX9_hasStepped : ByteArray := prog_11_method_4_code
def yX9_hasStepped : MethodName := ⟨RX9, "hasStepped", "(I)Z"⟩
abbrev cX9_hasStair : ByteArray := prog_11_method_5_code
def yX9_hasStair : MethodName := ⟨RX9, "hasStair", "(I)Z"⟩
abbrev cX9_anyHallOver : ByteArray := prog_11_method_6_code
def yX9_anyHallOver : MethodName := ⟨RX9, "anyHallOver", "()Z"⟩
abbrev cX9_admits : ByteArray := prog_11_method_7_code
def yX9_admits : MethodName := ⟨RX9, "admits", "(II)Z"⟩
abbrev cX9_comeTo : ByteArray := prog_11_method_8_code
def yX9_comeTo : MethodName := ⟨RX9, "comeTo", "(IIII)V"⟩
abbrev cX9_copyAll : ByteArray := prog_11_method_9_code
def yX9_copyAll : MethodName := ⟨RX9, "copyAll", "(LMovingStairs$Station;)V"⟩
abbrev cX9_copyMoving : ByteArray := prog_11_method_10_code
def yX9_copyMoving : MethodName := ⟨RX9, "copyMoving", "(LMovingStairs$Station;)V"⟩
abbrev cX9_buildAlone : ByteArray := prog_11_method_11_code
def yX9_buildAlone : MethodName := ⟨RX9, "buildAlone", "(III)V"⟩
def RX10 : String := "MovingStairs$Text"
def TX10 : u_T := fun k => match k with
  | 0 => ("MovingStairs$Text", "ops", "[I", true)
  | 1 => ("MovingStairs$Text", "values", "[I", true)
  | 2 => ("MovingStairs$Text", "kinds", "[I", true)
  | 3 => ("MovingStairs$Text", "ends", "[I", true)
  | 4 => ("MovingStairs$Text", "stack", "[I", true)
  | 5 => ("MovingStairs$Text", "opCount", "I", false)
  | _ => ("MovingStairs$Text", "clauseCount", "I", false)
def tyX10 : Nat → FieldType := fun k => match k with
  | 0 => .array .int
  | 1 => .array .int
  | 2 => .array .int
  | 3 => .array .int
  | 4 => .array .int
  | 5 => .int
  | _ => .int
abbrev wsX100 : List Cond := u_ws RX10 TX10 7
theorem nmX10 : ∀ a, a < 7 → ∀ b, b < 7 → a ≠ b → (TX10 a).2.1 ≠ (TX10 b).2.1 := by decide +kernel
theorem tyX10_ok : ∀ k, k < 7 → parseFieldDescriptor (TX10 k).2.2.1 = some (tyX10 k) := by decide +kernel
abbrev cX10_init : ByteArray := prog_12_method_1_code
def yX10_init : MethodName := ⟨RX10, "<init>", "()V"⟩
abbrev cX10_add : ByteArray := prog_12_method_2_code
def yX10_add : MethodName := ⟨RX10, "add", "(II)V"⟩
abbrev cX10_has : ByteArray := prog_12_method_3_code
def yX10_has : MethodName := ⟨RX10, "has", "(I)Z"⟩
abbrev cX10_open : ByteArray := prog_12_method_4_code
def yX10_open : MethodName := ⟨RX10, "open", "(I)V"⟩
abbrev cX10_close : ByteArray := prog_12_method_5_code
def yX10_close : MethodName := ⟨RX10, "close", "()V"⟩
abbrev cX10_anySo : ByteArray := prog_12_method_6_code
def yX10_anySo : MethodName := ⟨RX10, "anySo", "(I[I)Z"⟩
abbrev cX10_walk : ByteArray := prog_12_method_7_code
def yX10_walk : MethodName := ⟨RX10, "walk", "([I)I"⟩
abbrev cX10_worth : ByteArray := prog_12_method_8_code
def yX10_worth : MethodName := ⟨RX10, "worth", "(II[I)I"⟩
abbrev cX10_joined : ByteArray := prog_12_method_9_code
def yX10_joined : MethodName := ⟨RX10, "joined", "(IJJ)J"⟩
def RX11 : String := "MovingStairs"
def TX11 : u_T := fun k => match k with
  | 0 => ("MovingStairs", "now", "LMovingStairs$Station;", true)
  | 1 => ("MovingStairs", "kept", "LMovingStairs$Station;", true)
  | 2 => ("MovingStairs", "tried", "LMovingStairs$Station;", true)
  | 3 => ("MovingStairs", "mover", "LMovingStairs$Mover;", true)
  | 4 => ("MovingStairs", "reader", "LMovingStairs$Reader;", true)
  | 5 => ("MovingStairs", "noText", "LMovingStairs$Text;", true)
  | _ => ("MovingStairs", "texts", "[LMovingStairs$Text;", true)
def tyX11 : Nat → FieldType := fun k => match k with
  | 0 => .object "MovingStairs$Station"
  | 1 => .object "MovingStairs$Station"
  | 2 => .object "MovingStairs$Station"
  | 3 => .object "MovingStairs$Mover"
  | 4 => .object "MovingStairs$Reader"
  | 5 => .object "MovingStairs$Text"
  | _ => .array (.object "MovingStairs$Text")
abbrev wsX110 : List Cond := u_ws RX11 TX11 7
theorem nmX11 : ∀ a, a < 7 → ∀ b, b < 7 → a ≠ b → (TX11 a).2.1 ≠ (TX11 b).2.1 := by decide +kernel
theorem tyX11_ok : ∀ k, k < 7 → parseFieldDescriptor (TX11 k).2.2.1 = some (tyX11 k) := by decide +kernel
abbrev cX11_init : ByteArray := prog_1_method_1_code
def yX11_init : MethodName := ⟨RX11, "<init>", "()V"⟩
abbrev cX11_hall : ByteArray := prog_1_method_2_code
def yX11_hall : MethodName := ⟨RX11, "hall", "(I)I"⟩
abbrev cX11_bar : ByteArray := prog_1_method_3_code
def yX11_bar : MethodName := ⟨RX11, "bar", "(II)Z"⟩
abbrev cX11_link : ByteArray := prog_1_method_4_code
def yX11_link : MethodName := ⟨RX11, "link", "(IIIII)I"⟩
abbrev cX11_turn : ByteArray := prog_1_method_5_code
def yX11_turn : MethodName := ⟨RX11, "turn", "(II)Z"⟩
abbrev cX11_mode : ByteArray := prog_1_method_6_code
def yX11_mode : MethodName := ⟨RX11, "mode", "(II)Z"⟩
abbrev cX11_reset : ByteArray := prog_1_method_7_code
def yX11_reset : MethodName := ⟨RX11, "reset", "(I)Z"⟩
abbrev cX11_burst : ByteArray := prog_1_method_8_code
def yX11_burst : MethodName := ⟨RX11, "burst", "(IIIIIZZ)I"⟩
abbrev cX11_feed : ByteArray := prog_1_method_9_code
def yX11_feed : MethodName := ⟨RX11, "feed", "(IIIII)I"⟩
abbrev cX11_end : ByteArray := prog_1_method_10_code
def yX11_end : MethodName := ⟨RX11, "end", "(I)I"⟩
abbrev cX11_text : ByteArray := prog_1_method_11_code
def yX11_text : MethodName := ⟨RX11, "text", "()I"⟩
abbrev cX11_fault : ByteArray := prog_1_method_12_code
def yX11_fault : MethodName := ⟨RX11, "fault", "(I)I"⟩
abbrev cX11_by : ByteArray := prog_1_method_13_code
def yX11_by : MethodName := ⟨RX11, "by", "(I)Z"⟩
abbrev cX11_run : ByteArray := prog_1_method_14_code
def yX11_run : MethodName := ⟨RX11, "run", "(I)I"⟩
abbrev cX11_of : ByteArray := prog_1_method_15_code
def yX11_of : MethodName := ⟨RX11, "of", "(II)I"⟩
abbrev cX11_on : ByteArray := prog_1_method_16_code
def yX11_on : MethodName := ⟨RX11, "on", "(II)I"⟩
abbrev cX11_step : ByteArray := prog_1_method_17_code
def yX11_step : MethodName := ⟨RX11, "step", "(III)I"⟩
abbrev cX11_route : ByteArray := prog_1_method_18_code
def yX11_route : MethodName := ⟨RX11, "route", "(IIZ)I"⟩
abbrev cX11_all : ByteArray := prog_1_method_19_code
def yX11_all : MethodName := ⟨RX11, "all", "(I)I"⟩
abbrev cX11_ways : ByteArray := prog_1_method_20_code
def yX11_ways : MethodName := ⟨RX11, "ways", "(III)I"⟩
abbrev cX11_least : ByteArray := prog_1_method_21_code
def yX11_least : MethodName := ⟨RX11, "least", "(III)I"⟩
abbrev cX11_felt : ByteArray := prog_1_method_22_code
def yX11_felt : MethodName := ⟨RX11, "felt", "(II)I"⟩
abbrev cX11_standing : ByteArray := prog_1_method_23_code
def yX11_standing : MethodName := ⟨RX11, "standing", "(II)I"⟩
abbrev cX11_alone : ByteArray := prog_1_method_24_code
def yX11_alone : MethodName := ⟨RX11, "alone", "(IIII)I"⟩
abbrev cX11_crossing : ByteArray := prog_1_method_25_code
def yX11_crossing : MethodName := ⟨RX11, "crossing", "(II)I"⟩
abbrev cX11_day : ByteArray := prog_1_method_26_code
def yX11_day : MethodName := ⟨RX11, "day", "(ZII)I"⟩
abbrev cX11_effect : ByteArray := prog_1_method_27_code
def yX11_effect : MethodName := ⟨RX11, "effect", "()I"⟩
abbrev cX11_mend : ByteArray := prog_1_method_28_code
def yX11_mend : MethodName := ⟨RX11, "mend", "(IIII)I"⟩
abbrev cX11_order : ByteArray := prog_1_method_29_code
def yX11_order : MethodName := ⟨RX11, "order", "(I)I"⟩
abbrev cX11_load : ByteArray := prog_1_method_30_code
def yX11_load : MethodName := ⟨RX11, "load", "(I)I"⟩
abbrev cX11_unload : ByteArray := prog_1_method_31_code
def yX11_unload : MethodName := ⟨RX11, "unload", "()I"⟩
abbrev cX11_taken : ByteArray := prog_1_method_32_code
def yX11_taken : MethodName := ⟨RX11, "taken", "(IZ)I"⟩
abbrev cX11_image : ByteArray := prog_1_method_33_code
def yX11_image : MethodName := ⟨RX11, "image", "()I"⟩
abbrev cX11_back : ByteArray := prog_1_method_34_code
def yX11_back : MethodName := ⟨RX11, "back", "()I"⟩
abbrev cX11_about : ByteArray := prog_1_method_35_code
def yX11_about : MethodName := ⟨RX11, "about", "(I)I"⟩
abbrev cX11_within : ByteArray := prog_1_method_36_code
def yX11_within : MethodName := ⟨RX11, "within", "(III)Z"⟩
abbrev cX11_mayRun : ByteArray := prog_1_method_37_code
def yX11_mayRun : MethodName := ⟨RX11, "mayRun", "(I)Z"⟩
abbrev cX11_mayStandAlone : ByteArray := prog_1_method_38_code
def yX11_mayStandAlone : MethodName := ⟨RX11, "mayStandAlone", "(II)Z"⟩
abbrev cX11_mayTurn : ByteArray := prog_1_method_39_code
def yX11_mayTurn : MethodName := ⟨RX11, "mayTurn", "(I)Z"⟩
abbrev cX11_law : ByteArray := prog_1_method_40_code
def yX11_law : MethodName := ⟨RX11, "law", "()LMovingStairs$Text;"⟩
abbrev cX11_beginTrial : ByteArray := prog_1_method_41_code
def yX11_beginTrial : MethodName := ⟨RX11, "beginTrial", "()LMovingStairs$Text;"⟩
abbrev cX11_waitedByWays : ByteArray := prog_1_method_42_code
def yX11_waitedByWays : MethodName := ⟨RX11, "waitedByWays", "(III)I"⟩
abbrev cX11_shutByBar : ByteArray := prog_1_method_43_code
def yX11_shutByBar : MethodName := ⟨RX11, "shutByBar", "(III)I"⟩
abbrev cX11_offByMode : ByteArray := prog_1_method_44_code
def yX11_offByMode : MethodName := ⟨RX11, "offByMode", "(III)I"⟩
abbrev cX11_carriedAlone : ByteArray := prog_1_method_45_code
def yX11_carriedAlone : MethodName := ⟨RX11, "carriedAlone", "(IIII)I"⟩
def RX12 : String := "MovingStairsModel"
def TX12 : u_T := fun k => match k with
  | 0 => ("MovingStairsModel", "a", "[I", true)
  | 1 => ("MovingStairsModel", "image", "[I", true)
  | 2 => ("MovingStairsModel", "keep", "[I", true)
  | 3 => ("MovingStairsModel", "tape", "[B", true)
  | 4 => ("MovingStairsModel", "taped", "I", false)
  | 5 => ("MovingStairsModel", "fault", "I", false)
  | 6 => ("MovingStairsModel", "faultAt", "I", false)
  | 7 => ("MovingStairsModel", "clauses", "[I", true)
  | 8 => ("MovingStairsModel", "clauseWord", "[I", true)
  | 9 => ("MovingStairsModel", "clauseAt", "[I", true)
  | 10 => ("MovingStairsModel", "order", "[I", true)
  | 11 => ("MovingStairsModel", "value", "[I", true)
  | 12 => ("MovingStairsModel", "length", "I", false)
  | 13 => ("MovingStairsModel", "at", "I", false)
  | 14 => ("MovingStairsModel", "token", "I", false)
  | 15 => ("MovingStairsModel", "sort", "I", false)
  | 16 => ("MovingStairsModel", "told", "I", false)
  | 17 => ("MovingStairsModel", "wrong", "I", false)
  | 18 => ("MovingStairsModel", "wrongAt", "I", false)
  | 19 => ("MovingStairsModel", "open", "I", false)
  | 20 => ("MovingStairsModel", "frames", "I", false)
  | 21 => ("MovingStairsModel", "frame", "[I", true)
  | 22 => ("MovingStairsModel", "compare", "[I", true)
  | 23 => ("MovingStairsModel", "waits", "I", false)
  | 24 => ("MovingStairsModel", "wait", "[I", true)
  | 25 => ("MovingStairsModel", "waitFrame", "[I", true)
  | 26 => ("MovingStairsModel", "state", "I", false)
  | 27 => ("MovingStairsModel", "newClauses", "I", false)
  | 28 => ("MovingStairsModel", "newKind", "I", false)
  | 29 => ("MovingStairsModel", "newWord", "[I", true)
  | 30 => ("MovingStairsModel", "newAt", "[I", true)
  | 31 => ("MovingStairsModel", "newOrders", "I", false)
  | 32 => ("MovingStairsModel", "newOrder", "[I", true)
  | 33 => ("MovingStairsModel", "newValue", "[I", true)
  | 34 => ("MovingStairsModel", "name", "[I", true)
  | 35 => ("MovingStairsModel", "pile", "[J", true)
  | 36 => ("MovingStairsModel", "isShut", "[Z", true)
  | 37 => ("MovingStairsModel", "route", "[I", true)
  | 38 => ("MovingStairsModel", "far", "[I", true)
  | 39 => ("MovingStairsModel", "lone", "[I", true)
  | 40 => ("MovingStairsModel", "bestTo", "[I", true)
  | _ => ("MovingStairsModel", "bestOn", "[I", true)
def tyX12 : Nat → FieldType := fun k => match k with
  | 0 => .array .int
  | 1 => .array .int
  | 2 => .array .int
  | 3 => .array .byte
  | 4 => .int
  | 5 => .int
  | 6 => .int
  | 7 => .array .int
  | 8 => .array .int
  | 9 => .array .int
  | 10 => .array .int
  | 11 => .array .int
  | 12 => .int
  | 13 => .int
  | 14 => .int
  | 15 => .int
  | 16 => .int
  | 17 => .int
  | 18 => .int
  | 19 => .int
  | 20 => .int
  | 21 => .array .int
  | 22 => .array .int
  | 23 => .int
  | 24 => .array .int
  | 25 => .array .int
  | 26 => .int
  | 27 => .int
  | 28 => .int
  | 29 => .array .int
  | 30 => .array .int
  | 31 => .int
  | 32 => .array .int
  | 33 => .array .int
  | 34 => .array .int
  | 35 => .array .long
  | 36 => .array .boolean
  | 37 => .array .int
  | 38 => .array .int
  | 39 => .array .int
  | 40 => .array .int
  | _ => .array .int
abbrev wsX120 : List Cond := u_ws RX12 TX12 42
theorem nmX12 : ∀ a, a < 42 → ∀ b, b < 42 → a ≠ b → (TX12 a).2.1 ≠ (TX12 b).2.1 := by decide +kernel
theorem tyX12_ok : ∀ k, k < 42 → parseFieldDescriptor (TX12 k).2.2.1 = some (tyX12 k) := by decide +kernel
abbrev cX12_init : ByteArray := prog_14_method_1_code
def yX12_init : MethodName := ⟨RX12, "<init>", "()V"⟩
abbrev cX12_in : ByteArray := prog_14_method_2_code
def yX12_in : MethodName := ⟨RX12, "in", "(III)Z"⟩
abbrev cX12_isHall : ByteArray := prog_14_method_3_code
def yX12_isHall : MethodName := ⟨RX12, "isHall", "(I)Z"⟩
abbrev cX12_isLink : ByteArray := prog_14_method_4_code
def yX12_isLink : MethodName := ⟨RX12, "isLink", "(I)Z"⟩
abbrev cX12_hallOf : ByteArray := prog_14_method_5_code
def yX12_hallOf : MethodName := ⟨RX12, "hallOf", "(II)I"⟩
abbrev cX12_linkOf : ByteArray := prog_14_method_6_code
def yX12_linkOf : MethodName := ⟨RX12, "linkOf", "(II)I"⟩
abbrev cX12_tells : ByteArray := prog_14_method_7_code
def yX12_tells : MethodName := ⟨RX12, "tells", "(III)V"⟩
abbrev cX12_isStairs : ByteArray := prog_14_method_8_code
def yX12_isStairs : MethodName := ⟨RX12, "isStairs", "(I)Z"⟩
abbrev cX12_hall : ByteArray := prog_14_method_9_code
def yX12_hall : MethodName := ⟨RX12, "hall", "(I)I"⟩
abbrev cX12_bar : ByteArray := prog_14_method_10_code
def yX12_bar : MethodName := ⟨RX12, "bar", "(II)Z"⟩
abbrev cX12_link : ByteArray := prog_14_method_11_code
def yX12_link : MethodName := ⟨RX12, "link", "(IIIII)I"⟩
abbrev cX12_loadOf : ByteArray := prog_14_method_12_code
def yX12_loadOf : MethodName := ⟨RX12, "loadOf", "(I)I"⟩
abbrev cX12_turn : ByteArray := prog_14_method_13_code
def yX12_turn : MethodName := ⟨RX12, "turn", "(II)Z"⟩
abbrev cX12_mode : ByteArray := prog_14_method_14_code
def yX12_mode : MethodName := ⟨RX12, "mode", "(II)Z"⟩
abbrev cX12_reset : ByteArray := prog_14_method_15_code
def yX12_reset : MethodName := ⟨RX12, "reset", "(I)Z"⟩
abbrev cX12_burst : ByteArray := prog_14_method_16_code
def yX12_burst : MethodName := ⟨RX12, "burst", "(IIIIIZZ)I"⟩
abbrev cX12_put : ByteArray := prog_14_method_17_code
def yX12_put : MethodName := ⟨RX12, "put", "(I)V"⟩
abbrev cX12_feed : ByteArray := prog_14_method_18_code
def yX12_feed : MethodName := ⟨RX12, "feed", "(IIIII)I"⟩
abbrev cX12_end : ByteArray := prog_14_method_19_code
def yX12_end : MethodName := ⟨RX12, "end", "(I)I"⟩
abbrev cX12_isLetter : ByteArray := prog_14_method_20_code
def yX12_isLetter : MethodName := ⟨RX12, "isLetter", "(I)Z"⟩
abbrev cX12_wordOf : ByteArray := prog_14_method_21_code
def yX12_wordOf : MethodName := ⟨RX12, "wordOf", "(J)I"⟩
abbrev cX12_next : ByteArray := prog_14_method_22_code
def yX12_next : MethodName := ⟨RX12, "next", "()V"⟩
abbrev cX12_isSign : ByteArray := prog_14_method_23_code
def yX12_isSign : MethodName := ⟨RX12, "isSign", "(I)Z"⟩
abbrev cX12_isWord : ByteArray := prog_14_method_24_code
def yX12_isWord : MethodName := ⟨RX12, "isWord", "(I)Z"⟩
abbrev cX12_errs : ByteArray := prog_14_method_25_code
def yX12_errs : MethodName := ⟨RX12, "errs", "(I)V"⟩
abbrev cX12_emits : ByteArray := prog_14_method_26_code
def yX12_emits : MethodName := ⟨RX12, "emits", "(II)V"⟩
abbrev cX12_opensFrame : ByteArray := prog_14_method_27_code
def yX12_opensFrame : MethodName := ⟨RX12, "opensFrame", "(I)V"⟩
abbrev cX12_top : ByteArray := prog_14_method_28_code
def yX12_top : MethodName := ⟨RX12, "top", "()I"⟩
abbrev cX12_opensSign : ByteArray := prog_14_method_29_code
def yX12_opensSign : MethodName := ⟨RX12, "opensSign", "(I)Z"⟩
abbrev cX12_rank : ByteArray := prog_14_method_30_code
def yX12_rank : MethodName := ⟨RX12, "rank", "(I)I"⟩
abbrev cX12_works : ByteArray := prog_14_method_31_code
def yX12_works : MethodName := ⟨RX12, "works", "(I)V"⟩
abbrev cX12_waitsFor : ByteArray := prog_14_method_32_code
def yX12_waitsFor : MethodName := ⟨RX12, "waitsFor", "(I)V"⟩
abbrev cX12_asks : ByteArray := prog_14_method_33_code
def yX12_asks : MethodName := ⟨RX12, "asks", "()V"⟩
abbrev cX12_begins : ByteArray := prog_14_method_34_code
def yX12_begins : MethodName := ⟨RX12, "begins", "()V"⟩
abbrev cX12_oneIsOver : ByteArray := prog_14_method_35_code
def yX12_oneIsOver : MethodName := ⟨RX12, "oneIsOver", "()V"⟩
abbrev cX12_askIsOver : ByteArray := prog_14_method_36_code
def yX12_askIsOver : MethodName := ⟨RX12, "askIsOver", "()V"⟩
abbrev cX12_isAsking : ByteArray := prog_14_method_37_code
def yX12_isAsking : MethodName := ⟨RX12, "isAsking", "(I)Z"⟩
abbrev cX12_goesOn : ByteArray := prog_14_method_38_code
def yX12_goesOn : MethodName := ⟨RX12, "goesOn", "()V"⟩
abbrev cX12_asksOn : ByteArray := prog_14_method_39_code
def yX12_asksOn : MethodName := ⟨RX12, "asksOn", "()V"⟩
abbrev cX12_clauseIsOver : ByteArray := prog_14_method_40_code
def yX12_clauseIsOver : MethodName := ⟨RX12, "clauseIsOver", "()V"⟩
abbrev cX12_wasWalk : ByteArray := prog_14_method_41_code
def yX12_wasWalk : MethodName := ⟨RX12, "wasWalk", "()Z"⟩
abbrev cX12_clause : ByteArray := prog_14_method_42_code
def yX12_clause : MethodName := ⟨RX12, "clause", "()V"⟩
abbrev cX12_text : ByteArray := prog_14_method_43_code
def yX12_text : MethodName := ⟨RX12, "text", "()I"⟩
abbrev cX12_keepsText : ByteArray := prog_14_method_44_code
def yX12_keepsText : MethodName := ⟨RX12, "keepsText", "(I)V"⟩
abbrev cX12_fault : ByteArray := prog_14_method_45_code
def yX12_fault : MethodName := ⟨RX12, "fault", "(I)I"⟩
abbrev cX12_bound : ByteArray := prog_14_method_46_code
def yX12_bound : MethodName := ⟨RX12, "bound", "(J)J"⟩
abbrev cX12_worked : ByteArray := prog_14_method_47_code
def yX12_worked : MethodName := ⟨RX12, "worked", "(IJJ)J"⟩
abbrev cX12_saysOf : ByteArray := prog_14_method_48_code
def yX12_saysOf : MethodName := ⟨RX12, "saysOf", "(I)J"⟩
abbrev cX12_by : ByteArray := prog_14_method_49_code
def yX12_by : MethodName := ⟨RX12, "by", "(I)Z"⟩
abbrev cX12_countOf : ByteArray := prog_14_method_50_code
def yX12_countOf : MethodName := ⟨RX12, "countOf", "(II)I"⟩
abbrev cX12_inHall : ByteArray := prog_14_method_51_code
def yX12_inHall : MethodName := ⟨RX12, "inHall", "(I)I"⟩
abbrev cX12_comes : ByteArray := prog_14_method_52_code
def yX12_comes : MethodName := ⟨RX12, "comes", "(IIII)V"⟩
abbrev cX12_isSome : ByteArray := prog_14_method_53_code
def yX12_isSome : MethodName := ⟨RX12, "isSome", "(II)Z"⟩
abbrev cX12_walkOf : ByteArray := prog_14_method_54_code
def yX12_walkOf : MethodName := ⟨RX12, "walkOf", "(I)I"⟩
abbrev cX12_footOf : ByteArray := prog_14_method_55_code
def yX12_footOf : MethodName := ⟨RX12, "footOf", "(I)I"⟩
abbrev cX12_headOf : ByteArray := prog_14_method_56_code
def yX12_headOf : MethodName := ⟨RX12, "headOf", "(I)I"⟩
abbrev cX12_bursts : ByteArray := prog_14_method_57_code
def yX12_bursts : MethodName := ⟨RX12, "bursts", "(I)V"⟩
abbrev cX12_lets : ByteArray := prog_14_method_58_code
def yX12_lets : MethodName := ⟨RX12, "lets", "(I)V"⟩
abbrev cX12_costFrom : ByteArray := prog_14_method_59_code
def yX12_costFrom : MethodName := ⟨RX12, "costFrom", "(III)I"⟩
abbrev cX12_otherEnd : ByteArray := prog_14_method_60_code
def yX12_otherEnd : MethodName := ⟨RX12, "otherEnd", "(II)I"⟩
abbrev cX12_routes : ByteArray := prog_14_method_61_code
def yX12_routes : MethodName := ⟨RX12, "routes", "(II)V"⟩
abbrev cX12_allRoutes : ByteArray := prog_14_method_62_code
def yX12_allRoutes : MethodName := ⟨RX12, "allRoutes", "()V"⟩
abbrev cX12_route : ByteArray := prog_14_method_63_code
def yX12_route : MethodName := ⟨RX12, "route", "(IIZ)I"⟩
abbrev cX12_mostOf : ByteArray := prog_14_method_64_code
def yX12_mostOf : MethodName := ⟨RX12, "mostOf", "(III)I"⟩
abbrev cX12_lifts : ByteArray := prog_14_method_65_code
def yX12_lifts : MethodName := ⟨RX12, "lifts", "(III)V"⟩
abbrev cX12_placeOf : ByteArray := prog_14_method_66_code
def yX12_placeOf : MethodName := ⟨RX12, "placeOf", "(III)I"⟩
abbrev cX12_stepsOff : ByteArray := prog_14_method_67_code
def yX12_stepsOff : MethodName := ⟨RX12, "stepsOff", "(II)Z"⟩
abbrev cX12_trips : ByteArray := prog_14_method_68_code
def yX12_trips : MethodName := ⟨RX12, "trips", "(I)V"⟩
abbrev cX12_moves : ByteArray := prog_14_method_69_code
def yX12_moves : MethodName := ⟨RX12, "moves", "(II)Z"⟩
abbrev cX12_climbs : ByteArray := prog_14_method_70_code
def yX12_climbs : MethodName := ⟨RX12, "climbs", "(II)V"⟩
abbrev cX12_sideFor : ByteArray := prog_14_method_71_code
def yX12_sideFor : MethodName := ⟨RX12, "sideFor", "(IZ)I"⟩
abbrev cX12_takes : ByteArray := prog_14_method_72_code
def yX12_takes : MethodName := ⟨RX12, "takes", "(II)V"⟩
abbrev cX12_stairs : ByteArray := prog_14_method_73_code
def yX12_stairs : MethodName := ⟨RX12, "stairs", "(II)V"⟩
abbrev cX12_second : ByteArray := prog_14_method_74_code
def yX12_second : MethodName := ⟨RX12, "second", "()V"⟩
abbrev cX12_isOver : ByteArray := prog_14_method_75_code
def yX12_isOver : MethodName := ⟨RX12, "isOver", "(I)Z"⟩
abbrev cX12_isRun : ByteArray := prog_14_method_76_code
def yX12_isRun : MethodName := ⟨RX12, "isRun", "(I)Z"⟩
abbrev cX12_run : ByteArray := prog_14_method_77_code
def yX12_run : MethodName := ⟨RX12, "run", "(I)I"⟩
abbrev cX12_of : ByteArray := prog_14_method_78_code
def yX12_of : MethodName := ⟨RX12, "of", "(II)I"⟩
abbrev cX12_on : ByteArray := prog_14_method_79_code
def yX12_on : MethodName := ⟨RX12, "on", "(II)I"⟩
abbrev cX12_step : ByteArray := prog_14_method_80_code
def yX12_step : MethodName := ⟨RX12, "step", "(III)I"⟩
abbrev cX12_all : ByteArray := prog_14_method_81_code
def yX12_all : MethodName := ⟨RX12, "all", "(I)I"⟩
abbrev cX12_saves : ByteArray := prog_14_method_82_code
def yX12_saves : MethodName := ⟨RX12, "saves", "()V"⟩
abbrev cX12_putsBack : ByteArray := prog_14_method_83_code
def yX12_putsBack : MethodName := ⟨RX12, "putsBack", "()V"⟩
abbrev cX12_runs : ByteArray := prog_14_method_84_code
def yX12_runs : MethodName := ⟨RX12, "runs", "(I)V"⟩
abbrev cX12_areStairs : ByteArray := prog_14_method_85_code
def yX12_areStairs : MethodName := ⟨RX12, "areStairs", "(I)Z"⟩
abbrev cX12_ways : ByteArray := prog_14_method_86_code
def yX12_ways : MethodName := ⟨RX12, "ways", "(III)I"⟩
abbrev cX12_least : ByteArray := prog_14_method_87_code
def yX12_least : MethodName := ⟨RX12, "least", "(III)I"⟩
abbrev cX12_isStair : ByteArray := prog_14_method_88_code
def yX12_isStair : MethodName := ⟨RX12, "isStair", "(I)Z"⟩
abbrev cX12_felt : ByteArray := prog_14_method_89_code
def yX12_felt : MethodName := ⟨RX12, "felt", "(II)I"⟩
abbrev cX12_standing : ByteArray := prog_14_method_90_code
def yX12_standing : MethodName := ⟨RX12, "standing", "(II)I"⟩
abbrev cX12_loneMoves : ByteArray := prog_14_method_91_code
def yX12_loneMoves : MethodName := ⟨RX12, "loneMoves", "(II)I"⟩
abbrev cX12_carries : ByteArray := prog_14_method_92_code
def yX12_carries : MethodName := ⟨RX12, "carries", "(IIII)I"⟩
abbrev cX12_alone : ByteArray := prog_14_method_93_code
def yX12_alone : MethodName := ⟨RX12, "alone", "(IIII)I"⟩
abbrev cX12_crossing : ByteArray := prog_14_method_94_code
def yX12_crossing : MethodName := ⟨RX12, "crossing", "(II)I"⟩
abbrev cX12_day : ByteArray := prog_14_method_95_code
def yX12_day : MethodName := ⟨RX12, "day", "(ZII)I"⟩
abbrev cX12_daysOf : ByteArray := prog_14_method_96_code
def yX12_daysOf : MethodName := ⟨RX12, "daysOf", "(IIZ)I"⟩
abbrev cX12_effect : ByteArray := prog_14_method_97_code
def yX12_effect : MethodName := ⟨RX12, "effect", "()I"⟩
abbrev cX12_mend : ByteArray := prog_14_method_98_code
def yX12_mend : MethodName := ⟨RX12, "mend", "(IIII)I"⟩
abbrev cX12_aboveOf : ByteArray := prog_14_method_99_code
def yX12_aboveOf : MethodName := ⟨RX12, "aboveOf", "(II)I"⟩
abbrev cX12_order : ByteArray := prog_14_method_100_code
def yX12_order : MethodName := ⟨RX12, "order", "(I)I"⟩
abbrev cX12_countsBy : ByteArray := prog_14_method_101_code
def yX12_countsBy : MethodName := ⟨RX12, "countsBy", "(III)I"⟩
abbrev cX12_load : ByteArray := prog_14_method_102_code
def yX12_load : MethodName := ⟨RX12, "load", "(I)I"⟩
abbrev cX12_unload : ByteArray := prog_14_method_103_code
def yX12_unload : MethodName := ⟨RX12, "unload", "()I"⟩
abbrev cX12_chain : ByteArray := prog_14_method_104_code
def yX12_chain : MethodName := ⟨RX12, "chain", "(III)I"⟩
abbrev cX12_taken : ByteArray := prog_14_method_105_code
def yX12_taken : MethodName := ⟨RX12, "taken", "(IZ)I"⟩
abbrev cX12_image : ByteArray := prog_14_method_106_code
def yX12_image : MethodName := ⟨RX12, "image", "()I"⟩
abbrev cX12_back : ByteArray := prog_14_method_107_code
def yX12_back : MethodName := ⟨RX12, "back", "()I"⟩
abbrev cX12_about : ByteArray := prog_14_method_108_code
def yX12_about : MethodName := ⟨RX12, "about", "(I)I"⟩
def RJx145de : String := "java/io/Serializable"
def TJx145de : u_T := fun k => match k with
  | _ => ("", "", "", false)
def tyJx145de : Nat → FieldType := fun k => match k with
  | _ => .int
abbrev wsJx145de0 : List Cond := u_ws RJx145de TJx145de 0
theorem tyJx145de_ok : ∀ k, k < 0 → parseFieldDescriptor (TJx145de k).2.2.1 = some (tyJx145de k) := by decide +kernel
def RJx9f9b0 : String := "java/lang/CharSequence"
def TJx9f9b0 : u_T := fun k => match k with
  | _ => ("", "", "", false)
def tyJx9f9b0 : Nat → FieldType := fun k => match k with
  | _ => .int
abbrev wsJx9f9b00 : List Cond := u_ws RJx9f9b0 TJx9f9b0 0
theorem tyJx9f9b0_ok : ∀ k, k < 0 → parseFieldDescriptor (TJx9f9b0 k).2.2.1 = some (tyJx9f9b0 k) := by decide +kernel
def RJxb160c : String := "java/lang/Comparable"
def TJxb160c : u_T := fun k => match k with
  | _ => ("", "", "", false)
def tyJxb160c : Nat → FieldType := fun k => match k with
  | _ => .int
abbrev wsJxb160c0 : List Cond := u_ws RJxb160c TJxb160c 0
theorem tyJxb160c_ok : ∀ k, k < 0 → parseFieldDescriptor (TJxb160c k).2.2.1 = some (tyJxb160c k) := by decide +kernel
def RJ6 : String := "java/lang/Integer"
def TJ6 : u_T := fun k => match k with
  | _ => ("", "", "", false)
def tyJ6 : Nat → FieldType := fun k => match k with
  | _ => .int
abbrev wsJ60 : List Cond := u_ws RJ6 TJ6 0
theorem tyJ6_ok : ∀ k, k < 0 → parseFieldDescriptor (TJ6 k).2.2.1 = some (tyJ6 k) := by decide +kernel
abbrev cJ6_bitCount_0f7a4 : ByteArray := prog_15_method_49_code
def yJ6_bitCount_0f7a4 : MethodName := ⟨RJ6, "bitCount", "(I)I"⟩
def RJ9 : String := "java/lang/Math"
def TJ9 : u_T := fun k => match k with
  | _ => ("", "", "", false)
def tyJ9 : Nat → FieldType := fun k => match k with
  | _ => .int
abbrev wsJ90 : List Cond := u_ws RJ9 TJ9 0
theorem tyJ9_ok : ∀ k, k < 0 → parseFieldDescriptor (TJ9 k).2.2.1 = some (tyJ9 k) := by decide +kernel
abbrev cJ9_max_7cf53 : ByteArray := prog_16_method_65_code
def yJ9_max_7cf53 : MethodName := ⟨RJ9, "max", "(II)I"⟩
abbrev cJ9_max_f86c9 : ByteArray := prog_16_method_66_code
def yJ9_max_f86c9 : MethodName := ⟨RJ9, "max", "(JJ)J"⟩
abbrev cJ9_min_7cf53 : ByteArray := prog_16_method_69_code
def yJ9_min_7cf53 : MethodName := ⟨RJ9, "min", "(II)I"⟩
abbrev cJ9_min_f86c9 : ByteArray := prog_16_method_70_code
def yJ9_min_f86c9 : MethodName := ⟨RJ9, "min", "(JJ)J"⟩
def RJ0 : String := "java/lang/String"
def TJ0 : u_T := fun k => match k with
  | _ => ("", "", "", false)
def tyJ0 : Nat → FieldType := fun k => match k with
  | _ => .int
abbrev wsJ00 : List Cond := u_ws RJ0 TJ0 0
theorem tyJ0_ok : ∀ k, k < 0 → parseFieldDescriptor (TJ0 k).2.2.1 = some (tyJ0 k) := by decide +kernel
abbrev cJ0_length_8abf5 : ByteArray := prog_17_method_54_code
def yJ0_length_8abf5 : MethodName := ⟨RJ0, "length", "()I"⟩
abbrev cJ0_charAt_5068e : ByteArray := prog_17_method_56_code
def yJ0_charAt_5068e : MethodName := ⟨RJ0, "charAt", "(I)C"⟩
abbrev cJ0_coder_7d493 : ByteArray := prog_17_method_152_code
def yJ0_coder_7d493 : MethodName := ⟨RJ0, "coder", "()B"⟩
abbrev cJ0_isLatin1_aae02 : ByteArray := prog_17_method_154_code
def yJ0_isLatin1_aae02 : MethodName := ⟨RJ0, "isLatin1", "()Z"⟩
abbrev cJ0_checkIndex_df160 : ByteArray := prog_17_method_155_code
def yJ0_checkIndex_df160 : MethodName := ⟨RJ0, "checkIndex", "(II)V"⟩
def RJ1 : String := "java/lang/StringLatin1"
def TJ1 : u_T := fun k => match k with
  | _ => ("", "", "", false)
def tyJ1 : Nat → FieldType := fun k => match k with
  | _ => .int
abbrev wsJ10 : List Cond := u_ws RJ1 TJ1 0
theorem tyJ1_ok : ∀ k, k < 0 → parseFieldDescriptor (TJ1 k).2.2.1 = some (tyJ1 k) := by decide +kernel
abbrev cJ1_charAt_3b067 : ByteArray := prog_18_method_2_code
def yJ1_charAt_3b067 : MethodName := ⟨RJ1, "charAt", "([BI)C"⟩
def RJ2 : String := "java/lang/StringUTF16"
def TJ2 : u_T := fun k => match k with
  | _ => ("", "", "", false)
def tyJ2 : Nat → FieldType := fun k => match k with
  | _ => .int
abbrev wsJ20 : List Cond := u_ws RJ2 TJ2 0
theorem tyJ2_ok : ∀ k, k < 0 → parseFieldDescriptor (TJ2 k).2.2.1 = some (tyJ2 k) := by decide +kernel
abbrev cJ2_getChar_3b067 : ByteArray := prog_19_method_5_code
def yJ2_getChar_3b067 : MethodName := ⟨RJ2, "getChar", "([BI)C"⟩
abbrev cJ2_length_9d52b : ByteArray := prog_19_method_6_code
def yJ2_length_9d52b : MethodName := ⟨RJ2, "length", "([B)I"⟩
abbrev cJ2_charAt_3b067 : ByteArray := prog_19_method_83_code
def yJ2_charAt_3b067 : MethodName := ⟨RJ2, "charAt", "([BI)C"⟩
abbrev cJ2_checkIndex_2214a : ByteArray := prog_19_method_91_code
def yJ2_checkIndex_2214a : MethodName := ⟨RJ2, "checkIndex", "(I[B)V"⟩
def RJ10 : String := "java/lang/System"
def TJ10 : u_T := fun k => match k with
  | _ => ("", "", "", false)
def tyJ10 : Nat → FieldType := fun k => match k with
  | _ => .int
abbrev wsJ100 : List Cond := u_ws RJ10 TJ10 0
theorem tyJ10_ok : ∀ k, k < 0 → parseFieldDescriptor (TJ10 k).2.2.1 = some (tyJ10 k) := by decide +kernel
def RJxfd54e : String := "java/lang/constant/Constable"
def TJxfd54e : u_T := fun k => match k with
  | _ => ("", "", "", false)
def tyJxfd54e : Nat → FieldType := fun k => match k with
  | _ => .int
abbrev wsJxfd54e0 : List Cond := u_ws RJxfd54e TJxfd54e 0
theorem tyJxfd54e_ok : ∀ k, k < 0 → parseFieldDescriptor (TJxfd54e k).2.2.1 = some (tyJxfd54e k) := by decide +kernel
def RJx3cf43 : String := "java/lang/constant/ConstantDesc"
def TJx3cf43 : u_T := fun k => match k with
  | _ => ("", "", "", false)
def tyJx3cf43 : Nat → FieldType := fun k => match k with
  | _ => .int
abbrev wsJx3cf430 : List Cond := u_ws RJx3cf43 TJx3cf43 0
theorem tyJx3cf43_ok : ∀ k, k < 0 → parseFieldDescriptor (TJx3cf43 k).2.2.1 = some (tyJx3cf43 k) := by decide +kernel
def RJ7 : String := "java/util/Arrays"
def TJ7 : u_T := fun k => match k with
  | _ => ("", "", "", false)
def tyJ7 : Nat → FieldType := fun k => match k with
  | _ => .int
abbrev wsJ70 : List Cond := u_ws RJ7 TJ7 0
theorem tyJ7_ok : ∀ k, k < 0 → parseFieldDescriptor (TJ7 k).2.2.1 = some (tyJ7 k) := by decide +kernel
abbrev cJ7_fill_53178 : ByteArray := prog_21_method_103_code
def yJ7_fill_53178 : MethodName := ⟨RJ7, "fill", "([II)V"⟩
def RJ3 : String := "jdk/internal/util/Preconditions"
def TJ3 : u_T := fun k => match k with
  | _ => ("", "", "", false)
def tyJ3 : Nat → FieldType := fun k => match k with
  | _ => .int
abbrev wsJ30 : List Cond := u_ws RJ3 TJ3 0
theorem tyJ3_ok : ∀ k, k < 0 → parseFieldDescriptor (TJ3 k).2.2.1 = some (tyJ3 k) := by decide +kernel
abbrev cJ3_checkIndex_8e157 : ByteArray := prog_22_method_11_code
def yJ3_checkIndex_8e157 : MethodName := ⟨RJ3, "checkIndex", "(IILjava/util/function/BiFunction;)I"⟩
def RL : String := "MovingStairsLaw"
abbrev cL_law : ByteArray := code
def yL_law : MethodName := ⟨RL, "law", "([I)Z"⟩
abbrev vwCl : List vw_C := [(RX0, TX0, 7), (RX1, TX1, 3), (RX2, TX2, 9), (RX3, TX3, 14), (RX4, TX4, 2), (RX5, TX5, 6), (RX6, TX6, 2), (RX7, TX7, 10), (RX8, TX8, 3), (RX9, TX9, 16), (RX10, TX10, 7), (RX11, TX11, 7), (RX12, TX12, 42)]
