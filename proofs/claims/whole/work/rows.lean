section
-- ===== PART A: goes FIRST, ahead of the names: the tables' words, and 'selects' of the private methods out of them =====
/-- a private method of a class that the tables say can be made, by its rows of tables_1 -/
def lw_okq (q : MethodName × Nat) : Prop := (q.1.cls ≠ "java/lang/invoke/MethodHandle" ∧ q.1.cls ≠ "java/lang/invoke/VarHandle") ∧ Cond.instantiable q.1.cls q.2 ∈ tables_1 ∧ Cond.privateMethod q.1 ∈ tables_1 ∧ Cond.instanceMethod q.1 ∈ tables_1
theorem lw_p0 : lw_okq (⟨"RoastHouse$Roaster", "start", "(I)V"⟩, 12) := ⟨⟨by decide +kernel, by decide +kernel⟩, List.mem_of_getElem? (i := 158) (by decide +kernel), List.mem_of_getElem? (i := 167) (by decide +kernel), List.mem_of_getElem? (i := 168) (by decide +kernel)⟩
theorem lw_p1 : lw_okq (⟨"RoastHouse$Tape", "addSign", "(I)V"⟩, 2) := ⟨⟨by decide +kernel, by decide +kernel⟩, List.mem_of_getElem? (i := 60) (by decide +kernel), List.mem_of_getElem? (i := 375) (by decide +kernel), List.mem_of_getElem? (i := 376) (by decide +kernel)⟩
theorem lw_p2 : lw_okq (⟨"RoastHouse$Tokens", "skipBlanks", "()V"⟩, 5) := ⟨⟨by decide +kernel, by decide +kernel⟩, List.mem_of_getElem? (i := 83) (by decide +kernel), List.mem_of_getElem? (i := 397) (by decide +kernel), List.mem_of_getElem? (i := 398) (by decide +kernel)⟩
theorem lw_p3 : lw_okq (⟨"RoastHouse$Tokens", "goBehindWord", "()V"⟩, 5) := ⟨⟨by decide +kernel, by decide +kernel⟩, List.mem_of_getElem? (i := 83) (by decide +kernel), List.mem_of_getElem? (i := 408) (by decide +kernel), List.mem_of_getElem? (i := 409) (by decide +kernel)⟩
theorem lw_p4 : lw_okq (⟨"RoastHouse$Tokens", "kindOfWord", "(I)I"⟩, 5) := ⟨⟨by decide +kernel, by decide +kernel⟩, List.mem_of_getElem? (i := 83) (by decide +kernel), List.mem_of_getElem? (i := 412) (by decide +kernel), List.mem_of_getElem? (i := 413) (by decide +kernel)⟩
theorem lw_p5 : lw_okq (⟨"RoastHouse$Tokens", "isWord", "(Ljava/lang/String;)Z"⟩, 5) := ⟨⟨by decide +kernel, by decide +kernel⟩, List.mem_of_getElem? (i := 83) (by decide +kernel), List.mem_of_getElem? (i := 417) (by decide +kernel), List.mem_of_getElem? (i := 418) (by decide +kernel)⟩
theorem lw_p6 : lw_okq (⟨"RoastHouse$Tokens", "readNumber", "()V"⟩, 5) := ⟨⟨by decide +kernel, by decide +kernel⟩, List.mem_of_getElem? (i := 83) (by decide +kernel), List.mem_of_getElem? (i := 481) (by decide +kernel), List.mem_of_getElem? (i := 482) (by decide +kernel)⟩
theorem lw_p7 : lw_okq (⟨"RoastHouse$RuleReader", "readLine", "()Z"⟩, 3) := ⟨⟨by decide +kernel, by decide +kernel⟩, List.mem_of_getElem? (i := 77) (by decide +kernel), List.mem_of_getElem? (i := 488) (by decide +kernel), List.mem_of_getElem? (i := 489) (by decide +kernel)⟩
theorem lw_p8 : lw_okq (⟨"RoastHouse$RuleReader", "wrong", "(I)Z"⟩, 3) := ⟨⟨by decide +kernel, by decide +kernel⟩, List.mem_of_getElem? (i := 77) (by decide +kernel), List.mem_of_getElem? (i := 492) (by decide +kernel), List.mem_of_getElem? (i := 493) (by decide +kernel)⟩
theorem lw_p9 : lw_okq (⟨"RoastHouse$RuleReader", "passAmount", "()Z"⟩, 3) := ⟨⟨by decide +kernel, by decide +kernel⟩, List.mem_of_getElem? (i := 77) (by decide +kernel), List.mem_of_getElem? (i := 496) (by decide +kernel), List.mem_of_getElem? (i := 497) (by decide +kernel)⟩
theorem lw_p10 : lw_okq (⟨"RoastHouse$RuleReader", "pass", "(I)Z"⟩, 3) := ⟨⟨by decide +kernel, by decide +kernel⟩, List.mem_of_getElem? (i := 77) (by decide +kernel), List.mem_of_getElem? (i := 500) (by decide +kernel), List.mem_of_getElem? (i := 501) (by decide +kernel)⟩
theorem lw_p11 : lw_okq (⟨"RoastHouse$RuleReader", "readTests", "(I)Z"⟩, 3) := ⟨⟨by decide +kernel, by decide +kernel⟩, List.mem_of_getElem? (i := 77) (by decide +kernel), List.mem_of_getElem? (i := 504) (by decide +kernel), List.mem_of_getElem? (i := 505) (by decide +kernel)⟩
theorem lw_p12 : lw_okq (⟨"RoastHouse$RuleReader", "readTest", "(I)Z"⟩, 3) := ⟨⟨by decide +kernel, by decide +kernel⟩, List.mem_of_getElem? (i := 77) (by decide +kernel), List.mem_of_getElem? (i := 508) (by decide +kernel), List.mem_of_getElem? (i := 509) (by decide +kernel)⟩
theorem lw_p13 : lw_okq (⟨"RoastHouse$RuleReader", "readSum", "(I)Z"⟩, 3) := ⟨⟨by decide +kernel, by decide +kernel⟩, List.mem_of_getElem? (i := 77) (by decide +kernel), List.mem_of_getElem? (i := 512) (by decide +kernel), List.mem_of_getElem? (i := 513) (by decide +kernel)⟩
theorem lw_p14 : lw_okq (⟨"RoastHouse$RuleReader", "readPart", "(I)Z"⟩, 3) := ⟨⟨by decide +kernel, by decide +kernel⟩, List.mem_of_getElem? (i := 77) (by decide +kernel), List.mem_of_getElem? (i := 516) (by decide +kernel), List.mem_of_getElem? (i := 517) (by decide +kernel)⟩
theorem lw_p15 : lw_okq (⟨"RoastHouse$Roaster", "goThrough", "(LRoastHouse$Rules;)V"⟩, 12) := ⟨⟨by decide +kernel, by decide +kernel⟩, List.mem_of_getElem? (i := 158) (by decide +kernel), List.mem_of_getElem? (i := 565) (by decide +kernel), List.mem_of_getElem? (i := 566) (by decide +kernel)⟩
def lw_privs_1 : List (MethodName × Nat) := [(⟨"RoastHouse$Roaster", "start", "(I)V"⟩, 12), (⟨"RoastHouse$Tape", "addSign", "(I)V"⟩, 2), (⟨"RoastHouse$Tokens", "skipBlanks", "()V"⟩, 5), (⟨"RoastHouse$Tokens", "goBehindWord", "()V"⟩, 5), (⟨"RoastHouse$Tokens", "kindOfWord", "(I)I"⟩, 5), (⟨"RoastHouse$Tokens", "isWord", "(Ljava/lang/String;)Z"⟩, 5), (⟨"RoastHouse$Tokens", "readNumber", "()V"⟩, 5), (⟨"RoastHouse$RuleReader", "readLine", "()Z"⟩, 3), (⟨"RoastHouse$RuleReader", "wrong", "(I)Z"⟩, 3), (⟨"RoastHouse$RuleReader", "passAmount", "()Z"⟩, 3), (⟨"RoastHouse$RuleReader", "pass", "(I)Z"⟩, 3), (⟨"RoastHouse$RuleReader", "readTests", "(I)Z"⟩, 3), (⟨"RoastHouse$RuleReader", "readTest", "(I)Z"⟩, 3), (⟨"RoastHouse$RuleReader", "readSum", "(I)Z"⟩, 3), (⟨"RoastHouse$RuleReader", "readPart", "(I)Z"⟩, 3), (⟨"RoastHouse$Roaster", "goThrough", "(LRoastHouse$Rules;)V"⟩, 12)]
theorem lw_r1 : ∀ q ∈ lw_privs_1, lw_okq q := List.forall_mem_cons.mpr ⟨lw_p0, List.forall_mem_cons.mpr ⟨lw_p1, List.forall_mem_cons.mpr ⟨lw_p2, List.forall_mem_cons.mpr ⟨lw_p3, List.forall_mem_cons.mpr ⟨lw_p4, List.forall_mem_cons.mpr ⟨lw_p5, List.forall_mem_cons.mpr ⟨lw_p6, List.forall_mem_cons.mpr ⟨lw_p7, List.forall_mem_cons.mpr ⟨lw_p8, List.forall_mem_cons.mpr ⟨lw_p9, List.forall_mem_cons.mpr ⟨lw_p10, List.forall_mem_cons.mpr ⟨lw_p11, List.forall_mem_cons.mpr ⟨lw_p12, List.forall_mem_cons.mpr ⟨lw_p13, List.forall_mem_cons.mpr ⟨lw_p14, List.forall_mem_cons.mpr ⟨lw_p15, fun _ h => absurd h List.not_mem_nil⟩⟩⟩⟩⟩⟩⟩⟩⟩⟩⟩⟩⟩⟩⟩⟩
theorem lw_p16 : lw_okq (⟨"RoastHouse$Rules", "push", "(I)V"⟩, 8) := ⟨⟨by decide +kernel, by decide +kernel⟩, List.mem_of_getElem? (i := 112) (by decide +kernel), List.mem_of_getElem? (i := 573) (by decide +kernel), List.mem_of_getElem? (i := 574) (by decide +kernel)⟩
theorem lw_p17 : lw_okq (⟨"RoastHouse$Rules", "pop", "()I"⟩, 8) := ⟨⟨by decide +kernel, by decide +kernel⟩, List.mem_of_getElem? (i := 112) (by decide +kernel), List.mem_of_getElem? (i := 581) (by decide +kernel), List.mem_of_getElem? (i := 582) (by decide +kernel)⟩
theorem lw_p18 : lw_okq (⟨"RoastHouse$Roaster", "doAct", "(II)V"⟩, 12) := ⟨⟨by decide +kernel, by decide +kernel⟩, List.mem_of_getElem? (i := 158) (by decide +kernel), List.mem_of_getElem? (i := 592) (by decide +kernel), List.mem_of_getElem? (i := 593) (by decide +kernel)⟩
theorem lw_p19 : lw_okq (⟨"RoastHouse$Roaster", "grow", "()V"⟩, 12) := ⟨⟨by decide +kernel, by decide +kernel⟩, List.mem_of_getElem? (i := 158) (by decide +kernel), List.mem_of_getElem? (i := 596) (by decide +kernel), List.mem_of_getElem? (i := 597) (by decide +kernel)⟩
theorem lw_p20 : lw_okq (⟨"RoastHouse$Bags", "addEmpty", "(I)I"⟩, 9) := ⟨⟨by decide +kernel, by decide +kernel⟩, List.mem_of_getElem? (i := 209) (by decide +kernel), List.mem_of_getElem? (i := 605) (by decide +kernel), List.mem_of_getElem? (i := 606) (by decide +kernel)⟩
theorem lw_p21 : lw_okq (⟨"RoastHouse$Bags", "pour", "(III)V"⟩, 9) := ⟨⟨by decide +kernel, by decide +kernel⟩, List.mem_of_getElem? (i := 209) (by decide +kernel), List.mem_of_getElem? (i := 638) (by decide +kernel), List.mem_of_getElem? (i := 639) (by decide +kernel)⟩
theorem lw_p22 : lw_okq (⟨"RoastHouse$Bags", "shareOut", "(II)V"⟩, 9) := ⟨⟨by decide +kernel, by decide +kernel⟩, List.mem_of_getElem? (i := 209) (by decide +kernel), List.mem_of_getElem? (i := 642) (by decide +kernel), List.mem_of_getElem? (i := 643) (by decide +kernel)⟩
theorem lw_p23 : lw_okq (⟨"RoastHouse$Bags", "lotOfGreatestRest", "()I"⟩, 9) := ⟨⟨by decide +kernel, by decide +kernel⟩, List.mem_of_getElem? (i := 209) (by decide +kernel), List.mem_of_getElem? (i := 651) (by decide +kernel), List.mem_of_getElem? (i := 652) (by decide +kernel)⟩
theorem lw_p24 : lw_okq (⟨"RoastHouse$Cups", "weigh", "(I)Z"⟩, 4) := ⟨⟨by decide +kernel, by decide +kernel⟩, List.mem_of_getElem? (i := 248) (by decide +kernel), List.mem_of_getElem? (i := 690) (by decide +kernel), List.mem_of_getElem? (i := 691) (by decide +kernel)⟩
theorem lw_p25 : lw_okq (⟨"RoastHouse$Cups", "toldMarkedBy", "(I)I"⟩, 4) := ⟨⟨by decide +kernel, by decide +kernel⟩, List.mem_of_getElem? (i := 248) (by decide +kernel), List.mem_of_getElem? (i := 694) (by decide +kernel), List.mem_of_getElem? (i := 695) (by decide +kernel)⟩
theorem lw_p26 : lw_okq (⟨"RoastHouse$Cups", "isToldAndMarked", "(II)Z"⟩, 4) := ⟨⟨by decide +kernel, by decide +kernel⟩, List.mem_of_getElem? (i := 248) (by decide +kernel), List.mem_of_getElem? (i := 698) (by decide +kernel), List.mem_of_getElem? (i := 699) (by decide +kernel)⟩
theorem lw_p27 : lw_okq (⟨"RoastHouse$Cups", "excessOf", "(I)I"⟩, 4) := ⟨⟨by decide +kernel, by decide +kernel⟩, List.mem_of_getElem? (i := 248) (by decide +kernel), List.mem_of_getElem? (i := 702) (by decide +kernel), List.mem_of_getElem? (i := 703) (by decide +kernel)⟩
theorem lw_p28 : lw_okq (⟨"RoastHouse$Blender", "gather", "(LRoastHouse$GreenStore;II)V"⟩, 10) := ⟨⟨by decide +kernel, by decide +kernel⟩, List.mem_of_getElem? (i := 268) (by decide +kernel), List.mem_of_getElem? (i := 746) (by decide +kernel), List.mem_of_getElem? (i := 747) (by decide +kernel)⟩
theorem lw_p29 : lw_okq (⟨"RoastHouse$Blender", "tryMember", "(LRoastHouse$GreenStore;III)V"⟩, 10) := ⟨⟨by decide +kernel, by decide +kernel⟩, List.mem_of_getElem? (i := 268) (by decide +kernel), List.mem_of_getElem? (i := 751) (by decide +kernel), List.mem_of_getElem? (i := 752) (by decide +kernel)⟩
theorem lw_p30 : lw_okq (⟨"RoastHouse$Blender", "tastesFit", "(LRoastHouse$GreenStore;)Z"⟩, 10) := ⟨⟨by decide +kernel, by decide +kernel⟩, List.mem_of_getElem? (i := 268) (by decide +kernel), List.mem_of_getElem? (i := 755) (by decide +kernel), List.mem_of_getElem? (i := 756) (by decide +kernel)⟩
theorem lw_p31 : lw_okq (⟨"RoastHouse$Blender", "keepAsLatest", "()V"⟩, 10) := ⟨⟨by decide +kernel, by decide +kernel⟩, List.mem_of_getElem? (i := 268) (by decide +kernel), List.mem_of_getElem? (i := 762) (by decide +kernel), List.mem_of_getElem? (i := 763) (by decide +kernel)⟩
def lw_privs_2 : List (MethodName × Nat) := [(⟨"RoastHouse$Rules", "push", "(I)V"⟩, 8), (⟨"RoastHouse$Rules", "pop", "()I"⟩, 8), (⟨"RoastHouse$Roaster", "doAct", "(II)V"⟩, 12), (⟨"RoastHouse$Roaster", "grow", "()V"⟩, 12), (⟨"RoastHouse$Bags", "addEmpty", "(I)I"⟩, 9), (⟨"RoastHouse$Bags", "pour", "(III)V"⟩, 9), (⟨"RoastHouse$Bags", "shareOut", "(II)V"⟩, 9), (⟨"RoastHouse$Bags", "lotOfGreatestRest", "()I"⟩, 9), (⟨"RoastHouse$Cups", "weigh", "(I)Z"⟩, 4), (⟨"RoastHouse$Cups", "toldMarkedBy", "(I)I"⟩, 4), (⟨"RoastHouse$Cups", "isToldAndMarked", "(II)Z"⟩, 4), (⟨"RoastHouse$Cups", "excessOf", "(I)I"⟩, 4), (⟨"RoastHouse$Blender", "gather", "(LRoastHouse$GreenStore;II)V"⟩, 10), (⟨"RoastHouse$Blender", "tryMember", "(LRoastHouse$GreenStore;III)V"⟩, 10), (⟨"RoastHouse$Blender", "tastesFit", "(LRoastHouse$GreenStore;)Z"⟩, 10), (⟨"RoastHouse$Blender", "keepAsLatest", "()V"⟩, 10)]
theorem lw_r2 : ∀ q ∈ lw_privs_2, lw_okq q := List.forall_mem_cons.mpr ⟨lw_p16, List.forall_mem_cons.mpr ⟨lw_p17, List.forall_mem_cons.mpr ⟨lw_p18, List.forall_mem_cons.mpr ⟨lw_p19, List.forall_mem_cons.mpr ⟨lw_p20, List.forall_mem_cons.mpr ⟨lw_p21, List.forall_mem_cons.mpr ⟨lw_p22, List.forall_mem_cons.mpr ⟨lw_p23, List.forall_mem_cons.mpr ⟨lw_p24, List.forall_mem_cons.mpr ⟨lw_p25, List.forall_mem_cons.mpr ⟨lw_p26, List.forall_mem_cons.mpr ⟨lw_p27, List.forall_mem_cons.mpr ⟨lw_p28, List.forall_mem_cons.mpr ⟨lw_p29, List.forall_mem_cons.mpr ⟨lw_p30, List.forall_mem_cons.mpr ⟨lw_p31, fun _ h => absurd h List.not_mem_nil⟩⟩⟩⟩⟩⟩⟩⟩⟩⟩⟩⟩⟩⟩⟩⟩
theorem lw_p32 : lw_okq (⟨"java/lang/Throwable", "fillInStackTrace", "(I)Ljava/lang/Throwable;"⟩, 6) := ⟨⟨by decide +kernel, by decide +kernel⟩, List.mem_of_getElem? (i := 858) (by decide +kernel), List.mem_of_getElem? (i := 856) (by decide +kernel), List.mem_of_getElem? (i := 857) (by decide +kernel)⟩
theorem lw_p33 : lw_okq (⟨"RoastHouseModel", "lay", "(J)V"⟩, 60) := ⟨⟨by decide +kernel, by decide +kernel⟩, List.mem_of_getElem? (i := 897) (by decide +kernel), List.mem_of_getElem? (i := 895) (by decide +kernel), List.mem_of_getElem? (i := 896) (by decide +kernel)⟩
theorem lw_p34 : lw_okq (⟨"RoastHouseModel", "cutAll", "()V"⟩, 60) := ⟨⟨by decide +kernel, by decide +kernel⟩, List.mem_of_getElem? (i := 897) (by decide +kernel), List.mem_of_getElem? (i := 1101) (by decide +kernel), List.mem_of_getElem? (i := 1102) (by decide +kernel)⟩
theorem lw_p35 : lw_okq (⟨"RoastHouseModel", "line", "()V"⟩, 60) := ⟨⟨by decide +kernel, by decide +kernel⟩, List.mem_of_getElem? (i := 897) (by decide +kernel), List.mem_of_getElem? (i := 1120) (by decide +kernel), List.mem_of_getElem? (i := 1121) (by decide +kernel)⟩
theorem lw_p36 : lw_okq (⟨"RoastHouseModel", "isWord", "(I)Z"⟩, 60) := ⟨⟨by decide +kernel, by decide +kernel⟩, List.mem_of_getElem? (i := 897) (by decide +kernel), List.mem_of_getElem? (i := 1124) (by decide +kernel), List.mem_of_getElem? (i := 1125) (by decide +kernel)⟩
theorem lw_p37 : lw_okq (⟨"RoastHouseModel", "wrong", "(I)V"⟩, 60) := ⟨⟨by decide +kernel, by decide +kernel⟩, List.mem_of_getElem? (i := 897) (by decide +kernel), List.mem_of_getElem? (i := 1128) (by decide +kernel), List.mem_of_getElem? (i := 1129) (by decide +kernel)⟩
theorem lw_p38 : lw_okq (⟨"RoastHouseModel", "takeWord", "(I)V"⟩, 60) := ⟨⟨by decide +kernel, by decide +kernel⟩, List.mem_of_getElem? (i := 897) (by decide +kernel), List.mem_of_getElem? (i := 1133) (by decide +kernel), List.mem_of_getElem? (i := 1134) (by decide +kernel)⟩
theorem lw_p39 : lw_okq (⟨"RoastHouseModel", "hasWord", "(I)Z"⟩, 60) := ⟨⟨by decide +kernel, by decide +kernel⟩, List.mem_of_getElem? (i := 897) (by decide +kernel), List.mem_of_getElem? (i := 1137) (by decide +kernel), List.mem_of_getElem? (i := 1138) (by decide +kernel)⟩
theorem lw_p40 : lw_okq (⟨"RoastHouseModel", "opens", "()V"⟩, 60) := ⟨⟨by decide +kernel, by decide +kernel⟩, List.mem_of_getElem? (i := 897) (by decide +kernel), List.mem_of_getElem? (i := 1141) (by decide +kernel), List.mem_of_getElem? (i := 1142) (by decide +kernel)⟩
theorem lw_p41 : lw_okq (⟨"RoastHouseModel", "part", "()Z"⟩, 60) := ⟨⟨by decide +kernel, by decide +kernel⟩, List.mem_of_getElem? (i := 897) (by decide +kernel), List.mem_of_getElem? (i := 1145) (by decide +kernel), List.mem_of_getElem? (i := 1146) (by decide +kernel)⟩
theorem lw_p42 : lw_okq (⟨"RoastHouseModel", "partWord", "()I"⟩, 60) := ⟨⟨by decide +kernel, by decide +kernel⟩, List.mem_of_getElem? (i := 897) (by decide +kernel), List.mem_of_getElem? (i := 1149) (by decide +kernel), List.mem_of_getElem? (i := 1150) (by decide +kernel)⟩
theorem lw_p43 : lw_okq (⟨"RoastHouseModel", "isSign", "(I)Z"⟩, 60) := ⟨⟨by decide +kernel, by decide +kernel⟩, List.mem_of_getElem? (i := 897) (by decide +kernel), List.mem_of_getElem? (i := 1153) (by decide +kernel), List.mem_of_getElem? (i := 1154) (by decide +kernel)⟩
theorem lw_p44 : lw_okq (⟨"RoastHouseModel", "hasSign", "(I)Z"⟩, 60) := ⟨⟨by decide +kernel, by decide +kernel⟩, List.mem_of_getElem? (i := 897) (by decide +kernel), List.mem_of_getElem? (i := 1157) (by decide +kernel), List.mem_of_getElem? (i := 1158) (by decide +kernel)⟩
theorem lw_p45 : lw_okq (⟨"RoastHouseModel", "emit", "(II)V"⟩, 60) := ⟨⟨by decide +kernel, by decide +kernel⟩, List.mem_of_getElem? (i := 897) (by decide +kernel), List.mem_of_getElem? (i := 1161) (by decide +kernel), List.mem_of_getElem? (i := 1162) (by decide +kernel)⟩
theorem lw_p46 : lw_okq (⟨"RoastHouseModel", "goesOnBehind", "()Z"⟩, 60) := ⟨⟨by decide +kernel, by decide +kernel⟩, List.mem_of_getElem? (i := 897) (by decide +kernel), List.mem_of_getElem? (i := 1165) (by decide +kernel), List.mem_of_getElem? (i := 1166) (by decide +kernel)⟩
theorem lw_p47 : lw_okq (⟨"RoastHouseModel", "takeSign", "(I)V"⟩, 60) := ⟨⟨by decide +kernel, by decide +kernel⟩, List.mem_of_getElem? (i := 897) (by decide +kernel), List.mem_of_getElem? (i := 1169) (by decide +kernel), List.mem_of_getElem? (i := 1170) (by decide +kernel)⟩
def lw_privs_3 : List (MethodName × Nat) := [(⟨"java/lang/Throwable", "fillInStackTrace", "(I)Ljava/lang/Throwable;"⟩, 6), (⟨"RoastHouseModel", "lay", "(J)V"⟩, 60), (⟨"RoastHouseModel", "cutAll", "()V"⟩, 60), (⟨"RoastHouseModel", "line", "()V"⟩, 60), (⟨"RoastHouseModel", "isWord", "(I)Z"⟩, 60), (⟨"RoastHouseModel", "wrong", "(I)V"⟩, 60), (⟨"RoastHouseModel", "takeWord", "(I)V"⟩, 60), (⟨"RoastHouseModel", "hasWord", "(I)Z"⟩, 60), (⟨"RoastHouseModel", "opens", "()V"⟩, 60), (⟨"RoastHouseModel", "part", "()Z"⟩, 60), (⟨"RoastHouseModel", "partWord", "()I"⟩, 60), (⟨"RoastHouseModel", "isSign", "(I)Z"⟩, 60), (⟨"RoastHouseModel", "hasSign", "(I)Z"⟩, 60), (⟨"RoastHouseModel", "emit", "(II)V"⟩, 60), (⟨"RoastHouseModel", "goesOnBehind", "()Z"⟩, 60), (⟨"RoastHouseModel", "takeSign", "(I)V"⟩, 60)]
theorem lw_r3 : ∀ q ∈ lw_privs_3, lw_okq q := List.forall_mem_cons.mpr ⟨lw_p32, List.forall_mem_cons.mpr ⟨lw_p33, List.forall_mem_cons.mpr ⟨lw_p34, List.forall_mem_cons.mpr ⟨lw_p35, List.forall_mem_cons.mpr ⟨lw_p36, List.forall_mem_cons.mpr ⟨lw_p37, List.forall_mem_cons.mpr ⟨lw_p38, List.forall_mem_cons.mpr ⟨lw_p39, List.forall_mem_cons.mpr ⟨lw_p40, List.forall_mem_cons.mpr ⟨lw_p41, List.forall_mem_cons.mpr ⟨lw_p42, List.forall_mem_cons.mpr ⟨lw_p43, List.forall_mem_cons.mpr ⟨lw_p44, List.forall_mem_cons.mpr ⟨lw_p45, List.forall_mem_cons.mpr ⟨lw_p46, List.forall_mem_cons.mpr ⟨lw_p47, fun _ h => absurd h List.not_mem_nil⟩⟩⟩⟩⟩⟩⟩⟩⟩⟩⟩⟩⟩⟩⟩⟩
theorem lw_p48 : lw_okq (⟨"RoastHouseModel", "isLot", "(I)Z"⟩, 60) := ⟨⟨by decide +kernel, by decide +kernel⟩, List.mem_of_getElem? (i := 897) (by decide +kernel), List.mem_of_getElem? (i := 1193) (by decide +kernel), List.mem_of_getElem? (i := 1194) (by decide +kernel)⟩
theorem lw_p49 : lw_okq (⟨"RoastHouseModel", "goes", "(I)V"⟩, 60) := ⟨⟨by decide +kernel, by decide +kernel⟩, List.mem_of_getElem? (i := 897) (by decide +kernel), List.mem_of_getElem? (i := 1197) (by decide +kernel), List.mem_of_getElem? (i := 1198) (by decide +kernel)⟩
theorem lw_p50 : lw_okq (⟨"RoastHouseModel", "actsBy", "(I)V"⟩, 60) := ⟨⟨by decide +kernel, by decide +kernel⟩, List.mem_of_getElem? (i := 897) (by decide +kernel), List.mem_of_getElem? (i := 1201) (by decide +kernel), List.mem_of_getElem? (i := 1202) (by decide +kernel)⟩
theorem lw_p51 : lw_okq (⟨"RoastHouseModel", "valueOf", "(I)I"⟩, 60) := ⟨⟨by decide +kernel, by decide +kernel⟩, List.mem_of_getElem? (i := 897) (by decide +kernel), List.mem_of_getElem? (i := 1205) (by decide +kernel), List.mem_of_getElem? (i := 1206) (by decide +kernel)⟩
theorem lw_p52 : lw_okq (⟨"RoastHouseModel", "newBag", "(I)I"⟩, 60) := ⟨⟨by decide +kernel, by decide +kernel⟩, List.mem_of_getElem? (i := 897) (by decide +kernel), List.mem_of_getElem? (i := 1209) (by decide +kernel), List.mem_of_getElem? (i := 1210) (by decide +kernel)⟩
theorem lw_p53 : lw_okq (⟨"RoastHouseModel", "isBag", "(I)Z"⟩, 60) := ⟨⟨by decide +kernel, by decide +kernel⟩, List.mem_of_getElem? (i := 897) (by decide +kernel), List.mem_of_getElem? (i := 1221) (by decide +kernel), List.mem_of_getElem? (i := 1222) (by decide +kernel)⟩
theorem lw_p54 : lw_okq (⟨"RoastHouseModel", "gramsIn", "(I)I"⟩, 60) := ⟨⟨by decide +kernel, by decide +kernel⟩, List.mem_of_getElem? (i := 897) (by decide +kernel), List.mem_of_getElem? (i := 1225) (by decide +kernel), List.mem_of_getElem? (i := 1226) (by decide +kernel)⟩
theorem lw_p55 : lw_okq (⟨"RoastHouseModel", "moves", "(III)V"⟩, 60) := ⟨⟨by decide +kernel, by decide +kernel⟩, List.mem_of_getElem? (i := 897) (by decide +kernel), List.mem_of_getElem? (i := 1233) (by decide +kernel), List.mem_of_getElem? (i := 1234) (by decide +kernel)⟩
theorem lw_p56 : lw_okq (⟨"RoastHouseModel", "gives", "(IIII)V"⟩, 60) := ⟨⟨by decide +kernel, by decide +kernel⟩, List.mem_of_getElem? (i := 897) (by decide +kernel), List.mem_of_getElem? (i := 1237) (by decide +kernel), List.mem_of_getElem? (i := 1238) (by decide +kernel)⟩
theorem lw_p57 : lw_okq (⟨"RoastHouseModel", "weighs", "(I)Z"⟩, 60) := ⟨⟨by decide +kernel, by decide +kernel⟩, List.mem_of_getElem? (i := 897) (by decide +kernel), List.mem_of_getElem? (i := 1264) (by decide +kernel), List.mem_of_getElem? (i := 1265) (by decide +kernel)⟩
theorem lw_p58 : lw_okq (⟨"RoastHouseModel", "tries", "(III)V"⟩, 60) := ⟨⟨by decide +kernel, by decide +kernel⟩, List.mem_of_getElem? (i := 897) (by decide +kernel), List.mem_of_getElem? (i := 1283) (by decide +kernel), List.mem_of_getElem? (i := 1284) (by decide +kernel)⟩
theorem lw_p59 : lw_okq (⟨"RoastHouseModel", "asks", "(I)V"⟩, 60) := ⟨⟨by decide +kernel, by decide +kernel⟩, List.mem_of_getElem? (i := 897) (by decide +kernel), List.mem_of_getElem? (i := 1287) (by decide +kernel), List.mem_of_getElem? (i := 1288) (by decide +kernel)⟩
theorem lw_p60 : lw_okq (⟨"RoastHouseModel", "isInSpans", "()Z"⟩, 60) := ⟨⟨by decide +kernel, by decide +kernel⟩, List.mem_of_getElem? (i := 897) (by decide +kernel), List.mem_of_getElem? (i := 1291) (by decide +kernel), List.mem_of_getElem? (i := 1292) (by decide +kernel)⟩
def lw_privs_4 : List (MethodName × Nat) := [(⟨"RoastHouseModel", "isLot", "(I)Z"⟩, 60), (⟨"RoastHouseModel", "goes", "(I)V"⟩, 60), (⟨"RoastHouseModel", "actsBy", "(I)V"⟩, 60), (⟨"RoastHouseModel", "valueOf", "(I)I"⟩, 60), (⟨"RoastHouseModel", "newBag", "(I)I"⟩, 60), (⟨"RoastHouseModel", "isBag", "(I)Z"⟩, 60), (⟨"RoastHouseModel", "gramsIn", "(I)I"⟩, 60), (⟨"RoastHouseModel", "moves", "(III)V"⟩, 60), (⟨"RoastHouseModel", "gives", "(IIII)V"⟩, 60), (⟨"RoastHouseModel", "weighs", "(I)Z"⟩, 60), (⟨"RoastHouseModel", "tries", "(III)V"⟩, 60), (⟨"RoastHouseModel", "asks", "(I)V"⟩, 60), (⟨"RoastHouseModel", "isInSpans", "()Z"⟩, 60)]
theorem lw_r4 : ∀ q ∈ lw_privs_4, lw_okq q := List.forall_mem_cons.mpr ⟨lw_p48, List.forall_mem_cons.mpr ⟨lw_p49, List.forall_mem_cons.mpr ⟨lw_p50, List.forall_mem_cons.mpr ⟨lw_p51, List.forall_mem_cons.mpr ⟨lw_p52, List.forall_mem_cons.mpr ⟨lw_p53, List.forall_mem_cons.mpr ⟨lw_p54, List.forall_mem_cons.mpr ⟨lw_p55, List.forall_mem_cons.mpr ⟨lw_p56, List.forall_mem_cons.mpr ⟨lw_p57, List.forall_mem_cons.mpr ⟨lw_p58, List.forall_mem_cons.mpr ⟨lw_p59, List.forall_mem_cons.mpr ⟨lw_p60, fun _ h => absurd h List.not_mem_nil⟩⟩⟩⟩⟩⟩⟩⟩⟩⟩⟩⟩⟩
def lw_privs : List (MethodName × Nat) := lw_privs_1 ++ (lw_privs_2 ++ (lw_privs_3 ++ (lw_privs_4)))
def lw_tbl : List Cond := k2_sels lw_privs ++ tables_1
theorem lw_privs_ok : ∀ q ∈ lw_privs, lw_okq q := by
  show ∀ q ∈ lw_privs_1 ++ (lw_privs_2 ++ (lw_privs_3 ++ (lw_privs_4))), lw_okq q
  exact List.forall_mem_append.mpr ⟨lw_r1, List.forall_mem_append.mpr ⟨lw_r2, List.forall_mem_append.mpr ⟨lw_r3, lw_r4⟩⟩⟩
end
section
def RX0 : String := "RoastHouse$Bags"
def TX0 : u_T := fun k => match k with
  | 0 => ("RoastHouse$Bags", "size", "I", false)
  | 1 => ("RoastHouse$Bags", "takenBags", "I", false)
  | 2 => ("RoastHouse$Bags", "grams", "[I", true)
  | 3 => ("RoastHouse$Bags", "day", "[I", true)
  | 4 => ("RoastHouse$Bags", "house", "[I", true)
  | 5 => ("RoastHouse$Bags", "taken", "[I", true)
  | 6 => ("RoastHouse$Bags", "parts", "[I", true)
  | 7 => ("RoastHouse$Bags", "share", "[I", true)
  | _ => ("RoastHouse$Bags", "rest", "[I", true)
def tyX0 : Nat → FieldType := fun k => match k with
  | 0 => .int
  | 1 => .int
  | 2 => .array .int
  | 3 => .array .int
  | 4 => .array .int
  | 5 => .array .int
  | 6 => .array .int
  | 7 => .array .int
  | _ => .array .int
theorem nmX0 : ∀ a, a < 9 → ∀ b, b < 9 → a ≠ b → (TX0 a).2.1 ≠ (TX0 b).2.1 := by decide +kernel
theorem tyX0_ok : ∀ k, k < 9 → parseFieldDescriptor (TX0 k).2.2.1 = some (tyX0 k) := by decide +kernel
abbrev cX0_init : ByteArray := prog_2_method_1_code
def yX0_init : MethodName := ⟨RX0, "<init>", "()V"⟩
abbrev cX0_has : ByteArray := prog_2_method_2_code
def yX0_has : MethodName := ⟨RX0, "has", "(I)Z"⟩
abbrev cX0_addEmpty : ByteArray := prog_2_method_3_code
def yX0_addEmpty : MethodName := ⟨RX0, "addEmpty", "(I)I"⟩
abbrev cX0_addOfOneLot : ByteArray := prog_2_method_4_code
def yX0_addOfOneLot : MethodName := ⟨RX0, "addOfOneLot", "(III)I"⟩
abbrev cX0_partOf : ByteArray := prog_2_method_5_code
def yX0_partOf : MethodName := ⟨RX0, "partOf", "(II)I"⟩
abbrev cX0_lotsIn : ByteArray := prog_2_method_6_code
def yX0_lotsIn : MethodName := ⟨RX0, "lotsIn", "(I)I"⟩
abbrev cX0_tellForBlend : ByteArray := prog_2_method_7_code
def yX0_tellForBlend : MethodName := ⟨RX0, "tellForBlend", "(II)I"⟩
abbrev cX0_blendTaken : ByteArray := prog_2_method_8_code
def yX0_blendTaken : MethodName := ⟨RX0, "blendTaken", "()I"⟩
abbrev cX0_pour : ByteArray := prog_2_method_9_code
def yX0_pour : MethodName := ⟨RX0, "pour", "(III)V"⟩
abbrev cX0_shareOut : ByteArray := prog_2_method_10_code
def yX0_shareOut : MethodName := ⟨RX0, "shareOut", "(II)V"⟩
abbrev cX0_lotOfGreatestRest : ByteArray := prog_2_method_11_code
def yX0_lotOfGreatestRest : MethodName := ⟨RX0, "lotOfGreatestRest", "()I"⟩
abbrev cX0_sendTo : ByteArray := prog_2_method_12_code
def yX0_sendTo : MethodName := ⟨RX0, "sendTo", "(II)Z"⟩
abbrev cX0_olderIn : ByteArray := prog_2_method_13_code
def yX0_olderIn : MethodName := ⟨RX0, "olderIn", "(II)I"⟩
abbrev cX0_bagWith : ByteArray := prog_2_method_14_code
def yX0_bagWith : MethodName := ⟨RX0, "bagWith", "(II)I"⟩
abbrev cX0_gramsIn : ByteArray := prog_2_method_15_code
def yX0_gramsIn : MethodName := ⟨RX0, "gramsIn", "(II)I"⟩
abbrev cX0_allGrams : ByteArray := prog_2_method_16_code
def yX0_allGrams : MethodName := ⟨RX0, "allGrams", "()I"⟩
def RX1 : String := "RoastHouse$Blender"
def TX1 : u_T := fun k => match k with
  | 0 => ("RoastHouse$Blender", "hasFound", "Z", false)
  | 1 => ("RoastHouse$Blender", "latest", "[I", true)
  | 2 => ("RoastHouse$Blender", "from", "[I", true)
  | 3 => ("RoastHouse$Blender", "to", "[I", true)
  | 4 => ("RoastHouse$Blender", "members", "I", false)
  | 5 => ("RoastHouse$Blender", "member", "[I", true)
  | 6 => ("RoastHouse$Blender", "most", "[I", true)
  | 7 => ("RoastHouse$Blender", "trial", "[I", true)
  | 8 => ("RoastHouse$Blender", "kept", "[I", true)
  | _ => ("RoastHouse$Blender", "leastCost", "I", false)
def tyX1 : Nat → FieldType := fun k => match k with
  | 0 => .boolean
  | 1 => .array .int
  | 2 => .array .int
  | 3 => .array .int
  | 4 => .int
  | 5 => .array .int
  | 6 => .array .int
  | 7 => .array .int
  | 8 => .array .int
  | _ => .int
theorem nmX1 : ∀ a, a < 10 → ∀ b, b < 10 → a ≠ b → (TX1 a).2.1 ≠ (TX1 b).2.1 := by decide +kernel
theorem tyX1_ok : ∀ k, k < 10 → parseFieldDescriptor (TX1 k).2.2.1 = some (tyX1 k) := by decide +kernel
abbrev cX1_init : ByteArray := prog_3_method_1_code
def yX1_init : MethodName := ⟨RX1, "<init>", "()V"⟩
abbrev cX1_setSpan : ByteArray := prog_3_method_2_code
def yX1_setSpan : MethodName := ⟨RX1, "setSpan", "(III)Z"⟩
abbrev cX1_search : ByteArray := prog_3_method_3_code
def yX1_search : MethodName := ⟨RX1, "search", "(LRoastHouse$GreenStore;II)I"⟩
abbrev cX1_gather : ByteArray := prog_3_method_4_code
def yX1_gather : MethodName := ⟨RX1, "gather", "(LRoastHouse$GreenStore;II)V"⟩
abbrev cX1_tryMember : ByteArray := prog_3_method_5_code
def yX1_tryMember : MethodName := ⟨RX1, "tryMember", "(LRoastHouse$GreenStore;III)V"⟩
abbrev cX1_tastesFit : ByteArray := prog_3_method_6_code
def yX1_tastesFit : MethodName := ⟨RX1, "tastesFit", "(LRoastHouse$GreenStore;)Z"⟩
abbrev cX1_keepAsLatest : ByteArray := prog_3_method_7_code
def yX1_keepAsLatest : MethodName := ⟨RX1, "keepAsLatest", "()V"⟩
def RX2 : String := "RoastHouse$Cups"
def TX2 : u_T := fun k => match k with
  | 0 => ("RoastHouse$Cups", "marks", "[I", true)
  | 1 => ("RoastHouse$Cups", "toldWorth", "[I", true)
  | 2 => ("RoastHouse$Cups", "numerator", "J", false)
  | _ => ("RoastHouse$Cups", "denominator", "J", false)
def tyX2 : Nat → FieldType := fun k => match k with
  | 0 => .array .int
  | 1 => .array .int
  | 2 => .long
  | _ => .long
theorem nmX2 : ∀ a, a < 4 → ∀ b, b < 4 → a ≠ b → (TX2 a).2.1 ≠ (TX2 b).2.1 := by decide +kernel
theorem tyX2_ok : ∀ k, k < 4 → parseFieldDescriptor (TX2 k).2.2.1 = some (tyX2 k) := by decide +kernel
abbrev cX2_init : ByteArray := prog_4_method_1_code
def yX2_init : MethodName := ⟨RX2, "<init>", "()V"⟩
abbrev cX2_hasSample : ByteArray := prog_4_method_2_code
def yX2_hasSample : MethodName := ⟨RX2, "hasSample", "(I)Z"⟩
abbrev cX2_giveMark : ByteArray := prog_4_method_3_code
def yX2_giveMark : MethodName := ⟨RX2, "giveMark", "(III)Z"⟩
abbrev cX2_tellWorth : ByteArray := prog_4_method_4_code
def yX2_tellWorth : MethodName := ⟨RX2, "tellWorth", "(II)Z"⟩
abbrev cX2_compare : ByteArray := prog_4_method_5_code
def yX2_compare : MethodName := ⟨RX2, "compare", "(II)I"⟩
abbrev cX2_thousandths : ByteArray := prog_4_method_6_code
def yX2_thousandths : MethodName := ⟨RX2, "thousandths", "(I)I"⟩
abbrev cX2_weigh : ByteArray := prog_4_method_7_code
def yX2_weigh : MethodName := ⟨RX2, "weigh", "(I)Z"⟩
abbrev cX2_isToldAndMarked : ByteArray := prog_4_method_8_code
def yX2_isToldAndMarked : MethodName := ⟨RX2, "isToldAndMarked", "(II)Z"⟩
abbrev cX2_toldMarkedBy : ByteArray := prog_4_method_9_code
def yX2_toldMarkedBy : MethodName := ⟨RX2, "toldMarkedBy", "(I)I"⟩
abbrev cX2_excessOf : ByteArray := prog_4_method_10_code
def yX2_excessOf : MethodName := ⟨RX2, "excessOf", "(I)I"⟩
def RX3 : String := "RoastHouse$GreenStore"
def TX3 : u_T := fun k => match k with
  | 0 => ("RoastHouse$GreenStore", "size", "I", false)
  | 1 => ("RoastHouse$GreenStore", "left", "[I", true)
  | 2 => ("RoastHouse$GreenStore", "price", "[I", true)
  | _ => ("RoastHouse$GreenStore", "taste", "[I", true)
def tyX3 : Nat → FieldType := fun k => match k with
  | 0 => .int
  | 1 => .array .int
  | 2 => .array .int
  | _ => .array .int
theorem nmX3 : ∀ a, a < 4 → ∀ b, b < 4 → a ≠ b → (TX3 a).2.1 ≠ (TX3 b).2.1 := by decide +kernel
theorem tyX3_ok : ∀ k, k < 4 → parseFieldDescriptor (TX3 k).2.2.1 = some (tyX3 k) := by decide +kernel
abbrev cX3_init : ByteArray := prog_5_method_1_code
def yX3_init : MethodName := ⟨RX3, "<init>", "()V"⟩
abbrev cX3_has : ByteArray := prog_5_method_2_code
def yX3_has : MethodName := ⟨RX3, "has", "(I)Z"⟩
abbrev cX3_add : ByteArray := prog_5_method_3_code
def yX3_add : MethodName := ⟨RX3, "add", "(IIIII)I"⟩
def RX4 : String := "RoastHouse$Roaster"
def TX4 : u_T := fun k => match k with
  | 0 => ("RoastHouse$Roaster", "loss", "I", false)
  | 1 => ("RoastHouse$Roaster", "toldWarmth", "[I", true)
  | 2 => ("RoastHouse$Roaster", "hasRun", "Z", false)
  | 3 => ("RoastHouse$Roaster", "grams", "I", false)
  | 4 => ("RoastHouse$Roaster", "minute", "I", false)
  | 5 => ("RoastHouse$Roaster", "warmth", "I", false)
  | 6 => ("RoastHouse$Roaster", "fire", "I", false)
  | 7 => ("RoastHouse$Roaster", "drum", "I", false)
  | 8 => ("RoastHouse$Roaster", "rise", "I", false)
  | 9 => ("RoastHouse$Roaster", "minutesGone", "I", false)
  | 10 => ("RoastHouse$Roaster", "dropped", "Z", false)
  | _ => ("RoastHouse$Roaster", "farthest", "I", false)
def tyX4 : Nat → FieldType := fun k => match k with
  | 0 => .int
  | 1 => .array .int
  | 2 => .boolean
  | 3 => .int
  | 4 => .int
  | 5 => .int
  | 6 => .int
  | 7 => .int
  | 8 => .int
  | 9 => .int
  | 10 => .boolean
  | _ => .int
theorem nmX4 : ∀ a, a < 12 → ∀ b, b < 12 → a ≠ b → (TX4 a).2.1 ≠ (TX4 b).2.1 := by decide +kernel
theorem tyX4_ok : ∀ k, k < 12 → parseFieldDescriptor (TX4 k).2.2.1 = some (tyX4 k) := by decide +kernel
abbrev cX4_init : ByteArray := prog_6_method_1_code
def yX4_init : MethodName := ⟨RX4, "<init>", "()V"⟩
abbrev cX4_start : ByteArray := prog_6_method_2_code
def yX4_start : MethodName := ⟨RX4, "start", "(I)V"⟩
abbrev cX4_tellCurve : ByteArray := prog_6_method_3_code
def yX4_tellCurve : MethodName := ⟨RX4, "tellCurve", "(II)Z"⟩
abbrev cX4_run : ByteArray := prog_6_method_4_code
def yX4_run : MethodName := ⟨RX4, "run", "(ILRoastHouse$Rules;)V"⟩
abbrev cX4_goThrough : ByteArray := prog_6_method_5_code
def yX4_goThrough : MethodName := ⟨RX4, "goThrough", "(LRoastHouse$Rules;)V"⟩
abbrev cX4_doAct : ByteArray := prog_6_method_6_code
def yX4_doAct : MethodName := ⟨RX4, "doAct", "(II)V"⟩
abbrev cX4_grow : ByteArray := prog_6_method_7_code
def yX4_grow : MethodName := ⟨RX4, "grow", "()V"⟩
abbrev cX4_valueNow : ByteArray := prog_6_method_8_code
def yX4_valueNow : MethodName := ⟨RX4, "valueNow", "(I)I"⟩
abbrev cX4_tell : ByteArray := prog_6_method_9_code
def yX4_tell : MethodName := ⟨RX4, "tell", "(I)I"⟩
def RX5 : String := "RoastHouse$RuleReader"
def TX5 : u_T := fun k => match k with
  | 0 => ("RoastHouse$RuleReader", "tokens", "LRoastHouse$Tokens;", true)
  | 1 => ("RoastHouse$RuleReader", "target", "LRoastHouse$Rules;", false)
  | _ => ("RoastHouse$RuleReader", "fault", "I", false)
def tyX5 : Nat → FieldType := fun k => match k with
  | 0 => .object "RoastHouse$Tokens"
  | 1 => .object "RoastHouse$Rules"
  | _ => .int
theorem nmX5 : ∀ a, a < 3 → ∀ b, b < 3 → a ≠ b → (TX5 a).2.1 ≠ (TX5 b).2.1 := by decide +kernel
theorem tyX5_ok : ∀ k, k < 3 → parseFieldDescriptor (TX5 k).2.2.1 = some (tyX5 k) := by decide +kernel
abbrev cX5_init : ByteArray := prog_7_method_1_code
def yX5_init : MethodName := ⟨RX5, "<init>", "(LRoastHouse$Tape;)V"⟩
abbrev cX5_exchange : ByteArray := prog_7_method_2_code
def yX5_exchange : MethodName := ⟨RX5, "exchange", "(LRoastHouse$Rules;)LRoastHouse$Rules;"⟩
abbrev cX5_readTape : ByteArray := prog_7_method_3_code
def yX5_readTape : MethodName := ⟨RX5, "readTape", "()I"⟩
abbrev cX5_wrong : ByteArray := prog_7_method_4_code
def yX5_wrong : MethodName := ⟨RX5, "wrong", "(I)Z"⟩
abbrev cX5_pass : ByteArray := prog_7_method_5_code
def yX5_pass : MethodName := ⟨RX5, "pass", "(I)Z"⟩
abbrev cX5_readLine : ByteArray := prog_7_method_6_code
def yX5_readLine : MethodName := ⟨RX5, "readLine", "()Z"⟩
abbrev cX5_passAmount : ByteArray := prog_7_method_7_code
def yX5_passAmount : MethodName := ⟨RX5, "passAmount", "()Z"⟩
abbrev cX5_readTests : ByteArray := prog_7_method_8_code
def yX5_readTests : MethodName := ⟨RX5, "readTests", "(I)Z"⟩
abbrev cX5_readTest : ByteArray := prog_7_method_9_code
def yX5_readTest : MethodName := ⟨RX5, "readTest", "(I)Z"⟩
abbrev cX5_readSum : ByteArray := prog_7_method_10_code
def yX5_readSum : MethodName := ⟨RX5, "readSum", "(I)Z"⟩
abbrev cX5_readPart : ByteArray := prog_7_method_11_code
def yX5_readPart : MethodName := ⟨RX5, "readPart", "(I)Z"⟩
abbrev cX5_isPlusOrMinus : ByteArray := prog_7_method_12_code
def yX5_isPlusOrMinus : MethodName := ⟨RX5, "isPlusOrMinus", "(I)Z"⟩
abbrev cX5_isName : ByteArray := prog_7_method_13_code
def yX5_isName : MethodName := ⟨RX5, "isName", "(I)Z"⟩
def RX6 : String := "RoastHouse$Rules"
def TX6 : u_T := fun k => match k with
  | 0 => ("RoastHouse$Rules", "lines", "I", false)
  | 1 => ("RoastHouse$Rules", "act", "[I", true)
  | 2 => ("RoastHouse$Rules", "amount", "[I", true)
  | 3 => ("RoastHouse$Rules", "stepsEnd", "[I", true)
  | 4 => ("RoastHouse$Rules", "steps", "[I", true)
  | 5 => ("RoastHouse$Rules", "stepCount", "I", false)
  | 6 => ("RoastHouse$Rules", "waiting", "[I", true)
  | _ => ("RoastHouse$Rules", "waitingCount", "I", false)
def tyX6 : Nat → FieldType := fun k => match k with
  | 0 => .int
  | 1 => .array .int
  | 2 => .array .int
  | 3 => .array .int
  | 4 => .array .int
  | 5 => .int
  | 6 => .array .int
  | _ => .int
theorem nmX6 : ∀ a, a < 8 → ∀ b, b < 8 → a ≠ b → (TX6 a).2.1 ≠ (TX6 b).2.1 := by decide +kernel
theorem tyX6_ok : ∀ k, k < 8 → parseFieldDescriptor (TX6 k).2.2.1 = some (tyX6 k) := by decide +kernel
abbrev cX6_init : ByteArray := prog_8_method_1_code
def yX6_init : MethodName := ⟨RX6, "<init>", "()V"⟩
abbrev cX6_clear : ByteArray := prog_8_method_2_code
def yX6_clear : MethodName := ⟨RX6, "clear", "()V"⟩
abbrev cX6_addNumber : ByteArray := prog_8_method_3_code
def yX6_addNumber : MethodName := ⟨RX6, "addNumber", "(I)V"⟩
abbrev cX6_addKind : ByteArray := prog_8_method_4_code
def yX6_addKind : MethodName := ⟨RX6, "addKind", "(I)V"⟩
abbrev cX6_endLine : ByteArray := prog_8_method_5_code
def yX6_endLine : MethodName := ⟨RX6, "endLine", "(II)V"⟩
abbrev cX6_valueOf : ByteArray := prog_8_method_6_code
def yX6_valueOf : MethodName := ⟨RX6, "valueOf", "(ILRoastHouse$Roaster;)I"⟩
abbrev cX6_joins : ByteArray := prog_8_method_7_code
def yX6_joins : MethodName := ⟨RX6, "joins", "(I)Z"⟩
abbrev cX6_joined : ByteArray := prog_8_method_8_code
def yX6_joined : MethodName := ⟨RX6, "joined", "(III)I"⟩
abbrev cX6_push : ByteArray := prog_8_method_9_code
def yX6_push : MethodName := ⟨RX6, "push", "(I)V"⟩
abbrev cX6_pop : ByteArray := prog_8_method_10_code
def yX6_pop : MethodName := ⟨RX6, "pop", "()I"⟩
def RX7 : String := "RoastHouse$Tape"
def TX7 : u_T := fun k => match k with
  | 0 => ("RoastHouse$Tape", "signs", "[B", true)
  | _ => ("RoastHouse$Tape", "length", "I", false)
def tyX7 : Nat → FieldType := fun k => match k with
  | 0 => .array .byte
  | _ => .int
theorem nmX7 : ∀ a, a < 2 → ∀ b, b < 2 → a ≠ b → (TX7 a).2.1 ≠ (TX7 b).2.1 := by decide +kernel
theorem tyX7_ok : ∀ k, k < 2 → parseFieldDescriptor (TX7 k).2.2.1 = some (tyX7 k) := by decide +kernel
abbrev cX7_init : ByteArray := prog_9_method_1_code
def yX7_init : MethodName := ⟨RX7, "<init>", "()V"⟩
abbrev cX7_addBytes : ByteArray := prog_9_method_2_code
def yX7_addBytes : MethodName := ⟨RX7, "addBytes", "(J)V"⟩
abbrev cX7_addSign : ByteArray := prog_9_method_3_code
def yX7_addSign : MethodName := ⟨RX7, "addSign", "(I)V"⟩
def RX8 : String := "RoastHouse$Tokens"
def TX8 : u_T := fun k => match k with
  | 0 => ("RoastHouse$Tokens", "tape", "LRoastHouse$Tape;", true)
  | 1 => ("RoastHouse$Tokens", "kind", "I", false)
  | 2 => ("RoastHouse$Tokens", "place", "I", false)
  | 3 => ("RoastHouse$Tokens", "number", "I", false)
  | _ => ("RoastHouse$Tokens", "behind", "I", false)
def tyX8 : Nat → FieldType := fun k => match k with
  | 0 => .object "RoastHouse$Tape"
  | 1 => .int
  | 2 => .int
  | 3 => .int
  | _ => .int
theorem nmX8 : ∀ a, a < 5 → ∀ b, b < 5 → a ≠ b → (TX8 a).2.1 ≠ (TX8 b).2.1 := by decide +kernel
theorem tyX8_ok : ∀ k, k < 5 → parseFieldDescriptor (TX8 k).2.2.1 = some (tyX8 k) := by decide +kernel
abbrev cX8_init : ByteArray := prog_10_method_1_code
def yX8_init : MethodName := ⟨RX8, "<init>", "(LRoastHouse$Tape;)V"⟩
abbrev cX8_begin : ByteArray := prog_10_method_2_code
def yX8_begin : MethodName := ⟨RX8, "begin", "()V"⟩
abbrev cX8_advance : ByteArray := prog_10_method_3_code
def yX8_advance : MethodName := ⟨RX8, "advance", "()V"⟩
abbrev cX8_skipBlanks : ByteArray := prog_10_method_4_code
def yX8_skipBlanks : MethodName := ⟨RX8, "skipBlanks", "()V"⟩
abbrev cX8_goBehindWord : ByteArray := prog_10_method_5_code
def yX8_goBehindWord : MethodName := ⟨RX8, "goBehindWord", "()V"⟩
abbrev cX8_readNumber : ByteArray := prog_10_method_6_code
def yX8_readNumber : MethodName := ⟨RX8, "readNumber", "()V"⟩
abbrev cX8_kindOfWord : ByteArray := prog_10_method_7_code
def yX8_kindOfWord : MethodName := ⟨RX8, "kindOfWord", "(I)I"⟩
abbrev cX8_isWord : ByteArray := prog_10_method_8_code
def yX8_isWord : MethodName := ⟨RX8, "isWord", "(Ljava/lang/String;)Z"⟩
abbrev cX8_kindOfSign : ByteArray := prog_10_method_9_code
def yX8_kindOfSign : MethodName := ⟨RX8, "kindOfSign", "(I)I"⟩
abbrev cX8_isBlank : ByteArray := prog_10_method_10_code
def yX8_isBlank : MethodName := ⟨RX8, "isBlank", "(I)Z"⟩
abbrev cX8_isLetter : ByteArray := prog_10_method_11_code
def yX8_isLetter : MethodName := ⟨RX8, "isLetter", "(I)Z"⟩
abbrev cX8_isDigit : ByteArray := prog_10_method_12_code
def yX8_isDigit : MethodName := ⟨RX8, "isDigit", "(I)Z"⟩
def RX9 : String := "RoastHouse"
def TX9 : u_T := fun k => match k with
  | 0 => ("RoastHouse", "store", "LRoastHouse$GreenStore;", true)
  | 1 => ("RoastHouse", "tape", "LRoastHouse$Tape;", true)
  | 2 => ("RoastHouse", "reader", "LRoastHouse$RuleReader;", true)
  | 3 => ("RoastHouse", "roaster", "LRoastHouse$Roaster;", true)
  | 4 => ("RoastHouse", "bags", "LRoastHouse$Bags;", true)
  | 5 => ("RoastHouse", "cups", "LRoastHouse$Cups;", true)
  | 6 => ("RoastHouse", "blender", "LRoastHouse$Blender;", true)
  | 7 => ("RoastHouse", "keptDays", "[I", true)
  | 8 => ("RoastHouse", "rules", "LRoastHouse$Rules;", false)
  | _ => ("RoastHouse", "now", "I", false)
def tyX9 : Nat → FieldType := fun k => match k with
  | 0 => .object "RoastHouse$GreenStore"
  | 1 => .object "RoastHouse$Tape"
  | 2 => .object "RoastHouse$RuleReader"
  | 3 => .object "RoastHouse$Roaster"
  | 4 => .object "RoastHouse$Bags"
  | 5 => .object "RoastHouse$Cups"
  | 6 => .object "RoastHouse$Blender"
  | 7 => .array .int
  | 8 => .object "RoastHouse$Rules"
  | _ => .int
theorem nmX9 : ∀ a, a < 10 → ∀ b, b < 10 → a ≠ b → (TX9 a).2.1 ≠ (TX9 b).2.1 := by decide +kernel
theorem tyX9_ok : ∀ k, k < 10 → parseFieldDescriptor (TX9 k).2.2.1 = some (tyX9 k) := by decide +kernel
abbrev cX9_init : ByteArray := prog_1_method_1_code
def yX9_init : MethodName := ⟨RX9, "<init>", "()V"⟩
abbrev cX9_lot : ByteArray := prog_1_method_2_code
def yX9_lot : MethodName := ⟨RX9, "lot", "(IIIII)I"⟩
abbrev cX9_days : ByteArray := prog_1_method_3_code
def yX9_days : MethodName := ⟨RX9, "days", "(I)I"⟩
abbrev cX9_curve : ByteArray := prog_1_method_4_code
def yX9_curve : MethodName := ⟨RX9, "curve", "(II)Z"⟩
abbrev cX9_feed : ByteArray := prog_1_method_5_code
def yX9_feed : MethodName := ⟨RX9, "feed", "(JJJ)I"⟩
abbrev cX9_text : ByteArray := prog_1_method_6_code
def yX9_text : MethodName := ⟨RX9, "text", "()I"⟩
abbrev cX9_roast : ByteArray := prog_1_method_7_code
def yX9_roast : MethodName := ⟨RX9, "roast", "(II)I"⟩
abbrev cX9_roasted : ByteArray := prog_1_method_8_code
def yX9_roasted : MethodName := ⟨RX9, "roasted", "(I)I"⟩
abbrev cX9_take : ByteArray := prog_1_method_9_code
def yX9_take : MethodName := ⟨RX9, "take", "(II)I"⟩
abbrev cX9_blend : ByteArray := prog_1_method_10_code
def yX9_blend : MethodName := ⟨RX9, "blend", "()I"⟩
abbrev cX9_bag : ByteArray := prog_1_method_11_code
def yX9_bag : MethodName := ⟨RX9, "bag", "(II)I"⟩
abbrev cX9_part : ByteArray := prog_1_method_12_code
def yX9_part : MethodName := ⟨RX9, "part", "(II)I"⟩
abbrev cX9_mark : ByteArray := prog_1_method_13_code
def yX9_mark : MethodName := ⟨RX9, "mark", "(III)Z"⟩
abbrev cX9_told : ByteArray := prog_1_method_14_code
def yX9_told : MethodName := ⟨RX9, "told", "(II)Z"⟩
abbrev cX9_order : ByteArray := prog_1_method_15_code
def yX9_order : MethodName := ⟨RX9, "order", "(II)I"⟩
abbrev cX9_worth : ByteArray := prog_1_method_16_code
def yX9_worth : MethodName := ⟨RX9, "worth", "(I)I"⟩
abbrev cX9_span : ByteArray := prog_1_method_17_code
def yX9_span : MethodName := ⟨RX9, "span", "(III)Z"⟩
abbrev cX9_best : ByteArray := prog_1_method_18_code
def yX9_best : MethodName := ⟨RX9, "best", "(II)I"⟩
abbrev cX9_tenths : ByteArray := prog_1_method_19_code
def yX9_tenths : MethodName := ⟨RX9, "tenths", "(I)I"⟩
abbrev cX9_send : ByteArray := prog_1_method_20_code
def yX9_send : MethodName := ⟨RX9, "send", "(II)Z"⟩
abbrev cX9_keeps : ByteArray := prog_1_method_21_code
def yX9_keeps : MethodName := ⟨RX9, "keeps", "(II)Z"⟩
abbrev cX9_stale : ByteArray := prog_1_method_22_code
def yX9_stale : MethodName := ⟨RX9, "stale", "(I)I"⟩
abbrev cX9_found : ByteArray := prog_1_method_23_code
def yX9_found : MethodName := ⟨RX9, "found", "(II)I"⟩
abbrev cX9_led : ByteArray := prog_1_method_24_code
def yX9_led : MethodName := ⟨RX9, "led", "(II)I"⟩
abbrev cX9_count : ByteArray := prog_1_method_25_code
def yX9_count : MethodName := ⟨RX9, "count", "(I)I"⟩
abbrev cX9_within : ByteArray := prog_1_method_26_code
def yX9_within : MethodName := ⟨RX9, "within", "(III)Z"⟩
def RX10 : String := "RoastHouseModel"
def TX10 : u_T := fun k => match k with
  | 0 => ("RoastHouseModel", "thrown", "I", false)
  | 1 => ("RoastHouseModel", "tape", "[I", true)
  | 2 => ("RoastHouseModel", "taped", "I", false)
  | 3 => ("RoastHouseModel", "size", "I", false)
  | 4 => ("RoastHouseModel", "sort", "[I", true)
  | 5 => ("RoastHouseModel", "place", "[I", true)
  | 6 => ("RoastHouseModel", "value", "[J", true)
  | 7 => ("RoastHouseModel", "at", "I", false)
  | 8 => ("RoastHouseModel", "fault", "I", false)
  | 9 => ("RoastHouseModel", "words", "[J", true)
  | 10 => ("RoastHouseModel", "lines", "[I", true)
  | 11 => ("RoastHouseModel", "lineDoes", "[I", true)
  | 12 => ("RoastHouseModel", "lineN", "[I", true)
  | 13 => ("RoastHouseModel", "lineAt", "[I", true)
  | 14 => ("RoastHouseModel", "op", "[I", true)
  | 15 => ("RoastHouseModel", "one", "[I", true)
  | 16 => ("RoastHouseModel", "holds", "I", false)
  | 17 => ("RoastHouseModel", "next", "I", false)
  | 18 => ("RoastHouseModel", "codes", "I", false)
  | 19 => ("RoastHouseModel", "deep", "I", false)
  | 20 => ("RoastHouseModel", "sumWaits", "[I", true)
  | 21 => ("RoastHouseModel", "signWaits", "[I", true)
  | 22 => ("RoastHouseModel", "andWaits", "[I", true)
  | 23 => ("RoastHouseModel", "known", "[I", true)
  | 24 => ("RoastHouseModel", "pile", "[I", true)
  | 25 => ("RoastHouseModel", "now", "I", false)
  | 26 => ("RoastHouseModel", "lots", "I", false)
  | 27 => ("RoastHouseModel", "green", "[I", true)
  | 28 => ("RoastHouseModel", "price", "[I", true)
  | 29 => ("RoastHouseModel", "taste", "[I", true)
  | 30 => ("RoastHouseModel", "bags", "I", false)
  | 31 => ("RoastHouseModel", "parts", "[I", true)
  | 32 => ("RoastHouseModel", "roastedOn", "[I", true)
  | 33 => ("RoastHouseModel", "house", "[I", true)
  | 34 => ("RoastHouseModel", "curve", "[I", true)
  | 35 => ("RoastHouseModel", "wasRoast", "Z", false)
  | 36 => ("RoastHouseModel", "minute", "I", false)
  | 37 => ("RoastHouseModel", "warmth", "I", false)
  | 38 => ("RoastHouseModel", "rise", "I", false)
  | 39 => ("RoastHouseModel", "fire", "I", false)
  | 40 => ("RoastHouseModel", "drum", "I", false)
  | 41 => ("RoastHouseModel", "loss", "I", false)
  | 42 => ("RoastHouseModel", "isDropped", "Z", false)
  | 43 => ("RoastHouseModel", "way", "I", false)
  | 44 => ("RoastHouseModel", "tells", "I", false)
  | 45 => ("RoastHouseModel", "told", "[I", true)
  | 46 => ("RoastHouseModel", "rest", "[I", true)
  | 47 => ("RoastHouseModel", "marks", "[I", true)
  | 48 => ("RoastHouseModel", "worths", "[I", true)
  | 49 => ("RoastHouseModel", "up", "J", false)
  | 50 => ("RoastHouseModel", "down", "J", false)
  | 51 => ("RoastHouseModel", "spanFrom", "[I", true)
  | 52 => ("RoastHouseModel", "spanTo", "[I", true)
  | 53 => ("RoastHouseModel", "inSet", "[I", true)
  | 54 => ("RoastHouseModel", "tenth", "[I", true)
  | 55 => ("RoastHouseModel", "bestTenths", "[I", true)
  | 56 => ("RoastHouseModel", "wasBest", "Z", false)
  | 57 => ("RoastHouseModel", "many", "I", false)
  | 58 => ("RoastHouseModel", "least", "I", false)
  | _ => ("RoastHouseModel", "keeps", "[I", true)
def tyX10 : Nat → FieldType := fun k => match k with
  | 0 => .int
  | 1 => .array .int
  | 2 => .int
  | 3 => .int
  | 4 => .array .int
  | 5 => .array .int
  | 6 => .array .long
  | 7 => .int
  | 8 => .int
  | 9 => .array .long
  | 10 => .array .int
  | 11 => .array .int
  | 12 => .array .int
  | 13 => .array .int
  | 14 => .array .int
  | 15 => .array .int
  | 16 => .int
  | 17 => .int
  | 18 => .int
  | 19 => .int
  | 20 => .array .int
  | 21 => .array .int
  | 22 => .array .int
  | 23 => .array .int
  | 24 => .array .int
  | 25 => .int
  | 26 => .int
  | 27 => .array .int
  | 28 => .array .int
  | 29 => .array .int
  | 30 => .int
  | 31 => .array .int
  | 32 => .array .int
  | 33 => .array .int
  | 34 => .array .int
  | 35 => .boolean
  | 36 => .int
  | 37 => .int
  | 38 => .int
  | 39 => .int
  | 40 => .int
  | 41 => .int
  | 42 => .boolean
  | 43 => .int
  | 44 => .int
  | 45 => .array .int
  | 46 => .array .int
  | 47 => .array .int
  | 48 => .array .int
  | 49 => .long
  | 50 => .long
  | 51 => .array .int
  | 52 => .array .int
  | 53 => .array .int
  | 54 => .array .int
  | 55 => .array .int
  | 56 => .boolean
  | 57 => .int
  | 58 => .int
  | _ => .array .int
theorem nmX10 : ∀ a, a < 60 → ∀ b, b < 60 → a ≠ b → (TX10 a).2.1 ≠ (TX10 b).2.1 := by decide +kernel
theorem tyX10_ok : ∀ k, k < 60 → parseFieldDescriptor (TX10 k).2.2.1 = some (tyX10 k) := by decide +kernel
abbrev cX10_thrown : ByteArray := prog_12_method_1_code
def yX10_thrown : MethodName := ⟨RX10, "thrown", "()I"⟩
abbrev cX10_feed : ByteArray := prog_12_method_2_code
def yX10_feed : MethodName := ⟨RX10, "feed", "(JJJ)I"⟩
abbrev cX10_lay : ByteArray := prog_12_method_3_code
def yX10_lay : MethodName := ⟨RX10, "lay", "(J)V"⟩
abbrev cX10_init : ByteArray := prog_12_method_4_code
def yX10_init : MethodName := ⟨RX10, "<init>", "()V"⟩
abbrev cX10_isLetter : ByteArray := prog_12_method_5_code
def yX10_isLetter : MethodName := ⟨RX10, "isLetter", "(I)Z"⟩
abbrev cX10_isDigit : ByteArray := prog_12_method_6_code
def yX10_isDigit : MethodName := ⟨RX10, "isDigit", "(I)Z"⟩
abbrev cX10_rank : ByteArray := prog_12_method_7_code
def yX10_rank : MethodName := ⟨RX10, "rank", "(I)I"⟩
abbrev cX10_isSignOf : ByteArray := prog_12_method_8_code
def yX10_isSignOf : MethodName := ⟨RX10, "isSignOf", "(I)Z"⟩
abbrev cX10_cutAll : ByteArray := prog_12_method_9_code
def yX10_cutAll : MethodName := ⟨RX10, "cutAll", "()V"⟩
abbrev cX10_wrong : ByteArray := prog_12_method_10_code
def yX10_wrong : MethodName := ⟨RX10, "wrong", "(I)V"⟩
abbrev cX10_isSign : ByteArray := prog_12_method_11_code
def yX10_isSign : MethodName := ⟨RX10, "isSign", "(I)Z"⟩
abbrev cX10_isWord : ByteArray := prog_12_method_12_code
def yX10_isWord : MethodName := ⟨RX10, "isWord", "(I)Z"⟩
abbrev cX10_takeSign : ByteArray := prog_12_method_13_code
def yX10_takeSign : MethodName := ⟨RX10, "takeSign", "(I)V"⟩
abbrev cX10_hasSign : ByteArray := prog_12_method_14_code
def yX10_hasSign : MethodName := ⟨RX10, "hasSign", "(I)Z"⟩
abbrev cX10_hasWord : ByteArray := prog_12_method_15_code
def yX10_hasWord : MethodName := ⟨RX10, "hasWord", "(I)Z"⟩
abbrev cX10_takeWord : ByteArray := prog_12_method_16_code
def yX10_takeWord : MethodName := ⟨RX10, "takeWord", "(I)V"⟩
abbrev cX10_emit : ByteArray := prog_12_method_17_code
def yX10_emit : MethodName := ⟨RX10, "emit", "(II)V"⟩
abbrev cX10_text : ByteArray := prog_12_method_18_code
def yX10_text : MethodName := ⟨RX10, "text", "()I"⟩
abbrev cX10_line : ByteArray := prog_12_method_19_code
def yX10_line : MethodName := ⟨RX10, "line", "()V"⟩
abbrev cX10_opens : ByteArray := prog_12_method_20_code
def yX10_opens : MethodName := ⟨RX10, "opens", "()V"⟩
abbrev cX10_partWord : ByteArray := prog_12_method_21_code
def yX10_partWord : MethodName := ⟨RX10, "partWord", "()I"⟩
abbrev cX10_part : ByteArray := prog_12_method_22_code
def yX10_part : MethodName := ⟨RX10, "part", "()Z"⟩
abbrev cX10_goesOnBehind : ByteArray := prog_12_method_23_code
def yX10_goesOnBehind : MethodName := ⟨RX10, "goesOnBehind", "()Z"⟩
abbrev cX10_valueOf : ByteArray := prog_12_method_24_code
def yX10_valueOf : MethodName := ⟨RX10, "valueOf", "(I)I"⟩
abbrev cX10_isTaste : ByteArray := prog_12_method_25_code
def yX10_isTaste : MethodName := ⟨RX10, "isTaste", "(I)Z"⟩
abbrev cX10_lot : ByteArray := prog_12_method_26_code
def yX10_lot : MethodName := ⟨RX10, "lot", "(IIIII)I"⟩
abbrev cX10_isLot : ByteArray := prog_12_method_27_code
def yX10_isLot : MethodName := ⟨RX10, "isLot", "(I)Z"⟩
abbrev cX10_isBag : ByteArray := prog_12_method_28_code
def yX10_isBag : MethodName := ⟨RX10, "isBag", "(I)Z"⟩
abbrev cX10_days : ByteArray := prog_12_method_29_code
def yX10_days : MethodName := ⟨RX10, "days", "(I)I"⟩
abbrev cX10_curve : ByteArray := prog_12_method_30_code
def yX10_curve : MethodName := ⟨RX10, "curve", "(II)Z"⟩
abbrev cX10_actsBy : ByteArray := prog_12_method_31_code
def yX10_actsBy : MethodName := ⟨RX10, "actsBy", "(I)V"⟩
abbrev cX10_goes : ByteArray := prog_12_method_32_code
def yX10_goes : MethodName := ⟨RX10, "goes", "(I)V"⟩
abbrev cX10_roast : ByteArray := prog_12_method_33_code
def yX10_roast : MethodName := ⟨RX10, "roast", "(II)I"⟩
abbrev cX10_newBag : ByteArray := prog_12_method_34_code
def yX10_newBag : MethodName := ⟨RX10, "newBag", "(I)I"⟩
abbrev cX10_roasted : ByteArray := prog_12_method_35_code
def yX10_roasted : MethodName := ⟨RX10, "roasted", "(I)I"⟩
abbrev cX10_gramsIn : ByteArray := prog_12_method_36_code
def yX10_gramsIn : MethodName := ⟨RX10, "gramsIn", "(I)I"⟩
abbrev cX10_take : ByteArray := prog_12_method_37_code
def yX10_take : MethodName := ⟨RX10, "take", "(II)I"⟩
abbrev cX10_moves : ByteArray := prog_12_method_38_code
def yX10_moves : MethodName := ⟨RX10, "moves", "(III)V"⟩
abbrev cX10_gives : ByteArray := prog_12_method_39_code
def yX10_gives : MethodName := ⟨RX10, "gives", "(IIII)V"⟩
abbrev cX10_blend : ByteArray := prog_12_method_40_code
def yX10_blend : MethodName := ⟨RX10, "blend", "()I"⟩
abbrev cX10_bag : ByteArray := prog_12_method_41_code
def yX10_bag : MethodName := ⟨RX10, "bag", "(II)I"⟩
abbrev cX10_part_ : ByteArray := prog_12_method_42_code
def yX10_part_ : MethodName := ⟨RX10, "part", "(II)I"⟩
abbrev cX10_isSample : ByteArray := prog_12_method_43_code
def yX10_isSample : MethodName := ⟨RX10, "isSample", "(I)Z"⟩
abbrev cX10_mark : ByteArray := prog_12_method_44_code
def yX10_mark : MethodName := ⟨RX10, "mark", "(III)Z"⟩
abbrev cX10_told : ByteArray := prog_12_method_45_code
def yX10_told : MethodName := ⟨RX10, "told", "(II)Z"⟩
abbrev cX10_weighs : ByteArray := prog_12_method_46_code
def yX10_weighs : MethodName := ⟨RX10, "weighs", "(I)Z"⟩
abbrev cX10_order : ByteArray := prog_12_method_47_code
def yX10_order : MethodName := ⟨RX10, "order", "(II)I"⟩
abbrev cX10_worth : ByteArray := prog_12_method_48_code
def yX10_worth : MethodName := ⟨RX10, "worth", "(I)I"⟩
abbrev cX10_span : ByteArray := prog_12_method_49_code
def yX10_span : MethodName := ⟨RX10, "span", "(III)Z"⟩
abbrev cX10_isInSpans : ByteArray := prog_12_method_50_code
def yX10_isInSpans : MethodName := ⟨RX10, "isInSpans", "()Z"⟩
abbrev cX10_tries : ByteArray := prog_12_method_51_code
def yX10_tries : MethodName := ⟨RX10, "tries", "(III)V"⟩
abbrev cX10_asks : ByteArray := prog_12_method_52_code
def yX10_asks : MethodName := ⟨RX10, "asks", "(I)V"⟩
abbrev cX10_best : ByteArray := prog_12_method_53_code
def yX10_best : MethodName := ⟨RX10, "best", "(II)I"⟩
abbrev cX10_tenths : ByteArray := prog_12_method_54_code
def yX10_tenths : MethodName := ⟨RX10, "tenths", "(I)I"⟩
abbrev cX10_isHouse : ByteArray := prog_12_method_55_code
def yX10_isHouse : MethodName := ⟨RX10, "isHouse", "(I)Z"⟩
abbrev cX10_send : ByteArray := prog_12_method_56_code
def yX10_send : MethodName := ⟨RX10, "send", "(II)Z"⟩
abbrev cX10_keeps : ByteArray := prog_12_method_57_code
def yX10_keeps : MethodName := ⟨RX10, "keeps", "(II)Z"⟩
abbrev cX10_stale : ByteArray := prog_12_method_58_code
def yX10_stale : MethodName := ⟨RX10, "stale", "(I)I"⟩
abbrev cX10_found : ByteArray := prog_12_method_59_code
def yX10_found : MethodName := ⟨RX10, "found", "(II)I"⟩
abbrev cX10_led : ByteArray := prog_12_method_60_code
def yX10_led : MethodName := ⟨RX10, "led", "(II)I"⟩
abbrev cX10_count : ByteArray := prog_12_method_61_code
def yX10_count : MethodName := ⟨RX10, "count", "(I)I"⟩
def RJ6 : String := "java/lang/Integer"
def TJ6 : u_T := fun k => match k with
  | _ => ("", "", "", false)
def tyJ6 : Nat → FieldType := fun k => match k with
  | _ => .int
abbrev cJ6_bitCount_0f7a4 : ByteArray := prog_14_method_49_code
def yJ6_bitCount_0f7a4 : MethodName := ⟨RJ6, "bitCount", "(I)I"⟩
def RJ13 : String := "java/lang/Long"
def TJ13 : u_T := fun k => match k with
  | _ => ("", "", "", false)
def tyJ13 : Nat → FieldType := fun k => match k with
  | _ => .int
abbrev cJ13_compare_74951 : ByteArray := prog_15_method_42_code
def yJ13_compare_74951 : MethodName := ⟨RJ13, "compare", "(JJ)I"⟩
def RJ9 : String := "java/lang/Math"
def TJ9 : u_T := fun k => match k with
  | _ => ("", "", "", false)
def tyJ9 : Nat → FieldType := fun k => match k with
  | _ => .int
abbrev cJ9_floorDiv_f86c9 : ByteArray := prog_16_method_49_code
def yJ9_floorDiv_f86c9 : MethodName := ⟨RJ9, "floorDiv", "(JJ)J"⟩
abbrev cJ9_abs_0f7a4 : ByteArray := prog_16_method_59_code
def yJ9_abs_0f7a4 : MethodName := ⟨RJ9, "abs", "(I)I"⟩
abbrev cJ9_max_7cf53 : ByteArray := prog_16_method_65_code
def yJ9_max_7cf53 : MethodName := ⟨RJ9, "max", "(II)I"⟩
abbrev cJ9_min_7cf53 : ByteArray := prog_16_method_69_code
def yJ9_min_7cf53 : MethodName := ⟨RJ9, "min", "(II)I"⟩
def RJ0 : String := "java/lang/String"
def TJ0 : u_T := fun k => match k with
  | _ => ("", "", "", false)
def tyJ0 : Nat → FieldType := fun k => match k with
  | _ => .int
abbrev cJ0_length_8abf5 : ByteArray := prog_18_method_54_code
def yJ0_length_8abf5 : MethodName := ⟨RJ0, "length", "()I"⟩
abbrev cJ0_charAt_5068e : ByteArray := prog_18_method_56_code
def yJ0_charAt_5068e : MethodName := ⟨RJ0, "charAt", "(I)C"⟩
abbrev cJ0_coder_7d493 : ByteArray := prog_18_method_152_code
def yJ0_coder_7d493 : MethodName := ⟨RJ0, "coder", "()B"⟩
abbrev cJ0_isLatin1_aae02 : ByteArray := prog_18_method_154_code
def yJ0_isLatin1_aae02 : MethodName := ⟨RJ0, "isLatin1", "()Z"⟩
abbrev cJ0_checkIndex_df160 : ByteArray := prog_18_method_155_code
def yJ0_checkIndex_df160 : MethodName := ⟨RJ0, "checkIndex", "(II)V"⟩
def RJ1 : String := "java/lang/StringLatin1"
def TJ1 : u_T := fun k => match k with
  | _ => ("", "", "", false)
def tyJ1 : Nat → FieldType := fun k => match k with
  | _ => .int
abbrev cJ1_charAt_3b067 : ByteArray := prog_19_method_2_code
def yJ1_charAt_3b067 : MethodName := ⟨RJ1, "charAt", "([BI)C"⟩
def RJ2 : String := "java/lang/StringUTF16"
def TJ2 : u_T := fun k => match k with
  | _ => ("", "", "", false)
def tyJ2 : Nat → FieldType := fun k => match k with
  | _ => .int
abbrev cJ2_getChar_3b067 : ByteArray := prog_20_method_5_code
def yJ2_getChar_3b067 : MethodName := ⟨RJ2, "getChar", "([BI)C"⟩
abbrev cJ2_length_9d52b : ByteArray := prog_20_method_6_code
def yJ2_length_9d52b : MethodName := ⟨RJ2, "length", "([B)I"⟩
abbrev cJ2_charAt_3b067 : ByteArray := prog_20_method_83_code
def yJ2_charAt_3b067 : MethodName := ⟨RJ2, "charAt", "([BI)C"⟩
abbrev cJ2_checkIndex_2214a : ByteArray := prog_20_method_91_code
def yJ2_checkIndex_2214a : MethodName := ⟨RJ2, "checkIndex", "(I[B)V"⟩
def RJ10 : String := "java/lang/System"
def TJ10 : u_T := fun k => match k with
  | _ => ("", "", "", false)
def tyJ10 : Nat → FieldType := fun k => match k with
  | _ => .int
def RJ7 : String := "java/util/Arrays"
def TJ7 : u_T := fun k => match k with
  | _ => ("", "", "", false)
def tyJ7 : Nat → FieldType := fun k => match k with
  | _ => .int
abbrev cJ7_fill_53178 : ByteArray := prog_23_method_103_code
def yJ7_fill_53178 : MethodName := ⟨RJ7, "fill", "([II)V"⟩
def RJ3 : String := "jdk/internal/util/Preconditions"
def TJ3 : u_T := fun k => match k with
  | _ => ("", "", "", false)
def tyJ3 : Nat → FieldType := fun k => match k with
  | _ => .int
abbrev cJ3_checkIndex_8e157 : ByteArray := prog_25_method_11_code
def yJ3_checkIndex_8e157 : MethodName := ⟨RJ3, "checkIndex", "(IILjava/util/function/BiFunction;)I"⟩
def RL : String := "RoastHouseLaw"
abbrev cL_bag : ByteArray := method_3_code
def yL_bag : MethodName := ⟨RL, "bag", "(LRoastHouse;II[J)I"⟩
abbrev cL_law : ByteArray := code
def yL_law : MethodName := ⟨RL, "law", "([I)Z"⟩
end
section
/-! THE ABSTRACT MACHINE. Objects and arrays that the law makes lie one behind another from the law's own start on: cell k at address base + k. A world: a shape (what is where, how it refers) and two tables of numbers (ints and longs, by cell and place). -/
abbrev hp_T : Type := (Nat → Nat → Int32) × (Nat → Nat → Int64)
abbrev sh_E : Type := (FieldType × Nat) ⊕ (Nat × List Value)
abbrev sh_T : Type := List sh_E
abbrev en_T : Type := Nat × (Nat → Option Cell) × va_G × (FieldType → ClassId) × (Nat → Nat)
abbrev ie_T : Type := Nat × Instr × Instr × Nat × Nat × Nat × Int32 × Int64 × Nat
abbrev mt_T : Type := MethodName × ByteArray × Nat × Option FieldType × List ie_T
abbrev st_T : Type := Nat × List Value × List Value × sh_T × hp_T
def kcls : List vw_C := [(RX0, TX0, 9), (RX1, TX1, 10), (RX2, TX2, 4), (RX3, TX3, 4), (RX4, TX4, 12), (RX5, TX5, 3), (RX6, TX6, 8), (RX7, TX7, 2), (RX8, TX8, 5), (RX9, TX9, 10), (RX10, TX10, 60)]
def ktyp (ci : Nat) : Nat → FieldType := match ci with
  | 0 => tyX0
  | 1 => tyX1
  | 2 => tyX2
  | 3 => tyX3
  | 4 => tyX4
  | 5 => tyX5
  | 6 => tyX6
  | 7 => tyX7
  | 8 => tyX8
  | 9 => tyX9
  | _ => tyX10
def gT : List Cond := lw_tbl.filter goodWord
theorem gT_of {w : Cond} (h : w ∈ lw_tbl) (hg : goodWord w = true) : w ∈ gT := List.mem_filter.mpr ⟨h, hg⟩
theorem gT_good : GoodIn gT gT := fun w hw => ⟨hw, good_of_word (List.mem_filter.mp hw).2⟩
theorem kall {P : Nat → vw_C → Prop} (h0 : P 0 (RX0, TX0, 9)) (h1 : P 1 (RX1, TX1, 10)) (h2 : P 2 (RX2, TX2, 4)) (h3 : P 3 (RX3, TX3, 4)) (h4 : P 4 (RX4, TX4, 12)) (h5 : P 5 (RX5, TX5, 3)) (h6 : P 6 (RX6, TX6, 8)) (h7 : P 7 (RX7, TX7, 2)) (h8 : P 8 (RX8, TX8, 5)) (h9 : P 9 (RX9, TX9, 10)) (h10 : P 10 (RX10, TX10, 60)) : ∀ ci q, kcls[ci]? = some q → P ci q := by
  intro ci q h
  match ci, h with
  | 0, h => cases h; exact h0
  | 1, h => cases h; exact h1
  | 2, h => cases h; exact h2
  | 3, h => cases h; exact h3
  | 4, h => cases h; exact h4
  | 5, h => cases h; exact h5
  | 6, h => cases h; exact h6
  | 7, h => cases h; exact h7
  | 8, h => cases h; exact h8
  | 9, h => cases h; exact h9
  | 10, h => cases h; exact h10
  | k + 11, h => simp [kcls] at h
theorem kty_ok : ∀ (ci : Nat) (q : vw_C), kcls[ci]? = some q → ∀ k, k < q.2.2 → parseFieldDescriptor (q.2.1 k).2.2.1 = some (ktyp ci k) := kall tyX0_ok tyX1_ok tyX2_ok tyX3_ok tyX4_ok tyX5_ok tyX6_ok tyX7_ok tyX8_ok tyX9_ok tyX10_ok
theorem knm_ok : ∀ (ci : Nat) (q : vw_C), kcls[ci]? = some q → ∀ a, a < q.2.2 → ∀ b, b < q.2.2 → a ≠ b → (q.2.1 a).2.1 ≠ (q.2.1 b).2.1 := kall nmX0 nmX1 nmX2 nmX3 nmX4 nmX5 nmX6 nmX7 nmX8 nmX9 nmX10
def kin_b (q : vw_C) (ps : List Nat) : Bool := decide (u_ws q.1 q.2.1 q.2.2 = ps.filterMap (fun i => lw_tbl[i]?)) && (u_ws q.1 q.2.1 q.2.2).all goodWord
theorem kin_of {q : vw_C} {ps : List Nat} (h : kin_b q ps = true) : ∀ w ∈ u_ws q.1 q.2.1 q.2.2, w ∈ gT := by
  simp only [kin_b, Bool.and_eq_true, decide_eq_true_eq] at h
  intro w hw
  have hg := List.all_eq_true.mp h.2 w hw
  rw [h.1] at hw
  obtain ⟨i, -, hi⟩ := List.mem_filterMap.mp hw
  exact gT_of (List.mem_of_getElem? hi) hg
theorem kin0 : kin_b (RX0, TX0, 9) [289, 291, 293, 295, 297, 299, 301, 303, 305] = true := by decide +kernel
theorem kin1 : kin_b (RX1, TX1, 10) [347, 349, 351, 353, 355, 357, 359, 361, 363, 365] = true := by decide +kernel
theorem kin2 : kin_b (RX2, TX2, 4) [319, 321, 323, 325] = true := by decide +kernel
theorem kin3 : kin_b (RX3, TX3, 4) [110, 112, 114, 116] = true := by decide +kernel
theorem kin4 : kin_b (RX4, TX4, 12) [244, 246, 248, 250, 252, 254, 256, 258, 260, 262, 264, 266] = true := by decide +kernel
theorem kin5 : kin_b (RX5, TX5, 3) [211, 213, 215] = true := by decide +kernel
theorem kin6 : kin_b (RX6, TX6, 8) [191, 193, 195, 197, 199, 201, 203, 205] = true := by decide +kernel
theorem kin7 : kin_b (RX7, TX7, 2) [131, 133] = true := by decide +kernel
theorem kin8 : kin_b (RX8, TX8, 5) [161, 163, 165, 167, 169] = true := by decide +kernel
theorem kin9 : kin_b (RX9, TX9, 10) [381, 383, 385, 387, 389, 391, 393, 395, 397, 399] = true := by decide +kernel
theorem kin10 : kin_b (RX10, TX10, 60) [1035, 1037, 1039, 1041, 1043, 1045, 1047, 1049, 1051, 1053, 1055, 1057, 1059, 1061, 1063, 1065, 1067, 1069, 1071, 1073, 1075, 1077, 1079, 1081, 1083, 1085, 1087, 1089, 1091, 1093, 1095, 1097, 1099, 1101, 1103, 1105, 1107, 1109, 1111, 1113, 1115, 1117, 1119, 1121, 1123, 1125, 1127, 1129, 1131, 1133, 1135, 1137, 1139, 1141, 1143, 1145, 1147, 1149, 1151, 1153] = true := by decide +kernel
theorem kin_ok : ∀ (ci : Nat) (q : vw_C), kcls[ci]? = some q → ∀ w ∈ u_ws q.1 q.2.1 q.2.2, w ∈ gT := kall (kin_of kin0) (kin_of kin1) (kin_of kin2) (kin_of kin3) (kin_of kin4) (kin_of kin5) (kin_of kin6) (kin_of kin7) (kin_of kin8) (kin_of kin9) (kin_of kin10)
/-- a value of the abstract machine as the JVM has it: a cell by its number, a constant String (or the script) by its own number as a float -/
def cv (E : en_T) : Value → Value
  | .ref k => .ref (E.1 + k)
  | .float u => .ref (E.2.2.2.2 u.toNat)
  | v => v
/-- what is in a place of a cell: ints and longs by the tables, the rest as the shape has it -/
def av (hp : hp_T) (c i : Nat) : Value → Value
  | .int _ => .int (hp.1 c i)
  | .long _ => .long (hp.2 c i)
  | v => v
def fs_of (E : en_T) (hp : hp_T) (c : Nat) (ks : List Value) : List Value := ks.mapIdx (fun i v => cv E (av hp c i v))
def arc (hp : hp_T) (c : Nat) (ty : FieldType) (n : Nat) : vp_A := match ty with
  | .long => (n, .inr (.inl (hp.2 c)))
  | _ => (n, .inl (hp.1 c))
def ce (E : en_T) (hp : hp_T) (c : Nat) : sh_E → va_E
  | .inl (ty, n) => .inl (E.2.2.2.1 ty, arc hp c ty n)
  | .inr (ci, ks) => .inr (ci, fs_of E hp c ks)
/-- a cell of which nothing is said -/
def gar : sh_E → Bool
  | .inl (.double, _) => true
  | _ => false
/-- the world: all the cells from base on, by the shape and the tables; what lies below is as it was -/
def wd (E : en_T) (sh : sh_T) (hp : hp_T) (H : Heap) : Prop :=
  H.size = E.1 + sh.length ∧ (∀ q, q < E.1 → H[q]? = E.2.1 q) ∧ ∀ k e, sh[k]? = some e → gar e = false → va_at E.2.2.1 kcls (E.1 + k, ce E hp k e) H
def ktys (cA : FieldType → ClassId) : List (ClassId × FieldType) := [(cA .int, .int), (cA .byte, .byte), (cA .long, .long)]
def nests : List (String × Nat) := [("RoastHouse$Roaster", 60), ("RoastHouse$Tape", 21), ("RoastHouse$Tokens", 97), ("RoastHouse$RuleReader", 95), ("RoastHouse$Rules", 64), ("RoastHouse$Bags", 52), ("RoastHouse$Cups", 31), ("RoastHouse$Blender", 50)]
def sidx : List Nat := [64, 70, 72, 74, 76, 78, 80, 82, 84, 86]
def stxt : List String := ["and", "drum", "drop", "fire", "grams", "minute", "rise", "told", "when", "warmth"]
def slen : List Nat := [3, 4, 4, 4, 5, 6, 4, 4, 4, 6]
def sbyt : List (List Int32) := [[97, 110, 100], [100, 114, 117, 109], [100, 114, 111, 112], [102, 105, 114, 101], [103, 114, 97, 109, 115], [109, 105, 110, 117, 116, 101], [114, 105, 115, 101], [116, 111, 108, 100], [119, 104, 101, 110], [119, 97, 114, 109, 116, 104]]
/-- the constant Strings: where they are, what is in them -/
def kstr (E : en_T) (U : State) : Prop := (∀ i, i < 10 → vk_R RX8 (sidx.getD i 0) (stxt.getD i "") (E.2.2.2.2 i) U) ∧ ∀ H : Heap, E.1 ≤ H.size → (∀ q, q < E.1 → H[q]? = E.2.1 q) → vk_S 10 slen sbyt E.2.2.2.2 (fun i => E.2.2.2.2 (200 + i)) (fun q => E.1 ≤ q) U H ∧ va_Z "java/lang/String" "COMPACT_STRINGS" "Z" (.int 1) (fun q => E.1 ≤ q) U H
def kx (E : en_T) (U : State) : Prop := va_K E.2.2.1 kcls (ktys E.2.2.2.1) U ∧ (∀ q ∈ nests, va_Nw (.methodLinkNest q.1 q.2 yX9_within "RoastHouse") U) ∧ kstr E U
def rm (d mc ms : Nat) : Room := { frames := d, cells := mc, slots := ms, locals := 40 * d + 2080 }
def cx (y : mt_T) (E : en_T) (p : Program) (s : State) (m : MethodId) (args : Array Value) (meth : Method) (c : Code) : Prop :=
  p.tables.exec = Jvm.exec ∧ c.code = y.2.1 ∧ meth.sig.returnType = y.2.2.2.1 ∧ c.maxLocals = y.2.2.1 ∧ s.vm.findClass y.1.cls = some m.cls ∧ (∀ w ∈ gT, w.before args s = true) ∧ meth.locks = false ∧ meth.name = y.1.name ∧ kx E s
def isV : Value → Bool
  | .retAddr _ => false
  | _ => true
/-- the known locals, with their places (an unknown one: retAddr) -/
def al (E : en_T) (lo : List Value) : List (Nat × Value) := (List.range lo.length).filterMap (fun i => match lo[i]? with
  | some v => if isV v = true then some (i, cv E v) else none
  | none => none)
theorem al_mem {E : en_T} {lo : List Value} {i : Nat} {w : Value} : (i, w) ∈ al E lo ↔ ∃ v, lo[i]? = some v ∧ isV v = true ∧ w = cv E v := by
  unfold al
  rw [List.mem_filterMap]
  constructor
  · rintro ⟨j, hj, h⟩
    split at h
    · next v hv =>
      split at h
      · next h1 => cases h; exact ⟨v, hv, h1, rfl⟩
      · cases h
    · cases h
  · rintro ⟨v, hv, h1, rfl⟩
    refine ⟨i, List.mem_range.mpr (List.getElem?_eq_some_iff.mp hv).1, ?_⟩
    rw [hv]
    simp [h1]
def qcc (E : en_T) (Q : Option Value → sh_T → hp_T → Prop) : Array Value → State → Outcome → State → Prop := fun _ _ o t => ∃ r sh hp, o = .returned (r.map (cv E)) ∧ Q r sh hp ∧ wd E sh hp t.heap
def pcc (E : en_T) (av : List Value) (sh : sh_T) (hp : hp_T) : Array Value → State → Prop := fun v U => v = (av.map (cv E)).toArray ∧ wd E sh hp U.heap ∧ kx E U
def wsm (y : mt_T) : List Cond := .code y.1 y.2.1 y.2.2.1 y.2.2.2.1 :: gT
/-- a method's contract: from this world, with these arguments, it returns, and Q holds of its answer and of the world behind it -/
def gC (y : mt_T) (d mc ms : Nat) (as : List Value) (sh : sh_T) (hp : hp_T) (Q : Option Value → sh_T → hp_T → Prop) : Prop :=
  ∀ (l : Launch) (E : en_T), Met l y.1 (wsm y) (rm d mc ms) (pcc E as sh hp) (qcc E Q) mc ms (fun q => E.1 ≤ q)
/-! the code of a method, with its links resolved: (pc, instruction, its plain form, next pc, a, length, int, long, place of a word) -/
def dec (cc : ByteArray) (pc : Nat) (i : Instr) (n : Nat) : Bool := match decode cc pc with
  | .ok (a, b) => decide (a = i) && Nat.beq b n
  | _ => false
theorem dec_of {cc : ByteArray} {pc : Nat} {i : Instr} {n : Nat} (h : dec cc pc i n = true) : decode cc pc = .ok (i, n) := by
  unfold dec at h
  split at h
  · next a b e =>
    simp only [Bool.and_eq_true, decide_eq_true_eq] at h
    rw [e, h.1, Nat.eq_of_beq_eq_true h.2]
  · cases h
def tb (j : Nat) (w : Cond) : Bool := decide (lw_tbl[j]? = some w) && goodWord w
theorem tb_of {j : Nat} {w : Cond} (h : tb j w = true) : w ∈ gT := by
  simp only [tb, Bool.and_eq_true, decide_eq_true_eq] at h
  exact gT_of (List.mem_of_getElem? h.1) h.2
def fk (ci k : Nat) : String × String × String × Bool := match kcls[ci]? with
  | some q => if k < q.2.2 then q.2.1 k else ("", "", "", false)
  | none => ("", "", "", false)
/-- the length of an instruction that stands for itself -/
def il : Instr → Nat
  | .getstatic _ | .ldc_w _ | .getfield _ | .putfield _ | .invokevirtual _ | .invokestatic _ | .invokespecial _ | .new _ | .if_icmp _ _ | .ifCond _ _ | .goto _ | .iinc _ _ | .ldc2_w _ => 3
  | .newarray _ | .ldc _ => 2
  | .tableswitch _ _ _ _ | .lookupswitch _ _ => 0
  | _ => 1
def okb (own : String) (cc : ByteArray) : ie_T → Bool
  | (pc, ia, ic, nx, a, b, v, w, j) => dec cc pc ia b && match ic with
    | .iconst n => Nat.beq nx (pc + b) && ((decide (ia = .iconst n) && decide (Int32.ofInt n = v) && Nat.beq b 1) || (decide (ia = .bipush n) && decide ((Int8.ofInt n).toInt32 = v) && Nat.beq b 2) || (decide (ia = .sipush n) && decide ((Int16.ofInt n).toInt32 = v) && Nat.beq b 3) || (decide (ia = .ldc a) && Nat.beq b 2 && tb j (.constant own a v)) || (decide (ia = .ldc_w a) && Nat.beq b 3 && tb j (.constant own a v)))
    | .lconst n => Nat.beq nx (pc + 1) && decide (ia = .lconst n) && Nat.beq b 1 && decide (Int64.ofNat (n : Nat) = w)
    | .ldc2_w x => Nat.beq nx (pc + 3) && decide (ia = .ldc2_w x) && Nat.beq b 3 && tb j (.constantLong own x w)
    | .iload i => Nat.beq nx (pc + b) && ((decide (ia = .iload i) && Nat.beq b 2) || (decide (ia = .iload_n (Fin.ofNat 4 i)) && Nat.beq b 1 && Nat.blt i 4))
    | .lload i => Nat.beq nx (pc + b) && ((decide (ia = .lload i) && Nat.beq b 2) || (decide (ia = .lload_n (Fin.ofNat 4 i)) && Nat.beq b 1 && Nat.blt i 4))
    | .aload i => Nat.beq nx (pc + b) && ((decide (ia = .aload i) && Nat.beq b 2) || (decide (ia = .aload_n (Fin.ofNat 4 i)) && Nat.beq b 1 && Nat.blt i 4))
    | .istore i => Nat.beq nx (pc + b) && ((decide (ia = .istore i) && Nat.beq b 2) || (decide (ia = .istore_n (Fin.ofNat 4 i)) && Nat.beq b 1 && Nat.blt i 4))
    | .lstore i => Nat.beq nx (pc + b) && ((decide (ia = .lstore i) && Nat.beq b 2) || (decide (ia = .lstore_n (Fin.ofNat 4 i)) && Nat.beq b 1 && Nat.blt i 4))
    | .astore i => Nat.beq nx (pc + b) && ((decide (ia = .astore i) && Nat.beq b 2) || (decide (ia = .astore_n (Fin.ofNat 4 i)) && Nat.beq b 1 && Nat.blt i 4))
    | .iinc i n => Nat.beq nx (pc + 3) && decide (ia = .iinc i n) && Nat.beq b 3 && decide (Int32.ofInt n = v)
    | .goto off => decide (ia = .goto off) && Nat.beq b 3 && decide ((pc : Int) + off = (nx : Int))
    | .if_icmp c off => Nat.beq nx (pc + 3) && decide (ia = .if_icmp c off) && Nat.beq b 3 && decide ((pc : Int) + off = (a : Int))
    | .ifCond c off => Nat.beq nx (pc + 3) && decide (ia = .ifCond c off) && Nat.beq b 3 && decide ((pc : Int) + off = (a : Int))
    | .getfield k => Nat.beq nx (pc + 3) && Nat.beq b 3 && (match ia with
      | .getfield x => tb j (.fieldLink own x (fk a k).1 (fk a k).2.1 (fk a k).2.2.1) && (match kcls[a]? with
        | some q => Nat.blt k q.2.2
        | none => false)
      | _ => false)
    | .putfield k => Nat.beq nx (pc + 3) && Nat.beq b 3 && (match ia with
      | .putfield x => tb j (.fieldLink own x (fk a k).1 (fk a k).2.1 (fk a k).2.2.1) && (match kcls[a]? with
        | some q => Nat.blt k q.2.2
        | none => false)
      | _ => false)
    | i => decide (ia = i) && (if il i = 0 then true else Nat.beq b (il i) && Nat.beq nx (pc + il i))
def okm (y : mt_T) : Bool := y.2.2.2.2.all (okb y.1.cls y.2.1)
def lk (pc : Nat) : List ie_T → Option ie_T
  | [] => none
  | e :: r => match Nat.beq e.1 pc with
    | true => some e
    | false => lk pc r
theorem lk_mem {pc : Nat} {l : List ie_T} {e : ie_T} (h : lk pc l = some e) : e ∈ l ∧ e.1 = pc := by
  induction l with
  | nil => cases h
  | cons a r ih =>
    unfold lk at h
    split at h
    · next hb => cases h; exact ⟨List.mem_cons_self, Nat.eq_of_beq_eq_true hb⟩
    · exact ⟨List.mem_cons_of_mem _ (ih h).1, (ih h).2⟩
theorem lk_ok {y : mt_T} (hy : okm y = true) {pc : Nat} {e : ie_T} (h : lk pc y.2.2.2.2 = some e) : okb y.1.cls y.2.1 e = true ∧ e.1 = pc := ⟨List.all_eq_true.mp hy e (lk_mem h).1, (lk_mem h).2⟩
/-- what is asked at an end, and what more may be taken as given -/
abbrev zt : Type := (State → en_T → Prop) × (State → Array Value → List Frame → en_T → State → Prop)
def zQ (mc ms : Nat) (Q : Option Value → sh_T → hp_T → Prop) : zt := (fun _ _ => True, fun s args below E => MQ below (qcc E Q) args s mc ms (fun q => E.1 ≤ q))
/-- the judgement: from this point of method y, in this world, y comes to its end with Q -/
def gG (y : mt_T) (d mc ms : Nat) (Q : zt) (cells slots : Nat) (S : st_T) : Prop :=
  okm y = true → ∀ (p : Program) (l : Launch) (e : Env) (s : State) (m : MethodId) (args : Array Value) (below : List Frame) (meth : Method) (c : Code) (E : en_T) (H : Heap) (locs : List Loc) (ls : Array Slot),
    cx y E p s m args meth c → Q.1 s E → wd E S.2.2.2.1 S.2.2.2.2 H → (∀ q ∈ locs, E.1 ≤ q.base) → lv_has ls y.2.2.1 (al E S.2.1) →
    W p l e (rm d mc ms) s m args below meth c H locs cells slots (Q.2 s args below E) (F0 m S.1 ls (S.2.2.1.map (cv E)))
end
section
/-! the methods of the class, with their links resolved (printed by my own program out of the claim) -/
def mJ6_bitCount_0f7a4 : mt_T := (yJ6_bitCount_0f7a4, cJ6_bitCount_0f7a4, 1, (some .int), [
  (0, .iload_n 0, .iload 0, 1, 0, 1, 0, 0, 0),
  (1, .iload_n 0, .iload 0, 2, 0, 1, 0, 0, 0),
  (2, .iconst 1, .iconst 1, 3, 0, 1, 1, 0, 0),
  (3, .iushr, .iushr, 4, 0, 1, 0, 0, 0),
  (4, .ldc_w 265, .iconst 1431655765, 7, 265, 3, 1431655765, 0, 802),
  (7, .iand, .iand, 8, 0, 1, 0, 0, 0),
  (8, .isub, .isub, 9, 0, 1, 0, 0, 0),
  (9, .istore_n 0, .istore 0, 10, 0, 1, 0, 0, 0),
  (10, .iload_n 0, .iload 0, 11, 0, 1, 0, 0, 0),
  (11, .ldc_w 266, .iconst 858993459, 14, 266, 3, 858993459, 0, 803),
  (14, .iand, .iand, 15, 0, 1, 0, 0, 0),
  (15, .iload_n 0, .iload 0, 16, 0, 1, 0, 0, 0),
  (16, .iconst 2, .iconst 2, 17, 0, 1, 2, 0, 0),
  (17, .iushr, .iushr, 18, 0, 1, 0, 0, 0),
  (18, .ldc_w 266, .iconst 858993459, 21, 266, 3, 858993459, 0, 803),
  (21, .iand, .iand, 22, 0, 1, 0, 0, 0),
  (22, .iadd, .iadd, 23, 0, 1, 0, 0, 0),
  (23, .istore_n 0, .istore 0, 24, 0, 1, 0, 0, 0),
  (24, .iload_n 0, .iload 0, 25, 0, 1, 0, 0, 0),
  (25, .iload_n 0, .iload 0, 26, 0, 1, 0, 0, 0),
  (26, .iconst 4, .iconst 4, 27, 0, 1, 4, 0, 0),
  (27, .iushr, .iushr, 28, 0, 1, 0, 0, 0),
  (28, .iadd, .iadd, 29, 0, 1, 0, 0, 0),
  (29, .ldc_w 267, .iconst 252645135, 32, 267, 3, 252645135, 0, 804),
  (32, .iand, .iand, 33, 0, 1, 0, 0, 0),
  (33, .istore_n 0, .istore 0, 34, 0, 1, 0, 0, 0),
  (34, .iload_n 0, .iload 0, 35, 0, 1, 0, 0, 0),
  (35, .iload_n 0, .iload 0, 36, 0, 1, 0, 0, 0),
  (36, .bipush 8, .iconst 8, 38, 0, 2, 8, 0, 0),
  (38, .iushr, .iushr, 39, 0, 1, 0, 0, 0),
  (39, .iadd, .iadd, 40, 0, 1, 0, 0, 0),
  (40, .istore_n 0, .istore 0, 41, 0, 1, 0, 0, 0),
  (41, .iload_n 0, .iload 0, 42, 0, 1, 0, 0, 0),
  (42, .iload_n 0, .iload 0, 43, 0, 1, 0, 0, 0),
  (43, .bipush 16, .iconst 16, 45, 0, 2, 16, 0, 0),
  (45, .iushr, .iushr, 46, 0, 1, 0, 0, 0),
  (46, .iadd, .iadd, 47, 0, 1, 0, 0, 0),
  (47, .istore_n 0, .istore 0, 48, 0, 1, 0, 0, 0),
  (48, .iload_n 0, .iload 0, 49, 0, 1, 0, 0, 0),
  (49, .bipush 63, .iconst 63, 51, 0, 2, 63, 0, 0),
  (51, .iand, .iand, 52, 0, 1, 0, 0, 0),
  (52, .ireturn, .ireturn, 53, 0, 1, 0, 0, 0)])
set_option maxRecDepth 100000 in
theorem okJ6_bitCount_0f7a4 : okm mJ6_bitCount_0f7a4 = true := by decide +kernel
def mJ13_compare_74951 : mt_T := (yJ13_compare_74951, cJ13_compare_74951, 4, (some .int), [
  (0, .lload_n 0, .lload 0, 1, 0, 1, 0, 0, 0),
  (1, .lload_n 2, .lload 2, 2, 0, 1, 0, 0, 0),
  (2, .lcmp, .lcmp, 3, 0, 1, 0, 0, 0),
  (3, .ifCond .ge 7, .ifCond .ge 7, 6, 10, 3, 0, 0, 0),
  (6, .iconst (-1), .iconst (-1), 7, 0, 1, (-1), 0, 0),
  (7, .goto 14, .goto 14, 21, 0, 3, 0, 0, 0),
  (10, .lload_n 0, .lload 0, 11, 0, 1, 0, 0, 0),
  (11, .lload_n 2, .lload 2, 12, 0, 1, 0, 0, 0),
  (12, .lcmp, .lcmp, 13, 0, 1, 0, 0, 0),
  (13, .ifCond .ne 7, .ifCond .ne 7, 16, 20, 3, 0, 0, 0),
  (16, .iconst 0, .iconst 0, 17, 0, 1, 0, 0, 0),
  (17, .goto 4, .goto 4, 21, 0, 3, 0, 0, 0),
  (20, .iconst 1, .iconst 1, 21, 0, 1, 1, 0, 0),
  (21, .ireturn, .ireturn, 22, 0, 1, 0, 0, 0)])
set_option maxRecDepth 100000 in
theorem okJ13_compare_74951 : okm mJ13_compare_74951 = true := by decide +kernel
def mJ9_floorDiv_f86c9 : mt_T := (yJ9_floorDiv_f86c9, cJ9_floorDiv_f86c9, 6, (some .long), [
  (0, .lload_n 0, .lload 0, 1, 0, 1, 0, 0, 0),
  (1, .lload_n 2, .lload 2, 2, 0, 1, 0, 0, 0),
  (2, .ldiv, .ldiv, 3, 0, 1, 0, 0, 0),
  (3, .lstore 4, .lstore 4, 5, 0, 2, 0, 0, 0),
  (5, .lload_n 0, .lload 0, 6, 0, 1, 0, 0, 0),
  (6, .lload_n 2, .lload 2, 7, 0, 1, 0, 0, 0),
  (7, .lxor, .lxor, 8, 0, 1, 0, 0, 0),
  (8, .lconst 0, .lconst 0, 9, 0, 1, 0, 0, 0),
  (9, .lcmp, .lcmp, 10, 0, 1, 0, 0, 0),
  (10, .ifCond .ge 17, .ifCond .ge 17, 13, 27, 3, 0, 0, 0),
  (13, .lload 4, .lload 4, 15, 0, 2, 0, 0, 0),
  (15, .lload_n 2, .lload 2, 16, 0, 1, 0, 0, 0),
  (16, .lmul, .lmul, 17, 0, 1, 0, 0, 0),
  (17, .lload_n 0, .lload 0, 18, 0, 1, 0, 0, 0),
  (18, .lcmp, .lcmp, 19, 0, 1, 0, 0, 0),
  (19, .ifCond .eq 8, .ifCond .eq 8, 22, 27, 3, 0, 0, 0),
  (22, .lload 4, .lload 4, 24, 0, 2, 0, 0, 0),
  (24, .lconst 1, .lconst 1, 25, 0, 1, 0, 1, 0),
  (25, .lsub, .lsub, 26, 0, 1, 0, 0, 0),
  (26, .lreturn, .lreturn, 27, 0, 1, 0, 0, 0),
  (27, .lload 4, .lload 4, 29, 0, 2, 0, 0, 0),
  (29, .lreturn, .lreturn, 30, 0, 1, 0, 0, 0)])
set_option maxRecDepth 100000 in
theorem okJ9_floorDiv_f86c9 : okm mJ9_floorDiv_f86c9 = true := by decide +kernel
def mJ9_abs_0f7a4 : mt_T := (yJ9_abs_0f7a4, cJ9_abs_0f7a4, 1, (some .int), [
  (0, .iload_n 0, .iload 0, 1, 0, 1, 0, 0, 0),
  (1, .ifCond .ge 8, .ifCond .ge 8, 4, 9, 3, 0, 0, 0),
  (4, .iload_n 0, .iload 0, 5, 0, 1, 0, 0, 0),
  (5, .ineg, .ineg, 6, 0, 1, 0, 0, 0),
  (6, .goto 4, .goto 4, 10, 0, 3, 0, 0, 0),
  (9, .iload_n 0, .iload 0, 10, 0, 1, 0, 0, 0),
  (10, .ireturn, .ireturn, 11, 0, 1, 0, 0, 0)])
set_option maxRecDepth 100000 in
theorem okJ9_abs_0f7a4 : okm mJ9_abs_0f7a4 = true := by decide +kernel
def mJ9_max_7cf53 : mt_T := (yJ9_max_7cf53, cJ9_max_7cf53, 2, (some .int), [
  (0, .iload_n 0, .iload 0, 1, 0, 1, 0, 0, 0),
  (1, .iload_n 1, .iload 1, 2, 0, 1, 0, 0, 0),
  (2, .if_icmp .lt 7, .if_icmp .lt 7, 5, 9, 3, 0, 0, 0),
  (5, .iload_n 0, .iload 0, 6, 0, 1, 0, 0, 0),
  (6, .goto 4, .goto 4, 10, 0, 3, 0, 0, 0),
  (9, .iload_n 1, .iload 1, 10, 0, 1, 0, 0, 0),
  (10, .ireturn, .ireturn, 11, 0, 1, 0, 0, 0)])
set_option maxRecDepth 100000 in
theorem okJ9_max_7cf53 : okm mJ9_max_7cf53 = true := by decide +kernel
def mJ9_min_7cf53 : mt_T := (yJ9_min_7cf53, cJ9_min_7cf53, 2, (some .int), [
  (0, .iload_n 0, .iload 0, 1, 0, 1, 0, 0, 0),
  (1, .iload_n 1, .iload 1, 2, 0, 1, 0, 0, 0),
  (2, .if_icmp .gt 7, .if_icmp .gt 7, 5, 9, 3, 0, 0, 0),
  (5, .iload_n 0, .iload 0, 6, 0, 1, 0, 0, 0),
  (6, .goto 4, .goto 4, 10, 0, 3, 0, 0, 0),
  (9, .iload_n 1, .iload 1, 10, 0, 1, 0, 0, 0),
  (10, .ireturn, .ireturn, 11, 0, 1, 0, 0, 0)])
set_option maxRecDepth 100000 in
theorem okJ9_min_7cf53 : okm mJ9_min_7cf53 = true := by decide +kernel
def mJ7_fill_53178 : mt_T := (yJ7_fill_53178, cJ7_fill_53178, 4, none, [
  (0, .iconst 0, .iconst 0, 1, 0, 1, 0, 0, 0),
  (1, .istore_n 2, .istore 2, 2, 0, 1, 0, 0, 0),
  (2, .aload_n 0, .aload 0, 3, 0, 1, 0, 0, 0),
  (3, .arraylength, .arraylength, 4, 0, 1, 0, 0, 0),
  (4, .istore_n 3, .istore 3, 5, 0, 1, 0, 0, 0),
  (5, .iload_n 2, .iload 2, 6, 0, 1, 0, 0, 0),
  (6, .iload_n 3, .iload 3, 7, 0, 1, 0, 0, 0),
  (7, .if_icmp .ge 13, .if_icmp .ge 13, 10, 20, 3, 0, 0, 0),
  (10, .aload_n 0, .aload 0, 11, 0, 1, 0, 0, 0),
  (11, .iload_n 2, .iload 2, 12, 0, 1, 0, 0, 0),
  (12, .iload_n 1, .iload 1, 13, 0, 1, 0, 0, 0),
  (13, .iastore, .iastore, 14, 0, 1, 0, 0, 0),
  (14, .iinc 2 1, .iinc 2 1, 17, 0, 3, 1, 0, 0),
  (17, .goto (-12), .goto (-12), 5, 0, 3, 0, 0, 0),
  (20, .return_, .return_, 21, 0, 1, 0, 0, 0)])
set_option maxRecDepth 100000 in
theorem okJ7_fill_53178 : okm mJ7_fill_53178 = true := by decide +kernel
def mX0_init : mt_T := (yX0_init, cX0_init, 1, none, [
  (0, .aload_n 0, .aload 0, 1, 0, 1, 0, 0, 0),
  (1, .invokespecial 3, .invokespecial 3, 4, 0, 3, 0, 0, 0),
  (4, .aload_n 0, .aload 0, 5, 0, 1, 0, 0, 0),
  (5, .iconst 0, .iconst 0, 6, 0, 1, 0, 0, 0),
  (6, .putfield 9, .putfield 0, 9, 0, 3, 0, 0, 275),
  (9, .aload_n 0, .aload 0, 10, 0, 1, 0, 0, 0),
  (10, .iconst 0, .iconst 0, 11, 0, 1, 0, 0, 0),
  (11, .putfield 15, .putfield 1, 14, 0, 3, 0, 0, 277),
  (14, .aload_n 0, .aload 0, 15, 0, 1, 0, 0, 0),
  (15, .bipush 60, .iconst 60, 17, 0, 2, 60, 0, 0),
  (17, .newarray .int, .newarray .int, 19, 0, 2, 0, 0, 0),
  (19, .putfield 18, .putfield 2, 22, 0, 3, 0, 0, 279),
  (22, .aload_n 0, .aload 0, 23, 0, 1, 0, 0, 0),
  (23, .bipush 60, .iconst 60, 25, 0, 2, 60, 0, 0),
  (25, .newarray .int, .newarray .int, 27, 0, 2, 0, 0, 0),
  (27, .putfield 22, .putfield 3, 30, 0, 3, 0, 0, 281),
  (30, .aload_n 0, .aload 0, 31, 0, 1, 0, 0, 0),
  (31, .bipush 60, .iconst 60, 33, 0, 2, 60, 0, 0),
  (33, .newarray .int, .newarray .int, 35, 0, 2, 0, 0, 0),
  (35, .putfield 25, .putfield 4, 38, 0, 3, 0, 0, 283),
  (38, .aload_n 0, .aload 0, 39, 0, 1, 0, 0, 0),
  (39, .bipush 60, .iconst 60, 41, 0, 2, 60, 0, 0),
  (41, .newarray .int, .newarray .int, 43, 0, 2, 0, 0, 0),
  (43, .putfield 28, .putfield 5, 46, 0, 3, 0, 0, 285),
  (46, .aload_n 0, .aload 0, 47, 0, 1, 0, 0, 0),
  (47, .sipush 720, .iconst 720, 50, 0, 3, 720, 0, 0),
  (50, .newarray .int, .newarray .int, 52, 0, 2, 0, 0, 0),
  (52, .putfield 31, .putfield 6, 55, 0, 3, 0, 0, 286),
  (55, .aload_n 0, .aload 0, 56, 0, 1, 0, 0, 0),
  (56, .bipush 12, .iconst 12, 58, 0, 2, 12, 0, 0),
  (58, .newarray .int, .newarray .int, 60, 0, 2, 0, 0, 0),
  (60, .putfield 34, .putfield 7, 63, 0, 3, 0, 0, 287),
  (63, .aload_n 0, .aload 0, 64, 0, 1, 0, 0, 0),
  (64, .bipush 12, .iconst 12, 66, 0, 2, 12, 0, 0),
  (66, .newarray .int, .newarray .int, 68, 0, 2, 0, 0, 0),
  (68, .putfield 37, .putfield 8, 71, 0, 3, 0, 0, 288),
  (71, .return_, .return_, 72, 0, 1, 0, 0, 0)])
set_option maxRecDepth 100000 in
theorem okX0_init : okm mX0_init = true := by decide +kernel
def mX0_has : mt_T := (yX0_has, cX0_has, 2, (some .boolean), [
  (0, .iload_n 1, .iload 1, 1, 0, 1, 0, 0, 0),
  (1, .ifCond .lt 15, .ifCond .lt 15, 4, 16, 3, 0, 0, 0),
  (4, .iload_n 1, .iload 1, 5, 0, 1, 0, 0, 0),
  (5, .aload_n 0, .aload 0, 6, 0, 1, 0, 0, 0),
  (6, .getfield 9, .getfield 0, 9, 0, 3, 0, 0, 275),
  (9, .if_icmp .ge 7, .if_icmp .ge 7, 12, 16, 3, 0, 0, 0),
  (12, .iconst 1, .iconst 1, 13, 0, 1, 1, 0, 0),
  (13, .goto 4, .goto 4, 17, 0, 3, 0, 0, 0),
  (16, .iconst 0, .iconst 0, 17, 0, 1, 0, 0, 0),
  (17, .ireturn, .ireturn, 18, 0, 1, 0, 0, 0)])
set_option maxRecDepth 100000 in
theorem okX0_has : okm mX0_has = true := by decide +kernel
def mX0_addEmpty : mt_T := (yX0_addEmpty, cX0_addEmpty, 3, (some .int), [
  (0, .aload_n 0, .aload 0, 1, 0, 1, 0, 0, 0),
  (1, .getfield 9, .getfield 0, 4, 0, 3, 0, 0, 275),
  (4, .istore_n 2, .istore 2, 5, 0, 1, 0, 0, 0),
  (5, .aload_n 0, .aload 0, 6, 0, 1, 0, 0, 0),
  (6, .getfield 22, .getfield 3, 9, 0, 3, 0, 0, 281),
  (9, .iload_n 2, .iload 2, 10, 0, 1, 0, 0, 0),
  (10, .iload_n 1, .iload 1, 11, 0, 1, 0, 0, 0),
  (11, .iastore, .iastore, 12, 0, 1, 0, 0, 0),
  (12, .aload_n 0, .aload 0, 13, 0, 1, 0, 0, 0),
  (13, .getfield 25, .getfield 4, 16, 0, 3, 0, 0, 283),
  (16, .iload_n 2, .iload 2, 17, 0, 1, 0, 0, 0),
  (17, .iconst (-1), .iconst (-1), 18, 0, 1, (-1), 0, 0),
  (18, .iastore, .iastore, 19, 0, 1, 0, 0, 0),
  (19, .aload_n 0, .aload 0, 20, 0, 1, 0, 0, 0),
  (20, .dup, .dup, 21, 0, 1, 0, 0, 0),
  (21, .getfield 9, .getfield 0, 24, 0, 3, 0, 0, 275),
  (24, .iconst 1, .iconst 1, 25, 0, 1, 1, 0, 0),
  (25, .iadd, .iadd, 26, 0, 1, 0, 0, 0),
  (26, .putfield 9, .putfield 0, 29, 0, 3, 0, 0, 275),
  (29, .iload_n 2, .iload 2, 30, 0, 1, 0, 0, 0),
  (30, .ireturn, .ireturn, 31, 0, 1, 0, 0, 0)])
set_option maxRecDepth 100000 in
theorem okX0_addEmpty : okm mX0_addEmpty = true := by decide +kernel
def mX0_addOfOneLot : mt_T := (yX0_addOfOneLot, cX0_addOfOneLot, 5, (some .int), [
  (0, .aload_n 0, .aload 0, 1, 0, 1, 0, 0, 0),
  (1, .iload_n 3, .iload 3, 2, 0, 1, 0, 0, 0),
  (2, .invokevirtual 40, .invokevirtual 40, 5, 0, 3, 0, 0, 0),
  (5, .istore 4, .istore 4, 7, 0, 2, 0, 0, 0),
  (7, .aload_n 0, .aload 0, 8, 0, 1, 0, 0, 0),
  (8, .getfield 18, .getfield 2, 11, 0, 3, 0, 0, 279),
  (11, .iload 4, .iload 4, 13, 0, 2, 0, 0, 0),
  (13, .iload_n 2, .iload 2, 14, 0, 1, 0, 0, 0),
  (14, .iastore, .iastore, 15, 0, 1, 0, 0, 0),
  (15, .aload_n 0, .aload 0, 16, 0, 1, 0, 0, 0),
  (16, .getfield 31, .getfield 6, 19, 0, 3, 0, 0, 286),
  (19, .iload 4, .iload 4, 21, 0, 2, 0, 0, 0),
  (21, .bipush 12, .iconst 12, 23, 0, 2, 12, 0, 0),
  (23, .imul, .imul, 24, 0, 1, 0, 0, 0),
  (24, .iload_n 1, .iload 1, 25, 0, 1, 0, 0, 0),
  (25, .iadd, .iadd, 26, 0, 1, 0, 0, 0),
  (26, .iload_n 2, .iload 2, 27, 0, 1, 0, 0, 0),
  (27, .iastore, .iastore, 28, 0, 1, 0, 0, 0),
  (28, .iload 4, .iload 4, 30, 0, 2, 0, 0, 0),
  (30, .ireturn, .ireturn, 31, 0, 1, 0, 0, 0)])
set_option maxRecDepth 100000 in
theorem okX0_addOfOneLot : okm mX0_addOfOneLot = true := by decide +kernel
def mX0_partOf : mt_T := (yX0_partOf, cX0_partOf, 3, (some .int), [
  (0, .aload_n 0, .aload 0, 1, 0, 1, 0, 0, 0),
  (1, .getfield 31, .getfield 6, 4, 0, 3, 0, 0, 286),
  (4, .iload_n 1, .iload 1, 5, 0, 1, 0, 0, 0),
  (5, .bipush 12, .iconst 12, 7, 0, 2, 12, 0, 0),
  (7, .imul, .imul, 8, 0, 1, 0, 0, 0),
  (8, .iload_n 2, .iload 2, 9, 0, 1, 0, 0, 0),
  (9, .iadd, .iadd, 10, 0, 1, 0, 0, 0),
  (10, .iaload, .iaload, 11, 0, 1, 0, 0, 0),
  (11, .ireturn, .ireturn, 12, 0, 1, 0, 0, 0)])
set_option maxRecDepth 100000 in
theorem okX0_partOf : okm mX0_partOf = true := by decide +kernel
def mX0_lotsIn : mt_T := (yX0_lotsIn, cX0_lotsIn, 4, (some .int), [
  (0, .iconst 0, .iconst 0, 1, 0, 1, 0, 0, 0),
  (1, .istore_n 2, .istore 2, 2, 0, 1, 0, 0, 0),
  (2, .iconst 0, .iconst 0, 3, 0, 1, 0, 0, 0),
  (3, .istore_n 3, .istore 3, 4, 0, 1, 0, 0, 0),
  (4, .iload_n 3, .iload 3, 5, 0, 1, 0, 0, 0),
  (5, .bipush 12, .iconst 12, 7, 0, 2, 12, 0, 0),
  (7, .if_icmp .ge 21, .if_icmp .ge 21, 10, 28, 3, 0, 0, 0),
  (10, .aload_n 0, .aload 0, 11, 0, 1, 0, 0, 0),
  (11, .iload_n 1, .iload 1, 12, 0, 1, 0, 0, 0),
  (12, .iload_n 3, .iload 3, 13, 0, 1, 0, 0, 0),
  (13, .invokevirtual 44, .invokevirtual 44, 16, 0, 3, 0, 0, 0),
  (16, .ifCond .le 6, .ifCond .le 6, 19, 22, 3, 0, 0, 0),
  (19, .iinc 2 1, .iinc 2 1, 22, 0, 3, 1, 0, 0),
  (22, .iinc 3 1, .iinc 3 1, 25, 0, 3, 1, 0, 0),
  (25, .goto (-21), .goto (-21), 4, 0, 3, 0, 0, 0),
  (28, .iload_n 2, .iload 2, 29, 0, 1, 0, 0, 0),
  (29, .ireturn, .ireturn, 30, 0, 1, 0, 0, 0)])
set_option maxRecDepth 100000 in
theorem okX0_lotsIn : okm mX0_lotsIn = true := by decide +kernel
def mX0_tellForBlend : mt_T := (yX0_tellForBlend, cX0_tellForBlend, 3, (some .int), [
  (0, .aload_n 0, .aload 0, 1, 0, 1, 0, 0, 0),
  (1, .iload_n 1, .iload 1, 2, 0, 1, 0, 0, 0),
  (2, .invokevirtual 48, .invokevirtual 48, 5, 0, 3, 0, 0, 0),
  (5, .ifCond .eq 36, .ifCond .eq 36, 8, 41, 3, 0, 0, 0),
  (8, .aload_n 0, .aload 0, 9, 0, 1, 0, 0, 0),
  (9, .getfield 28, .getfield 5, 12, 0, 3, 0, 0, 285),
  (12, .iload_n 1, .iload 1, 13, 0, 1, 0, 0, 0),
  (13, .iaload, .iaload, 14, 0, 1, 0, 0, 0),
  (14, .ifCond .gt 27, .ifCond .gt 27, 17, 41, 3, 0, 0, 0),
  (17, .aload_n 0, .aload 0, 18, 0, 1, 0, 0, 0),
  (18, .getfield 25, .getfield 4, 21, 0, 3, 0, 0, 283),
  (21, .iload_n 1, .iload 1, 22, 0, 1, 0, 0, 0),
  (22, .iaload, .iaload, 23, 0, 1, 0, 0, 0),
  (23, .iconst (-1), .iconst (-1), 24, 0, 1, (-1), 0, 0),
  (24, .if_icmp .ne 17, .if_icmp .ne 17, 27, 41, 3, 0, 0, 0),
  (27, .iload_n 2, .iload 2, 28, 0, 1, 0, 0, 0),
  (28, .iconst 1, .iconst 1, 29, 0, 1, 1, 0, 0),
  (29, .aload_n 0, .aload 0, 30, 0, 1, 0, 0, 0),
  (30, .getfield 18, .getfield 2, 33, 0, 3, 0, 0, 279),
  (33, .iload_n 1, .iload 1, 34, 0, 1, 0, 0, 0),
  (34, .iaload, .iaload, 35, 0, 1, 0, 0, 0),
  (35, .invokestatic 52, .invokestatic 52, 38, 0, 3, 0, 0, 0),
  (38, .ifCond .ne 5, .ifCond .ne 5, 41, 43, 3, 0, 0, 0),
  (41, .iconst (-1), .iconst (-1), 42, 0, 1, (-1), 0, 0),
  (42, .ireturn, .ireturn, 43, 0, 1, 0, 0, 0),
  (43, .aload_n 0, .aload 0, 44, 0, 1, 0, 0, 0),
  (44, .getfield 28, .getfield 5, 47, 0, 3, 0, 0, 285),
  (47, .iload_n 1, .iload 1, 48, 0, 1, 0, 0, 0),
  (48, .iload_n 2, .iload 2, 49, 0, 1, 0, 0, 0),
  (49, .iastore, .iastore, 50, 0, 1, 0, 0, 0),
  (50, .aload_n 0, .aload 0, 51, 0, 1, 0, 0, 0),
  (51, .dup, .dup, 52, 0, 1, 0, 0, 0),
  (52, .getfield 15, .getfield 1, 55, 0, 3, 0, 0, 277),
  (55, .iconst 1, .iconst 1, 56, 0, 1, 1, 0, 0),
  (56, .iadd, .iadd, 57, 0, 1, 0, 0, 0),
  (57, .putfield 15, .putfield 1, 60, 0, 3, 0, 0, 277),
  (60, .aload_n 0, .aload 0, 61, 0, 1, 0, 0, 0),
  (61, .getfield 15, .getfield 1, 64, 0, 3, 0, 0, 277),
  (64, .ireturn, .ireturn, 65, 0, 1, 0, 0, 0)])
set_option maxRecDepth 100000 in
theorem okX0_tellForBlend : okm mX0_tellForBlend = true := by decide +kernel
def mX0_blendTaken : mt_T := (yX0_blendTaken, cX0_blendTaken, 3, (some .int), [
  (0, .aload_n 0, .aload 0, 1, 0, 1, 0, 0, 0),
  (1, .getfield 15, .getfield 1, 4, 0, 3, 0, 0, 277),
  (4, .ifCond .eq 12, .ifCond .eq 12, 7, 16, 3, 0, 0, 0),
  (7, .aload_n 0, .aload 0, 8, 0, 1, 0, 0, 0),
  (8, .getfield 9, .getfield 0, 11, 0, 3, 0, 0, 275),
  (11, .bipush 60, .iconst 60, 13, 0, 2, 60, 0, 0),
  (13, .if_icmp .lt 5, .if_icmp .lt 5, 16, 18, 3, 0, 0, 0),
  (16, .iconst (-1), .iconst (-1), 17, 0, 1, (-1), 0, 0),
  (17, .ireturn, .ireturn, 18, 0, 1, 0, 0, 0),
  (18, .aload_n 0, .aload 0, 19, 0, 1, 0, 0, 0),
  (19, .sipush 999, .iconst 999, 22, 0, 3, 999, 0, 0),
  (22, .invokevirtual 40, .invokevirtual 40, 25, 0, 3, 0, 0, 0),
  (25, .istore_n 1, .istore 1, 26, 0, 1, 0, 0, 0),
  (26, .iconst 0, .iconst 0, 27, 0, 1, 0, 0, 0),
  (27, .istore_n 2, .istore 2, 28, 0, 1, 0, 0, 0),
  (28, .iload_n 2, .iload 2, 29, 0, 1, 0, 0, 0),
  (29, .iload_n 1, .iload 1, 30, 0, 1, 0, 0, 0),
  (30, .if_icmp .ge 58, .if_icmp .ge 58, 33, 88, 3, 0, 0, 0),
  (33, .aload_n 0, .aload 0, 34, 0, 1, 0, 0, 0),
  (34, .getfield 28, .getfield 5, 37, 0, 3, 0, 0, 285),
  (37, .iload_n 2, .iload 2, 38, 0, 1, 0, 0, 0),
  (38, .iaload, .iaload, 39, 0, 1, 0, 0, 0),
  (39, .ifCond .le 43, .ifCond .le 43, 42, 82, 3, 0, 0, 0),
  (42, .aload_n 0, .aload 0, 43, 0, 1, 0, 0, 0),
  (43, .iload_n 2, .iload 2, 44, 0, 1, 0, 0, 0),
  (44, .iload_n 1, .iload 1, 45, 0, 1, 0, 0, 0),
  (45, .aload_n 0, .aload 0, 46, 0, 1, 0, 0, 0),
  (46, .getfield 28, .getfield 5, 49, 0, 3, 0, 0, 285),
  (49, .iload_n 2, .iload 2, 50, 0, 1, 0, 0, 0),
  (50, .iaload, .iaload, 51, 0, 1, 0, 0, 0),
  (51, .invokevirtual 56, .invokevirtual 56, 54, 0, 3, 0, 0, 0),
  (54, .aload_n 0, .aload 0, 55, 0, 1, 0, 0, 0),
  (55, .getfield 22, .getfield 3, 58, 0, 3, 0, 0, 281),
  (58, .iload_n 1, .iload 1, 59, 0, 1, 0, 0, 0),
  (59, .aload_n 0, .aload 0, 60, 0, 1, 0, 0, 0),
  (60, .getfield 22, .getfield 3, 63, 0, 3, 0, 0, 281),
  (63, .iload_n 1, .iload 1, 64, 0, 1, 0, 0, 0),
  (64, .iaload, .iaload, 65, 0, 1, 0, 0, 0),
  (65, .aload_n 0, .aload 0, 66, 0, 1, 0, 0, 0),
  (66, .getfield 22, .getfield 3, 69, 0, 3, 0, 0, 281),
  (69, .iload_n 2, .iload 2, 70, 0, 1, 0, 0, 0),
  (70, .iaload, .iaload, 71, 0, 1, 0, 0, 0),
  (71, .invokestatic 60, .invokestatic 60, 74, 0, 3, 0, 0, 0),
  (74, .iastore, .iastore, 75, 0, 1, 0, 0, 0),
  (75, .aload_n 0, .aload 0, 76, 0, 1, 0, 0, 0),
  (76, .getfield 28, .getfield 5, 79, 0, 3, 0, 0, 285),
  (79, .iload_n 2, .iload 2, 80, 0, 1, 0, 0, 0),
  (80, .iconst 0, .iconst 0, 81, 0, 1, 0, 0, 0),
  (81, .iastore, .iastore, 82, 0, 1, 0, 0, 0),
  (82, .iinc 2 1, .iinc 2 1, 85, 0, 3, 1, 0, 0),
  (85, .goto (-57), .goto (-57), 28, 0, 3, 0, 0, 0),
  (88, .aload_n 0, .aload 0, 89, 0, 1, 0, 0, 0),
  (89, .iconst 0, .iconst 0, 90, 0, 1, 0, 0, 0),
  (90, .putfield 15, .putfield 1, 93, 0, 3, 0, 0, 277),
  (93, .iload_n 1, .iload 1, 94, 0, 1, 0, 0, 0),
  (94, .ireturn, .ireturn, 95, 0, 1, 0, 0, 0)])
set_option maxRecDepth 100000 in
theorem okX0_blendTaken : okm mX0_blendTaken = true := by decide +kernel
def mX0_pour : mt_T := (yX0_pour, cX0_pour, 5, none, [
  (0, .aload_n 0, .aload 0, 1, 0, 1, 0, 0, 0),
  (1, .iload_n 1, .iload 1, 2, 0, 1, 0, 0, 0),
  (2, .iload_n 3, .iload 3, 3, 0, 1, 0, 0, 0),
  (3, .invokevirtual 65, .invokevirtual 65, 6, 0, 3, 0, 0, 0),
  (6, .iconst 0, .iconst 0, 7, 0, 1, 0, 0, 0),
  (7, .istore 4, .istore 4, 9, 0, 2, 0, 0, 0),
  (9, .iload 4, .iload 4, 11, 0, 2, 0, 0, 0),
  (11, .bipush 12, .iconst 12, 13, 0, 2, 12, 0, 0),
  (13, .if_icmp .ge 53, .if_icmp .ge 53, 16, 66, 3, 0, 0, 0),
  (16, .aload_n 0, .aload 0, 17, 0, 1, 0, 0, 0),
  (17, .getfield 31, .getfield 6, 20, 0, 3, 0, 0, 286),
  (20, .iload_n 1, .iload 1, 21, 0, 1, 0, 0, 0),
  (21, .bipush 12, .iconst 12, 23, 0, 2, 12, 0, 0),
  (23, .imul, .imul, 24, 0, 1, 0, 0, 0),
  (24, .iload 4, .iload 4, 26, 0, 2, 0, 0, 0),
  (26, .iadd, .iadd, 27, 0, 1, 0, 0, 0),
  (27, .dup2, .dup2, 28, 0, 1, 0, 0, 0),
  (28, .iaload, .iaload, 29, 0, 1, 0, 0, 0),
  (29, .aload_n 0, .aload 0, 30, 0, 1, 0, 0, 0),
  (30, .getfield 34, .getfield 7, 33, 0, 3, 0, 0, 287),
  (33, .iload 4, .iload 4, 35, 0, 2, 0, 0, 0),
  (35, .iaload, .iaload, 36, 0, 1, 0, 0, 0),
  (36, .isub, .isub, 37, 0, 1, 0, 0, 0),
  (37, .iastore, .iastore, 38, 0, 1, 0, 0, 0),
  (38, .aload_n 0, .aload 0, 39, 0, 1, 0, 0, 0),
  (39, .getfield 31, .getfield 6, 42, 0, 3, 0, 0, 286),
  (42, .iload_n 2, .iload 2, 43, 0, 1, 0, 0, 0),
  (43, .bipush 12, .iconst 12, 45, 0, 2, 12, 0, 0),
  (45, .imul, .imul, 46, 0, 1, 0, 0, 0),
  (46, .iload 4, .iload 4, 48, 0, 2, 0, 0, 0),
  (48, .iadd, .iadd, 49, 0, 1, 0, 0, 0),
  (49, .dup2, .dup2, 50, 0, 1, 0, 0, 0),
  (50, .iaload, .iaload, 51, 0, 1, 0, 0, 0),
  (51, .aload_n 0, .aload 0, 52, 0, 1, 0, 0, 0),
  (52, .getfield 34, .getfield 7, 55, 0, 3, 0, 0, 287),
  (55, .iload 4, .iload 4, 57, 0, 2, 0, 0, 0),
  (57, .iaload, .iaload, 58, 0, 1, 0, 0, 0),
  (58, .iadd, .iadd, 59, 0, 1, 0, 0, 0),
  (59, .iastore, .iastore, 60, 0, 1, 0, 0, 0),
  (60, .iinc 4 1, .iinc 4 1, 63, 0, 3, 1, 0, 0),
  (63, .goto (-54), .goto (-54), 9, 0, 3, 0, 0, 0),
  (66, .aload_n 0, .aload 0, 67, 0, 1, 0, 0, 0),
  (67, .getfield 18, .getfield 2, 70, 0, 3, 0, 0, 279),
  (70, .iload_n 1, .iload 1, 71, 0, 1, 0, 0, 0),
  (71, .dup2, .dup2, 72, 0, 1, 0, 0, 0),
  (72, .iaload, .iaload, 73, 0, 1, 0, 0, 0),
  (73, .iload_n 3, .iload 3, 74, 0, 1, 0, 0, 0),
  (74, .isub, .isub, 75, 0, 1, 0, 0, 0),
  (75, .iastore, .iastore, 76, 0, 1, 0, 0, 0),
  (76, .aload_n 0, .aload 0, 77, 0, 1, 0, 0, 0),
  (77, .getfield 18, .getfield 2, 80, 0, 3, 0, 0, 279),
  (80, .iload_n 2, .iload 2, 81, 0, 1, 0, 0, 0),
  (81, .dup2, .dup2, 82, 0, 1, 0, 0, 0),
  (82, .iaload, .iaload, 83, 0, 1, 0, 0, 0),
  (83, .iload_n 3, .iload 3, 84, 0, 1, 0, 0, 0),
  (84, .iadd, .iadd, 85, 0, 1, 0, 0, 0),
  (85, .iastore, .iastore, 86, 0, 1, 0, 0, 0),
  (86, .return_, .return_, 87, 0, 1, 0, 0, 0)])
set_option maxRecDepth 100000 in
theorem okX0_pour : okm mX0_pour = true := by decide +kernel
def mX0_shareOut : mt_T := (yX0_shareOut, cX0_shareOut, 8, none, [
  (0, .iconst 1, .iconst 1, 1, 0, 1, 1, 0, 0),
  (1, .aload_n 0, .aload 0, 2, 0, 1, 0, 0, 0),
  (2, .getfield 18, .getfield 2, 5, 0, 3, 0, 0, 279),
  (5, .iload_n 1, .iload 1, 6, 0, 1, 0, 0, 0),
  (6, .iaload, .iaload, 7, 0, 1, 0, 0, 0),
  (7, .invokestatic 69, .invokestatic 69, 10, 0, 3, 0, 0, 0),
  (10, .istore_n 3, .istore 3, 11, 0, 1, 0, 0, 0),
  (11, .iload_n 2, .iload 2, 12, 0, 1, 0, 0, 0),
  (12, .istore 4, .istore 4, 14, 0, 2, 0, 0, 0),
  (14, .iconst 0, .iconst 0, 15, 0, 1, 0, 0, 0),
  (15, .istore 5, .istore 5, 17, 0, 2, 0, 0, 0),
  (17, .iload 5, .iload 5, 19, 0, 2, 0, 0, 0),
  (19, .bipush 12, .iconst 12, 21, 0, 2, 12, 0, 0),
  (21, .if_icmp .ge 60, .if_icmp .ge 60, 24, 81, 3, 0, 0, 0),
  (24, .iload_n 2, .iload 2, 25, 0, 1, 0, 0, 0),
  (25, .i2l, .i2l, 26, 0, 1, 0, 0, 0),
  (26, .aload_n 0, .aload 0, 27, 0, 1, 0, 0, 0),
  (27, .iload_n 1, .iload 1, 28, 0, 1, 0, 0, 0),
  (28, .iload 5, .iload 5, 30, 0, 2, 0, 0, 0),
  (30, .invokevirtual 44, .invokevirtual 44, 33, 0, 3, 0, 0, 0),
  (33, .i2l, .i2l, 34, 0, 1, 0, 0, 0),
  (34, .lmul, .lmul, 35, 0, 1, 0, 0, 0),
  (35, .lstore 6, .lstore 6, 37, 0, 2, 0, 0, 0),
  (37, .aload_n 0, .aload 0, 38, 0, 1, 0, 0, 0),
  (38, .getfield 34, .getfield 7, 41, 0, 3, 0, 0, 287),
  (41, .iload 5, .iload 5, 43, 0, 2, 0, 0, 0),
  (43, .lload 6, .lload 6, 45, 0, 2, 0, 0, 0),
  (45, .iload_n 3, .iload 3, 46, 0, 1, 0, 0, 0),
  (46, .i2l, .i2l, 47, 0, 1, 0, 0, 0),
  (47, .ldiv, .ldiv, 48, 0, 1, 0, 0, 0),
  (48, .l2i, .l2i, 49, 0, 1, 0, 0, 0),
  (49, .iastore, .iastore, 50, 0, 1, 0, 0, 0),
  (50, .aload_n 0, .aload 0, 51, 0, 1, 0, 0, 0),
  (51, .getfield 37, .getfield 8, 54, 0, 3, 0, 0, 288),
  (54, .iload 5, .iload 5, 56, 0, 2, 0, 0, 0),
  (56, .lload 6, .lload 6, 58, 0, 2, 0, 0, 0),
  (58, .iload_n 3, .iload 3, 59, 0, 1, 0, 0, 0),
  (59, .i2l, .i2l, 60, 0, 1, 0, 0, 0),
  (60, .lrem, .lrem, 61, 0, 1, 0, 0, 0),
  (61, .l2i, .l2i, 62, 0, 1, 0, 0, 0),
  (62, .iastore, .iastore, 63, 0, 1, 0, 0, 0),
  (63, .iload 4, .iload 4, 65, 0, 2, 0, 0, 0),
  (65, .aload_n 0, .aload 0, 66, 0, 1, 0, 0, 0),
  (66, .getfield 34, .getfield 7, 69, 0, 3, 0, 0, 287),
  (69, .iload 5, .iload 5, 71, 0, 2, 0, 0, 0),
  (71, .iaload, .iaload, 72, 0, 1, 0, 0, 0),
  (72, .isub, .isub, 73, 0, 1, 0, 0, 0),
  (73, .istore 4, .istore 4, 75, 0, 2, 0, 0, 0),
  (75, .iinc 5 1, .iinc 5 1, 78, 0, 3, 1, 0, 0),
  (78, .goto (-61), .goto (-61), 17, 0, 3, 0, 0, 0),
  (81, .iconst 0, .iconst 0, 82, 0, 1, 0, 0, 0),
  (82, .istore 5, .istore 5, 84, 0, 2, 0, 0, 0),
  (84, .iload 5, .iload 5, 86, 0, 2, 0, 0, 0),
  (86, .bipush 12, .iconst 12, 88, 0, 2, 12, 0, 0),
  (88, .if_icmp .ge 42, .if_icmp .ge 42, 91, 130, 3, 0, 0, 0),
  (91, .iload 4, .iload 4, 93, 0, 2, 0, 0, 0),
  (93, .ifCond .le 37, .ifCond .le 37, 96, 130, 3, 0, 0, 0),
  (96, .aload_n 0, .aload 0, 97, 0, 1, 0, 0, 0),
  (97, .invokevirtual 72, .invokevirtual 72, 100, 0, 3, 0, 0, 0),
  (100, .istore 6, .istore 6, 102, 0, 2, 0, 0, 0),
  (102, .aload_n 0, .aload 0, 103, 0, 1, 0, 0, 0),
  (103, .getfield 34, .getfield 7, 106, 0, 3, 0, 0, 287),
  (106, .iload 6, .iload 6, 108, 0, 2, 0, 0, 0),
  (108, .dup2, .dup2, 109, 0, 1, 0, 0, 0),
  (109, .iaload, .iaload, 110, 0, 1, 0, 0, 0),
  (110, .iconst 1, .iconst 1, 111, 0, 1, 1, 0, 0),
  (111, .iadd, .iadd, 112, 0, 1, 0, 0, 0),
  (112, .iastore, .iastore, 113, 0, 1, 0, 0, 0),
  (113, .aload_n 0, .aload 0, 114, 0, 1, 0, 0, 0),
  (114, .getfield 37, .getfield 8, 117, 0, 3, 0, 0, 288),
  (117, .iload 6, .iload 6, 119, 0, 2, 0, 0, 0),
  (119, .iconst 0, .iconst 0, 120, 0, 1, 0, 0, 0),
  (120, .iastore, .iastore, 121, 0, 1, 0, 0, 0),
  (121, .iinc 4 (-1), .iinc 4 (-1), 124, 0, 3, (-1), 0, 0),
  (124, .iinc 5 1, .iinc 5 1, 127, 0, 3, 1, 0, 0),
  (127, .goto (-43), .goto (-43), 84, 0, 3, 0, 0, 0),
  (130, .return_, .return_, 131, 0, 1, 0, 0, 0)])
set_option maxRecDepth 100000 in
theorem okX0_shareOut : okm mX0_shareOut = true := by decide +kernel
def mX0_lotOfGreatestRest : mt_T := (yX0_lotOfGreatestRest, cX0_lotOfGreatestRest, 3, (some .int), [
  (0, .iconst 0, .iconst 0, 1, 0, 1, 0, 0, 0),
  (1, .istore_n 1, .istore 1, 2, 0, 1, 0, 0, 0),
  (2, .iconst 1, .iconst 1, 3, 0, 1, 1, 0, 0),
  (3, .istore_n 2, .istore 2, 4, 0, 1, 0, 0, 0),
  (4, .iload_n 2, .iload 2, 5, 0, 1, 0, 0, 0),
  (5, .bipush 12, .iconst 12, 7, 0, 2, 12, 0, 0),
  (7, .if_icmp .ge 26, .if_icmp .ge 26, 10, 33, 3, 0, 0, 0),
  (10, .aload_n 0, .aload 0, 11, 0, 1, 0, 0, 0),
  (11, .getfield 37, .getfield 8, 14, 0, 3, 0, 0, 288),
  (14, .iload_n 2, .iload 2, 15, 0, 1, 0, 0, 0),
  (15, .iaload, .iaload, 16, 0, 1, 0, 0, 0),
  (16, .aload_n 0, .aload 0, 17, 0, 1, 0, 0, 0),
  (17, .getfield 37, .getfield 8, 20, 0, 3, 0, 0, 288),
  (20, .iload_n 1, .iload 1, 21, 0, 1, 0, 0, 0),
  (21, .iaload, .iaload, 22, 0, 1, 0, 0, 0),
  (22, .if_icmp .le 5, .if_icmp .le 5, 25, 27, 3, 0, 0, 0),
  (25, .iload_n 2, .iload 2, 26, 0, 1, 0, 0, 0),
  (26, .istore_n 1, .istore 1, 27, 0, 1, 0, 0, 0),
  (27, .iinc 2 1, .iinc 2 1, 30, 0, 3, 1, 0, 0),
  (30, .goto (-26), .goto (-26), 4, 0, 3, 0, 0, 0),
  (33, .iload_n 1, .iload 1, 34, 0, 1, 0, 0, 0),
  (34, .ireturn, .ireturn, 35, 0, 1, 0, 0, 0)])
set_option maxRecDepth 100000 in
theorem okX0_lotOfGreatestRest : okm mX0_lotOfGreatestRest = true := by decide +kernel
def mX0_sendTo : mt_T := (yX0_sendTo, cX0_sendTo, 3, (some .boolean), [
  (0, .aload_n 0, .aload 0, 1, 0, 1, 0, 0, 0),
  (1, .iload_n 1, .iload 1, 2, 0, 1, 0, 0, 0),
  (2, .invokevirtual 48, .invokevirtual 48, 5, 0, 3, 0, 0, 0),
  (5, .ifCond .eq 31, .ifCond .eq 31, 8, 36, 3, 0, 0, 0),
  (8, .aload_n 0, .aload 0, 9, 0, 1, 0, 0, 0),
  (9, .getfield 25, .getfield 4, 12, 0, 3, 0, 0, 283),
  (12, .iload_n 1, .iload 1, 13, 0, 1, 0, 0, 0),
  (13, .iaload, .iaload, 14, 0, 1, 0, 0, 0),
  (14, .iconst (-1), .iconst (-1), 15, 0, 1, (-1), 0, 0),
  (15, .if_icmp .ne 21, .if_icmp .ne 21, 18, 36, 3, 0, 0, 0),
  (18, .aload_n 0, .aload 0, 19, 0, 1, 0, 0, 0),
  (19, .getfield 28, .getfield 5, 22, 0, 3, 0, 0, 285),
  (22, .iload_n 1, .iload 1, 23, 0, 1, 0, 0, 0),
  (23, .iaload, .iaload, 24, 0, 1, 0, 0, 0),
  (24, .ifCond .gt 12, .ifCond .gt 12, 27, 36, 3, 0, 0, 0),
  (27, .aload_n 0, .aload 0, 28, 0, 1, 0, 0, 0),
  (28, .getfield 18, .getfield 2, 31, 0, 3, 0, 0, 279),
  (31, .iload_n 1, .iload 1, 32, 0, 1, 0, 0, 0),
  (32, .iaload, .iaload, 33, 0, 1, 0, 0, 0),
  (33, .ifCond .ne 5, .ifCond .ne 5, 36, 38, 3, 0, 0, 0),
  (36, .iconst 0, .iconst 0, 37, 0, 1, 0, 0, 0),
  (37, .ireturn, .ireturn, 38, 0, 1, 0, 0, 0),
  (38, .aload_n 0, .aload 0, 39, 0, 1, 0, 0, 0),
  (39, .getfield 25, .getfield 4, 42, 0, 3, 0, 0, 283),
  (42, .iload_n 1, .iload 1, 43, 0, 1, 0, 0, 0),
  (43, .iload_n 2, .iload 2, 44, 0, 1, 0, 0, 0),
  (44, .iastore, .iastore, 45, 0, 1, 0, 0, 0),
  (45, .iconst 1, .iconst 1, 46, 0, 1, 1, 0, 0),
  (46, .ireturn, .ireturn, 47, 0, 1, 0, 0, 0)])
set_option maxRecDepth 100000 in
theorem okX0_sendTo : okm mX0_sendTo = true := by decide +kernel
def mX0_olderIn : mt_T := (yX0_olderIn, cX0_olderIn, 5, (some .int), [
  (0, .iconst 0, .iconst 0, 1, 0, 1, 0, 0, 0),
  (1, .istore_n 3, .istore 3, 2, 0, 1, 0, 0, 0),
  (2, .iconst 0, .iconst 0, 3, 0, 1, 0, 0, 0),
  (3, .istore 4, .istore 4, 5, 0, 2, 0, 0, 0),
  (5, .iload 4, .iload 4, 7, 0, 2, 0, 0, 0),
  (7, .aload_n 0, .aload 0, 8, 0, 1, 0, 0, 0),
  (8, .getfield 9, .getfield 0, 11, 0, 3, 0, 0, 275),
  (11, .if_icmp .ge 34, .if_icmp .ge 34, 14, 45, 3, 0, 0, 0),
  (14, .aload_n 0, .aload 0, 15, 0, 1, 0, 0, 0),
  (15, .getfield 25, .getfield 4, 18, 0, 3, 0, 0, 283),
  (18, .iload 4, .iload 4, 20, 0, 2, 0, 0, 0),
  (20, .iaload, .iaload, 21, 0, 1, 0, 0, 0),
  (21, .iload_n 1, .iload 1, 22, 0, 1, 0, 0, 0),
  (22, .if_icmp .ne 17, .if_icmp .ne 17, 25, 39, 3, 0, 0, 0),
  (25, .aload_n 0, .aload 0, 26, 0, 1, 0, 0, 0),
  (26, .getfield 22, .getfield 3, 29, 0, 3, 0, 0, 281),
  (29, .iload 4, .iload 4, 31, 0, 2, 0, 0, 0),
  (31, .iaload, .iaload, 32, 0, 1, 0, 0, 0),
  (32, .iload_n 2, .iload 2, 33, 0, 1, 0, 0, 0),
  (33, .if_icmp .ge 6, .if_icmp .ge 6, 36, 39, 3, 0, 0, 0),
  (36, .iinc 3 1, .iinc 3 1, 39, 0, 3, 1, 0, 0),
  (39, .iinc 4 1, .iinc 4 1, 42, 0, 3, 1, 0, 0),
  (42, .goto (-37), .goto (-37), 5, 0, 3, 0, 0, 0),
  (45, .iload_n 3, .iload 3, 46, 0, 1, 0, 0, 0),
  (46, .ireturn, .ireturn, 47, 0, 1, 0, 0, 0)])
set_option maxRecDepth 100000 in
theorem okX0_olderIn : okm mX0_olderIn = true := by decide +kernel
def mX0_bagWith : mt_T := (yX0_bagWith, cX0_bagWith, 5, (some .int), [
  (0, .iconst 0, .iconst 0, 1, 0, 1, 0, 0, 0),
  (1, .istore_n 3, .istore 3, 2, 0, 1, 0, 0, 0),
  (2, .iconst 0, .iconst 0, 3, 0, 1, 0, 0, 0),
  (3, .istore 4, .istore 4, 5, 0, 2, 0, 0, 0),
  (5, .iload 4, .iload 4, 7, 0, 2, 0, 0, 0),
  (7, .aload_n 0, .aload 0, 8, 0, 1, 0, 0, 0),
  (8, .getfield 9, .getfield 0, 11, 0, 3, 0, 0, 275),
  (11, .if_icmp .ge 30, .if_icmp .ge 30, 14, 41, 3, 0, 0, 0),
  (14, .aload_n 0, .aload 0, 15, 0, 1, 0, 0, 0),
  (15, .iload 4, .iload 4, 17, 0, 2, 0, 0, 0),
  (17, .iload_n 1, .iload 1, 18, 0, 1, 0, 0, 0),
  (18, .invokevirtual 44, .invokevirtual 44, 21, 0, 3, 0, 0, 0),
  (21, .ifCond .le 14, .ifCond .le 14, 24, 35, 3, 0, 0, 0),
  (24, .iload_n 3, .iload 3, 25, 0, 1, 0, 0, 0),
  (25, .iload_n 2, .iload 2, 26, 0, 1, 0, 0, 0),
  (26, .if_icmp .ne 6, .if_icmp .ne 6, 29, 32, 3, 0, 0, 0),
  (29, .iload 4, .iload 4, 31, 0, 2, 0, 0, 0),
  (31, .ireturn, .ireturn, 32, 0, 1, 0, 0, 0),
  (32, .iinc 3 1, .iinc 3 1, 35, 0, 3, 1, 0, 0),
  (35, .iinc 4 1, .iinc 4 1, 38, 0, 3, 1, 0, 0),
  (38, .goto (-33), .goto (-33), 5, 0, 3, 0, 0, 0),
  (41, .iconst (-1), .iconst (-1), 42, 0, 1, (-1), 0, 0),
  (42, .ireturn, .ireturn, 43, 0, 1, 0, 0, 0)])
set_option maxRecDepth 100000 in
theorem okX0_bagWith : okm mX0_bagWith = true := by decide +kernel
def mX0_gramsIn : mt_T := (yX0_gramsIn, cX0_gramsIn, 5, (some .int), [
  (0, .iconst 0, .iconst 0, 1, 0, 1, 0, 0, 0),
  (1, .istore_n 3, .istore 3, 2, 0, 1, 0, 0, 0),
  (2, .iconst 0, .iconst 0, 3, 0, 1, 0, 0, 0),
  (3, .istore 4, .istore 4, 5, 0, 2, 0, 0, 0),
  (5, .iload 4, .iload 4, 7, 0, 2, 0, 0, 0),
  (7, .aload_n 0, .aload 0, 8, 0, 1, 0, 0, 0),
  (8, .getfield 9, .getfield 0, 11, 0, 3, 0, 0, 275),
  (11, .if_icmp .ge 30, .if_icmp .ge 30, 14, 41, 3, 0, 0, 0),
  (14, .aload_n 0, .aload 0, 15, 0, 1, 0, 0, 0),
  (15, .getfield 25, .getfield 4, 18, 0, 3, 0, 0, 283),
  (18, .iload 4, .iload 4, 20, 0, 2, 0, 0, 0),
  (20, .iaload, .iaload, 21, 0, 1, 0, 0, 0),
  (21, .iload_n 1, .iload 1, 22, 0, 1, 0, 0, 0),
  (22, .if_icmp .ne 13, .if_icmp .ne 13, 25, 35, 3, 0, 0, 0),
  (25, .iload_n 3, .iload 3, 26, 0, 1, 0, 0, 0),
  (26, .aload_n 0, .aload 0, 27, 0, 1, 0, 0, 0),
  (27, .iload 4, .iload 4, 29, 0, 2, 0, 0, 0),
  (29, .iload_n 2, .iload 2, 30, 0, 1, 0, 0, 0),
  (30, .invokevirtual 44, .invokevirtual 44, 33, 0, 3, 0, 0, 0),
  (33, .iadd, .iadd, 34, 0, 1, 0, 0, 0),
  (34, .istore_n 3, .istore 3, 35, 0, 1, 0, 0, 0),
  (35, .iinc 4 1, .iinc 4 1, 38, 0, 3, 1, 0, 0),
  (38, .goto (-33), .goto (-33), 5, 0, 3, 0, 0, 0),
  (41, .iload_n 3, .iload 3, 42, 0, 1, 0, 0, 0),
  (42, .ireturn, .ireturn, 43, 0, 1, 0, 0, 0)])
set_option maxRecDepth 100000 in
theorem okX0_gramsIn : okm mX0_gramsIn = true := by decide +kernel
def mX0_allGrams : mt_T := (yX0_allGrams, cX0_allGrams, 3, (some .int), [
  (0, .iconst 0, .iconst 0, 1, 0, 1, 0, 0, 0),
  (1, .istore_n 1, .istore 1, 2, 0, 1, 0, 0, 0),
  (2, .iconst 0, .iconst 0, 3, 0, 1, 0, 0, 0),
  (3, .istore_n 2, .istore 2, 4, 0, 1, 0, 0, 0),
  (4, .iload_n 2, .iload 2, 5, 0, 1, 0, 0, 0),
  (5, .aload_n 0, .aload 0, 6, 0, 1, 0, 0, 0),
  (6, .getfield 9, .getfield 0, 9, 0, 3, 0, 0, 275),
  (9, .if_icmp .ge 18, .if_icmp .ge 18, 12, 27, 3, 0, 0, 0),
  (12, .iload_n 1, .iload 1, 13, 0, 1, 0, 0, 0),
  (13, .aload_n 0, .aload 0, 14, 0, 1, 0, 0, 0),
  (14, .getfield 18, .getfield 2, 17, 0, 3, 0, 0, 279),
  (17, .iload_n 2, .iload 2, 18, 0, 1, 0, 0, 0),
  (18, .iaload, .iaload, 19, 0, 1, 0, 0, 0),
  (19, .iadd, .iadd, 20, 0, 1, 0, 0, 0),
  (20, .istore_n 1, .istore 1, 21, 0, 1, 0, 0, 0),
  (21, .iinc 2 1, .iinc 2 1, 24, 0, 3, 1, 0, 0),
  (24, .goto (-20), .goto (-20), 4, 0, 3, 0, 0, 0),
  (27, .iload_n 1, .iload 1, 28, 0, 1, 0, 0, 0),
  (28, .ireturn, .ireturn, 29, 0, 1, 0, 0, 0)])
set_option maxRecDepth 100000 in
theorem okX0_allGrams : okm mX0_allGrams = true := by decide +kernel
def mX1_init : mt_T := (yX1_init, cX1_init, 1, none, [
  (0, .aload_n 0, .aload 0, 1, 0, 1, 0, 0, 0),
  (1, .invokespecial 3, .invokespecial 3, 4, 0, 3, 0, 0, 0),
  (4, .aload_n 0, .aload 0, 5, 0, 1, 0, 0, 0),
  (5, .iconst 0, .iconst 0, 6, 0, 1, 0, 0, 0),
  (6, .putfield 9, .putfield 0, 9, 1, 3, 0, 0, 335),
  (9, .aload_n 0, .aload 0, 10, 0, 1, 0, 0, 0),
  (10, .bipush 12, .iconst 12, 12, 0, 2, 12, 0, 0),
  (12, .newarray .int, .newarray .int, 14, 0, 2, 0, 0, 0),
  (14, .putfield 15, .putfield 1, 17, 1, 3, 0, 0, 337),
  (17, .aload_n 0, .aload 0, 18, 0, 1, 0, 0, 0),
  (18, .iconst 3, .iconst 3, 19, 0, 1, 3, 0, 0),
  (19, .newarray .int, .newarray .int, 21, 0, 2, 0, 0, 0),
  (21, .putfield 19, .putfield 2, 24, 1, 3, 0, 0, 339),
  (24, .aload_n 0, .aload 0, 25, 0, 1, 0, 0, 0),
  (25, .iconst 3, .iconst 3, 26, 0, 1, 3, 0, 0),
  (26, .newarray .int, .newarray .int, 28, 0, 2, 0, 0, 0),
  (28, .putfield 22, .putfield 3, 31, 1, 3, 0, 0, 340),
  (31, .aload_n 0, .aload 0, 32, 0, 1, 0, 0, 0),
  (32, .getfield 22, .getfield 3, 35, 1, 3, 0, 0, 340),
  (35, .bipush 100, .iconst 100, 37, 0, 2, 100, 0, 0),
  (37, .invokestatic 25, .invokestatic 25, 40, 0, 3, 0, 0, 0),
  (40, .aload_n 0, .aload 0, 41, 0, 1, 0, 0, 0),
  (41, .iconst 0, .iconst 0, 42, 0, 1, 0, 0, 0),
  (42, .putfield 31, .putfield 4, 45, 1, 3, 0, 0, 341),
  (45, .aload_n 0, .aload 0, 46, 0, 1, 0, 0, 0),
  (46, .bipush 6, .iconst 6, 48, 0, 2, 6, 0, 0),
  (48, .newarray .int, .newarray .int, 50, 0, 2, 0, 0, 0),
  (50, .putfield 35, .putfield 5, 53, 1, 3, 0, 0, 342),
  (53, .aload_n 0, .aload 0, 54, 0, 1, 0, 0, 0),
  (54, .bipush 6, .iconst 6, 56, 0, 2, 6, 0, 0),
  (56, .newarray .int, .newarray .int, 58, 0, 2, 0, 0, 0),
  (58, .putfield 38, .putfield 6, 61, 1, 3, 0, 0, 343),
  (61, .aload_n 0, .aload 0, 62, 0, 1, 0, 0, 0),
  (62, .bipush 6, .iconst 6, 64, 0, 2, 6, 0, 0),
  (64, .newarray .int, .newarray .int, 66, 0, 2, 0, 0, 0),
  (66, .putfield 41, .putfield 7, 69, 1, 3, 0, 0, 344),
  (69, .aload_n 0, .aload 0, 70, 0, 1, 0, 0, 0),
  (70, .bipush 6, .iconst 6, 72, 0, 2, 6, 0, 0),
  (72, .newarray .int, .newarray .int, 74, 0, 2, 0, 0, 0),
  (74, .putfield 44, .putfield 8, 77, 1, 3, 0, 0, 345),
  (77, .aload_n 0, .aload 0, 78, 0, 1, 0, 0, 0),
  (78, .iconst (-1), .iconst (-1), 79, 0, 1, (-1), 0, 0),
  (79, .putfield 47, .putfield 9, 82, 1, 3, 0, 0, 346),
  (82, .return_, .return_, 83, 0, 1, 0, 0, 0)])
set_option maxRecDepth 100000 in
theorem okX1_init : okm mX1_init = true := by decide +kernel
def mX1_setSpan : mt_T := (yX1_setSpan, cX1_setSpan, 4, (some .boolean), [
  (0, .iload_n 1, .iload 1, 1, 0, 1, 0, 0, 0),
  (1, .iconst 0, .iconst 0, 2, 0, 1, 0, 0, 0),
  (2, .iconst 2, .iconst 2, 3, 0, 1, 2, 0, 0),
  (3, .invokestatic 50, .invokestatic 50, 6, 0, 3, 0, 0, 0),
  (6, .ifCond .eq 23, .ifCond .eq 23, 9, 29, 3, 0, 0, 0),
  (9, .iload_n 2, .iload 2, 10, 0, 1, 0, 0, 0),
  (10, .iconst 0, .iconst 0, 11, 0, 1, 0, 0, 0),
  (11, .bipush 100, .iconst 100, 13, 0, 2, 100, 0, 0),
  (13, .invokestatic 50, .invokestatic 50, 16, 0, 3, 0, 0, 0),
  (16, .ifCond .eq 13, .ifCond .eq 13, 19, 29, 3, 0, 0, 0),
  (19, .iload_n 3, .iload 3, 20, 0, 1, 0, 0, 0),
  (20, .iload_n 2, .iload 2, 21, 0, 1, 0, 0, 0),
  (21, .bipush 100, .iconst 100, 23, 0, 2, 100, 0, 0),
  (23, .invokestatic 50, .invokestatic 50, 26, 0, 3, 0, 0, 0),
  (26, .ifCond .ne 5, .ifCond .ne 5, 29, 31, 3, 0, 0, 0),
  (29, .iconst 0, .iconst 0, 30, 0, 1, 0, 0, 0),
  (30, .ireturn, .ireturn, 31, 0, 1, 0, 0, 0),
  (31, .aload_n 0, .aload 0, 32, 0, 1, 0, 0, 0),
  (32, .getfield 19, .getfield 2, 35, 1, 3, 0, 0, 339),
  (35, .iload_n 1, .iload 1, 36, 0, 1, 0, 0, 0),
  (36, .iload_n 2, .iload 2, 37, 0, 1, 0, 0, 0),
  (37, .iastore, .iastore, 38, 0, 1, 0, 0, 0),
  (38, .aload_n 0, .aload 0, 39, 0, 1, 0, 0, 0),
  (39, .getfield 22, .getfield 3, 42, 1, 3, 0, 0, 340),
  (42, .iload_n 1, .iload 1, 43, 0, 1, 0, 0, 0),
  (43, .iload_n 3, .iload 3, 44, 0, 1, 0, 0, 0),
  (44, .iastore, .iastore, 45, 0, 1, 0, 0, 0),
  (45, .iconst 1, .iconst 1, 46, 0, 1, 1, 0, 0),
  (46, .ireturn, .ireturn, 47, 0, 1, 0, 0, 0)])
set_option maxRecDepth 100000 in
theorem okX1_setSpan : okm mX1_setSpan = true := by decide +kernel
def mX1_search : mt_T := (yX1_search, cX1_search, 5, (some .int), [
  (0, .iload_n 2, .iload 2, 1, 0, 1, 0, 0, 0),
  (1, .ifCond .le 43, .ifCond .le 43, 4, 44, 3, 0, 0, 0),
  (4, .iload_n 2, .iload 2, 5, 0, 1, 0, 0, 0),
  (5, .aload_n 1, .aload 1, 6, 0, 1, 0, 0, 0),
  (6, .getfield 54, .getfield 0, 9, 3, 3, 0, 0, 102),
  (9, .ishr, .ishr, 10, 0, 1, 0, 0, 0),
  (10, .ifCond .ne 34, .ifCond .ne 34, 13, 44, 3, 0, 0, 0),
  (13, .iload_n 2, .iload 2, 14, 0, 1, 0, 0, 0),
  (14, .invokestatic 59, .invokestatic 59, 17, 0, 3, 0, 0, 0),
  (17, .bipush 6, .iconst 6, 19, 0, 2, 6, 0, 0),
  (19, .if_icmp .gt 25, .if_icmp .gt 25, 22, 44, 3, 0, 0, 0),
  (22, .iload_n 3, .iload 3, 23, 0, 1, 0, 0, 0),
  (23, .bipush 10, .iconst 10, 25, 0, 2, 10, 0, 0),
  (25, .ldc 65, .iconst 100000, 27, 65, 2, 100000, 0, 805),
  (27, .invokestatic 50, .invokestatic 50, 30, 0, 3, 0, 0, 0),
  (30, .ifCond .eq 14, .ifCond .eq 14, 33, 44, 3, 0, 0, 0),
  (33, .iload_n 3, .iload 3, 34, 0, 1, 0, 0, 0),
  (34, .bipush 10, .iconst 10, 36, 0, 2, 10, 0, 0),
  (36, .irem, .irem, 37, 0, 1, 0, 0, 0),
  (37, .ifCond .ne 7, .ifCond .ne 7, 40, 44, 3, 0, 0, 0),
  (40, .iconst 1, .iconst 1, 41, 0, 1, 1, 0, 0),
  (41, .goto 4, .goto 4, 45, 0, 3, 0, 0, 0),
  (44, .iconst 0, .iconst 0, 45, 0, 1, 0, 0, 0),
  (45, .istore 4, .istore 4, 47, 0, 2, 0, 0, 0),
  (47, .iload 4, .iload 4, 49, 0, 2, 0, 0, 0),
  (49, .ifCond .ne 5, .ifCond .ne 5, 52, 54, 3, 0, 0, 0),
  (52, .iconst (-1), .iconst (-1), 53, 0, 1, (-1), 0, 0),
  (53, .ireturn, .ireturn, 54, 0, 1, 0, 0, 0),
  (54, .aload_n 0, .aload 0, 55, 0, 1, 0, 0, 0),
  (55, .aload_n 1, .aload 1, 56, 0, 1, 0, 0, 0),
  (56, .iload_n 2, .iload 2, 57, 0, 1, 0, 0, 0),
  (57, .iload_n 3, .iload 3, 58, 0, 1, 0, 0, 0),
  (58, .bipush 10, .iconst 10, 60, 0, 2, 10, 0, 0),
  (60, .idiv, .idiv, 61, 0, 1, 0, 0, 0),
  (61, .invokevirtual 66, .invokevirtual 66, 64, 0, 3, 0, 0, 0),
  (64, .aload_n 0, .aload 0, 65, 0, 1, 0, 0, 0),
  (65, .iconst (-1), .iconst (-1), 66, 0, 1, (-1), 0, 0),
  (66, .putfield 47, .putfield 9, 69, 1, 3, 0, 0, 346),
  (69, .aload_n 0, .aload 0, 70, 0, 1, 0, 0, 0),
  (70, .aload_n 1, .aload 1, 71, 0, 1, 0, 0, 0),
  (71, .iconst 0, .iconst 0, 72, 0, 1, 0, 0, 0),
  (72, .bipush 10, .iconst 10, 74, 0, 2, 10, 0, 0),
  (74, .iconst 0, .iconst 0, 75, 0, 1, 0, 0, 0),
  (75, .invokevirtual 70, .invokevirtual 70, 78, 0, 3, 0, 0, 0),
  (78, .aload_n 0, .aload 0, 79, 0, 1, 0, 0, 0),
  (79, .getfield 47, .getfield 9, 82, 1, 3, 0, 0, 346),
  (82, .iconst (-1), .iconst (-1), 83, 0, 1, (-1), 0, 0),
  (83, .if_icmp .eq 7, .if_icmp .eq 7, 86, 90, 3, 0, 0, 0),
  (86, .aload_n 0, .aload 0, 87, 0, 1, 0, 0, 0),
  (87, .invokevirtual 74, .invokevirtual 74, 90, 0, 3, 0, 0, 0),
  (90, .aload_n 0, .aload 0, 91, 0, 1, 0, 0, 0),
  (91, .getfield 47, .getfield 9, 94, 1, 3, 0, 0, 346),
  (94, .ireturn, .ireturn, 95, 0, 1, 0, 0, 0)])
set_option maxRecDepth 100000 in
theorem okX1_search : okm mX1_search = true := by decide +kernel
def mX1_gather : mt_T := (yX1_gather, cX1_gather, 5, none, [
  (0, .aload_n 0, .aload 0, 1, 0, 1, 0, 0, 0),
  (1, .iconst 0, .iconst 0, 2, 0, 1, 0, 0, 0),
  (2, .putfield 31, .putfield 4, 5, 1, 3, 0, 0, 341),
  (5, .iconst 0, .iconst 0, 6, 0, 1, 0, 0, 0),
  (6, .istore 4, .istore 4, 8, 0, 2, 0, 0, 0),
  (8, .iload 4, .iload 4, 10, 0, 2, 0, 0, 0),
  (10, .aload_n 1, .aload 1, 11, 0, 1, 0, 0, 0),
  (11, .getfield 54, .getfield 0, 14, 3, 3, 0, 0, 102),
  (14, .if_icmp .ge 80, .if_icmp .ge 80, 17, 94, 3, 0, 0, 0),
  (17, .iload_n 2, .iload 2, 18, 0, 1, 0, 0, 0),
  (18, .iload 4, .iload 4, 20, 0, 2, 0, 0, 0),
  (20, .ishr, .ishr, 21, 0, 1, 0, 0, 0),
  (21, .iconst 1, .iconst 1, 22, 0, 1, 1, 0, 0),
  (22, .iand, .iand, 23, 0, 1, 0, 0, 0),
  (23, .iconst 1, .iconst 1, 24, 0, 1, 1, 0, 0),
  (24, .if_icmp .ne 64, .if_icmp .ne 64, 27, 88, 3, 0, 0, 0),
  (27, .aload_n 0, .aload 0, 28, 0, 1, 0, 0, 0),
  (28, .getfield 31, .getfield 4, 31, 1, 3, 0, 0, 341),
  (31, .bipush 6, .iconst 6, 33, 0, 2, 6, 0, 0),
  (33, .if_icmp .ge 55, .if_icmp .ge 55, 36, 88, 3, 0, 0, 0),
  (36, .aload_n 0, .aload 0, 37, 0, 1, 0, 0, 0),
  (37, .getfield 35, .getfield 5, 40, 1, 3, 0, 0, 342),
  (40, .aload_n 0, .aload 0, 41, 0, 1, 0, 0, 0),
  (41, .getfield 31, .getfield 4, 44, 1, 3, 0, 0, 341),
  (44, .iload 4, .iload 4, 46, 0, 2, 0, 0, 0),
  (46, .iastore, .iastore, 47, 0, 1, 0, 0, 0),
  (47, .aload_n 0, .aload 0, 48, 0, 1, 0, 0, 0),
  (48, .getfield 38, .getfield 6, 51, 1, 3, 0, 0, 343),
  (51, .aload_n 0, .aload 0, 52, 0, 1, 0, 0, 0),
  (52, .getfield 31, .getfield 4, 55, 1, 3, 0, 0, 341),
  (55, .iload_n 3, .iload 3, 56, 0, 1, 0, 0, 0),
  (56, .ifCond .le 20, .ifCond .le 20, 59, 76, 3, 0, 0, 0),
  (59, .bipush 10, .iconst 10, 61, 0, 2, 10, 0, 0),
  (61, .aload_n 1, .aload 1, 62, 0, 1, 0, 0, 0),
  (62, .getfield 77, .getfield 1, 65, 3, 3, 0, 0, 104),
  (65, .iload 4, .iload 4, 67, 0, 2, 0, 0, 0),
  (67, .iaload, .iaload, 68, 0, 1, 0, 0, 0),
  (68, .iload_n 3, .iload 3, 69, 0, 1, 0, 0, 0),
  (69, .idiv, .idiv, 70, 0, 1, 0, 0, 0),
  (70, .invokestatic 80, .invokestatic 80, 73, 0, 3, 0, 0, 0),
  (73, .goto 4, .goto 4, 77, 0, 3, 0, 0, 0),
  (76, .iconst 0, .iconst 0, 77, 0, 1, 0, 0, 0),
  (77, .iastore, .iastore, 78, 0, 1, 0, 0, 0),
  (78, .aload_n 0, .aload 0, 79, 0, 1, 0, 0, 0),
  (79, .dup, .dup, 80, 0, 1, 0, 0, 0),
  (80, .getfield 31, .getfield 4, 83, 1, 3, 0, 0, 341),
  (83, .iconst 1, .iconst 1, 84, 0, 1, 1, 0, 0),
  (84, .iadd, .iadd, 85, 0, 1, 0, 0, 0),
  (85, .putfield 31, .putfield 4, 88, 1, 3, 0, 0, 341),
  (88, .iinc 4 1, .iinc 4 1, 91, 0, 3, 1, 0, 0),
  (91, .goto (-83), .goto (-83), 8, 0, 3, 0, 0, 0),
  (94, .return_, .return_, 95, 0, 1, 0, 0, 0)])
set_option maxRecDepth 100000 in
theorem okX1_gather : okm mX1_gather = true := by decide +kernel
def mX1_tryMember : mt_T := (yX1_tryMember, cX1_tryMember, 7, none, [
  (0, .aload_n 0, .aload 0, 1, 0, 1, 0, 0, 0),
  (1, .getfield 47, .getfield 9, 4, 1, 3, 0, 0, 346),
  (4, .iconst (-1), .iconst (-1), 5, 0, 1, (-1), 0, 0),
  (5, .if_icmp .eq 13, .if_icmp .eq 13, 8, 18, 3, 0, 0, 0),
  (8, .iload 4, .iload 4, 10, 0, 2, 0, 0, 0),
  (10, .aload_n 0, .aload 0, 11, 0, 1, 0, 0, 0),
  (11, .getfield 47, .getfield 9, 14, 1, 3, 0, 0, 346),
  (14, .if_icmp .lt 4, .if_icmp .lt 4, 17, 18, 3, 0, 0, 0),
  (17, .return_, .return_, 18, 0, 1, 0, 0, 0),
  (18, .iload_n 2, .iload 2, 19, 0, 1, 0, 0, 0),
  (19, .aload_n 0, .aload 0, 20, 0, 1, 0, 0, 0),
  (20, .getfield 31, .getfield 4, 23, 1, 3, 0, 0, 341),
  (23, .if_icmp .lt 37, .if_icmp .lt 37, 26, 60, 3, 0, 0, 0),
  (26, .iload_n 3, .iload 3, 27, 0, 1, 0, 0, 0),
  (27, .ifCond .ne 32, .ifCond .ne 32, 30, 59, 3, 0, 0, 0),
  (30, .aload_n 0, .aload 0, 31, 0, 1, 0, 0, 0),
  (31, .aload_n 1, .aload 1, 32, 0, 1, 0, 0, 0),
  (32, .invokevirtual 86, .invokevirtual 86, 35, 0, 3, 0, 0, 0),
  (35, .ifCond .eq 24, .ifCond .eq 24, 38, 59, 3, 0, 0, 0),
  (38, .aload_n 0, .aload 0, 39, 0, 1, 0, 0, 0),
  (39, .iload 4, .iload 4, 41, 0, 2, 0, 0, 0),
  (41, .putfield 47, .putfield 9, 44, 1, 3, 0, 0, 346),
  (44, .aload_n 0, .aload 0, 45, 0, 1, 0, 0, 0),
  (45, .getfield 41, .getfield 7, 48, 1, 3, 0, 0, 344),
  (48, .iconst 0, .iconst 0, 49, 0, 1, 0, 0, 0),
  (49, .aload_n 0, .aload 0, 50, 0, 1, 0, 0, 0),
  (50, .getfield 44, .getfield 8, 53, 1, 3, 0, 0, 345),
  (53, .iconst 0, .iconst 0, 54, 0, 1, 0, 0, 0),
  (54, .bipush 6, .iconst 6, 56, 0, 2, 6, 0, 0),
  (56, .invokestatic 90, .invokestatic 90, 59, 0, 3, 0, 0, 0),
  (59, .return_, .return_, 60, 0, 1, 0, 0, 0),
  (60, .iload_n 2, .iload 2, 61, 0, 1, 0, 0, 0),
  (61, .aload_n 0, .aload 0, 62, 0, 1, 0, 0, 0),
  (62, .getfield 31, .getfield 4, 65, 1, 3, 0, 0, 341),
  (65, .iconst 1, .iconst 1, 66, 0, 1, 1, 0, 0),
  (66, .isub, .isub, 67, 0, 1, 0, 0, 0),
  (67, .if_icmp .ne 7, .if_icmp .ne 7, 70, 74, 3, 0, 0, 0),
  (70, .iload_n 3, .iload 3, 71, 0, 1, 0, 0, 0),
  (71, .goto 4, .goto 4, 75, 0, 3, 0, 0, 0),
  (74, .iconst 0, .iconst 0, 75, 0, 1, 0, 0, 0),
  (75, .istore 5, .istore 5, 77, 0, 2, 0, 0, 0),
  (77, .iload_n 3, .iload 3, 78, 0, 1, 0, 0, 0),
  (78, .aload_n 0, .aload 0, 79, 0, 1, 0, 0, 0),
  (79, .getfield 38, .getfield 6, 82, 1, 3, 0, 0, 343),
  (82, .iload_n 2, .iload 2, 83, 0, 1, 0, 0, 0),
  (83, .iaload, .iaload, 84, 0, 1, 0, 0, 0),
  (84, .invokestatic 80, .invokestatic 80, 87, 0, 3, 0, 0, 0),
  (87, .istore 6, .istore 6, 89, 0, 2, 0, 0, 0),
  (89, .iload 6, .iload 6, 91, 0, 2, 0, 0, 0),
  (91, .iload 5, .iload 5, 93, 0, 2, 0, 0, 0),
  (93, .if_icmp .lt 46, .if_icmp .lt 46, 96, 139, 3, 0, 0, 0),
  (96, .aload_n 0, .aload 0, 97, 0, 1, 0, 0, 0),
  (97, .getfield 41, .getfield 7, 100, 1, 3, 0, 0, 344),
  (100, .iload_n 2, .iload 2, 101, 0, 1, 0, 0, 0),
  (101, .iload 6, .iload 6, 103, 0, 2, 0, 0, 0),
  (103, .iastore, .iastore, 104, 0, 1, 0, 0, 0),
  (104, .aload_n 0, .aload 0, 105, 0, 1, 0, 0, 0),
  (105, .aload_n 1, .aload 1, 106, 0, 1, 0, 0, 0),
  (106, .iload_n 2, .iload 2, 107, 0, 1, 0, 0, 0),
  (107, .iconst 1, .iconst 1, 108, 0, 1, 1, 0, 0),
  (108, .iadd, .iadd, 109, 0, 1, 0, 0, 0),
  (109, .iload_n 3, .iload 3, 110, 0, 1, 0, 0, 0),
  (110, .iload 6, .iload 6, 112, 0, 2, 0, 0, 0),
  (112, .isub, .isub, 113, 0, 1, 0, 0, 0),
  (113, .iload 4, .iload 4, 115, 0, 2, 0, 0, 0),
  (115, .iload 6, .iload 6, 117, 0, 2, 0, 0, 0),
  (117, .aload_n 1, .aload 1, 118, 0, 1, 0, 0, 0),
  (118, .getfield 96, .getfield 2, 121, 3, 3, 0, 0, 107),
  (121, .aload_n 0, .aload 0, 122, 0, 1, 0, 0, 0),
  (122, .getfield 35, .getfield 5, 125, 1, 3, 0, 0, 342),
  (125, .iload_n 2, .iload 2, 126, 0, 1, 0, 0, 0),
  (126, .iaload, .iaload, 127, 0, 1, 0, 0, 0),
  (127, .iaload, .iaload, 128, 0, 1, 0, 0, 0),
  (128, .imul, .imul, 129, 0, 1, 0, 0, 0),
  (129, .iadd, .iadd, 130, 0, 1, 0, 0, 0),
  (130, .invokevirtual 70, .invokevirtual 70, 133, 0, 3, 0, 0, 0),
  (133, .iinc 6 (-1), .iinc 6 (-1), 136, 0, 3, (-1), 0, 0),
  (136, .goto (-47), .goto (-47), 89, 0, 3, 0, 0, 0),
  (139, .return_, .return_, 140, 0, 1, 0, 0, 0)])
set_option maxRecDepth 100000 in
theorem okX1_tryMember : okm mX1_tryMember = true := by decide +kernel
def mX1_tastesFit : mt_T := (yX1_tastesFit, cX1_tastesFit, 5, (some .boolean), [
  (0, .iconst 0, .iconst 0, 1, 0, 1, 0, 0, 0),
  (1, .istore_n 2, .istore 2, 2, 0, 1, 0, 0, 0),
  (2, .iload_n 2, .iload 2, 3, 0, 1, 0, 0, 0),
  (3, .iconst 3, .iconst 3, 4, 0, 1, 3, 0, 0),
  (4, .if_icmp .ge 83, .if_icmp .ge 83, 7, 87, 3, 0, 0, 0),
  (7, .iconst 0, .iconst 0, 8, 0, 1, 0, 0, 0),
  (8, .istore_n 3, .istore 3, 9, 0, 1, 0, 0, 0),
  (9, .iconst 0, .iconst 0, 10, 0, 1, 0, 0, 0),
  (10, .istore 4, .istore 4, 12, 0, 2, 0, 0, 0),
  (12, .iload 4, .iload 4, 14, 0, 2, 0, 0, 0),
  (14, .aload_n 0, .aload 0, 15, 0, 1, 0, 0, 0),
  (15, .getfield 31, .getfield 4, 18, 1, 3, 0, 0, 341),
  (18, .if_icmp .ge 36, .if_icmp .ge 36, 21, 54, 3, 0, 0, 0),
  (21, .iload_n 3, .iload 3, 22, 0, 1, 0, 0, 0),
  (22, .aload_n 0, .aload 0, 23, 0, 1, 0, 0, 0),
  (23, .getfield 41, .getfield 7, 26, 1, 3, 0, 0, 344),
  (26, .iload 4, .iload 4, 28, 0, 2, 0, 0, 0),
  (28, .iaload, .iaload, 29, 0, 1, 0, 0, 0),
  (29, .aload_n 1, .aload 1, 30, 0, 1, 0, 0, 0),
  (30, .getfield 99, .getfield 3, 33, 3, 3, 0, 0, 109),
  (33, .aload_n 0, .aload 0, 34, 0, 1, 0, 0, 0),
  (34, .getfield 35, .getfield 5, 37, 1, 3, 0, 0, 342),
  (37, .iload 4, .iload 4, 39, 0, 2, 0, 0, 0),
  (39, .iaload, .iaload, 40, 0, 1, 0, 0, 0),
  (40, .iconst 3, .iconst 3, 41, 0, 1, 3, 0, 0),
  (41, .imul, .imul, 42, 0, 1, 0, 0, 0),
  (42, .iload_n 2, .iload 2, 43, 0, 1, 0, 0, 0),
  (43, .iadd, .iadd, 44, 0, 1, 0, 0, 0),
  (44, .iaload, .iaload, 45, 0, 1, 0, 0, 0),
  (45, .imul, .imul, 46, 0, 1, 0, 0, 0),
  (46, .iadd, .iadd, 47, 0, 1, 0, 0, 0),
  (47, .istore_n 3, .istore 3, 48, 0, 1, 0, 0, 0),
  (48, .iinc 4 1, .iinc 4 1, 51, 0, 3, 1, 0, 0),
  (51, .goto (-39), .goto (-39), 12, 0, 3, 0, 0, 0),
  (54, .iload_n 3, .iload 3, 55, 0, 1, 0, 0, 0),
  (55, .bipush 10, .iconst 10, 57, 0, 2, 10, 0, 0),
  (57, .aload_n 0, .aload 0, 58, 0, 1, 0, 0, 0),
  (58, .getfield 19, .getfield 2, 61, 1, 3, 0, 0, 339),
  (61, .iload_n 2, .iload 2, 62, 0, 1, 0, 0, 0),
  (62, .iaload, .iaload, 63, 0, 1, 0, 0, 0),
  (63, .imul, .imul, 64, 0, 1, 0, 0, 0),
  (64, .bipush 10, .iconst 10, 66, 0, 2, 10, 0, 0),
  (66, .aload_n 0, .aload 0, 67, 0, 1, 0, 0, 0),
  (67, .getfield 22, .getfield 3, 70, 1, 3, 0, 0, 340),
  (70, .iload_n 2, .iload 2, 71, 0, 1, 0, 0, 0),
  (71, .iaload, .iaload, 72, 0, 1, 0, 0, 0),
  (72, .imul, .imul, 73, 0, 1, 0, 0, 0),
  (73, .invokestatic 50, .invokestatic 50, 76, 0, 3, 0, 0, 0),
  (76, .ifCond .ne 5, .ifCond .ne 5, 79, 81, 3, 0, 0, 0),
  (79, .iconst 0, .iconst 0, 80, 0, 1, 0, 0, 0),
  (80, .ireturn, .ireturn, 81, 0, 1, 0, 0, 0),
  (81, .iinc 2 1, .iinc 2 1, 84, 0, 3, 1, 0, 0),
  (84, .goto (-82), .goto (-82), 2, 0, 3, 0, 0, 0),
  (87, .iconst 1, .iconst 1, 88, 0, 1, 1, 0, 0),
  (88, .ireturn, .ireturn, 89, 0, 1, 0, 0, 0)])
set_option maxRecDepth 100000 in
theorem okX1_tastesFit : okm mX1_tastesFit = true := by decide +kernel
def mX1_keepAsLatest : mt_T := (yX1_keepAsLatest, cX1_keepAsLatest, 2, none, [
  (0, .aload_n 0, .aload 0, 1, 0, 1, 0, 0, 0),
  (1, .iconst 1, .iconst 1, 2, 0, 1, 1, 0, 0),
  (2, .putfield 9, .putfield 0, 5, 1, 3, 0, 0, 335),
  (5, .aload_n 0, .aload 0, 6, 0, 1, 0, 0, 0),
  (6, .getfield 15, .getfield 1, 9, 1, 3, 0, 0, 337),
  (9, .iconst 0, .iconst 0, 10, 0, 1, 0, 0, 0),
  (10, .invokestatic 25, .invokestatic 25, 13, 0, 3, 0, 0, 0),
  (13, .iconst 0, .iconst 0, 14, 0, 1, 0, 0, 0),
  (14, .istore_n 1, .istore 1, 15, 0, 1, 0, 0, 0),
  (15, .iload_n 1, .iload 1, 16, 0, 1, 0, 0, 0),
  (16, .aload_n 0, .aload 0, 17, 0, 1, 0, 0, 0),
  (17, .getfield 31, .getfield 4, 20, 1, 3, 0, 0, 341),
  (20, .if_icmp .ge 26, .if_icmp .ge 26, 23, 46, 3, 0, 0, 0),
  (23, .aload_n 0, .aload 0, 24, 0, 1, 0, 0, 0),
  (24, .getfield 15, .getfield 1, 27, 1, 3, 0, 0, 337),
  (27, .aload_n 0, .aload 0, 28, 0, 1, 0, 0, 0),
  (28, .getfield 35, .getfield 5, 31, 1, 3, 0, 0, 342),
  (31, .iload_n 1, .iload 1, 32, 0, 1, 0, 0, 0),
  (32, .iaload, .iaload, 33, 0, 1, 0, 0, 0),
  (33, .aload_n 0, .aload 0, 34, 0, 1, 0, 0, 0),
  (34, .getfield 44, .getfield 8, 37, 1, 3, 0, 0, 345),
  (37, .iload_n 1, .iload 1, 38, 0, 1, 0, 0, 0),
  (38, .iaload, .iaload, 39, 0, 1, 0, 0, 0),
  (39, .iastore, .iastore, 40, 0, 1, 0, 0, 0),
  (40, .iinc 1 1, .iinc 1 1, 43, 0, 3, 1, 0, 0),
  (43, .goto (-28), .goto (-28), 15, 0, 3, 0, 0, 0),
  (46, .return_, .return_, 47, 0, 1, 0, 0, 0)])
set_option maxRecDepth 100000 in
theorem okX1_keepAsLatest : okm mX1_keepAsLatest = true := by decide +kernel
def mX2_init : mt_T := (yX2_init, cX2_init, 1, none, [
  (0, .aload_n 0, .aload 0, 1, 0, 1, 0, 0, 0),
  (1, .invokespecial 3, .invokespecial 3, 4, 0, 3, 0, 0, 0),
  (4, .aload_n 0, .aload 0, 5, 0, 1, 0, 0, 0),
  (5, .bipush 100, .iconst 100, 7, 0, 2, 100, 0, 0),
  (7, .newarray .int, .newarray .int, 9, 0, 2, 0, 0, 0),
  (9, .putfield 11, .putfield 0, 12, 2, 3, 0, 0, 315),
  (12, .aload_n 0, .aload 0, 13, 0, 1, 0, 0, 0),
  (13, .getfield 11, .getfield 0, 16, 2, 3, 0, 0, 315),
  (16, .iconst (-1), .iconst (-1), 17, 0, 1, (-1), 0, 0),
  (17, .invokestatic 15, .invokestatic 15, 20, 0, 3, 0, 0, 0),
  (20, .aload_n 0, .aload 0, 21, 0, 1, 0, 0, 0),
  (21, .bipush 20, .iconst 20, 23, 0, 2, 20, 0, 0),
  (23, .newarray .int, .newarray .int, 25, 0, 2, 0, 0, 0),
  (25, .putfield 21, .putfield 1, 28, 2, 3, 0, 0, 316),
  (28, .aload_n 0, .aload 0, 29, 0, 1, 0, 0, 0),
  (29, .getfield 21, .getfield 1, 32, 2, 3, 0, 0, 316),
  (32, .iconst (-1), .iconst (-1), 33, 0, 1, (-1), 0, 0),
  (33, .invokestatic 15, .invokestatic 15, 36, 0, 3, 0, 0, 0),
  (36, .aload_n 0, .aload 0, 37, 0, 1, 0, 0, 0),
  (37, .lconst 0, .lconst 0, 38, 0, 1, 0, 0, 0),
  (38, .putfield 24, .putfield 2, 41, 2, 3, 0, 0, 317),
  (41, .aload_n 0, .aload 0, 42, 0, 1, 0, 0, 0),
  (42, .lconst 1, .lconst 1, 43, 0, 1, 0, 1, 0),
  (43, .putfield 28, .putfield 3, 46, 2, 3, 0, 0, 318),
  (46, .return_, .return_, 47, 0, 1, 0, 0, 0)])
set_option maxRecDepth 100000 in
theorem okX2_init : okm mX2_init = true := by decide +kernel
def mX2_hasSample : mt_T := (yX2_hasSample, cX2_hasSample, 1, (some .boolean), [
  (0, .iload_n 0, .iload 0, 1, 0, 1, 0, 0, 0),
  (1, .iconst 0, .iconst 0, 2, 0, 1, 0, 0, 0),
  (2, .bipush 19, .iconst 19, 4, 0, 2, 19, 0, 0),
  (4, .invokestatic 31, .invokestatic 31, 7, 0, 3, 0, 0, 0),
  (7, .ireturn, .ireturn, 8, 0, 1, 0, 0, 0)])
set_option maxRecDepth 100000 in
theorem okX2_hasSample : okm mX2_hasSample = true := by decide +kernel
def mX2_giveMark : mt_T := (yX2_giveMark, cX2_giveMark, 4, (some .boolean), [
  (0, .iload_n 1, .iload 1, 1, 0, 1, 0, 0, 0),
  (1, .iconst 0, .iconst 0, 2, 0, 1, 0, 0, 0),
  (2, .iconst 4, .iconst 4, 3, 0, 1, 4, 0, 0),
  (3, .invokestatic 31, .invokestatic 31, 6, 0, 3, 0, 0, 0),
  (6, .ifCond .eq 20, .ifCond .eq 20, 9, 26, 3, 0, 0, 0),
  (9, .iload_n 2, .iload 2, 10, 0, 1, 0, 0, 0),
  (10, .invokestatic 35, .invokestatic 35, 13, 0, 3, 0, 0, 0),
  (13, .ifCond .eq 13, .ifCond .eq 13, 16, 26, 3, 0, 0, 0),
  (16, .iload_n 3, .iload 3, 17, 0, 1, 0, 0, 0),
  (17, .iconst 0, .iconst 0, 18, 0, 1, 0, 0, 0),
  (18, .bipush 100, .iconst 100, 20, 0, 2, 100, 0, 0),
  (20, .invokestatic 31, .invokestatic 31, 23, 0, 3, 0, 0, 0),
  (23, .ifCond .ne 5, .ifCond .ne 5, 26, 28, 3, 0, 0, 0),
  (26, .iconst 0, .iconst 0, 27, 0, 1, 0, 0, 0),
  (27, .ireturn, .ireturn, 28, 0, 1, 0, 0, 0),
  (28, .aload_n 0, .aload 0, 29, 0, 1, 0, 0, 0),
  (29, .getfield 11, .getfield 0, 32, 2, 3, 0, 0, 315),
  (32, .iload_n 1, .iload 1, 33, 0, 1, 0, 0, 0),
  (33, .bipush 20, .iconst 20, 35, 0, 2, 20, 0, 0),
  (35, .imul, .imul, 36, 0, 1, 0, 0, 0),
  (36, .iload_n 2, .iload 2, 37, 0, 1, 0, 0, 0),
  (37, .iadd, .iadd, 38, 0, 1, 0, 0, 0),
  (38, .iload_n 3, .iload 3, 39, 0, 1, 0, 0, 0),
  (39, .iastore, .iastore, 40, 0, 1, 0, 0, 0),
  (40, .iconst 1, .iconst 1, 41, 0, 1, 1, 0, 0),
  (41, .ireturn, .ireturn, 42, 0, 1, 0, 0, 0)])
set_option maxRecDepth 100000 in
theorem okX2_giveMark : okm mX2_giveMark = true := by decide +kernel
def mX2_tellWorth : mt_T := (yX2_tellWorth, cX2_tellWorth, 3, (some .boolean), [
  (0, .iload_n 1, .iload 1, 1, 0, 1, 0, 0, 0),
  (1, .invokestatic 35, .invokestatic 35, 4, 0, 3, 0, 0, 0),
  (4, .ifCond .eq 18, .ifCond .eq 18, 7, 22, 3, 0, 0, 0),
  (7, .iload_n 2, .iload 2, 8, 0, 1, 0, 0, 0),
  (8, .iconst (-1), .iconst (-1), 9, 0, 1, (-1), 0, 0),
  (9, .if_icmp .eq 15, .if_icmp .eq 15, 12, 24, 3, 0, 0, 0),
  (12, .iload_n 2, .iload 2, 13, 0, 1, 0, 0, 0),
  (13, .iconst 0, .iconst 0, 14, 0, 1, 0, 0, 0),
  (14, .bipush 100, .iconst 100, 16, 0, 2, 100, 0, 0),
  (16, .invokestatic 31, .invokestatic 31, 19, 0, 3, 0, 0, 0),
  (19, .ifCond .ne 5, .ifCond .ne 5, 22, 24, 3, 0, 0, 0),
  (22, .iconst 0, .iconst 0, 23, 0, 1, 0, 0, 0),
  (23, .ireturn, .ireturn, 24, 0, 1, 0, 0, 0),
  (24, .aload_n 0, .aload 0, 25, 0, 1, 0, 0, 0),
  (25, .getfield 21, .getfield 1, 28, 2, 3, 0, 0, 316),
  (28, .iload_n 1, .iload 1, 29, 0, 1, 0, 0, 0),
  (29, .iload_n 2, .iload 2, 30, 0, 1, 0, 0, 0),
  (30, .iastore, .iastore, 31, 0, 1, 0, 0, 0),
  (31, .iconst 1, .iconst 1, 32, 0, 1, 1, 0, 0),
  (32, .ireturn, .ireturn, 33, 0, 1, 0, 0, 0)])
set_option maxRecDepth 100000 in
theorem okX2_tellWorth : okm mX2_tellWorth = true := by decide +kernel
def mX2_compare : mt_T := (yX2_compare, cX2_compare, 7, (some .int), [
  (0, .aload_n 0, .aload 0, 1, 0, 1, 0, 0, 0),
  (1, .iload_n 1, .iload 1, 2, 0, 1, 0, 0, 0),
  (2, .invokevirtual 39, .invokevirtual 39, 5, 0, 3, 0, 0, 0),
  (5, .ifCond .ne 6, .ifCond .ne 6, 8, 11, 3, 0, 0, 0),
  (8, .bipush (-2), .iconst (-2), 10, 0, 2, (-2), 0, 0),
  (10, .ireturn, .ireturn, 11, 0, 1, 0, 0, 0),
  (11, .aload_n 0, .aload 0, 12, 0, 1, 0, 0, 0),
  (12, .getfield 24, .getfield 2, 15, 2, 3, 0, 0, 317),
  (15, .lstore_n 3, .lstore 3, 16, 0, 1, 0, 0, 0),
  (16, .aload_n 0, .aload 0, 17, 0, 1, 0, 0, 0),
  (17, .getfield 28, .getfield 3, 20, 2, 3, 0, 0, 318),
  (20, .lstore 5, .lstore 5, 22, 0, 2, 0, 0, 0),
  (22, .aload_n 0, .aload 0, 23, 0, 1, 0, 0, 0),
  (23, .iload_n 2, .iload 2, 24, 0, 1, 0, 0, 0),
  (24, .invokevirtual 39, .invokevirtual 39, 27, 0, 3, 0, 0, 0),
  (27, .ifCond .ne 6, .ifCond .ne 6, 30, 33, 3, 0, 0, 0),
  (30, .bipush (-2), .iconst (-2), 32, 0, 2, (-2), 0, 0),
  (32, .ireturn, .ireturn, 33, 0, 1, 0, 0, 0),
  (33, .lload_n 3, .lload 3, 34, 0, 1, 0, 0, 0),
  (34, .aload_n 0, .aload 0, 35, 0, 1, 0, 0, 0),
  (35, .getfield 28, .getfield 3, 38, 2, 3, 0, 0, 318),
  (38, .lmul, .lmul, 39, 0, 1, 0, 0, 0),
  (39, .aload_n 0, .aload 0, 40, 0, 1, 0, 0, 0),
  (40, .getfield 24, .getfield 2, 43, 2, 3, 0, 0, 317),
  (43, .lload 5, .lload 5, 45, 0, 2, 0, 0, 0),
  (45, .lmul, .lmul, 46, 0, 1, 0, 0, 0),
  (46, .invokestatic 42, .invokestatic 42, 49, 0, 3, 0, 0, 0),
  (49, .ireturn, .ireturn, 50, 0, 1, 0, 0, 0)])
set_option maxRecDepth 100000 in
theorem okX2_compare : okm mX2_compare = true := by decide +kernel
def mX2_thousandths : mt_T := (yX2_thousandths, cX2_thousandths, 2, (some .int), [
  (0, .aload_n 0, .aload 0, 1, 0, 1, 0, 0, 0),
  (1, .iload_n 1, .iload 1, 2, 0, 1, 0, 0, 0),
  (2, .invokevirtual 39, .invokevirtual 39, 5, 0, 3, 0, 0, 0),
  (5, .ifCond .eq 12, .ifCond .eq 12, 8, 17, 3, 0, 0, 0),
  (8, .aload_n 0, .aload 0, 9, 0, 1, 0, 0, 0),
  (9, .getfield 28, .getfield 3, 12, 2, 3, 0, 0, 318),
  (12, .lconst 0, .lconst 0, 13, 0, 1, 0, 0, 0),
  (13, .lcmp, .lcmp, 14, 0, 1, 0, 0, 0),
  (14, .ifCond .gt 6, .ifCond .gt 6, 17, 20, 3, 0, 0, 0),
  (17, .ldc 48, .iconst (-1000000), 19, 48, 2, (-1000000), 0, 777),
  (19, .ireturn, .ireturn, 20, 0, 1, 0, 0, 0),
  (20, .aload_n 0, .aload 0, 21, 0, 1, 0, 0, 0),
  (21, .getfield 24, .getfield 2, 24, 2, 3, 0, 0, 317),
  (24, .ldc2_w 49, .ldc2_w 49, 27, 0, 3, 0, 1000, 778),
  (27, .lmul, .lmul, 28, 0, 1, 0, 0, 0),
  (28, .aload_n 0, .aload 0, 29, 0, 1, 0, 0, 0),
  (29, .getfield 28, .getfield 3, 32, 2, 3, 0, 0, 318),
  (32, .invokestatic 51, .invokestatic 51, 35, 0, 3, 0, 0, 0),
  (35, .l2i, .l2i, 36, 0, 1, 0, 0, 0),
  (36, .ireturn, .ireturn, 37, 0, 1, 0, 0, 0)])
set_option maxRecDepth 100000 in
theorem okX2_thousandths : okm mX2_thousandths = true := by decide +kernel
def mX2_weigh : mt_T := (yX2_weigh, cX2_weigh, 8, (some .boolean), [
  (0, .iload_n 1, .iload 1, 1, 0, 1, 0, 0, 0),
  (1, .invokestatic 35, .invokestatic 35, 4, 0, 3, 0, 0, 0),
  (4, .ifCond .ne 5, .ifCond .ne 5, 7, 9, 3, 0, 0, 0),
  (7, .iconst 0, .iconst 0, 8, 0, 1, 0, 0, 0),
  (8, .ireturn, .ireturn, 9, 0, 1, 0, 0, 0),
  (9, .aload_n 0, .aload 0, 10, 0, 1, 0, 0, 0),
  (10, .lconst 0, .lconst 0, 11, 0, 1, 0, 0, 0),
  (11, .putfield 24, .putfield 2, 14, 2, 3, 0, 0, 317),
  (14, .aload_n 0, .aload 0, 15, 0, 1, 0, 0, 0),
  (15, .lconst 1, .lconst 1, 16, 0, 1, 0, 1, 0),
  (16, .putfield 28, .putfield 3, 19, 2, 3, 0, 0, 318),
  (19, .iconst 0, .iconst 0, 20, 0, 1, 0, 0, 0),
  (20, .istore_n 2, .istore 2, 21, 0, 1, 0, 0, 0),
  (21, .iconst 0, .iconst 0, 22, 0, 1, 0, 0, 0),
  (22, .istore_n 3, .istore 3, 23, 0, 1, 0, 0, 0),
  (23, .iload_n 3, .iload 3, 24, 0, 1, 0, 0, 0),
  (24, .iconst 5, .iconst 5, 25, 0, 1, 5, 0, 0),
  (25, .if_icmp .ge 91, .if_icmp .ge 91, 28, 116, 3, 0, 0, 0),
  (28, .aload_n 0, .aload 0, 29, 0, 1, 0, 0, 0),
  (29, .iload_n 3, .iload 3, 30, 0, 1, 0, 0, 0),
  (30, .invokevirtual 57, .invokevirtual 57, 33, 0, 3, 0, 0, 0),
  (33, .istore 4, .istore 4, 35, 0, 2, 0, 0, 0),
  (35, .aload_n 0, .aload 0, 36, 0, 1, 0, 0, 0),
  (36, .getfield 11, .getfield 0, 39, 2, 3, 0, 0, 315),
  (39, .iload_n 3, .iload 3, 40, 0, 1, 0, 0, 0),
  (40, .bipush 20, .iconst 20, 42, 0, 2, 20, 0, 0),
  (42, .imul, .imul, 43, 0, 1, 0, 0, 0),
  (43, .iload_n 1, .iload 1, 44, 0, 1, 0, 0, 0),
  (44, .iadd, .iadd, 45, 0, 1, 0, 0, 0),
  (45, .iaload, .iaload, 46, 0, 1, 0, 0, 0),
  (46, .istore 5, .istore 5, 48, 0, 2, 0, 0, 0),
  (48, .iload 5, .iload 5, 50, 0, 2, 0, 0, 0),
  (50, .iconst (-1), .iconst (-1), 51, 0, 1, (-1), 0, 0),
  (51, .if_icmp .eq 59, .if_icmp .eq 59, 54, 110, 3, 0, 0, 0),
  (54, .iload 4, .iload 4, 56, 0, 2, 0, 0, 0),
  (56, .ifCond .le 54, .ifCond .le 54, 59, 110, 3, 0, 0, 0),
  (59, .iload 5, .iload 5, 61, 0, 2, 0, 0, 0),
  (61, .i2l, .i2l, 62, 0, 1, 0, 0, 0),
  (62, .iload 4, .iload 4, 64, 0, 2, 0, 0, 0),
  (64, .i2l, .i2l, 65, 0, 1, 0, 0, 0),
  (65, .lmul, .lmul, 66, 0, 1, 0, 0, 0),
  (66, .aload_n 0, .aload 0, 67, 0, 1, 0, 0, 0),
  (67, .iload_n 3, .iload 3, 68, 0, 1, 0, 0, 0),
  (68, .invokevirtual 61, .invokevirtual 61, 71, 0, 3, 0, 0, 0),
  (71, .i2l, .i2l, 72, 0, 1, 0, 0, 0),
  (72, .lsub, .lsub, 73, 0, 1, 0, 0, 0),
  (73, .lstore 6, .lstore 6, 75, 0, 2, 0, 0, 0),
  (75, .aload_n 0, .aload 0, 76, 0, 1, 0, 0, 0),
  (76, .aload_n 0, .aload 0, 77, 0, 1, 0, 0, 0),
  (77, .getfield 24, .getfield 2, 80, 2, 3, 0, 0, 317),
  (80, .iload 4, .iload 4, 82, 0, 2, 0, 0, 0),
  (82, .i2l, .i2l, 83, 0, 1, 0, 0, 0),
  (83, .lmul, .lmul, 84, 0, 1, 0, 0, 0),
  (84, .lload 6, .lload 6, 86, 0, 2, 0, 0, 0),
  (86, .aload_n 0, .aload 0, 87, 0, 1, 0, 0, 0),
  (87, .getfield 28, .getfield 3, 90, 2, 3, 0, 0, 318),
  (90, .lmul, .lmul, 91, 0, 1, 0, 0, 0),
  (91, .ladd, .ladd, 92, 0, 1, 0, 0, 0),
  (92, .putfield 24, .putfield 2, 95, 2, 3, 0, 0, 317),
  (95, .aload_n 0, .aload 0, 96, 0, 1, 0, 0, 0),
  (96, .dup, .dup, 97, 0, 1, 0, 0, 0),
  (97, .getfield 28, .getfield 3, 100, 2, 3, 0, 0, 318),
  (100, .iload 4, .iload 4, 102, 0, 2, 0, 0, 0),
  (102, .i2l, .i2l, 103, 0, 1, 0, 0, 0),
  (103, .lmul, .lmul, 104, 0, 1, 0, 0, 0),
  (104, .putfield 28, .putfield 3, 107, 2, 3, 0, 0, 318),
  (107, .iinc 2 1, .iinc 2 1, 110, 0, 3, 1, 0, 0),
  (110, .iinc 3 1, .iinc 3 1, 113, 0, 3, 1, 0, 0),
  (113, .goto (-90), .goto (-90), 23, 0, 3, 0, 0, 0),
  (116, .aload_n 0, .aload 0, 117, 0, 1, 0, 0, 0),
  (117, .dup, .dup, 118, 0, 1, 0, 0, 0),
  (118, .getfield 28, .getfield 3, 121, 2, 3, 0, 0, 318),
  (121, .iload_n 2, .iload 2, 122, 0, 1, 0, 0, 0),
  (122, .i2l, .i2l, 123, 0, 1, 0, 0, 0),
  (123, .lmul, .lmul, 124, 0, 1, 0, 0, 0),
  (124, .putfield 28, .putfield 3, 127, 2, 3, 0, 0, 318),
  (127, .iload_n 2, .iload 2, 128, 0, 1, 0, 0, 0),
  (128, .ifCond .le 7, .ifCond .le 7, 131, 135, 3, 0, 0, 0),
  (131, .iconst 1, .iconst 1, 132, 0, 1, 1, 0, 0),
  (132, .goto 4, .goto 4, 136, 0, 3, 0, 0, 0),
  (135, .iconst 0, .iconst 0, 136, 0, 1, 0, 0, 0),
  (136, .ireturn, .ireturn, 137, 0, 1, 0, 0, 0)])
set_option maxRecDepth 100000 in
theorem okX2_weigh : okm mX2_weigh = true := by decide +kernel
def mX2_isToldAndMarked : mt_T := (yX2_isToldAndMarked, cX2_isToldAndMarked, 3, (some .boolean), [
  (0, .aload_n 0, .aload 0, 1, 0, 1, 0, 0, 0),
  (1, .getfield 21, .getfield 1, 4, 2, 3, 0, 0, 316),
  (4, .iload_n 2, .iload 2, 5, 0, 1, 0, 0, 0),
  (5, .iaload, .iaload, 6, 0, 1, 0, 0, 0),
  (6, .iconst (-1), .iconst (-1), 7, 0, 1, (-1), 0, 0),
  (7, .if_icmp .eq 22, .if_icmp .eq 22, 10, 29, 3, 0, 0, 0),
  (10, .aload_n 0, .aload 0, 11, 0, 1, 0, 0, 0),
  (11, .getfield 11, .getfield 0, 14, 2, 3, 0, 0, 315),
  (14, .iload_n 1, .iload 1, 15, 0, 1, 0, 0, 0),
  (15, .bipush 20, .iconst 20, 17, 0, 2, 20, 0, 0),
  (17, .imul, .imul, 18, 0, 1, 0, 0, 0),
  (18, .iload_n 2, .iload 2, 19, 0, 1, 0, 0, 0),
  (19, .iadd, .iadd, 20, 0, 1, 0, 0, 0),
  (20, .iaload, .iaload, 21, 0, 1, 0, 0, 0),
  (21, .iconst (-1), .iconst (-1), 22, 0, 1, (-1), 0, 0),
  (22, .if_icmp .eq 7, .if_icmp .eq 7, 25, 29, 3, 0, 0, 0),
  (25, .iconst 1, .iconst 1, 26, 0, 1, 1, 0, 0),
  (26, .goto 4, .goto 4, 30, 0, 3, 0, 0, 0),
  (29, .iconst 0, .iconst 0, 30, 0, 1, 0, 0, 0),
  (30, .ireturn, .ireturn, 31, 0, 1, 0, 0, 0)])
set_option maxRecDepth 100000 in
theorem okX2_isToldAndMarked : okm mX2_isToldAndMarked = true := by decide +kernel
def mX2_toldMarkedBy : mt_T := (yX2_toldMarkedBy, cX2_toldMarkedBy, 4, (some .int), [
  (0, .iconst 0, .iconst 0, 1, 0, 1, 0, 0, 0),
  (1, .istore_n 2, .istore 2, 2, 0, 1, 0, 0, 0),
  (2, .iconst 0, .iconst 0, 3, 0, 1, 0, 0, 0),
  (3, .istore_n 3, .istore 3, 4, 0, 1, 0, 0, 0),
  (4, .iload_n 3, .iload 3, 5, 0, 1, 0, 0, 0),
  (5, .bipush 20, .iconst 20, 7, 0, 2, 20, 0, 0),
  (7, .if_icmp .ge 21, .if_icmp .ge 21, 10, 28, 3, 0, 0, 0),
  (10, .aload_n 0, .aload 0, 11, 0, 1, 0, 0, 0),
  (11, .iload_n 1, .iload 1, 12, 0, 1, 0, 0, 0),
  (12, .iload_n 3, .iload 3, 13, 0, 1, 0, 0, 0),
  (13, .invokevirtual 64, .invokevirtual 64, 16, 0, 3, 0, 0, 0),
  (16, .ifCond .eq 6, .ifCond .eq 6, 19, 22, 3, 0, 0, 0),
  (19, .iinc 2 1, .iinc 2 1, 22, 0, 3, 1, 0, 0),
  (22, .iinc 3 1, .iinc 3 1, 25, 0, 3, 1, 0, 0),
  (25, .goto (-21), .goto (-21), 4, 0, 3, 0, 0, 0),
  (28, .iload_n 2, .iload 2, 29, 0, 1, 0, 0, 0),
  (29, .ireturn, .ireturn, 30, 0, 1, 0, 0, 0)])
set_option maxRecDepth 100000 in
theorem okX2_toldMarkedBy : okm mX2_toldMarkedBy = true := by decide +kernel
def mX2_excessOf : mt_T := (yX2_excessOf, cX2_excessOf, 4, (some .int), [
  (0, .iconst 0, .iconst 0, 1, 0, 1, 0, 0, 0),
  (1, .istore_n 2, .istore 2, 2, 0, 1, 0, 0, 0),
  (2, .iconst 0, .iconst 0, 3, 0, 1, 0, 0, 0),
  (3, .istore_n 3, .istore 3, 4, 0, 1, 0, 0, 0),
  (4, .iload_n 3, .iload 3, 5, 0, 1, 0, 0, 0),
  (5, .bipush 20, .iconst 20, 7, 0, 2, 20, 0, 0),
  (7, .if_icmp .ge 39, .if_icmp .ge 39, 10, 46, 3, 0, 0, 0),
  (10, .aload_n 0, .aload 0, 11, 0, 1, 0, 0, 0),
  (11, .iload_n 1, .iload 1, 12, 0, 1, 0, 0, 0),
  (12, .iload_n 3, .iload 3, 13, 0, 1, 0, 0, 0),
  (13, .invokevirtual 64, .invokevirtual 64, 16, 0, 3, 0, 0, 0),
  (16, .ifCond .eq 24, .ifCond .eq 24, 19, 40, 3, 0, 0, 0),
  (19, .iload_n 2, .iload 2, 20, 0, 1, 0, 0, 0),
  (20, .aload_n 0, .aload 0, 21, 0, 1, 0, 0, 0),
  (21, .getfield 11, .getfield 0, 24, 2, 3, 0, 0, 315),
  (24, .iload_n 1, .iload 1, 25, 0, 1, 0, 0, 0),
  (25, .bipush 20, .iconst 20, 27, 0, 2, 20, 0, 0),
  (27, .imul, .imul, 28, 0, 1, 0, 0, 0),
  (28, .iload_n 3, .iload 3, 29, 0, 1, 0, 0, 0),
  (29, .iadd, .iadd, 30, 0, 1, 0, 0, 0),
  (30, .iaload, .iaload, 31, 0, 1, 0, 0, 0),
  (31, .aload_n 0, .aload 0, 32, 0, 1, 0, 0, 0),
  (32, .getfield 21, .getfield 1, 35, 2, 3, 0, 0, 316),
  (35, .iload_n 3, .iload 3, 36, 0, 1, 0, 0, 0),
  (36, .iaload, .iaload, 37, 0, 1, 0, 0, 0),
  (37, .isub, .isub, 38, 0, 1, 0, 0, 0),
  (38, .iadd, .iadd, 39, 0, 1, 0, 0, 0),
  (39, .istore_n 2, .istore 2, 40, 0, 1, 0, 0, 0),
  (40, .iinc 3 1, .iinc 3 1, 43, 0, 3, 1, 0, 0),
  (43, .goto (-39), .goto (-39), 4, 0, 3, 0, 0, 0),
  (46, .iload_n 2, .iload 2, 47, 0, 1, 0, 0, 0),
  (47, .ireturn, .ireturn, 48, 0, 1, 0, 0, 0)])
set_option maxRecDepth 100000 in
theorem okX2_excessOf : okm mX2_excessOf = true := by decide +kernel
def mX3_init : mt_T := (yX3_init, cX3_init, 1, none, [
  (0, .aload_n 0, .aload 0, 1, 0, 1, 0, 0, 0),
  (1, .invokespecial 3, .invokespecial 3, 4, 0, 3, 0, 0, 0),
  (4, .aload_n 0, .aload 0, 5, 0, 1, 0, 0, 0),
  (5, .iconst 0, .iconst 0, 6, 0, 1, 0, 0, 0),
  (6, .putfield 9, .putfield 0, 9, 3, 3, 0, 0, 100),
  (9, .aload_n 0, .aload 0, 10, 0, 1, 0, 0, 0),
  (10, .bipush 12, .iconst 12, 12, 0, 2, 12, 0, 0),
  (12, .newarray .int, .newarray .int, 14, 0, 2, 0, 0, 0),
  (14, .putfield 15, .putfield 1, 17, 3, 3, 0, 0, 103),
  (17, .aload_n 0, .aload 0, 18, 0, 1, 0, 0, 0),
  (18, .bipush 12, .iconst 12, 20, 0, 2, 12, 0, 0),
  (20, .newarray .int, .newarray .int, 22, 0, 2, 0, 0, 0),
  (22, .putfield 19, .putfield 2, 25, 3, 3, 0, 0, 106),
  (25, .aload_n 0, .aload 0, 26, 0, 1, 0, 0, 0),
  (26, .bipush 36, .iconst 36, 28, 0, 2, 36, 0, 0),
  (28, .newarray .int, .newarray .int, 30, 0, 2, 0, 0, 0),
  (30, .putfield 22, .putfield 3, 33, 3, 3, 0, 0, 108),
  (33, .return_, .return_, 34, 0, 1, 0, 0, 0)])
set_option maxRecDepth 100000 in
theorem okX3_init : okm mX3_init = true := by decide +kernel
def mX3_has : mt_T := (yX3_has, cX3_has, 2, (some .boolean), [
  (0, .iload_n 1, .iload 1, 1, 0, 1, 0, 0, 0),
  (1, .ifCond .lt 15, .ifCond .lt 15, 4, 16, 3, 0, 0, 0),
  (4, .iload_n 1, .iload 1, 5, 0, 1, 0, 0, 0),
  (5, .aload_n 0, .aload 0, 6, 0, 1, 0, 0, 0),
  (6, .getfield 9, .getfield 0, 9, 3, 3, 0, 0, 100),
  (9, .if_icmp .ge 7, .if_icmp .ge 7, 12, 16, 3, 0, 0, 0),
  (12, .iconst 1, .iconst 1, 13, 0, 1, 1, 0, 0),
  (13, .goto 4, .goto 4, 17, 0, 3, 0, 0, 0),
  (16, .iconst 0, .iconst 0, 17, 0, 1, 0, 0, 0),
  (17, .ireturn, .ireturn, 18, 0, 1, 0, 0, 0)])
set_option maxRecDepth 100000 in
theorem okX3_has : okm mX3_has = true := by decide +kernel
def mX3_add : mt_T := (yX3_add, cX3_add, 7, (some .int), [
  (0, .aload_n 0, .aload 0, 1, 0, 1, 0, 0, 0),
  (1, .getfield 9, .getfield 0, 4, 3, 3, 0, 0, 100),
  (4, .istore 6, .istore 6, 6, 0, 2, 0, 0, 0),
  (6, .aload_n 0, .aload 0, 7, 0, 1, 0, 0, 0),
  (7, .getfield 15, .getfield 1, 10, 3, 3, 0, 0, 103),
  (10, .iload 6, .iload 6, 12, 0, 2, 0, 0, 0),
  (12, .iload_n 1, .iload 1, 13, 0, 1, 0, 0, 0),
  (13, .iastore, .iastore, 14, 0, 1, 0, 0, 0),
  (14, .aload_n 0, .aload 0, 15, 0, 1, 0, 0, 0),
  (15, .getfield 19, .getfield 2, 18, 3, 3, 0, 0, 106),
  (18, .iload 6, .iload 6, 20, 0, 2, 0, 0, 0),
  (20, .iload_n 2, .iload 2, 21, 0, 1, 0, 0, 0),
  (21, .iastore, .iastore, 22, 0, 1, 0, 0, 0),
  (22, .aload_n 0, .aload 0, 23, 0, 1, 0, 0, 0),
  (23, .getfield 22, .getfield 3, 26, 3, 3, 0, 0, 108),
  (26, .iload 6, .iload 6, 28, 0, 2, 0, 0, 0),
  (28, .iconst 3, .iconst 3, 29, 0, 1, 3, 0, 0),
  (29, .imul, .imul, 30, 0, 1, 0, 0, 0),
  (30, .iload_n 3, .iload 3, 31, 0, 1, 0, 0, 0),
  (31, .iastore, .iastore, 32, 0, 1, 0, 0, 0),
  (32, .aload_n 0, .aload 0, 33, 0, 1, 0, 0, 0),
  (33, .getfield 22, .getfield 3, 36, 3, 3, 0, 0, 108),
  (36, .iload 6, .iload 6, 38, 0, 2, 0, 0, 0),
  (38, .iconst 3, .iconst 3, 39, 0, 1, 3, 0, 0),
  (39, .imul, .imul, 40, 0, 1, 0, 0, 0),
  (40, .iconst 1, .iconst 1, 41, 0, 1, 1, 0, 0),
  (41, .iadd, .iadd, 42, 0, 1, 0, 0, 0),
  (42, .iload 4, .iload 4, 44, 0, 2, 0, 0, 0),
  (44, .iastore, .iastore, 45, 0, 1, 0, 0, 0),
  (45, .aload_n 0, .aload 0, 46, 0, 1, 0, 0, 0),
  (46, .getfield 22, .getfield 3, 49, 3, 3, 0, 0, 108),
  (49, .iload 6, .iload 6, 51, 0, 2, 0, 0, 0),
  (51, .iconst 3, .iconst 3, 52, 0, 1, 3, 0, 0),
  (52, .imul, .imul, 53, 0, 1, 0, 0, 0),
  (53, .iconst 2, .iconst 2, 54, 0, 1, 2, 0, 0),
  (54, .iadd, .iadd, 55, 0, 1, 0, 0, 0),
  (55, .iload 5, .iload 5, 57, 0, 2, 0, 0, 0),
  (57, .iastore, .iastore, 58, 0, 1, 0, 0, 0),
  (58, .aload_n 0, .aload 0, 59, 0, 1, 0, 0, 0),
  (59, .dup, .dup, 60, 0, 1, 0, 0, 0),
  (60, .getfield 9, .getfield 0, 63, 3, 3, 0, 0, 100),
  (63, .iconst 1, .iconst 1, 64, 0, 1, 1, 0, 0),
  (64, .iadd, .iadd, 65, 0, 1, 0, 0, 0),
  (65, .putfield 9, .putfield 0, 68, 3, 3, 0, 0, 100),
  (68, .iload 6, .iload 6, 70, 0, 2, 0, 0, 0),
  (70, .ireturn, .ireturn, 71, 0, 1, 0, 0, 0)])
set_option maxRecDepth 100000 in
theorem okX3_add : okm mX3_add = true := by decide +kernel
def mX4_init : mt_T := (yX4_init, cX4_init, 1, none, [
  (0, .aload_n 0, .aload 0, 1, 0, 1, 0, 0, 0),
  (1, .invokespecial 3, .invokespecial 3, 4, 0, 3, 0, 0, 0),
  (4, .aload_n 0, .aload 0, 5, 0, 1, 0, 0, 0),
  (5, .bipush 20, .iconst 20, 7, 0, 2, 20, 0, 0),
  (7, .newarray .int, .newarray .int, 9, 0, 2, 0, 0, 0),
  (9, .putfield 11, .putfield 1, 12, 4, 3, 0, 0, 233),
  (12, .aload_n 0, .aload 0, 13, 0, 1, 0, 0, 0),
  (13, .getfield 11, .getfield 1, 16, 4, 3, 0, 0, 233),
  (16, .sipush 200, .iconst 200, 19, 0, 3, 200, 0, 0),
  (19, .invokestatic 15, .invokestatic 15, 22, 0, 3, 0, 0, 0),
  (22, .aload_n 0, .aload 0, 23, 0, 1, 0, 0, 0),
  (23, .iconst 0, .iconst 0, 24, 0, 1, 0, 0, 0),
  (24, .putfield 21, .putfield 2, 27, 4, 3, 0, 0, 234),
  (27, .aload_n 0, .aload 0, 28, 0, 1, 0, 0, 0),
  (28, .iconst 0, .iconst 0, 29, 0, 1, 0, 0, 0),
  (29, .invokevirtual 25, .invokevirtual 25, 32, 0, 3, 0, 0, 0),
  (32, .return_, .return_, 33, 0, 1, 0, 0, 0)])
set_option maxRecDepth 100000 in
theorem okX4_init : okm mX4_init = true := by decide +kernel
def mX4_start : mt_T := (yX4_start, cX4_start, 2, none, [
  (0, .aload_n 0, .aload 0, 1, 0, 1, 0, 0, 0),
  (1, .iload_n 1, .iload 1, 2, 0, 1, 0, 0, 0),
  (2, .putfield 29, .putfield 3, 5, 4, 3, 0, 0, 235),
  (5, .aload_n 0, .aload 0, 6, 0, 1, 0, 0, 0),
  (6, .iconst 0, .iconst 0, 7, 0, 1, 0, 0, 0),
  (7, .putfield 33, .putfield 4, 10, 4, 3, 0, 0, 236),
  (10, .aload_n 0, .aload 0, 11, 0, 1, 0, 0, 0),
  (11, .sipush 200, .iconst 200, 14, 0, 3, 200, 0, 0),
  (14, .putfield 36, .putfield 5, 17, 4, 3, 0, 0, 237),
  (17, .aload_n 0, .aload 0, 18, 0, 1, 0, 0, 0),
  (18, .iconst 5, .iconst 5, 19, 0, 1, 5, 0, 0),
  (19, .putfield 39, .putfield 6, 22, 4, 3, 0, 0, 238),
  (22, .aload_n 0, .aload 0, 23, 0, 1, 0, 0, 0),
  (23, .iconst 5, .iconst 5, 24, 0, 1, 5, 0, 0),
  (24, .putfield 42, .putfield 7, 27, 4, 3, 0, 0, 239),
  (27, .aload_n 0, .aload 0, 28, 0, 1, 0, 0, 0),
  (28, .iconst 0, .iconst 0, 29, 0, 1, 0, 0, 0),
  (29, .putfield 45, .putfield 8, 32, 4, 3, 0, 0, 240),
  (32, .aload_n 0, .aload 0, 33, 0, 1, 0, 0, 0),
  (33, .iconst 0, .iconst 0, 34, 0, 1, 0, 0, 0),
  (34, .putfield 48, .putfield 9, 37, 4, 3, 0, 0, 241),
  (37, .aload_n 0, .aload 0, 38, 0, 1, 0, 0, 0),
  (38, .iconst 0, .iconst 0, 39, 0, 1, 0, 0, 0),
  (39, .putfield 51, .putfield 10, 42, 4, 3, 0, 0, 242),
  (42, .aload_n 0, .aload 0, 43, 0, 1, 0, 0, 0),
  (43, .iconst 0, .iconst 0, 44, 0, 1, 0, 0, 0),
  (44, .putfield 54, .putfield 11, 47, 4, 3, 0, 0, 243),
  (47, .aload_n 0, .aload 0, 48, 0, 1, 0, 0, 0),
  (48, .iconst 0, .iconst 0, 49, 0, 1, 0, 0, 0),
  (49, .putfield 57, .putfield 0, 52, 4, 3, 0, 0, 231),
  (52, .return_, .return_, 53, 0, 1, 0, 0, 0)])
set_option maxRecDepth 100000 in
theorem okX4_start : okm mX4_start = true := by decide +kernel
def mX4_tellCurve : mt_T := (yX4_tellCurve, cX4_tellCurve, 3, (some .boolean), [
  (0, .iload_n 1, .iload 1, 1, 0, 1, 0, 0, 0),
  (1, .iconst 0, .iconst 0, 2, 0, 1, 0, 0, 0),
  (2, .bipush 19, .iconst 19, 4, 0, 2, 19, 0, 0),
  (4, .invokestatic 60, .invokestatic 60, 7, 0, 3, 0, 0, 0),
  (7, .ifCond .eq 14, .ifCond .eq 14, 10, 21, 3, 0, 0, 0),
  (10, .iload_n 2, .iload 2, 11, 0, 1, 0, 0, 0),
  (11, .iconst 0, .iconst 0, 12, 0, 1, 0, 0, 0),
  (12, .sipush 400, .iconst 400, 15, 0, 3, 400, 0, 0),
  (15, .invokestatic 60, .invokestatic 60, 18, 0, 3, 0, 0, 0),
  (18, .ifCond .ne 5, .ifCond .ne 5, 21, 23, 3, 0, 0, 0),
  (21, .iconst 0, .iconst 0, 22, 0, 1, 0, 0, 0),
  (22, .ireturn, .ireturn, 23, 0, 1, 0, 0, 0),
  (23, .aload_n 0, .aload 0, 24, 0, 1, 0, 0, 0),
  (24, .getfield 11, .getfield 1, 27, 4, 3, 0, 0, 233),
  (27, .iload_n 1, .iload 1, 28, 0, 1, 0, 0, 0),
  (28, .iload_n 2, .iload 2, 29, 0, 1, 0, 0, 0),
  (29, .iastore, .iastore, 30, 0, 1, 0, 0, 0),
  (30, .iconst 1, .iconst 1, 31, 0, 1, 1, 0, 0),
  (31, .ireturn, .ireturn, 32, 0, 1, 0, 0, 0)])
set_option maxRecDepth 100000 in
theorem okX4_tellCurve : okm mX4_tellCurve = true := by decide +kernel
def mX4_run : mt_T := (yX4_run, cX4_run, 4, none, [
  (0, .aload_n 0, .aload 0, 1, 0, 1, 0, 0, 0),
  (1, .iload_n 1, .iload 1, 2, 0, 1, 0, 0, 0),
  (2, .invokevirtual 25, .invokevirtual 25, 5, 0, 3, 0, 0, 0),
  (5, .aload_n 0, .aload 0, 6, 0, 1, 0, 0, 0),
  (6, .iconst 1, .iconst 1, 7, 0, 1, 1, 0, 0),
  (7, .putfield 21, .putfield 2, 10, 4, 3, 0, 0, 234),
  (10, .iconst 0, .iconst 0, 11, 0, 1, 0, 0, 0),
  (11, .istore_n 3, .istore 3, 12, 0, 1, 0, 0, 0),
  (12, .iload_n 3, .iload 3, 13, 0, 1, 0, 0, 0),
  (13, .bipush 20, .iconst 20, 15, 0, 2, 20, 0, 0),
  (15, .if_icmp .ge 62, .if_icmp .ge 62, 18, 77, 3, 0, 0, 0),
  (18, .aload_n 0, .aload 0, 19, 0, 1, 0, 0, 0),
  (19, .getfield 51, .getfield 10, 22, 4, 3, 0, 0, 242),
  (22, .ifCond .ne 55, .ifCond .ne 55, 25, 77, 3, 0, 0, 0),
  (25, .aload_n 0, .aload 0, 26, 0, 1, 0, 0, 0),
  (26, .iload_n 3, .iload 3, 27, 0, 1, 0, 0, 0),
  (27, .putfield 33, .putfield 4, 30, 4, 3, 0, 0, 236),
  (30, .aload_n 0, .aload 0, 31, 0, 1, 0, 0, 0),
  (31, .aload_n 0, .aload 0, 32, 0, 1, 0, 0, 0),
  (32, .getfield 54, .getfield 11, 35, 4, 3, 0, 0, 243),
  (35, .aload_n 0, .aload 0, 36, 0, 1, 0, 0, 0),
  (36, .getfield 36, .getfield 5, 39, 4, 3, 0, 0, 237),
  (39, .aload_n 0, .aload 0, 40, 0, 1, 0, 0, 0),
  (40, .getfield 11, .getfield 1, 43, 4, 3, 0, 0, 233),
  (43, .iload_n 3, .iload 3, 44, 0, 1, 0, 0, 0),
  (44, .iaload, .iaload, 45, 0, 1, 0, 0, 0),
  (45, .isub, .isub, 46, 0, 1, 0, 0, 0),
  (46, .invokestatic 64, .invokestatic 64, 49, 0, 3, 0, 0, 0),
  (49, .invokestatic 70, .invokestatic 70, 52, 0, 3, 0, 0, 0),
  (52, .putfield 54, .putfield 11, 55, 4, 3, 0, 0, 243),
  (55, .aload_n 0, .aload 0, 56, 0, 1, 0, 0, 0),
  (56, .aload_n 2, .aload 2, 57, 0, 1, 0, 0, 0),
  (57, .invokevirtual 74, .invokevirtual 74, 60, 0, 3, 0, 0, 0),
  (60, .aload_n 0, .aload 0, 61, 0, 1, 0, 0, 0),
  (61, .getfield 51, .getfield 10, 64, 4, 3, 0, 0, 242),
  (64, .ifCond .ne 7, .ifCond .ne 7, 67, 71, 3, 0, 0, 0),
  (67, .aload_n 0, .aload 0, 68, 0, 1, 0, 0, 0),
  (68, .invokevirtual 78, .invokevirtual 78, 71, 0, 3, 0, 0, 0),
  (71, .iinc 3 1, .iinc 3 1, 74, 0, 3, 1, 0, 0),
  (74, .goto (-62), .goto (-62), 12, 0, 3, 0, 0, 0),
  (77, .aload_n 0, .aload 0, 78, 0, 1, 0, 0, 0),
  (78, .sipush 600, .iconst 600, 81, 0, 3, 600, 0, 0),
  (81, .aload_n 0, .aload 0, 82, 0, 1, 0, 0, 0),
  (82, .getfield 36, .getfield 5, 85, 4, 3, 0, 0, 237),
  (85, .iconst 4, .iconst 4, 86, 0, 1, 4, 0, 0),
  (86, .idiv, .idiv, 87, 0, 1, 0, 0, 0),
  (87, .iconst 3, .iconst 3, 88, 0, 1, 3, 0, 0),
  (88, .aload_n 0, .aload 0, 89, 0, 1, 0, 0, 0),
  (89, .getfield 48, .getfield 9, 92, 4, 3, 0, 0, 241),
  (92, .imul, .imul, 93, 0, 1, 0, 0, 0),
  (93, .iadd, .iadd, 94, 0, 1, 0, 0, 0),
  (94, .invokestatic 81, .invokestatic 81, 97, 0, 3, 0, 0, 0),
  (97, .putfield 57, .putfield 0, 100, 4, 3, 0, 0, 231),
  (100, .return_, .return_, 101, 0, 1, 0, 0, 0)])
set_option maxRecDepth 100000 in
theorem okX4_run : okm mX4_run = true := by decide +kernel
def mX4_goThrough : mt_T := (yX4_goThrough, cX4_goThrough, 3, none, [
  (0, .iconst 0, .iconst 0, 1, 0, 1, 0, 0, 0),
  (1, .istore_n 2, .istore 2, 2, 0, 1, 0, 0, 0),
  (2, .iload_n 2, .iload 2, 3, 0, 1, 0, 0, 0),
  (3, .aload_n 1, .aload 1, 4, 0, 1, 0, 0, 0),
  (4, .getfield 84, .getfield 0, 7, 6, 3, 0, 0, 179),
  (7, .if_icmp .ge 41, .if_icmp .ge 41, 10, 48, 3, 0, 0, 0),
  (10, .aload_n 0, .aload 0, 11, 0, 1, 0, 0, 0),
  (11, .getfield 51, .getfield 10, 14, 4, 3, 0, 0, 242),
  (14, .ifCond .ne 34, .ifCond .ne 34, 17, 48, 3, 0, 0, 0),
  (17, .aload_n 1, .aload 1, 18, 0, 1, 0, 0, 0),
  (18, .iload_n 2, .iload 2, 19, 0, 1, 0, 0, 0),
  (19, .aload_n 0, .aload 0, 20, 0, 1, 0, 0, 0),
  (20, .invokevirtual 89, .invokevirtual 89, 23, 0, 3, 0, 0, 0),
  (23, .ifCond .eq 19, .ifCond .eq 19, 26, 42, 3, 0, 0, 0),
  (26, .aload_n 0, .aload 0, 27, 0, 1, 0, 0, 0),
  (27, .aload_n 1, .aload 1, 28, 0, 1, 0, 0, 0),
  (28, .getfield 93, .getfield 1, 31, 6, 3, 0, 0, 183),
  (31, .iload_n 2, .iload 2, 32, 0, 1, 0, 0, 0),
  (32, .iaload, .iaload, 33, 0, 1, 0, 0, 0),
  (33, .aload_n 1, .aload 1, 34, 0, 1, 0, 0, 0),
  (34, .getfield 96, .getfield 2, 37, 6, 3, 0, 0, 185),
  (37, .iload_n 2, .iload 2, 38, 0, 1, 0, 0, 0),
  (38, .iaload, .iaload, 39, 0, 1, 0, 0, 0),
  (39, .invokevirtual 99, .invokevirtual 99, 42, 0, 3, 0, 0, 0),
  (42, .iinc 2 1, .iinc 2 1, 45, 0, 3, 1, 0, 0),
  (45, .goto (-43), .goto (-43), 2, 0, 3, 0, 0, 0),
  (48, .return_, .return_, 49, 0, 1, 0, 0, 0)])
set_option maxRecDepth 100000 in
theorem okX4_goThrough : okm mX4_goThrough = true := by decide +kernel
def mX4_doAct : mt_T := (yX4_doAct, cX4_doAct, 3, none, [
  (0, .iload_n 1, .iload 1, 1, 0, 1, 0, 0, 0),
  (1, .iconst 3, .iconst 3, 2, 0, 1, 3, 0, 0),
  (2, .if_icmp .ne 11, .if_icmp .ne 11, 5, 13, 3, 0, 0, 0),
  (5, .aload_n 0, .aload 0, 6, 0, 1, 0, 0, 0),
  (6, .iload_n 2, .iload 2, 7, 0, 1, 0, 0, 0),
  (7, .putfield 39, .putfield 6, 10, 4, 3, 0, 0, 238),
  (10, .goto 21, .goto 21, 31, 0, 3, 0, 0, 0),
  (13, .iload_n 1, .iload 1, 14, 0, 1, 0, 0, 0),
  (14, .iconst 4, .iconst 4, 15, 0, 1, 4, 0, 0),
  (15, .if_icmp .ne 11, .if_icmp .ne 11, 18, 26, 3, 0, 0, 0),
  (18, .aload_n 0, .aload 0, 19, 0, 1, 0, 0, 0),
  (19, .iload_n 2, .iload 2, 20, 0, 1, 0, 0, 0),
  (20, .putfield 42, .putfield 7, 23, 4, 3, 0, 0, 239),
  (23, .goto 8, .goto 8, 31, 0, 3, 0, 0, 0),
  (26, .aload_n 0, .aload 0, 27, 0, 1, 0, 0, 0),
  (27, .iconst 1, .iconst 1, 28, 0, 1, 1, 0, 0),
  (28, .putfield 51, .putfield 10, 31, 4, 3, 0, 0, 242),
  (31, .return_, .return_, 32, 0, 1, 0, 0, 0)])
set_option maxRecDepth 100000 in
theorem okX4_doAct : okm mX4_doAct = true := by decide +kernel
def mX4_grow : mt_T := (yX4_grow, cX4_grow, 3, none, [
  (0, .aload_n 0, .aload 0, 1, 0, 1, 0, 0, 0),
  (1, .getfield 36, .getfield 5, 4, 4, 3, 0, 0, 237),
  (4, .iconst 4, .iconst 4, 5, 0, 1, 4, 0, 0),
  (5, .aload_n 0, .aload 0, 6, 0, 1, 0, 0, 0),
  (6, .getfield 39, .getfield 6, 9, 4, 3, 0, 0, 238),
  (9, .imul, .imul, 10, 0, 1, 0, 0, 0),
  (10, .iadd, .iadd, 11, 0, 1, 0, 0, 0),
  (11, .aload_n 0, .aload 0, 12, 0, 1, 0, 0, 0),
  (12, .getfield 36, .getfield 5, 15, 4, 3, 0, 0, 237),
  (15, .bipush 20, .iconst 20, 17, 0, 2, 20, 0, 0),
  (17, .isub, .isub, 18, 0, 1, 0, 0, 0),
  (18, .bipush 20, .iconst 20, 20, 0, 2, 20, 0, 0),
  (20, .idiv, .idiv, 21, 0, 1, 0, 0, 0),
  (21, .isub, .isub, 22, 0, 1, 0, 0, 0),
  (22, .aload_n 0, .aload 0, 23, 0, 1, 0, 0, 0),
  (23, .getfield 42, .getfield 7, 26, 4, 3, 0, 0, 239),
  (26, .isub, .isub, 27, 0, 1, 0, 0, 0),
  (27, .istore_n 1, .istore 1, 28, 0, 1, 0, 0, 0),
  (28, .bipush 20, .iconst 20, 30, 0, 2, 20, 0, 0),
  (30, .sipush 400, .iconst 400, 33, 0, 3, 400, 0, 0),
  (33, .iload_n 1, .iload 1, 34, 0, 1, 0, 0, 0),
  (34, .invokestatic 81, .invokestatic 81, 37, 0, 3, 0, 0, 0),
  (37, .invokestatic 70, .invokestatic 70, 40, 0, 3, 0, 0, 0),
  (40, .istore_n 2, .istore 2, 41, 0, 1, 0, 0, 0),
  (41, .aload_n 0, .aload 0, 42, 0, 1, 0, 0, 0),
  (42, .iload_n 2, .iload 2, 43, 0, 1, 0, 0, 0),
  (43, .aload_n 0, .aload 0, 44, 0, 1, 0, 0, 0),
  (44, .getfield 36, .getfield 5, 47, 4, 3, 0, 0, 237),
  (47, .isub, .isub, 48, 0, 1, 0, 0, 0),
  (48, .putfield 45, .putfield 8, 51, 4, 3, 0, 0, 240),
  (51, .aload_n 0, .aload 0, 52, 0, 1, 0, 0, 0),
  (52, .iload_n 2, .iload 2, 53, 0, 1, 0, 0, 0),
  (53, .putfield 36, .putfield 5, 56, 4, 3, 0, 0, 237),
  (56, .aload_n 0, .aload 0, 57, 0, 1, 0, 0, 0),
  (57, .dup, .dup, 58, 0, 1, 0, 0, 0),
  (58, .getfield 48, .getfield 9, 61, 4, 3, 0, 0, 241),
  (61, .iconst 1, .iconst 1, 62, 0, 1, 1, 0, 0),
  (62, .iadd, .iadd, 63, 0, 1, 0, 0, 0),
  (63, .putfield 48, .putfield 9, 66, 4, 3, 0, 0, 241),
  (66, .return_, .return_, 67, 0, 1, 0, 0, 0)])
set_option maxRecDepth 100000 in
theorem okX4_grow : okm mX4_grow = true := by decide +kernel
def mX4_valueNow : mt_T := (yX4_valueNow, cX4_valueNow, 2, (some .int), [
  (0, .iload_n 1, .iload 1, 1, 0, 1, 0, 0, 0),
  (1, .tableswitch 103 3 11 #[93, 98, 103, 103, 103, 51, 56, 61, 88], .tableswitch 103 3 11 #[93, 98, 103, 103, 103, 51, 56, 61, 88], 52, 0, 51, 0, 0, 0),
  (52, .aload_n 0, .aload 0, 53, 0, 1, 0, 0, 0),
  (53, .getfield 33, .getfield 4, 56, 4, 3, 0, 0, 236),
  (56, .ireturn, .ireturn, 57, 0, 1, 0, 0, 0),
  (57, .aload_n 0, .aload 0, 58, 0, 1, 0, 0, 0),
  (58, .getfield 36, .getfield 5, 61, 4, 3, 0, 0, 237),
  (61, .ireturn, .ireturn, 62, 0, 1, 0, 0, 0),
  (62, .aload_n 0, .aload 0, 63, 0, 1, 0, 0, 0),
  (63, .getfield 33, .getfield 4, 66, 4, 3, 0, 0, 236),
  (66, .iconst 0, .iconst 0, 67, 0, 1, 0, 0, 0),
  (67, .bipush 19, .iconst 19, 69, 0, 2, 19, 0, 0),
  (69, .invokestatic 60, .invokestatic 60, 72, 0, 3, 0, 0, 0),
  (72, .ifCond .eq 15, .ifCond .eq 15, 75, 87, 3, 0, 0, 0),
  (75, .aload_n 0, .aload 0, 76, 0, 1, 0, 0, 0),
  (76, .getfield 11, .getfield 1, 79, 4, 3, 0, 0, 233),
  (79, .aload_n 0, .aload 0, 80, 0, 1, 0, 0, 0),
  (80, .getfield 33, .getfield 4, 83, 4, 3, 0, 0, 236),
  (83, .iaload, .iaload, 84, 0, 1, 0, 0, 0),
  (84, .goto 4, .goto 4, 88, 0, 3, 0, 0, 0),
  (87, .iconst 0, .iconst 0, 88, 0, 1, 0, 0, 0),
  (88, .ireturn, .ireturn, 89, 0, 1, 0, 0, 0),
  (89, .aload_n 0, .aload 0, 90, 0, 1, 0, 0, 0),
  (90, .getfield 45, .getfield 8, 93, 4, 3, 0, 0, 240),
  (93, .ireturn, .ireturn, 94, 0, 1, 0, 0, 0),
  (94, .aload_n 0, .aload 0, 95, 0, 1, 0, 0, 0),
  (95, .getfield 39, .getfield 6, 98, 4, 3, 0, 0, 238),
  (98, .ireturn, .ireturn, 99, 0, 1, 0, 0, 0),
  (99, .aload_n 0, .aload 0, 100, 0, 1, 0, 0, 0),
  (100, .getfield 42, .getfield 7, 103, 4, 3, 0, 0, 239),
  (103, .ireturn, .ireturn, 104, 0, 1, 0, 0, 0),
  (104, .aload_n 0, .aload 0, 105, 0, 1, 0, 0, 0),
  (105, .getfield 29, .getfield 3, 108, 4, 3, 0, 0, 235),
  (108, .ireturn, .ireturn, 109, 0, 1, 0, 0, 0)])
set_option maxRecDepth 100000 in
theorem okX4_valueNow : okm mX4_valueNow = true := by decide +kernel
def mX4_tell : mt_T := (yX4_tell, cX4_tell, 2, (some .int), [
  (0, .aload_n 0, .aload 0, 1, 0, 1, 0, 0, 0),
  (1, .getfield 21, .getfield 2, 4, 4, 3, 0, 0, 234),
  (4, .ifCond .ne 5, .ifCond .ne 5, 7, 9, 3, 0, 0, 0),
  (7, .iconst (-1), .iconst (-1), 8, 0, 1, (-1), 0, 0),
  (8, .ireturn, .ireturn, 9, 0, 1, 0, 0, 0),
  (9, .iload_n 1, .iload 1, 10, 0, 1, 0, 0, 0),
  (10, .tableswitch 67 0 4 #[34, 39, 44, 49, 62], .tableswitch 67 0 4 #[34, 39, 44, 49, 62], 44, 0, 34, 0, 0, 0),
  (44, .aload_n 0, .aload 0, 45, 0, 1, 0, 0, 0),
  (45, .getfield 48, .getfield 9, 48, 4, 3, 0, 0, 241),
  (48, .ireturn, .ireturn, 49, 0, 1, 0, 0, 0),
  (49, .aload_n 0, .aload 0, 50, 0, 1, 0, 0, 0),
  (50, .getfield 36, .getfield 5, 53, 4, 3, 0, 0, 237),
  (53, .ireturn, .ireturn, 54, 0, 1, 0, 0, 0),
  (54, .aload_n 0, .aload 0, 55, 0, 1, 0, 0, 0),
  (55, .getfield 57, .getfield 0, 58, 4, 3, 0, 0, 231),
  (58, .ireturn, .ireturn, 59, 0, 1, 0, 0, 0),
  (59, .aload_n 0, .aload 0, 60, 0, 1, 0, 0, 0),
  (60, .getfield 51, .getfield 10, 63, 4, 3, 0, 0, 242),
  (63, .ifCond .eq 7, .ifCond .eq 7, 66, 70, 3, 0, 0, 0),
  (66, .iconst 1, .iconst 1, 67, 0, 1, 1, 0, 0),
  (67, .goto 4, .goto 4, 71, 0, 3, 0, 0, 0),
  (70, .iconst 0, .iconst 0, 71, 0, 1, 0, 0, 0),
  (71, .ireturn, .ireturn, 72, 0, 1, 0, 0, 0),
  (72, .aload_n 0, .aload 0, 73, 0, 1, 0, 0, 0),
  (73, .getfield 54, .getfield 11, 76, 4, 3, 0, 0, 243),
  (76, .ireturn, .ireturn, 77, 0, 1, 0, 0, 0),
  (77, .iconst (-1), .iconst (-1), 78, 0, 1, (-1), 0, 0),
  (78, .ireturn, .ireturn, 79, 0, 1, 0, 0, 0)])
set_option maxRecDepth 100000 in
theorem okX4_tell : okm mX4_tell = true := by decide +kernel
def mX5_init : mt_T := (yX5_init, cX5_init, 2, none, [
  (0, .aload_n 0, .aload 0, 1, 0, 1, 0, 0, 0),
  (1, .invokespecial 1, .invokespecial 1, 4, 0, 3, 0, 0, 0),
  (4, .aload_n 0, .aload 0, 5, 0, 1, 0, 0, 0),
  (5, .new 7, .new 7, 8, 0, 3, 0, 0, 0),
  (8, .dup, .dup, 9, 0, 1, 0, 0, 0),
  (9, .aload_n 1, .aload 1, 10, 0, 1, 0, 0, 0),
  (10, .invokespecial 9, .invokespecial 9, 13, 0, 3, 0, 0, 0),
  (13, .putfield 12, .putfield 0, 16, 5, 3, 0, 0, 208),
  (16, .aload_n 0, .aload 0, 17, 0, 1, 0, 0, 0),
  (17, .new 18, .new 18, 20, 0, 3, 0, 0, 0),
  (20, .dup, .dup, 21, 0, 1, 0, 0, 0),
  (21, .invokespecial 20, .invokespecial 20, 24, 0, 3, 0, 0, 0),
  (24, .putfield 21, .putfield 1, 27, 5, 3, 0, 0, 209),
  (27, .aload_n 0, .aload 0, 28, 0, 1, 0, 0, 0),
  (28, .iconst 0, .iconst 0, 29, 0, 1, 0, 0, 0),
  (29, .putfield 25, .putfield 2, 32, 5, 3, 0, 0, 210),
  (32, .return_, .return_, 33, 0, 1, 0, 0, 0)])
set_option maxRecDepth 100000 in
theorem okX5_init : okm mX5_init = true := by decide +kernel
def mX5_exchange : mt_T := (yX5_exchange, cX5_exchange, 3, (some (.object "RoastHouse$Rules")), [
  (0, .aload_n 0, .aload 0, 1, 0, 1, 0, 0, 0),
  (1, .getfield 21, .getfield 1, 4, 5, 3, 0, 0, 209),
  (4, .astore_n 2, .astore 2, 5, 0, 1, 0, 0, 0),
  (5, .aload_n 0, .aload 0, 6, 0, 1, 0, 0, 0),
  (6, .aload_n 1, .aload 1, 7, 0, 1, 0, 0, 0),
  (7, .putfield 21, .putfield 1, 10, 5, 3, 0, 0, 209),
  (10, .aload_n 2, .aload 2, 11, 0, 1, 0, 0, 0),
  (11, .areturn, .areturn, 12, 0, 1, 0, 0, 0)])
set_option maxRecDepth 100000 in
theorem okX5_exchange : okm mX5_exchange = true := by decide +kernel
def mX5_readTape : mt_T := (yX5_readTape, cX5_readTape, 2, (some .int), [
  (0, .aload_n 0, .aload 0, 1, 0, 1, 0, 0, 0),
  (1, .getfield 21, .getfield 1, 4, 5, 3, 0, 0, 209),
  (4, .invokevirtual 29, .invokevirtual 29, 7, 0, 3, 0, 0, 0),
  (7, .aload_n 0, .aload 0, 8, 0, 1, 0, 0, 0),
  (8, .iconst 0, .iconst 0, 9, 0, 1, 0, 0, 0),
  (9, .putfield 25, .putfield 2, 12, 5, 3, 0, 0, 210),
  (12, .aload_n 0, .aload 0, 13, 0, 1, 0, 0, 0),
  (13, .getfield 12, .getfield 0, 16, 5, 3, 0, 0, 208),
  (16, .invokevirtual 32, .invokevirtual 32, 19, 0, 3, 0, 0, 0),
  (19, .aload_n 0, .aload 0, 20, 0, 1, 0, 0, 0),
  (20, .getfield 12, .getfield 0, 23, 5, 3, 0, 0, 208),
  (23, .invokevirtual 35, .invokevirtual 35, 26, 0, 3, 0, 0, 0),
  (26, .iconst 0, .iconst 0, 27, 0, 1, 0, 0, 0),
  (27, .istore_n 1, .istore 1, 28, 0, 1, 0, 0, 0),
  (28, .iload_n 1, .iload 1, 29, 0, 1, 0, 0, 0),
  (29, .bipush 16, .iconst 16, 31, 0, 2, 16, 0, 0),
  (31, .if_icmp .gt 31, .if_icmp .gt 31, 34, 62, 3, 0, 0, 0),
  (34, .aload_n 0, .aload 0, 35, 0, 1, 0, 0, 0),
  (35, .getfield 12, .getfield 0, 38, 5, 3, 0, 0, 208),
  (38, .getfield 38, .getfield 1, 41, 8, 3, 0, 0, 155),
  (41, .ifCond .eq 21, .ifCond .eq 21, 44, 62, 3, 0, 0, 0),
  (44, .aload_n 0, .aload 0, 45, 0, 1, 0, 0, 0),
  (45, .invokevirtual 41, .invokevirtual 41, 48, 0, 3, 0, 0, 0),
  (48, .ifCond .ne 8, .ifCond .ne 8, 51, 56, 3, 0, 0, 0),
  (51, .aload_n 0, .aload 0, 52, 0, 1, 0, 0, 0),
  (52, .getfield 25, .getfield 2, 55, 5, 3, 0, 0, 210),
  (55, .ireturn, .ireturn, 56, 0, 1, 0, 0, 0),
  (56, .iinc 1 1, .iinc 1 1, 59, 0, 3, 1, 0, 0),
  (59, .goto (-31), .goto (-31), 28, 0, 3, 0, 0, 0),
  (62, .aload_n 0, .aload 0, 63, 0, 1, 0, 0, 0),
  (63, .getfield 25, .getfield 2, 66, 5, 3, 0, 0, 210),
  (66, .ireturn, .ireturn, 67, 0, 1, 0, 0, 0)])
set_option maxRecDepth 100000 in
theorem okX5_readTape : okm mX5_readTape = true := by decide +kernel
def mX5_wrong : mt_T := (yX5_wrong, cX5_wrong, 2, (some .boolean), [
  (0, .aload_n 0, .aload 0, 1, 0, 1, 0, 0, 0),
  (1, .iload_n 1, .iload 1, 2, 0, 1, 0, 0, 0),
  (2, .bipush 16, .iconst 16, 4, 0, 2, 16, 0, 0),
  (4, .aload_n 0, .aload 0, 5, 0, 1, 0, 0, 0),
  (5, .getfield 12, .getfield 0, 8, 5, 3, 0, 0, 208),
  (8, .getfield 45, .getfield 2, 11, 8, 3, 0, 0, 157),
  (11, .imul, .imul, 12, 0, 1, 0, 0, 0),
  (12, .iadd, .iadd, 13, 0, 1, 0, 0, 0),
  (13, .putfield 25, .putfield 2, 16, 5, 3, 0, 0, 210),
  (16, .iconst 0, .iconst 0, 17, 0, 1, 0, 0, 0),
  (17, .ireturn, .ireturn, 18, 0, 1, 0, 0, 0)])
set_option maxRecDepth 100000 in
theorem okX5_wrong : okm mX5_wrong = true := by decide +kernel
def mX5_pass : mt_T := (yX5_pass, cX5_pass, 2, (some .boolean), [
  (0, .aload_n 0, .aload 0, 1, 0, 1, 0, 0, 0),
  (1, .getfield 12, .getfield 0, 4, 5, 3, 0, 0, 208),
  (4, .getfield 38, .getfield 1, 7, 8, 3, 0, 0, 155),
  (7, .iload_n 1, .iload 1, 8, 0, 1, 0, 0, 0),
  (8, .if_icmp .eq 9, .if_icmp .eq 9, 11, 17, 3, 0, 0, 0),
  (11, .aload_n 0, .aload 0, 12, 0, 1, 0, 0, 0),
  (12, .iconst 1, .iconst 1, 13, 0, 1, 1, 0, 0),
  (13, .invokevirtual 48, .invokevirtual 48, 16, 0, 3, 0, 0, 0),
  (16, .ireturn, .ireturn, 17, 0, 1, 0, 0, 0),
  (17, .aload_n 0, .aload 0, 18, 0, 1, 0, 0, 0),
  (18, .getfield 12, .getfield 0, 21, 5, 3, 0, 0, 208),
  (21, .invokevirtual 35, .invokevirtual 35, 24, 0, 3, 0, 0, 0),
  (24, .iconst 1, .iconst 1, 25, 0, 1, 1, 0, 0),
  (25, .ireturn, .ireturn, 26, 0, 1, 0, 0, 0)])
set_option maxRecDepth 100000 in
theorem okX5_pass : okm mX5_pass = true := by decide +kernel
def mX5_readLine : mt_T := (yX5_readLine, cX5_readLine, 3, (some .boolean), [
  (0, .aload_n 0, .aload 0, 1, 0, 1, 0, 0, 0),
  (1, .getfield 12, .getfield 0, 4, 5, 3, 0, 0, 208),
  (4, .getfield 38, .getfield 1, 7, 8, 3, 0, 0, 155),
  (7, .istore_n 1, .istore 1, 8, 0, 1, 0, 0, 0),
  (8, .iload_n 1, .iload 1, 9, 0, 1, 0, 0, 0),
  (9, .iconst 3, .iconst 3, 10, 0, 1, 3, 0, 0),
  (10, .if_icmp .eq 19, .if_icmp .eq 19, 13, 29, 3, 0, 0, 0),
  (13, .iload_n 1, .iload 1, 14, 0, 1, 0, 0, 0),
  (14, .iconst 4, .iconst 4, 15, 0, 1, 4, 0, 0),
  (15, .if_icmp .eq 14, .if_icmp .eq 14, 18, 29, 3, 0, 0, 0),
  (18, .iload_n 1, .iload 1, 19, 0, 1, 0, 0, 0),
  (19, .iconst 5, .iconst 5, 20, 0, 1, 5, 0, 0),
  (20, .if_icmp .eq 9, .if_icmp .eq 9, 23, 29, 3, 0, 0, 0),
  (23, .aload_n 0, .aload 0, 24, 0, 1, 0, 0, 0),
  (24, .iconst 1, .iconst 1, 25, 0, 1, 1, 0, 0),
  (25, .invokevirtual 48, .invokevirtual 48, 28, 0, 3, 0, 0, 0),
  (28, .ireturn, .ireturn, 29, 0, 1, 0, 0, 0),
  (29, .aload_n 0, .aload 0, 30, 0, 1, 0, 0, 0),
  (30, .getfield 21, .getfield 1, 33, 5, 3, 0, 0, 209),
  (33, .getfield 52, .getfield 0, 36, 6, 3, 0, 0, 180),
  (36, .bipush 16, .iconst 16, 38, 0, 2, 16, 0, 0),
  (38, .if_icmp .lt 9, .if_icmp .lt 9, 41, 47, 3, 0, 0, 0),
  (41, .aload_n 0, .aload 0, 42, 0, 1, 0, 0, 0),
  (42, .iconst 5, .iconst 5, 43, 0, 1, 5, 0, 0),
  (43, .invokevirtual 48, .invokevirtual 48, 46, 0, 3, 0, 0, 0),
  (46, .ireturn, .ireturn, 47, 0, 1, 0, 0, 0),
  (47, .aload_n 0, .aload 0, 48, 0, 1, 0, 0, 0),
  (48, .getfield 12, .getfield 0, 51, 5, 3, 0, 0, 208),
  (51, .invokevirtual 35, .invokevirtual 35, 54, 0, 3, 0, 0, 0),
  (54, .iconst 0, .iconst 0, 55, 0, 1, 0, 0, 0),
  (55, .istore_n 2, .istore 2, 56, 0, 1, 0, 0, 0),
  (56, .iload_n 1, .iload 1, 57, 0, 1, 0, 0, 0),
  (57, .iconst 5, .iconst 5, 58, 0, 1, 5, 0, 0),
  (58, .if_icmp .eq 20, .if_icmp .eq 20, 61, 78, 3, 0, 0, 0),
  (61, .aload_n 0, .aload 0, 62, 0, 1, 0, 0, 0),
  (62, .getfield 12, .getfield 0, 65, 5, 3, 0, 0, 208),
  (65, .getfield 55, .getfield 3, 68, 8, 3, 0, 0, 159),
  (68, .istore_n 2, .istore 2, 69, 0, 1, 0, 0, 0),
  (69, .aload_n 0, .aload 0, 70, 0, 1, 0, 0, 0),
  (70, .invokevirtual 58, .invokevirtual 58, 73, 0, 3, 0, 0, 0),
  (73, .ifCond .ne 5, .ifCond .ne 5, 76, 78, 3, 0, 0, 0),
  (76, .iconst 0, .iconst 0, 77, 0, 1, 0, 0, 0),
  (77, .ireturn, .ireturn, 78, 0, 1, 0, 0, 0),
  (78, .aload_n 0, .aload 0, 79, 0, 1, 0, 0, 0),
  (79, .bipush 6, .iconst 6, 81, 0, 2, 6, 0, 0),
  (81, .invokevirtual 61, .invokevirtual 61, 84, 0, 3, 0, 0, 0),
  (84, .ifCond .eq 20, .ifCond .eq 20, 87, 104, 3, 0, 0, 0),
  (87, .aload_n 0, .aload 0, 88, 0, 1, 0, 0, 0),
  (88, .iconst 0, .iconst 0, 89, 0, 1, 0, 0, 0),
  (89, .invokevirtual 64, .invokevirtual 64, 92, 0, 3, 0, 0, 0),
  (92, .ifCond .eq 12, .ifCond .eq 12, 95, 104, 3, 0, 0, 0),
  (95, .aload_n 0, .aload 0, 96, 0, 1, 0, 0, 0),
  (96, .bipush 19, .iconst 19, 98, 0, 2, 19, 0, 0),
  (98, .invokevirtual 61, .invokevirtual 61, 101, 0, 3, 0, 0, 0),
  (101, .ifCond .ne 5, .ifCond .ne 5, 104, 106, 3, 0, 0, 0),
  (104, .iconst 0, .iconst 0, 105, 0, 1, 0, 0, 0),
  (105, .ireturn, .ireturn, 106, 0, 1, 0, 0, 0),
  (106, .aload_n 0, .aload 0, 107, 0, 1, 0, 0, 0),
  (107, .getfield 21, .getfield 1, 110, 5, 3, 0, 0, 209),
  (110, .iload_n 1, .iload 1, 111, 0, 1, 0, 0, 0),
  (111, .iload_n 2, .iload 2, 112, 0, 1, 0, 0, 0),
  (112, .invokevirtual 67, .invokevirtual 67, 115, 0, 3, 0, 0, 0),
  (115, .iconst 1, .iconst 1, 116, 0, 1, 1, 0, 0),
  (116, .ireturn, .ireturn, 117, 0, 1, 0, 0, 0)])
set_option maxRecDepth 100000 in
theorem okX5_readLine : okm mX5_readLine = true := by decide +kernel
def mX5_passAmount : mt_T := (yX5_passAmount, cX5_passAmount, 1, (some .boolean), [
  (0, .aload_n 0, .aload 0, 1, 0, 1, 0, 0, 0),
  (1, .getfield 12, .getfield 0, 4, 5, 3, 0, 0, 208),
  (4, .getfield 38, .getfield 1, 7, 8, 3, 0, 0, 155),
  (7, .iconst 2, .iconst 2, 8, 0, 1, 2, 0, 0),
  (8, .if_icmp .ne 21, .if_icmp .ne 21, 11, 29, 3, 0, 0, 0),
  (11, .aload_n 0, .aload 0, 12, 0, 1, 0, 0, 0),
  (12, .getfield 12, .getfield 0, 15, 5, 3, 0, 0, 208),
  (15, .getfield 55, .getfield 3, 18, 8, 3, 0, 0, 159),
  (18, .bipush 9, .iconst 9, 20, 0, 2, 9, 0, 0),
  (20, .if_icmp .le 9, .if_icmp .le 9, 23, 29, 3, 0, 0, 0),
  (23, .aload_n 0, .aload 0, 24, 0, 1, 0, 0, 0),
  (24, .iconst 4, .iconst 4, 25, 0, 1, 4, 0, 0),
  (25, .invokevirtual 48, .invokevirtual 48, 28, 0, 3, 0, 0, 0),
  (28, .ireturn, .ireturn, 29, 0, 1, 0, 0, 0),
  (29, .aload_n 0, .aload 0, 30, 0, 1, 0, 0, 0),
  (30, .iconst 2, .iconst 2, 31, 0, 1, 2, 0, 0),
  (31, .invokevirtual 61, .invokevirtual 61, 34, 0, 3, 0, 0, 0),
  (34, .ireturn, .ireturn, 35, 0, 1, 0, 0, 0)])
set_option maxRecDepth 100000 in
theorem okX5_passAmount : okm mX5_passAmount = true := by decide +kernel
def mX5_readTests : mt_T := (yX5_readTests, cX5_readTests, 3, (some .boolean), [
  (0, .aload_n 0, .aload 0, 1, 0, 1, 0, 0, 0),
  (1, .iload_n 1, .iload 1, 2, 0, 1, 0, 0, 0),
  (2, .invokevirtual 71, .invokevirtual 71, 5, 0, 3, 0, 0, 0),
  (5, .ifCond .ne 5, .ifCond .ne 5, 8, 10, 3, 0, 0, 0),
  (8, .iconst 0, .iconst 0, 9, 0, 1, 0, 0, 0),
  (9, .ireturn, .ireturn, 10, 0, 1, 0, 0, 0),
  (10, .iconst 0, .iconst 0, 11, 0, 1, 0, 0, 0),
  (11, .istore_n 2, .istore 2, 12, 0, 1, 0, 0, 0),
  (12, .iload_n 2, .iload 2, 13, 0, 1, 0, 0, 0),
  (13, .sipush 600, .iconst 600, 16, 0, 3, 600, 0, 0),
  (16, .if_icmp .ge 47, .if_icmp .ge 47, 19, 63, 3, 0, 0, 0),
  (19, .aload_n 0, .aload 0, 20, 0, 1, 0, 0, 0),
  (20, .getfield 12, .getfield 0, 23, 5, 3, 0, 0, 208),
  (23, .getfield 38, .getfield 1, 26, 8, 3, 0, 0, 155),
  (26, .bipush 7, .iconst 7, 28, 0, 2, 7, 0, 0),
  (28, .if_icmp .ne 35, .if_icmp .ne 35, 31, 63, 3, 0, 0, 0),
  (31, .aload_n 0, .aload 0, 32, 0, 1, 0, 0, 0),
  (32, .getfield 12, .getfield 0, 35, 5, 3, 0, 0, 208),
  (35, .invokevirtual 35, .invokevirtual 35, 38, 0, 3, 0, 0, 0),
  (38, .aload_n 0, .aload 0, 39, 0, 1, 0, 0, 0),
  (39, .iload_n 1, .iload 1, 40, 0, 1, 0, 0, 0),
  (40, .invokevirtual 71, .invokevirtual 71, 43, 0, 3, 0, 0, 0),
  (43, .ifCond .ne 5, .ifCond .ne 5, 46, 48, 3, 0, 0, 0),
  (46, .iconst 0, .iconst 0, 47, 0, 1, 0, 0, 0),
  (47, .ireturn, .ireturn, 48, 0, 1, 0, 0, 0),
  (48, .aload_n 0, .aload 0, 49, 0, 1, 0, 0, 0),
  (49, .getfield 21, .getfield 1, 52, 5, 3, 0, 0, 209),
  (52, .bipush 7, .iconst 7, 54, 0, 2, 7, 0, 0),
  (54, .invokevirtual 76, .invokevirtual 76, 57, 0, 3, 0, 0, 0),
  (57, .iinc 2 1, .iinc 2 1, 60, 0, 3, 1, 0, 0),
  (60, .goto (-48), .goto (-48), 12, 0, 3, 0, 0, 0),
  (63, .iconst 1, .iconst 1, 64, 0, 1, 1, 0, 0),
  (64, .ireturn, .ireturn, 65, 0, 1, 0, 0, 0)])
set_option maxRecDepth 100000 in
theorem okX5_readTests : okm mX5_readTests = true := by decide +kernel
def mX5_readTest : mt_T := (yX5_readTest, cX5_readTest, 3, (some .boolean), [
  (0, .aload_n 0, .aload 0, 1, 0, 1, 0, 0, 0),
  (1, .iload_n 1, .iload 1, 2, 0, 1, 0, 0, 0),
  (2, .invokevirtual 80, .invokevirtual 80, 5, 0, 3, 0, 0, 0),
  (5, .ifCond .ne 5, .ifCond .ne 5, 8, 10, 3, 0, 0, 0),
  (8, .iconst 0, .iconst 0, 9, 0, 1, 0, 0, 0),
  (9, .ireturn, .ireturn, 10, 0, 1, 0, 0, 0),
  (10, .aload_n 0, .aload 0, 11, 0, 1, 0, 0, 0),
  (11, .getfield 12, .getfield 0, 14, 5, 3, 0, 0, 208),
  (14, .getfield 38, .getfield 1, 17, 8, 3, 0, 0, 155),
  (17, .istore_n 2, .istore 2, 18, 0, 1, 0, 0, 0),
  (18, .iload_n 2, .iload 2, 19, 0, 1, 0, 0, 0),
  (19, .bipush 15, .iconst 15, 21, 0, 2, 15, 0, 0),
  (21, .if_icmp .eq 9, .if_icmp .eq 9, 24, 30, 3, 0, 0, 0),
  (24, .iload_n 2, .iload 2, 25, 0, 1, 0, 0, 0),
  (25, .bipush 16, .iconst 16, 27, 0, 2, 16, 0, 0),
  (27, .if_icmp .ne 28, .if_icmp .ne 28, 30, 55, 3, 0, 0, 0),
  (30, .aload_n 0, .aload 0, 31, 0, 1, 0, 0, 0),
  (31, .getfield 12, .getfield 0, 34, 5, 3, 0, 0, 208),
  (34, .invokevirtual 35, .invokevirtual 35, 37, 0, 3, 0, 0, 0),
  (37, .aload_n 0, .aload 0, 38, 0, 1, 0, 0, 0),
  (38, .iload_n 1, .iload 1, 39, 0, 1, 0, 0, 0),
  (39, .invokevirtual 80, .invokevirtual 80, 42, 0, 3, 0, 0, 0),
  (42, .ifCond .ne 5, .ifCond .ne 5, 45, 47, 3, 0, 0, 0),
  (45, .iconst 0, .iconst 0, 46, 0, 1, 0, 0, 0),
  (46, .ireturn, .ireturn, 47, 0, 1, 0, 0, 0),
  (47, .aload_n 0, .aload 0, 48, 0, 1, 0, 0, 0),
  (48, .getfield 21, .getfield 1, 51, 5, 3, 0, 0, 209),
  (51, .iload_n 2, .iload 2, 52, 0, 1, 0, 0, 0),
  (52, .invokevirtual 76, .invokevirtual 76, 55, 0, 3, 0, 0, 0),
  (55, .iconst 1, .iconst 1, 56, 0, 1, 1, 0, 0),
  (56, .ireturn, .ireturn, 57, 0, 1, 0, 0, 0)])
set_option maxRecDepth 100000 in
theorem okX5_readTest : okm mX5_readTest = true := by decide +kernel
def mX5_readSum : mt_T := (yX5_readSum, cX5_readSum, 4, (some .boolean), [
  (0, .aload_n 0, .aload 0, 1, 0, 1, 0, 0, 0),
  (1, .iload_n 1, .iload 1, 2, 0, 1, 0, 0, 0),
  (2, .invokevirtual 83, .invokevirtual 83, 5, 0, 3, 0, 0, 0),
  (5, .ifCond .ne 5, .ifCond .ne 5, 8, 10, 3, 0, 0, 0),
  (8, .iconst 0, .iconst 0, 9, 0, 1, 0, 0, 0),
  (9, .ireturn, .ireturn, 10, 0, 1, 0, 0, 0),
  (10, .iconst 0, .iconst 0, 11, 0, 1, 0, 0, 0),
  (11, .istore_n 2, .istore 2, 12, 0, 1, 0, 0, 0),
  (12, .iload_n 2, .iload 2, 13, 0, 1, 0, 0, 0),
  (13, .sipush 600, .iconst 600, 16, 0, 3, 600, 0, 0),
  (16, .if_icmp .ge 55, .if_icmp .ge 55, 19, 71, 3, 0, 0, 0),
  (19, .aload_n 0, .aload 0, 20, 0, 1, 0, 0, 0),
  (20, .getfield 12, .getfield 0, 23, 5, 3, 0, 0, 208),
  (23, .getfield 38, .getfield 1, 26, 8, 3, 0, 0, 155),
  (26, .invokestatic 86, .invokestatic 86, 29, 0, 3, 0, 0, 0),
  (29, .ifCond .eq 42, .ifCond .eq 42, 32, 71, 3, 0, 0, 0),
  (32, .aload_n 0, .aload 0, 33, 0, 1, 0, 0, 0),
  (33, .getfield 12, .getfield 0, 36, 5, 3, 0, 0, 208),
  (36, .getfield 38, .getfield 1, 39, 8, 3, 0, 0, 155),
  (39, .istore_n 3, .istore 3, 40, 0, 1, 0, 0, 0),
  (40, .aload_n 0, .aload 0, 41, 0, 1, 0, 0, 0),
  (41, .getfield 12, .getfield 0, 44, 5, 3, 0, 0, 208),
  (44, .invokevirtual 35, .invokevirtual 35, 47, 0, 3, 0, 0, 0),
  (47, .aload_n 0, .aload 0, 48, 0, 1, 0, 0, 0),
  (48, .iload_n 1, .iload 1, 49, 0, 1, 0, 0, 0),
  (49, .invokevirtual 83, .invokevirtual 83, 52, 0, 3, 0, 0, 0),
  (52, .ifCond .ne 5, .ifCond .ne 5, 55, 57, 3, 0, 0, 0),
  (55, .iconst 0, .iconst 0, 56, 0, 1, 0, 0, 0),
  (56, .ireturn, .ireturn, 57, 0, 1, 0, 0, 0),
  (57, .aload_n 0, .aload 0, 58, 0, 1, 0, 0, 0),
  (58, .getfield 21, .getfield 1, 61, 5, 3, 0, 0, 209),
  (61, .iload_n 3, .iload 3, 62, 0, 1, 0, 0, 0),
  (62, .invokevirtual 76, .invokevirtual 76, 65, 0, 3, 0, 0, 0),
  (65, .iinc 2 1, .iinc 2 1, 68, 0, 3, 1, 0, 0),
  (68, .goto (-56), .goto (-56), 12, 0, 3, 0, 0, 0),
  (71, .iconst 1, .iconst 1, 72, 0, 1, 1, 0, 0),
  (72, .ireturn, .ireturn, 73, 0, 1, 0, 0, 0)])
set_option maxRecDepth 100000 in
theorem okX5_readSum : okm mX5_readSum = true := by decide +kernel
def mX5_readPart : mt_T := (yX5_readPart, cX5_readPart, 4, (some .boolean), [
  (0, .aload_n 0, .aload 0, 1, 0, 1, 0, 0, 0),
  (1, .getfield 12, .getfield 0, 4, 5, 3, 0, 0, 208),
  (4, .getfield 38, .getfield 1, 7, 8, 3, 0, 0, 155),
  (7, .istore_n 2, .istore 2, 8, 0, 1, 0, 0, 0),
  (8, .iload_n 2, .iload 2, 9, 0, 1, 0, 0, 0),
  (9, .iconst 2, .iconst 2, 10, 0, 1, 2, 0, 0),
  (10, .if_icmp .eq 22, .if_icmp .eq 22, 13, 32, 3, 0, 0, 0),
  (13, .iload_n 2, .iload 2, 14, 0, 1, 0, 0, 0),
  (14, .bipush 13, .iconst 13, 16, 0, 2, 13, 0, 0),
  (16, .if_icmp .eq 16, .if_icmp .eq 16, 19, 32, 3, 0, 0, 0),
  (19, .iload_n 2, .iload 2, 20, 0, 1, 0, 0, 0),
  (20, .invokestatic 89, .invokestatic 89, 23, 0, 3, 0, 0, 0),
  (23, .ifCond .ne 9, .ifCond .ne 9, 26, 32, 3, 0, 0, 0),
  (26, .aload_n 0, .aload 0, 27, 0, 1, 0, 0, 0),
  (27, .iconst 1, .iconst 1, 28, 0, 1, 1, 0, 0),
  (28, .invokevirtual 48, .invokevirtual 48, 31, 0, 3, 0, 0, 0),
  (31, .ireturn, .ireturn, 32, 0, 1, 0, 0, 0),
  (32, .iload_n 1, .iload 1, 33, 0, 1, 0, 0, 0),
  (33, .iconst 5, .iconst 5, 34, 0, 1, 5, 0, 0),
  (34, .if_icmp .lt 9, .if_icmp .lt 9, 37, 43, 3, 0, 0, 0),
  (37, .aload_n 0, .aload 0, 38, 0, 1, 0, 0, 0),
  (38, .iconst 5, .iconst 5, 39, 0, 1, 5, 0, 0),
  (39, .invokevirtual 48, .invokevirtual 48, 42, 0, 3, 0, 0, 0),
  (42, .ireturn, .ireturn, 43, 0, 1, 0, 0, 0),
  (43, .aload_n 0, .aload 0, 44, 0, 1, 0, 0, 0),
  (44, .getfield 12, .getfield 0, 47, 5, 3, 0, 0, 208),
  (47, .getfield 55, .getfield 3, 50, 8, 3, 0, 0, 159),
  (50, .istore_n 3, .istore 3, 51, 0, 1, 0, 0, 0),
  (51, .aload_n 0, .aload 0, 52, 0, 1, 0, 0, 0),
  (52, .getfield 12, .getfield 0, 55, 5, 3, 0, 0, 208),
  (55, .invokevirtual 35, .invokevirtual 35, 58, 0, 3, 0, 0, 0),
  (58, .iload_n 2, .iload 2, 59, 0, 1, 0, 0, 0),
  (59, .bipush 13, .iconst 13, 61, 0, 2, 13, 0, 0),
  (61, .if_icmp .ne 28, .if_icmp .ne 28, 64, 89, 3, 0, 0, 0),
  (64, .aload_n 0, .aload 0, 65, 0, 1, 0, 0, 0),
  (65, .iload_n 1, .iload 1, 66, 0, 1, 0, 0, 0),
  (66, .iconst 1, .iconst 1, 67, 0, 1, 1, 0, 0),
  (67, .iadd, .iadd, 68, 0, 1, 0, 0, 0),
  (68, .invokevirtual 64, .invokevirtual 64, 71, 0, 3, 0, 0, 0),
  (71, .ifCond .eq 16, .ifCond .eq 16, 74, 87, 3, 0, 0, 0),
  (74, .aload_n 0, .aload 0, 75, 0, 1, 0, 0, 0),
  (75, .bipush 14, .iconst 14, 77, 0, 2, 14, 0, 0),
  (77, .invokevirtual 61, .invokevirtual 61, 80, 0, 3, 0, 0, 0),
  (80, .ifCond .eq 7, .ifCond .eq 7, 83, 87, 3, 0, 0, 0),
  (83, .iconst 1, .iconst 1, 84, 0, 1, 1, 0, 0),
  (84, .goto 4, .goto 4, 88, 0, 3, 0, 0, 0),
  (87, .iconst 0, .iconst 0, 88, 0, 1, 0, 0, 0),
  (88, .ireturn, .ireturn, 89, 0, 1, 0, 0, 0),
  (89, .iload_n 2, .iload 2, 90, 0, 1, 0, 0, 0),
  (90, .iconst 2, .iconst 2, 91, 0, 1, 2, 0, 0),
  (91, .if_icmp .ne 14, .if_icmp .ne 14, 94, 105, 3, 0, 0, 0),
  (94, .aload_n 0, .aload 0, 95, 0, 1, 0, 0, 0),
  (95, .getfield 21, .getfield 1, 98, 5, 3, 0, 0, 209),
  (98, .iload_n 3, .iload 3, 99, 0, 1, 0, 0, 0),
  (99, .invokevirtual 92, .invokevirtual 92, 102, 0, 3, 0, 0, 0),
  (102, .goto 11, .goto 11, 113, 0, 3, 0, 0, 0),
  (105, .aload_n 0, .aload 0, 106, 0, 1, 0, 0, 0),
  (106, .getfield 21, .getfield 1, 109, 5, 3, 0, 0, 209),
  (109, .iload_n 2, .iload 2, 110, 0, 1, 0, 0, 0),
  (110, .invokevirtual 76, .invokevirtual 76, 113, 0, 3, 0, 0, 0),
  (113, .iconst 1, .iconst 1, 114, 0, 1, 1, 0, 0),
  (114, .ireturn, .ireturn, 115, 0, 1, 0, 0, 0)])
set_option maxRecDepth 100000 in
theorem okX5_readPart : okm mX5_readPart = true := by decide +kernel
def mX5_isPlusOrMinus : mt_T := (yX5_isPlusOrMinus, cX5_isPlusOrMinus, 1, (some .boolean), [
  (0, .iload_n 0, .iload 0, 1, 0, 1, 0, 0, 0),
  (1, .bipush 17, .iconst 17, 3, 0, 2, 17, 0, 0),
  (3, .if_icmp .eq 9, .if_icmp .eq 9, 6, 12, 3, 0, 0, 0),
  (6, .iload_n 0, .iload 0, 7, 0, 1, 0, 0, 0),
  (7, .bipush 18, .iconst 18, 9, 0, 2, 18, 0, 0),
  (9, .if_icmp .ne 7, .if_icmp .ne 7, 12, 16, 3, 0, 0, 0),
  (12, .iconst 1, .iconst 1, 13, 0, 1, 1, 0, 0),
  (13, .goto 4, .goto 4, 17, 0, 3, 0, 0, 0),
  (16, .iconst 0, .iconst 0, 17, 0, 1, 0, 0, 0),
  (17, .ireturn, .ireturn, 18, 0, 1, 0, 0, 0)])
set_option maxRecDepth 100000 in
theorem okX5_isPlusOrMinus : okm mX5_isPlusOrMinus = true := by decide +kernel
def mX5_isName : mt_T := (yX5_isName, cX5_isName, 1, (some .boolean), [
  (0, .iload_n 0, .iload 0, 1, 0, 1, 0, 0, 0),
  (1, .iconst 3, .iconst 3, 2, 0, 1, 3, 0, 0),
  (2, .if_icmp .eq 19, .if_icmp .eq 19, 5, 21, 3, 0, 0, 0),
  (5, .iload_n 0, .iload 0, 6, 0, 1, 0, 0, 0),
  (6, .iconst 4, .iconst 4, 7, 0, 1, 4, 0, 0),
  (7, .if_icmp .eq 14, .if_icmp .eq 14, 10, 21, 3, 0, 0, 0),
  (10, .iload_n 0, .iload 0, 11, 0, 1, 0, 0, 0),
  (11, .bipush 8, .iconst 8, 13, 0, 2, 8, 0, 0),
  (13, .bipush 12, .iconst 12, 15, 0, 2, 12, 0, 0),
  (15, .invokestatic 95, .invokestatic 95, 18, 0, 3, 0, 0, 0),
  (18, .ifCond .eq 7, .ifCond .eq 7, 21, 25, 3, 0, 0, 0),
  (21, .iconst 1, .iconst 1, 22, 0, 1, 1, 0, 0),
  (22, .goto 4, .goto 4, 26, 0, 3, 0, 0, 0),
  (25, .iconst 0, .iconst 0, 26, 0, 1, 0, 0, 0),
  (26, .ireturn, .ireturn, 27, 0, 1, 0, 0, 0)])
set_option maxRecDepth 100000 in
theorem okX5_isName : okm mX5_isName = true := by decide +kernel
def mX6_init : mt_T := (yX6_init, cX6_init, 1, none, [
  (0, .aload_n 0, .aload 0, 1, 0, 1, 0, 0, 0),
  (1, .invokespecial 1, .invokespecial 1, 4, 0, 3, 0, 0, 0),
  (4, .aload_n 0, .aload 0, 5, 0, 1, 0, 0, 0),
  (5, .iconst 0, .iconst 0, 6, 0, 1, 0, 0, 0),
  (6, .putfield 7, .putfield 0, 9, 6, 3, 0, 0, 178),
  (9, .aload_n 0, .aload 0, 10, 0, 1, 0, 0, 0),
  (10, .bipush 16, .iconst 16, 12, 0, 2, 16, 0, 0),
  (12, .newarray .int, .newarray .int, 14, 0, 2, 0, 0, 0),
  (14, .putfield 13, .putfield 1, 17, 6, 3, 0, 0, 182),
  (17, .aload_n 0, .aload 0, 18, 0, 1, 0, 0, 0),
  (18, .bipush 16, .iconst 16, 20, 0, 2, 16, 0, 0),
  (20, .newarray .int, .newarray .int, 22, 0, 2, 0, 0, 0),
  (22, .putfield 17, .putfield 2, 25, 6, 3, 0, 0, 184),
  (25, .aload_n 0, .aload 0, 26, 0, 1, 0, 0, 0),
  (26, .bipush 16, .iconst 16, 28, 0, 2, 16, 0, 0),
  (28, .newarray .int, .newarray .int, 30, 0, 2, 0, 0, 0),
  (30, .putfield 20, .putfield 3, 33, 6, 3, 0, 0, 186),
  (33, .aload_n 0, .aload 0, 34, 0, 1, 0, 0, 0),
  (34, .sipush 600, .iconst 600, 37, 0, 3, 600, 0, 0),
  (37, .newarray .int, .newarray .int, 39, 0, 2, 0, 0, 0),
  (39, .putfield 25, .putfield 4, 42, 6, 3, 0, 0, 187),
  (42, .aload_n 0, .aload 0, 43, 0, 1, 0, 0, 0),
  (43, .iconst 0, .iconst 0, 44, 0, 1, 0, 0, 0),
  (44, .putfield 28, .putfield 5, 47, 6, 3, 0, 0, 188),
  (47, .aload_n 0, .aload 0, 48, 0, 1, 0, 0, 0),
  (48, .bipush 16, .iconst 16, 50, 0, 2, 16, 0, 0),
  (50, .newarray .int, .newarray .int, 52, 0, 2, 0, 0, 0),
  (52, .putfield 31, .putfield 6, 55, 6, 3, 0, 0, 189),
  (55, .aload_n 0, .aload 0, 56, 0, 1, 0, 0, 0),
  (56, .iconst 0, .iconst 0, 57, 0, 1, 0, 0, 0),
  (57, .putfield 34, .putfield 7, 60, 6, 3, 0, 0, 190),
  (60, .return_, .return_, 61, 0, 1, 0, 0, 0)])
set_option maxRecDepth 100000 in
theorem okX6_init : okm mX6_init = true := by decide +kernel
def mX6_clear : mt_T := (yX6_clear, cX6_clear, 1, none, [
  (0, .aload_n 0, .aload 0, 1, 0, 1, 0, 0, 0),
  (1, .iconst 0, .iconst 0, 2, 0, 1, 0, 0, 0),
  (2, .putfield 7, .putfield 0, 5, 6, 3, 0, 0, 178),
  (5, .aload_n 0, .aload 0, 6, 0, 1, 0, 0, 0),
  (6, .iconst 0, .iconst 0, 7, 0, 1, 0, 0, 0),
  (7, .putfield 28, .putfield 5, 10, 6, 3, 0, 0, 188),
  (10, .return_, .return_, 11, 0, 1, 0, 0, 0)])
set_option maxRecDepth 100000 in
theorem okX6_clear : okm mX6_clear = true := by decide +kernel
def mX6_addNumber : mt_T := (yX6_addNumber, cX6_addNumber, 2, none, [
  (0, .aload_n 0, .aload 0, 1, 0, 1, 0, 0, 0),
  (1, .getfield 28, .getfield 5, 4, 6, 3, 0, 0, 188),
  (4, .aload_n 0, .aload 0, 5, 0, 1, 0, 0, 0),
  (5, .getfield 25, .getfield 4, 8, 6, 3, 0, 0, 187),
  (8, .arraylength, .arraylength, 9, 0, 1, 0, 0, 0),
  (9, .if_icmp .ge 23, .if_icmp .ge 23, 12, 32, 3, 0, 0, 0),
  (12, .aload_n 0, .aload 0, 13, 0, 1, 0, 0, 0),
  (13, .getfield 25, .getfield 4, 16, 6, 3, 0, 0, 187),
  (16, .aload_n 0, .aload 0, 17, 0, 1, 0, 0, 0),
  (17, .getfield 28, .getfield 5, 20, 6, 3, 0, 0, 188),
  (20, .iload_n 1, .iload 1, 21, 0, 1, 0, 0, 0),
  (21, .iastore, .iastore, 22, 0, 1, 0, 0, 0),
  (22, .aload_n 0, .aload 0, 23, 0, 1, 0, 0, 0),
  (23, .dup, .dup, 24, 0, 1, 0, 0, 0),
  (24, .getfield 28, .getfield 5, 27, 6, 3, 0, 0, 188),
  (27, .iconst 1, .iconst 1, 28, 0, 1, 1, 0, 0),
  (28, .iadd, .iadd, 29, 0, 1, 0, 0, 0),
  (29, .putfield 28, .putfield 5, 32, 6, 3, 0, 0, 188),
  (32, .return_, .return_, 33, 0, 1, 0, 0, 0)])
set_option maxRecDepth 100000 in
theorem okX6_addNumber : okm mX6_addNumber = true := by decide +kernel
def mX6_addKind : mt_T := (yX6_addKind, cX6_addKind, 2, none, [
  (0, .aload_n 0, .aload 0, 1, 0, 1, 0, 0, 0),
  (1, .iload_n 1, .iload 1, 2, 0, 1, 0, 0, 0),
  (2, .ineg, .ineg, 3, 0, 1, 0, 0, 0),
  (3, .invokevirtual 37, .invokevirtual 37, 6, 0, 3, 0, 0, 0),
  (6, .return_, .return_, 7, 0, 1, 0, 0, 0)])
set_option maxRecDepth 100000 in
theorem okX6_addKind : okm mX6_addKind = true := by decide +kernel
def mX6_endLine : mt_T := (yX6_endLine, cX6_endLine, 3, none, [
  (0, .aload_n 0, .aload 0, 1, 0, 1, 0, 0, 0),
  (1, .getfield 7, .getfield 0, 4, 6, 3, 0, 0, 178),
  (4, .bipush 16, .iconst 16, 6, 0, 2, 16, 0, 0),
  (6, .if_icmp .ge 46, .if_icmp .ge 46, 9, 52, 3, 0, 0, 0),
  (9, .aload_n 0, .aload 0, 10, 0, 1, 0, 0, 0),
  (10, .getfield 13, .getfield 1, 13, 6, 3, 0, 0, 182),
  (13, .aload_n 0, .aload 0, 14, 0, 1, 0, 0, 0),
  (14, .getfield 7, .getfield 0, 17, 6, 3, 0, 0, 178),
  (17, .iload_n 1, .iload 1, 18, 0, 1, 0, 0, 0),
  (18, .iastore, .iastore, 19, 0, 1, 0, 0, 0),
  (19, .aload_n 0, .aload 0, 20, 0, 1, 0, 0, 0),
  (20, .getfield 17, .getfield 2, 23, 6, 3, 0, 0, 184),
  (23, .aload_n 0, .aload 0, 24, 0, 1, 0, 0, 0),
  (24, .getfield 7, .getfield 0, 27, 6, 3, 0, 0, 178),
  (27, .iload_n 2, .iload 2, 28, 0, 1, 0, 0, 0),
  (28, .iastore, .iastore, 29, 0, 1, 0, 0, 0),
  (29, .aload_n 0, .aload 0, 30, 0, 1, 0, 0, 0),
  (30, .getfield 20, .getfield 3, 33, 6, 3, 0, 0, 186),
  (33, .aload_n 0, .aload 0, 34, 0, 1, 0, 0, 0),
  (34, .getfield 7, .getfield 0, 37, 6, 3, 0, 0, 178),
  (37, .aload_n 0, .aload 0, 38, 0, 1, 0, 0, 0),
  (38, .getfield 28, .getfield 5, 41, 6, 3, 0, 0, 188),
  (41, .iastore, .iastore, 42, 0, 1, 0, 0, 0),
  (42, .aload_n 0, .aload 0, 43, 0, 1, 0, 0, 0),
  (43, .dup, .dup, 44, 0, 1, 0, 0, 0),
  (44, .getfield 7, .getfield 0, 47, 6, 3, 0, 0, 178),
  (47, .iconst 1, .iconst 1, 48, 0, 1, 1, 0, 0),
  (48, .iadd, .iadd, 49, 0, 1, 0, 0, 0),
  (49, .putfield 7, .putfield 0, 52, 6, 3, 0, 0, 178),
  (52, .return_, .return_, 53, 0, 1, 0, 0, 0)])
set_option maxRecDepth 100000 in
theorem okX6_endLine : okm mX6_endLine = true := by decide +kernel
def mX6_valueOf : mt_T := (yX6_valueOf, cX6_valueOf, 7, (some .int), [
  (0, .aload_n 0, .aload 0, 1, 0, 1, 0, 0, 0),
  (1, .iconst 0, .iconst 0, 2, 0, 1, 0, 0, 0),
  (2, .putfield 34, .putfield 7, 5, 6, 3, 0, 0, 190),
  (5, .iload_n 1, .iload 1, 6, 0, 1, 0, 0, 0),
  (6, .ifCond .ne 7, .ifCond .ne 7, 9, 13, 3, 0, 0, 0),
  (9, .iconst 0, .iconst 0, 10, 0, 1, 0, 0, 0),
  (10, .goto 11, .goto 11, 21, 0, 3, 0, 0, 0),
  (13, .aload_n 0, .aload 0, 14, 0, 1, 0, 0, 0),
  (14, .getfield 20, .getfield 3, 17, 6, 3, 0, 0, 186),
  (17, .iload_n 1, .iload 1, 18, 0, 1, 0, 0, 0),
  (18, .iconst 1, .iconst 1, 19, 0, 1, 1, 0, 0),
  (19, .isub, .isub, 20, 0, 1, 0, 0, 0),
  (20, .iaload, .iaload, 21, 0, 1, 0, 0, 0),
  (21, .istore_n 3, .istore 3, 22, 0, 1, 0, 0, 0),
  (22, .iload_n 3, .iload 3, 23, 0, 1, 0, 0, 0),
  (23, .istore 4, .istore 4, 25, 0, 2, 0, 0, 0),
  (25, .iload 4, .iload 4, 27, 0, 2, 0, 0, 0),
  (27, .aload_n 0, .aload 0, 28, 0, 1, 0, 0, 0),
  (28, .getfield 20, .getfield 3, 31, 6, 3, 0, 0, 186),
  (31, .iload_n 1, .iload 1, 32, 0, 1, 0, 0, 0),
  (32, .iaload, .iaload, 33, 0, 1, 0, 0, 0),
  (33, .if_icmp .ge 77, .if_icmp .ge 77, 36, 110, 3, 0, 0, 0),
  (36, .aload_n 0, .aload 0, 37, 0, 1, 0, 0, 0),
  (37, .getfield 25, .getfield 4, 40, 6, 3, 0, 0, 187),
  (40, .iload 4, .iload 4, 42, 0, 2, 0, 0, 0),
  (42, .iaload, .iaload, 43, 0, 1, 0, 0, 0),
  (43, .istore 5, .istore 5, 45, 0, 2, 0, 0, 0),
  (45, .iload 5, .iload 5, 47, 0, 2, 0, 0, 0),
  (47, .ifCond .lt 12, .ifCond .lt 12, 50, 59, 3, 0, 0, 0),
  (50, .aload_n 0, .aload 0, 51, 0, 1, 0, 0, 0),
  (51, .iload 5, .iload 5, 53, 0, 2, 0, 0, 0),
  (53, .invokevirtual 41, .invokevirtual 41, 56, 0, 3, 0, 0, 0),
  (56, .goto 48, .goto 48, 104, 0, 3, 0, 0, 0),
  (59, .iload 5, .iload 5, 61, 0, 2, 0, 0, 0),
  (61, .ineg, .ineg, 62, 0, 1, 0, 0, 0),
  (62, .invokestatic 44, .invokestatic 44, 65, 0, 3, 0, 0, 0),
  (65, .ifCond .eq 28, .ifCond .eq 28, 68, 93, 3, 0, 0, 0),
  (68, .aload_n 0, .aload 0, 69, 0, 1, 0, 0, 0),
  (69, .invokevirtual 48, .invokevirtual 48, 72, 0, 3, 0, 0, 0),
  (72, .istore 6, .istore 6, 74, 0, 2, 0, 0, 0),
  (74, .aload_n 0, .aload 0, 75, 0, 1, 0, 0, 0),
  (75, .iload 5, .iload 5, 77, 0, 2, 0, 0, 0),
  (77, .ineg, .ineg, 78, 0, 1, 0, 0, 0),
  (78, .aload_n 0, .aload 0, 79, 0, 1, 0, 0, 0),
  (79, .invokevirtual 48, .invokevirtual 48, 82, 0, 3, 0, 0, 0),
  (82, .iload 6, .iload 6, 84, 0, 2, 0, 0, 0),
  (84, .invokestatic 52, .invokestatic 52, 87, 0, 3, 0, 0, 0),
  (87, .invokevirtual 41, .invokevirtual 41, 90, 0, 3, 0, 0, 0),
  (90, .goto 14, .goto 14, 104, 0, 3, 0, 0, 0),
  (93, .aload_n 0, .aload 0, 94, 0, 1, 0, 0, 0),
  (94, .aload_n 2, .aload 2, 95, 0, 1, 0, 0, 0),
  (95, .iload 5, .iload 5, 97, 0, 2, 0, 0, 0),
  (97, .ineg, .ineg, 98, 0, 1, 0, 0, 0),
  (98, .invokevirtual 56, .invokevirtual 56, 101, 0, 3, 0, 0, 0),
  (101, .invokevirtual 41, .invokevirtual 41, 104, 0, 3, 0, 0, 0),
  (104, .iinc 4 1, .iinc 4 1, 107, 0, 3, 1, 0, 0),
  (107, .goto (-82), .goto (-82), 25, 0, 3, 0, 0, 0),
  (110, .aload_n 0, .aload 0, 111, 0, 1, 0, 0, 0),
  (111, .invokevirtual 48, .invokevirtual 48, 114, 0, 3, 0, 0, 0),
  (114, .ireturn, .ireturn, 115, 0, 1, 0, 0, 0)])
set_option maxRecDepth 100000 in
theorem okX6_valueOf : okm mX6_valueOf = true := by decide +kernel
def mX6_joins : mt_T := (yX6_joins, cX6_joins, 1, (some .boolean), [
  (0, .iload_n 0, .iload 0, 1, 0, 1, 0, 0, 0),
  (1, .bipush 7, .iconst 7, 3, 0, 2, 7, 0, 0),
  (3, .if_icmp .eq 14, .if_icmp .eq 14, 6, 17, 3, 0, 0, 0),
  (6, .iload_n 0, .iload 0, 7, 0, 1, 0, 0, 0),
  (7, .bipush 15, .iconst 15, 9, 0, 2, 15, 0, 0),
  (9, .bipush 18, .iconst 18, 11, 0, 2, 18, 0, 0),
  (11, .invokestatic 64, .invokestatic 64, 14, 0, 3, 0, 0, 0),
  (14, .ifCond .eq 7, .ifCond .eq 7, 17, 21, 3, 0, 0, 0),
  (17, .iconst 1, .iconst 1, 18, 0, 1, 1, 0, 0),
  (18, .goto 4, .goto 4, 22, 0, 3, 0, 0, 0),
  (21, .iconst 0, .iconst 0, 22, 0, 1, 0, 0, 0),
  (22, .ireturn, .ireturn, 23, 0, 1, 0, 0, 0)])
set_option maxRecDepth 100000 in
theorem okX6_joins : okm mX6_joins = true := by decide +kernel
def mX6_joined : mt_T := (yX6_joined, cX6_joined, 3, (some .int), [
  (0, .iload_n 0, .iload 0, 1, 0, 1, 0, 0, 0),
  (1, .lookupswitch 83 #[(7, 43), (15, 57), (16, 68), (17, 79)], .lookupswitch 83 #[(7, 43), (15, 57), (16, 68), (17, 79)], 44, 0, 43, 0, 0, 0),
  (44, .iload_n 1, .iload 1, 45, 0, 1, 0, 0, 0),
  (45, .ifCond .eq 11, .ifCond .eq 11, 48, 56, 3, 0, 0, 0),
  (48, .iload_n 2, .iload 2, 49, 0, 1, 0, 0, 0),
  (49, .ifCond .eq 7, .ifCond .eq 7, 52, 56, 3, 0, 0, 0),
  (52, .iconst 1, .iconst 1, 53, 0, 1, 1, 0, 0),
  (53, .goto 4, .goto 4, 57, 0, 3, 0, 0, 0),
  (56, .iconst 0, .iconst 0, 57, 0, 1, 0, 0, 0),
  (57, .ireturn, .ireturn, 58, 0, 1, 0, 0, 0),
  (58, .iload_n 1, .iload 1, 59, 0, 1, 0, 0, 0),
  (59, .iload_n 2, .iload 2, 60, 0, 1, 0, 0, 0),
  (60, .if_icmp .ge 7, .if_icmp .ge 7, 63, 67, 3, 0, 0, 0),
  (63, .iconst 1, .iconst 1, 64, 0, 1, 1, 0, 0),
  (64, .goto 4, .goto 4, 68, 0, 3, 0, 0, 0),
  (67, .iconst 0, .iconst 0, 68, 0, 1, 0, 0, 0),
  (68, .ireturn, .ireturn, 69, 0, 1, 0, 0, 0),
  (69, .iload_n 1, .iload 1, 70, 0, 1, 0, 0, 0),
  (70, .iload_n 2, .iload 2, 71, 0, 1, 0, 0, 0),
  (71, .if_icmp .ne 7, .if_icmp .ne 7, 74, 78, 3, 0, 0, 0),
  (74, .iconst 1, .iconst 1, 75, 0, 1, 1, 0, 0),
  (75, .goto 4, .goto 4, 79, 0, 3, 0, 0, 0),
  (78, .iconst 0, .iconst 0, 79, 0, 1, 0, 0, 0),
  (79, .ireturn, .ireturn, 80, 0, 1, 0, 0, 0),
  (80, .iload_n 1, .iload 1, 81, 0, 1, 0, 0, 0),
  (81, .iload_n 2, .iload 2, 82, 0, 1, 0, 0, 0),
  (82, .iadd, .iadd, 83, 0, 1, 0, 0, 0),
  (83, .ireturn, .ireturn, 84, 0, 1, 0, 0, 0),
  (84, .iload_n 1, .iload 1, 85, 0, 1, 0, 0, 0),
  (85, .iload_n 2, .iload 2, 86, 0, 1, 0, 0, 0),
  (86, .isub, .isub, 87, 0, 1, 0, 0, 0),
  (87, .ireturn, .ireturn, 88, 0, 1, 0, 0, 0)])
set_option maxRecDepth 100000 in
theorem okX6_joined : okm mX6_joined = true := by decide +kernel
def mX6_push : mt_T := (yX6_push, cX6_push, 2, none, [
  (0, .aload_n 0, .aload 0, 1, 0, 1, 0, 0, 0),
  (1, .getfield 34, .getfield 7, 4, 6, 3, 0, 0, 190),
  (4, .bipush 16, .iconst 16, 6, 0, 2, 16, 0, 0),
  (6, .if_icmp .ge 23, .if_icmp .ge 23, 9, 29, 3, 0, 0, 0),
  (9, .aload_n 0, .aload 0, 10, 0, 1, 0, 0, 0),
  (10, .getfield 31, .getfield 6, 13, 6, 3, 0, 0, 189),
  (13, .aload_n 0, .aload 0, 14, 0, 1, 0, 0, 0),
  (14, .getfield 34, .getfield 7, 17, 6, 3, 0, 0, 190),
  (17, .iload_n 1, .iload 1, 18, 0, 1, 0, 0, 0),
  (18, .iastore, .iastore, 19, 0, 1, 0, 0, 0),
  (19, .aload_n 0, .aload 0, 20, 0, 1, 0, 0, 0),
  (20, .dup, .dup, 21, 0, 1, 0, 0, 0),
  (21, .getfield 34, .getfield 7, 24, 6, 3, 0, 0, 190),
  (24, .iconst 1, .iconst 1, 25, 0, 1, 1, 0, 0),
  (25, .iadd, .iadd, 26, 0, 1, 0, 0, 0),
  (26, .putfield 34, .putfield 7, 29, 6, 3, 0, 0, 190),
  (29, .return_, .return_, 30, 0, 1, 0, 0, 0)])
set_option maxRecDepth 100000 in
theorem okX6_push : okm mX6_push = true := by decide +kernel
def mX6_pop : mt_T := (yX6_pop, cX6_pop, 1, (some .int), [
  (0, .aload_n 0, .aload 0, 1, 0, 1, 0, 0, 0),
  (1, .getfield 34, .getfield 7, 4, 6, 3, 0, 0, 190),
  (4, .ifCond .gt 5, .ifCond .gt 5, 7, 9, 3, 0, 0, 0),
  (7, .iconst 0, .iconst 0, 8, 0, 1, 0, 0, 0),
  (8, .ireturn, .ireturn, 9, 0, 1, 0, 0, 0),
  (9, .aload_n 0, .aload 0, 10, 0, 1, 0, 0, 0),
  (10, .dup, .dup, 11, 0, 1, 0, 0, 0),
  (11, .getfield 34, .getfield 7, 14, 6, 3, 0, 0, 190),
  (14, .iconst 1, .iconst 1, 15, 0, 1, 1, 0, 0),
  (15, .isub, .isub, 16, 0, 1, 0, 0, 0),
  (16, .putfield 34, .putfield 7, 19, 6, 3, 0, 0, 190),
  (19, .aload_n 0, .aload 0, 20, 0, 1, 0, 0, 0),
  (20, .getfield 31, .getfield 6, 23, 6, 3, 0, 0, 189),
  (23, .aload_n 0, .aload 0, 24, 0, 1, 0, 0, 0),
  (24, .getfield 34, .getfield 7, 27, 6, 3, 0, 0, 190),
  (27, .iaload, .iaload, 28, 0, 1, 0, 0, 0),
  (28, .ireturn, .ireturn, 29, 0, 1, 0, 0, 0)])
set_option maxRecDepth 100000 in
theorem okX6_pop : okm mX6_pop = true := by decide +kernel
def mX7_init : mt_T := (yX7_init, cX7_init, 1, none, [
  (0, .aload_n 0, .aload 0, 1, 0, 1, 0, 0, 0),
  (1, .invokespecial 1, .invokespecial 1, 4, 0, 3, 0, 0, 0),
  (4, .aload_n 0, .aload 0, 5, 0, 1, 0, 0, 0),
  (5, .sipush 600, .iconst 600, 8, 0, 3, 600, 0, 0),
  (8, .newarray .byte, .newarray .byte, 10, 0, 2, 0, 0, 0),
  (10, .putfield 9, .putfield 0, 13, 7, 3, 0, 0, 126),
  (13, .aload_n 0, .aload 0, 14, 0, 1, 0, 0, 0),
  (14, .iconst 0, .iconst 0, 15, 0, 1, 0, 0, 0),
  (15, .putfield 13, .putfield 1, 18, 7, 3, 0, 0, 128),
  (18, .return_, .return_, 19, 0, 1, 0, 0, 0)])
set_option maxRecDepth 100000 in
theorem okX7_init : okm mX7_init = true := by decide +kernel
def mX7_addBytes : mt_T := (yX7_addBytes, cX7_addBytes, 4, none, [
  (0, .bipush 56, .iconst 56, 2, 0, 2, 56, 0, 0),
  (2, .istore_n 3, .istore 3, 3, 0, 1, 0, 0, 0),
  (3, .iload_n 3, .iload 3, 4, 0, 1, 0, 0, 0),
  (4, .ifCond .lt 21, .ifCond .lt 21, 7, 25, 3, 0, 0, 0),
  (7, .aload_n 0, .aload 0, 8, 0, 1, 0, 0, 0),
  (8, .lload_n 1, .lload 1, 9, 0, 1, 0, 0, 0),
  (9, .iload_n 3, .iload 3, 10, 0, 1, 0, 0, 0),
  (10, .lushr, .lushr, 11, 0, 1, 0, 0, 0),
  (11, .l2i, .l2i, 12, 0, 1, 0, 0, 0),
  (12, .sipush 255, .iconst 255, 15, 0, 3, 255, 0, 0),
  (15, .iand, .iand, 16, 0, 1, 0, 0, 0),
  (16, .invokevirtual 17, .invokevirtual 17, 19, 0, 3, 0, 0, 0),
  (19, .iinc 3 (-8), .iinc 3 (-8), 22, 0, 3, (-8), 0, 0),
  (22, .goto (-19), .goto (-19), 3, 0, 3, 0, 0, 0),
  (25, .return_, .return_, 26, 0, 1, 0, 0, 0)])
set_option maxRecDepth 100000 in
theorem okX7_addBytes : okm mX7_addBytes = true := by decide +kernel
def mX7_addSign : mt_T := (yX7_addSign, cX7_addSign, 3, none, [
  (0, .iload_n 1, .iload 1, 1, 0, 1, 0, 0, 0),
  (1, .bipush 10, .iconst 10, 3, 0, 2, 10, 0, 0),
  (3, .if_icmp .eq 14, .if_icmp .eq 14, 6, 17, 3, 0, 0, 0),
  (6, .iload_n 1, .iload 1, 7, 0, 1, 0, 0, 0),
  (7, .bipush 32, .iconst 32, 9, 0, 2, 32, 0, 0),
  (9, .bipush 126, .iconst 126, 11, 0, 2, 126, 0, 0),
  (11, .invokestatic 21, .invokestatic 21, 14, 0, 3, 0, 0, 0),
  (14, .ifCond .eq 7, .ifCond .eq 7, 17, 21, 3, 0, 0, 0),
  (17, .iconst 1, .iconst 1, 18, 0, 1, 1, 0, 0),
  (18, .goto 4, .goto 4, 22, 0, 3, 0, 0, 0),
  (21, .iconst 0, .iconst 0, 22, 0, 1, 0, 0, 0),
  (22, .istore_n 2, .istore 2, 23, 0, 1, 0, 0, 0),
  (23, .iload_n 2, .iload 2, 24, 0, 1, 0, 0, 0),
  (24, .ifCond .eq 34, .ifCond .eq 34, 27, 58, 3, 0, 0, 0),
  (27, .aload_n 0, .aload 0, 28, 0, 1, 0, 0, 0),
  (28, .getfield 13, .getfield 1, 31, 7, 3, 0, 0, 128),
  (31, .sipush 600, .iconst 600, 34, 0, 3, 600, 0, 0),
  (34, .if_icmp .ge 24, .if_icmp .ge 24, 37, 58, 3, 0, 0, 0),
  (37, .aload_n 0, .aload 0, 38, 0, 1, 0, 0, 0),
  (38, .getfield 9, .getfield 0, 41, 7, 3, 0, 0, 126),
  (41, .aload_n 0, .aload 0, 42, 0, 1, 0, 0, 0),
  (42, .getfield 13, .getfield 1, 45, 7, 3, 0, 0, 128),
  (45, .iload_n 1, .iload 1, 46, 0, 1, 0, 0, 0),
  (46, .i2b, .i2b, 47, 0, 1, 0, 0, 0),
  (47, .bastore, .bastore, 48, 0, 1, 0, 0, 0),
  (48, .aload_n 0, .aload 0, 49, 0, 1, 0, 0, 0),
  (49, .dup, .dup, 50, 0, 1, 0, 0, 0),
  (50, .getfield 13, .getfield 1, 53, 7, 3, 0, 0, 128),
  (53, .iconst 1, .iconst 1, 54, 0, 1, 1, 0, 0),
  (54, .iadd, .iadd, 55, 0, 1, 0, 0, 0),
  (55, .putfield 13, .putfield 1, 58, 7, 3, 0, 0, 128),
  (58, .return_, .return_, 59, 0, 1, 0, 0, 0)])
set_option maxRecDepth 100000 in
theorem okX7_addSign : okm mX7_addSign = true := by decide +kernel
def mX8_init : mt_T := (yX8_init, cX8_init, 2, none, [
  (0, .aload_n 0, .aload 0, 1, 0, 1, 0, 0, 0),
  (1, .invokespecial 1, .invokespecial 1, 4, 0, 3, 0, 0, 0),
  (4, .aload_n 0, .aload 0, 5, 0, 1, 0, 0, 0),
  (5, .aload_n 1, .aload 1, 6, 0, 1, 0, 0, 0),
  (6, .putfield 7, .putfield 0, 9, 8, 3, 0, 0, 153),
  (9, .aload_n 0, .aload 0, 10, 0, 1, 0, 0, 0),
  (10, .invokevirtual 13, .invokevirtual 13, 13, 0, 3, 0, 0, 0),
  (13, .return_, .return_, 14, 0, 1, 0, 0, 0)])
set_option maxRecDepth 100000 in
theorem okX8_init : okm mX8_init = true := by decide +kernel
def mX8_begin : mt_T := (yX8_begin, cX8_begin, 1, none, [
  (0, .aload_n 0, .aload 0, 1, 0, 1, 0, 0, 0),
  (1, .iconst 0, .iconst 0, 2, 0, 1, 0, 0, 0),
  (2, .putfield 16, .putfield 1, 5, 8, 3, 0, 0, 154),
  (5, .aload_n 0, .aload 0, 6, 0, 1, 0, 0, 0),
  (6, .iconst 0, .iconst 0, 7, 0, 1, 0, 0, 0),
  (7, .putfield 20, .putfield 2, 10, 8, 3, 0, 0, 156),
  (10, .aload_n 0, .aload 0, 11, 0, 1, 0, 0, 0),
  (11, .iconst 0, .iconst 0, 12, 0, 1, 0, 0, 0),
  (12, .putfield 23, .putfield 3, 15, 8, 3, 0, 0, 158),
  (15, .aload_n 0, .aload 0, 16, 0, 1, 0, 0, 0),
  (16, .iconst 0, .iconst 0, 17, 0, 1, 0, 0, 0),
  (17, .putfield 26, .putfield 4, 20, 8, 3, 0, 0, 160),
  (20, .return_, .return_, 21, 0, 1, 0, 0, 0)])
set_option maxRecDepth 100000 in
theorem okX8_begin : okm mX8_begin = true := by decide +kernel
def mX8_advance : mt_T := (yX8_advance, cX8_advance, 1, none, [
  (0, .aload_n 0, .aload 0, 1, 0, 1, 0, 0, 0),
  (1, .invokevirtual 29, .invokevirtual 29, 4, 0, 3, 0, 0, 0),
  (4, .aload_n 0, .aload 0, 5, 0, 1, 0, 0, 0),
  (5, .getfield 20, .getfield 2, 8, 8, 3, 0, 0, 156),
  (8, .aload_n 0, .aload 0, 9, 0, 1, 0, 0, 0),
  (9, .getfield 7, .getfield 0, 12, 8, 3, 0, 0, 153),
  (12, .getfield 32, .getfield 1, 15, 7, 3, 0, 0, 129),
  (15, .if_icmp .lt 11, .if_icmp .lt 11, 18, 26, 3, 0, 0, 0),
  (18, .aload_n 0, .aload 0, 19, 0, 1, 0, 0, 0),
  (19, .iconst 0, .iconst 0, 20, 0, 1, 0, 0, 0),
  (20, .putfield 16, .putfield 1, 23, 8, 3, 0, 0, 154),
  (23, .goto 124, .goto 124, 147, 0, 3, 0, 0, 0),
  (26, .aload_n 0, .aload 0, 27, 0, 1, 0, 0, 0),
  (27, .getfield 7, .getfield 0, 30, 8, 3, 0, 0, 153),
  (30, .getfield 37, .getfield 0, 33, 7, 3, 0, 0, 127),
  (33, .aload_n 0, .aload 0, 34, 0, 1, 0, 0, 0),
  (34, .getfield 20, .getfield 2, 37, 8, 3, 0, 0, 156),
  (37, .baload, .baload, 38, 0, 1, 0, 0, 0),
  (38, .invokestatic 41, .invokestatic 41, 41, 0, 3, 0, 0, 0),
  (41, .ifCond .eq 30, .ifCond .eq 30, 44, 71, 3, 0, 0, 0),
  (44, .aload_n 0, .aload 0, 45, 0, 1, 0, 0, 0),
  (45, .invokevirtual 45, .invokevirtual 45, 48, 0, 3, 0, 0, 0),
  (48, .aload_n 0, .aload 0, 49, 0, 1, 0, 0, 0),
  (49, .aload_n 0, .aload 0, 50, 0, 1, 0, 0, 0),
  (50, .aload_n 0, .aload 0, 51, 0, 1, 0, 0, 0),
  (51, .getfield 7, .getfield 0, 54, 8, 3, 0, 0, 153),
  (54, .getfield 37, .getfield 0, 57, 7, 3, 0, 0, 127),
  (57, .aload_n 0, .aload 0, 58, 0, 1, 0, 0, 0),
  (58, .getfield 20, .getfield 2, 61, 8, 3, 0, 0, 156),
  (61, .baload, .baload, 62, 0, 1, 0, 0, 0),
  (62, .invokevirtual 48, .invokevirtual 48, 65, 0, 3, 0, 0, 0),
  (65, .putfield 16, .putfield 1, 68, 8, 3, 0, 0, 154),
  (68, .goto 79, .goto 79, 147, 0, 3, 0, 0, 0),
  (71, .aload_n 0, .aload 0, 72, 0, 1, 0, 0, 0),
  (72, .getfield 7, .getfield 0, 75, 8, 3, 0, 0, 153),
  (75, .getfield 37, .getfield 0, 78, 7, 3, 0, 0, 127),
  (78, .aload_n 0, .aload 0, 79, 0, 1, 0, 0, 0),
  (79, .getfield 20, .getfield 2, 82, 8, 3, 0, 0, 156),
  (82, .baload, .baload, 83, 0, 1, 0, 0, 0),
  (83, .invokestatic 52, .invokestatic 52, 86, 0, 3, 0, 0, 0),
  (86, .ifCond .eq 32, .ifCond .eq 32, 89, 118, 3, 0, 0, 0),
  (89, .aload_n 0, .aload 0, 90, 0, 1, 0, 0, 0),
  (90, .invokevirtual 55, .invokevirtual 55, 93, 0, 3, 0, 0, 0),
  (93, .aload_n 0, .aload 0, 94, 0, 1, 0, 0, 0),
  (94, .aload_n 0, .aload 0, 95, 0, 1, 0, 0, 0),
  (95, .getfield 26, .getfield 4, 98, 8, 3, 0, 0, 160),
  (98, .aload_n 0, .aload 0, 99, 0, 1, 0, 0, 0),
  (99, .getfield 20, .getfield 2, 102, 8, 3, 0, 0, 156),
  (102, .isub, .isub, 103, 0, 1, 0, 0, 0),
  (103, .iconst 4, .iconst 4, 104, 0, 1, 4, 0, 0),
  (104, .if_icmp .le 7, .if_icmp .le 7, 107, 111, 3, 0, 0, 0),
  (107, .iconst 1, .iconst 1, 108, 0, 1, 1, 0, 0),
  (108, .goto 4, .goto 4, 112, 0, 3, 0, 0, 0),
  (111, .iconst 2, .iconst 2, 112, 0, 1, 2, 0, 0),
  (112, .putfield 16, .putfield 1, 115, 8, 3, 0, 0, 154),
  (115, .goto 32, .goto 32, 147, 0, 3, 0, 0, 0),
  (118, .aload_n 0, .aload 0, 119, 0, 1, 0, 0, 0),
  (119, .aload_n 0, .aload 0, 120, 0, 1, 0, 0, 0),
  (120, .getfield 20, .getfield 2, 123, 8, 3, 0, 0, 156),
  (123, .iconst 1, .iconst 1, 124, 0, 1, 1, 0, 0),
  (124, .iadd, .iadd, 125, 0, 1, 0, 0, 0),
  (125, .putfield 26, .putfield 4, 128, 8, 3, 0, 0, 160),
  (128, .aload_n 0, .aload 0, 129, 0, 1, 0, 0, 0),
  (129, .aload_n 0, .aload 0, 130, 0, 1, 0, 0, 0),
  (130, .getfield 7, .getfield 0, 133, 8, 3, 0, 0, 153),
  (133, .getfield 37, .getfield 0, 136, 7, 3, 0, 0, 127),
  (136, .aload_n 0, .aload 0, 137, 0, 1, 0, 0, 0),
  (137, .getfield 20, .getfield 2, 140, 8, 3, 0, 0, 156),
  (140, .baload, .baload, 141, 0, 1, 0, 0, 0),
  (141, .invokestatic 58, .invokestatic 58, 144, 0, 3, 0, 0, 0),
  (144, .putfield 16, .putfield 1, 147, 8, 3, 0, 0, 154),
  (147, .return_, .return_, 148, 0, 1, 0, 0, 0)])
set_option maxRecDepth 100000 in
theorem okX8_advance : okm mX8_advance = true := by decide +kernel
def mX8_skipBlanks : mt_T := (yX8_skipBlanks, cX8_skipBlanks, 1, none, [
  (0, .aload_n 0, .aload 0, 1, 0, 1, 0, 0, 0),
  (1, .aload_n 0, .aload 0, 2, 0, 1, 0, 0, 0),
  (2, .getfield 26, .getfield 4, 5, 8, 3, 0, 0, 160),
  (5, .putfield 20, .putfield 2, 8, 8, 3, 0, 0, 156),
  (8, .aload_n 0, .aload 0, 9, 0, 1, 0, 0, 0),
  (9, .getfield 20, .getfield 2, 12, 8, 3, 0, 0, 156),
  (12, .aload_n 0, .aload 0, 13, 0, 1, 0, 0, 0),
  (13, .getfield 7, .getfield 0, 16, 8, 3, 0, 0, 153),
  (16, .getfield 32, .getfield 1, 19, 7, 3, 0, 0, 129),
  (19, .if_icmp .ge 34, .if_icmp .ge 34, 22, 53, 3, 0, 0, 0),
  (22, .aload_n 0, .aload 0, 23, 0, 1, 0, 0, 0),
  (23, .getfield 7, .getfield 0, 26, 8, 3, 0, 0, 153),
  (26, .getfield 37, .getfield 0, 29, 7, 3, 0, 0, 127),
  (29, .aload_n 0, .aload 0, 30, 0, 1, 0, 0, 0),
  (30, .getfield 20, .getfield 2, 33, 8, 3, 0, 0, 156),
  (33, .baload, .baload, 34, 0, 1, 0, 0, 0),
  (34, .invokestatic 61, .invokestatic 61, 37, 0, 3, 0, 0, 0),
  (37, .ifCond .eq 16, .ifCond .eq 16, 40, 53, 3, 0, 0, 0),
  (40, .aload_n 0, .aload 0, 41, 0, 1, 0, 0, 0),
  (41, .dup, .dup, 42, 0, 1, 0, 0, 0),
  (42, .getfield 20, .getfield 2, 45, 8, 3, 0, 0, 156),
  (45, .iconst 1, .iconst 1, 46, 0, 1, 1, 0, 0),
  (46, .iadd, .iadd, 47, 0, 1, 0, 0, 0),
  (47, .putfield 20, .putfield 2, 50, 8, 3, 0, 0, 156),
  (50, .goto (-42), .goto (-42), 8, 0, 3, 0, 0, 0),
  (53, .aload_n 0, .aload 0, 54, 0, 1, 0, 0, 0),
  (54, .aload_n 0, .aload 0, 55, 0, 1, 0, 0, 0),
  (55, .getfield 20, .getfield 2, 58, 8, 3, 0, 0, 156),
  (58, .putfield 26, .putfield 4, 61, 8, 3, 0, 0, 160),
  (61, .return_, .return_, 62, 0, 1, 0, 0, 0)])
set_option maxRecDepth 100000 in
theorem okX8_skipBlanks : okm mX8_skipBlanks = true := by decide +kernel
def mX8_goBehindWord : mt_T := (yX8_goBehindWord, cX8_goBehindWord, 1, none, [
  (0, .aload_n 0, .aload 0, 1, 0, 1, 0, 0, 0),
  (1, .getfield 26, .getfield 4, 4, 8, 3, 0, 0, 160),
  (4, .aload_n 0, .aload 0, 5, 0, 1, 0, 0, 0),
  (5, .getfield 7, .getfield 0, 8, 8, 3, 0, 0, 153),
  (8, .getfield 32, .getfield 1, 11, 7, 3, 0, 0, 129),
  (11, .if_icmp .ge 34, .if_icmp .ge 34, 14, 45, 3, 0, 0, 0),
  (14, .aload_n 0, .aload 0, 15, 0, 1, 0, 0, 0),
  (15, .getfield 7, .getfield 0, 18, 8, 3, 0, 0, 153),
  (18, .getfield 37, .getfield 0, 21, 7, 3, 0, 0, 127),
  (21, .aload_n 0, .aload 0, 22, 0, 1, 0, 0, 0),
  (22, .getfield 26, .getfield 4, 25, 8, 3, 0, 0, 160),
  (25, .baload, .baload, 26, 0, 1, 0, 0, 0),
  (26, .invokestatic 41, .invokestatic 41, 29, 0, 3, 0, 0, 0),
  (29, .ifCond .eq 16, .ifCond .eq 16, 32, 45, 3, 0, 0, 0),
  (32, .aload_n 0, .aload 0, 33, 0, 1, 0, 0, 0),
  (33, .dup, .dup, 34, 0, 1, 0, 0, 0),
  (34, .getfield 26, .getfield 4, 37, 8, 3, 0, 0, 160),
  (37, .iconst 1, .iconst 1, 38, 0, 1, 1, 0, 0),
  (38, .iadd, .iadd, 39, 0, 1, 0, 0, 0),
  (39, .putfield 26, .putfield 4, 42, 8, 3, 0, 0, 160),
  (42, .goto (-42), .goto (-42), 0, 0, 3, 0, 0, 0),
  (45, .return_, .return_, 46, 0, 1, 0, 0, 0)])
set_option maxRecDepth 100000 in
theorem okX8_goBehindWord : okm mX8_goBehindWord = true := by decide +kernel
def mX8_readNumber : mt_T := (yX8_readNumber, cX8_readNumber, 1, none, [
  (0, .aload_n 0, .aload 0, 1, 0, 1, 0, 0, 0),
  (1, .iconst 0, .iconst 0, 2, 0, 1, 0, 0, 0),
  (2, .putfield 23, .putfield 3, 5, 8, 3, 0, 0, 158),
  (5, .aload_n 0, .aload 0, 6, 0, 1, 0, 0, 0),
  (6, .getfield 26, .getfield 4, 9, 8, 3, 0, 0, 160),
  (9, .aload_n 0, .aload 0, 10, 0, 1, 0, 0, 0),
  (10, .getfield 7, .getfield 0, 13, 8, 3, 0, 0, 153),
  (13, .getfield 32, .getfield 1, 16, 7, 3, 0, 0, 129),
  (16, .if_icmp .ge 74, .if_icmp .ge 74, 19, 90, 3, 0, 0, 0),
  (19, .aload_n 0, .aload 0, 20, 0, 1, 0, 0, 0),
  (20, .getfield 7, .getfield 0, 23, 8, 3, 0, 0, 153),
  (23, .getfield 37, .getfield 0, 26, 7, 3, 0, 0, 127),
  (26, .aload_n 0, .aload 0, 27, 0, 1, 0, 0, 0),
  (27, .getfield 26, .getfield 4, 30, 8, 3, 0, 0, 160),
  (30, .baload, .baload, 31, 0, 1, 0, 0, 0),
  (31, .invokestatic 52, .invokestatic 52, 34, 0, 3, 0, 0, 0),
  (34, .ifCond .eq 56, .ifCond .eq 56, 37, 90, 3, 0, 0, 0),
  (37, .aload_n 0, .aload 0, 38, 0, 1, 0, 0, 0),
  (38, .getfield 26, .getfield 4, 41, 8, 3, 0, 0, 160),
  (41, .aload_n 0, .aload 0, 42, 0, 1, 0, 0, 0),
  (42, .getfield 20, .getfield 2, 45, 8, 3, 0, 0, 156),
  (45, .isub, .isub, 46, 0, 1, 0, 0, 0),
  (46, .iconst 4, .iconst 4, 47, 0, 1, 4, 0, 0),
  (47, .if_icmp .ge 30, .if_icmp .ge 30, 50, 77, 3, 0, 0, 0),
  (50, .aload_n 0, .aload 0, 51, 0, 1, 0, 0, 0),
  (51, .aload_n 0, .aload 0, 52, 0, 1, 0, 0, 0),
  (52, .getfield 23, .getfield 3, 55, 8, 3, 0, 0, 158),
  (55, .bipush 10, .iconst 10, 57, 0, 2, 10, 0, 0),
  (57, .imul, .imul, 58, 0, 1, 0, 0, 0),
  (58, .aload_n 0, .aload 0, 59, 0, 1, 0, 0, 0),
  (59, .getfield 7, .getfield 0, 62, 8, 3, 0, 0, 153),
  (62, .getfield 37, .getfield 0, 65, 7, 3, 0, 0, 127),
  (65, .aload_n 0, .aload 0, 66, 0, 1, 0, 0, 0),
  (66, .getfield 26, .getfield 4, 69, 8, 3, 0, 0, 160),
  (69, .baload, .baload, 70, 0, 1, 0, 0, 0),
  (70, .iadd, .iadd, 71, 0, 1, 0, 0, 0),
  (71, .bipush 48, .iconst 48, 73, 0, 2, 48, 0, 0),
  (73, .isub, .isub, 74, 0, 1, 0, 0, 0),
  (74, .putfield 23, .putfield 3, 77, 8, 3, 0, 0, 158),
  (77, .aload_n 0, .aload 0, 78, 0, 1, 0, 0, 0),
  (78, .dup, .dup, 79, 0, 1, 0, 0, 0),
  (79, .getfield 26, .getfield 4, 82, 8, 3, 0, 0, 160),
  (82, .iconst 1, .iconst 1, 83, 0, 1, 1, 0, 0),
  (83, .iadd, .iadd, 84, 0, 1, 0, 0, 0),
  (84, .putfield 26, .putfield 4, 87, 8, 3, 0, 0, 160),
  (87, .goto (-82), .goto (-82), 5, 0, 3, 0, 0, 0),
  (90, .return_, .return_, 91, 0, 1, 0, 0, 0)])
set_option maxRecDepth 100000 in
theorem okX8_readNumber : okm mX8_readNumber = true := by decide +kernel
def mX8_kindOfWord : mt_T := (yX8_kindOfWord, cX8_kindOfWord, 2, (some .int), [
  (0, .iload_n 1, .iload 1, 1, 0, 1, 0, 0, 0),
  (1, .tableswitch 260 97 119 #[107, 260, 260, 123, 260, 151, 166, 260, 260, 260, 260, 260, 182, 260, 260, 260, 260, 198, 260, 214, 260, 260, 230], .tableswitch 260 97 119 #[107, 260, 260, 123, 260, 151, 166, 260, 260, 260, 260, 260, 182, 260, 260, 260, 260, 198, 260, 214, 260, 260, 230], 108, 0, 107, 0, 0, 0),
  (108, .aload_n 0, .aload 0, 109, 0, 1, 0, 0, 0),
  (109, .ldc 64, .ldc 64, 111, 0, 2, 0, 0, 0),
  (111, .invokevirtual 66, .invokevirtual 66, 114, 0, 3, 0, 0, 0),
  (114, .ifCond .eq 8, .ifCond .eq 8, 117, 122, 3, 0, 0, 0),
  (117, .bipush 7, .iconst 7, 119, 0, 2, 7, 0, 0),
  (119, .goto 4, .goto 4, 123, 0, 3, 0, 0, 0),
  (122, .iconst 1, .iconst 1, 123, 0, 1, 1, 0, 0),
  (123, .ireturn, .ireturn, 124, 0, 1, 0, 0, 0),
  (124, .aload_n 0, .aload 0, 125, 0, 1, 0, 0, 0),
  (125, .ldc 70, .ldc 70, 127, 0, 2, 0, 0, 0),
  (127, .invokevirtual 66, .invokevirtual 66, 130, 0, 3, 0, 0, 0),
  (130, .ifCond .eq 7, .ifCond .eq 7, 133, 137, 3, 0, 0, 0),
  (133, .iconst 4, .iconst 4, 134, 0, 1, 4, 0, 0),
  (134, .goto 17, .goto 17, 151, 0, 3, 0, 0, 0),
  (137, .aload_n 0, .aload 0, 138, 0, 1, 0, 0, 0),
  (138, .ldc 72, .ldc 72, 140, 0, 2, 0, 0, 0),
  (140, .invokevirtual 66, .invokevirtual 66, 143, 0, 3, 0, 0, 0),
  (143, .ifCond .eq 7, .ifCond .eq 7, 146, 150, 3, 0, 0, 0),
  (146, .iconst 5, .iconst 5, 147, 0, 1, 5, 0, 0),
  (147, .goto 4, .goto 4, 151, 0, 3, 0, 0, 0),
  (150, .iconst 1, .iconst 1, 151, 0, 1, 1, 0, 0),
  (151, .ireturn, .ireturn, 152, 0, 1, 0, 0, 0),
  (152, .aload_n 0, .aload 0, 153, 0, 1, 0, 0, 0),
  (153, .ldc 74, .ldc 74, 155, 0, 2, 0, 0, 0),
  (155, .invokevirtual 66, .invokevirtual 66, 158, 0, 3, 0, 0, 0),
  (158, .ifCond .eq 7, .ifCond .eq 7, 161, 165, 3, 0, 0, 0),
  (161, .iconst 3, .iconst 3, 162, 0, 1, 3, 0, 0),
  (162, .goto 4, .goto 4, 166, 0, 3, 0, 0, 0),
  (165, .iconst 1, .iconst 1, 166, 0, 1, 1, 0, 0),
  (166, .ireturn, .ireturn, 167, 0, 1, 0, 0, 0),
  (167, .aload_n 0, .aload 0, 168, 0, 1, 0, 0, 0),
  (168, .ldc 76, .ldc 76, 170, 0, 2, 0, 0, 0),
  (170, .invokevirtual 66, .invokevirtual 66, 173, 0, 3, 0, 0, 0),
  (173, .ifCond .eq 8, .ifCond .eq 8, 176, 181, 3, 0, 0, 0),
  (176, .bipush 12, .iconst 12, 178, 0, 2, 12, 0, 0),
  (178, .goto 4, .goto 4, 182, 0, 3, 0, 0, 0),
  (181, .iconst 1, .iconst 1, 182, 0, 1, 1, 0, 0),
  (182, .ireturn, .ireturn, 183, 0, 1, 0, 0, 0),
  (183, .aload_n 0, .aload 0, 184, 0, 1, 0, 0, 0),
  (184, .ldc 78, .ldc 78, 186, 0, 2, 0, 0, 0),
  (186, .invokevirtual 66, .invokevirtual 66, 189, 0, 3, 0, 0, 0),
  (189, .ifCond .eq 8, .ifCond .eq 8, 192, 197, 3, 0, 0, 0),
  (192, .bipush 8, .iconst 8, 194, 0, 2, 8, 0, 0),
  (194, .goto 4, .goto 4, 198, 0, 3, 0, 0, 0),
  (197, .iconst 1, .iconst 1, 198, 0, 1, 1, 0, 0),
  (198, .ireturn, .ireturn, 199, 0, 1, 0, 0, 0),
  (199, .aload_n 0, .aload 0, 200, 0, 1, 0, 0, 0),
  (200, .ldc 80, .ldc 80, 202, 0, 2, 0, 0, 0),
  (202, .invokevirtual 66, .invokevirtual 66, 205, 0, 3, 0, 0, 0),
  (205, .ifCond .eq 8, .ifCond .eq 8, 208, 213, 3, 0, 0, 0),
  (208, .bipush 11, .iconst 11, 210, 0, 2, 11, 0, 0),
  (210, .goto 4, .goto 4, 214, 0, 3, 0, 0, 0),
  (213, .iconst 1, .iconst 1, 214, 0, 1, 1, 0, 0),
  (214, .ireturn, .ireturn, 215, 0, 1, 0, 0, 0),
  (215, .aload_n 0, .aload 0, 216, 0, 1, 0, 0, 0),
  (216, .ldc 82, .ldc 82, 218, 0, 2, 0, 0, 0),
  (218, .invokevirtual 66, .invokevirtual 66, 221, 0, 3, 0, 0, 0),
  (221, .ifCond .eq 8, .ifCond .eq 8, 224, 229, 3, 0, 0, 0),
  (224, .bipush 10, .iconst 10, 226, 0, 2, 10, 0, 0),
  (226, .goto 4, .goto 4, 230, 0, 3, 0, 0, 0),
  (229, .iconst 1, .iconst 1, 230, 0, 1, 1, 0, 0),
  (230, .ireturn, .ireturn, 231, 0, 1, 0, 0, 0),
  (231, .aload_n 0, .aload 0, 232, 0, 1, 0, 0, 0),
  (232, .ldc 84, .ldc 84, 234, 0, 2, 0, 0, 0),
  (234, .invokevirtual 66, .invokevirtual 66, 237, 0, 3, 0, 0, 0),
  (237, .ifCond .eq 8, .ifCond .eq 8, 240, 245, 3, 0, 0, 0),
  (240, .bipush 6, .iconst 6, 242, 0, 2, 6, 0, 0),
  (242, .goto 18, .goto 18, 260, 0, 3, 0, 0, 0),
  (245, .aload_n 0, .aload 0, 246, 0, 1, 0, 0, 0),
  (246, .ldc 86, .ldc 86, 248, 0, 2, 0, 0, 0),
  (248, .invokevirtual 66, .invokevirtual 66, 251, 0, 3, 0, 0, 0),
  (251, .ifCond .eq 8, .ifCond .eq 8, 254, 259, 3, 0, 0, 0),
  (254, .bipush 9, .iconst 9, 256, 0, 2, 9, 0, 0),
  (256, .goto 4, .goto 4, 260, 0, 3, 0, 0, 0),
  (259, .iconst 1, .iconst 1, 260, 0, 1, 1, 0, 0),
  (260, .ireturn, .ireturn, 261, 0, 1, 0, 0, 0),
  (261, .iconst 1, .iconst 1, 262, 0, 1, 1, 0, 0),
  (262, .ireturn, .ireturn, 263, 0, 1, 0, 0, 0)])
set_option maxRecDepth 100000 in
theorem okX8_kindOfWord : okm mX8_kindOfWord = true := by decide +kernel
def mX8_isWord : mt_T := (yX8_isWord, cX8_isWord, 3, (some .boolean), [
  (0, .aload_n 0, .aload 0, 1, 0, 1, 0, 0, 0),
  (1, .getfield 26, .getfield 4, 4, 8, 3, 0, 0, 160),
  (4, .aload_n 0, .aload 0, 5, 0, 1, 0, 0, 0),
  (5, .getfield 20, .getfield 2, 8, 8, 3, 0, 0, 156),
  (8, .isub, .isub, 9, 0, 1, 0, 0, 0),
  (9, .aload_n 1, .aload 1, 10, 0, 1, 0, 0, 0),
  (10, .invokevirtual 88, .invokevirtual 88, 13, 0, 3, 0, 0, 0),
  (13, .if_icmp .ne 17, .if_icmp .ne 17, 16, 30, 3, 0, 0, 0),
  (16, .aload_n 0, .aload 0, 17, 0, 1, 0, 0, 0),
  (17, .getfield 26, .getfield 4, 20, 8, 3, 0, 0, 160),
  (20, .aload_n 0, .aload 0, 21, 0, 1, 0, 0, 0),
  (21, .getfield 7, .getfield 0, 24, 8, 3, 0, 0, 153),
  (24, .getfield 32, .getfield 1, 27, 7, 3, 0, 0, 129),
  (27, .if_icmp .le 5, .if_icmp .le 5, 30, 32, 3, 0, 0, 0),
  (30, .iconst 0, .iconst 0, 31, 0, 1, 0, 0, 0),
  (31, .ireturn, .ireturn, 32, 0, 1, 0, 0, 0),
  (32, .iconst 0, .iconst 0, 33, 0, 1, 0, 0, 0),
  (33, .istore_n 2, .istore 2, 34, 0, 1, 0, 0, 0),
  (34, .iload_n 2, .iload 2, 35, 0, 1, 0, 0, 0),
  (35, .aload_n 1, .aload 1, 36, 0, 1, 0, 0, 0),
  (36, .invokevirtual 88, .invokevirtual 88, 39, 0, 3, 0, 0, 0),
  (39, .if_icmp .ge 33, .if_icmp .ge 33, 42, 72, 3, 0, 0, 0),
  (42, .aload_n 0, .aload 0, 43, 0, 1, 0, 0, 0),
  (43, .getfield 7, .getfield 0, 46, 8, 3, 0, 0, 153),
  (46, .getfield 37, .getfield 0, 49, 7, 3, 0, 0, 127),
  (49, .aload_n 0, .aload 0, 50, 0, 1, 0, 0, 0),
  (50, .getfield 20, .getfield 2, 53, 8, 3, 0, 0, 156),
  (53, .iload_n 2, .iload 2, 54, 0, 1, 0, 0, 0),
  (54, .iadd, .iadd, 55, 0, 1, 0, 0, 0),
  (55, .baload, .baload, 56, 0, 1, 0, 0, 0),
  (56, .aload_n 1, .aload 1, 57, 0, 1, 0, 0, 0),
  (57, .iload_n 2, .iload 2, 58, 0, 1, 0, 0, 0),
  (58, .invokevirtual 93, .invokevirtual 93, 61, 0, 3, 0, 0, 0),
  (61, .if_icmp .eq 5, .if_icmp .eq 5, 64, 66, 3, 0, 0, 0),
  (64, .iconst 0, .iconst 0, 65, 0, 1, 0, 0, 0),
  (65, .ireturn, .ireturn, 66, 0, 1, 0, 0, 0),
  (66, .iinc 2 1, .iinc 2 1, 69, 0, 3, 1, 0, 0),
  (69, .goto (-35), .goto (-35), 34, 0, 3, 0, 0, 0),
  (72, .iconst 1, .iconst 1, 73, 0, 1, 1, 0, 0),
  (73, .ireturn, .ireturn, 74, 0, 1, 0, 0, 0)])
set_option maxRecDepth 100000 in
theorem okX8_isWord : okm mX8_isWord = true := by decide +kernel
def mX8_kindOfSign : mt_T := (yX8_kindOfSign, cX8_kindOfSign, 1, (some .int), [
  (0, .iload_n 0, .iload 0, 1, 0, 1, 0, 0, 0),
  (1, .tableswitch 124 40 61 #[103, 106, 124, 115, 124, 118, 124, 124, 124, 124, 124, 124, 124, 124, 124, 124, 124, 124, 124, 121, 109, 112], .tableswitch 124 40 61 #[103, 106, 124, 115, 124, 118, 124, 124, 124, 124, 124, 124, 124, 124, 124, 124, 124, 124, 124, 121, 109, 112], 104, 0, 103, 0, 0, 0),
  (104, .bipush 13, .iconst 13, 106, 0, 2, 13, 0, 0),
  (106, .ireturn, .ireturn, 107, 0, 1, 0, 0, 0),
  (107, .bipush 14, .iconst 14, 109, 0, 2, 14, 0, 0),
  (109, .ireturn, .ireturn, 110, 0, 1, 0, 0, 0),
  (110, .bipush 15, .iconst 15, 112, 0, 2, 15, 0, 0),
  (112, .ireturn, .ireturn, 113, 0, 1, 0, 0, 0),
  (113, .bipush 16, .iconst 16, 115, 0, 2, 16, 0, 0),
  (115, .ireturn, .ireturn, 116, 0, 1, 0, 0, 0),
  (116, .bipush 17, .iconst 17, 118, 0, 2, 17, 0, 0),
  (118, .ireturn, .ireturn, 119, 0, 1, 0, 0, 0),
  (119, .bipush 18, .iconst 18, 121, 0, 2, 18, 0, 0),
  (121, .ireturn, .ireturn, 122, 0, 1, 0, 0, 0),
  (122, .bipush 19, .iconst 19, 124, 0, 2, 19, 0, 0),
  (124, .ireturn, .ireturn, 125, 0, 1, 0, 0, 0),
  (125, .iconst 1, .iconst 1, 126, 0, 1, 1, 0, 0),
  (126, .ireturn, .ireturn, 127, 0, 1, 0, 0, 0)])
set_option maxRecDepth 100000 in
theorem okX8_kindOfSign : okm mX8_kindOfSign = true := by decide +kernel
def mX8_isBlank : mt_T := (yX8_isBlank, cX8_isBlank, 1, (some .boolean), [
  (0, .iload_n 0, .iload 0, 1, 0, 1, 0, 0, 0),
  (1, .bipush 10, .iconst 10, 3, 0, 2, 10, 0, 0),
  (3, .if_icmp .eq 9, .if_icmp .eq 9, 6, 12, 3, 0, 0, 0),
  (6, .iload_n 0, .iload 0, 7, 0, 1, 0, 0, 0),
  (7, .bipush 32, .iconst 32, 9, 0, 2, 32, 0, 0),
  (9, .if_icmp .ne 7, .if_icmp .ne 7, 12, 16, 3, 0, 0, 0),
  (12, .iconst 1, .iconst 1, 13, 0, 1, 1, 0, 0),
  (13, .goto 4, .goto 4, 17, 0, 3, 0, 0, 0),
  (16, .iconst 0, .iconst 0, 17, 0, 1, 0, 0, 0),
  (17, .ireturn, .ireturn, 18, 0, 1, 0, 0, 0)])
set_option maxRecDepth 100000 in
theorem okX8_isBlank : okm mX8_isBlank = true := by decide +kernel
def mX8_isLetter : mt_T := (yX8_isLetter, cX8_isLetter, 1, (some .boolean), [
  (0, .iload_n 0, .iload 0, 1, 0, 1, 0, 0, 0),
  (1, .bipush 97, .iconst 97, 3, 0, 2, 97, 0, 0),
  (3, .bipush 122, .iconst 122, 5, 0, 2, 122, 0, 0),
  (5, .invokestatic 97, .invokestatic 97, 8, 0, 3, 0, 0, 0),
  (8, .ireturn, .ireturn, 9, 0, 1, 0, 0, 0)])
set_option maxRecDepth 100000 in
theorem okX8_isLetter : okm mX8_isLetter = true := by decide +kernel
def mX8_isDigit : mt_T := (yX8_isDigit, cX8_isDigit, 1, (some .boolean), [
  (0, .iload_n 0, .iload 0, 1, 0, 1, 0, 0, 0),
  (1, .bipush 48, .iconst 48, 3, 0, 2, 48, 0, 0),
  (3, .bipush 57, .iconst 57, 5, 0, 2, 57, 0, 0),
  (5, .invokestatic 97, .invokestatic 97, 8, 0, 3, 0, 0, 0),
  (8, .ireturn, .ireturn, 9, 0, 1, 0, 0, 0)])
set_option maxRecDepth 100000 in
theorem okX8_isDigit : okm mX8_isDigit = true := by decide +kernel
def mX9_init : mt_T := (yX9_init, cX9_init, 1, none, [
  (0, .aload_n 0, .aload 0, 1, 0, 1, 0, 0, 0),
  (1, .invokespecial 1, .invokespecial 1, 4, 0, 3, 0, 0, 0),
  (4, .aload_n 0, .aload 0, 5, 0, 1, 0, 0, 0),
  (5, .new 7, .new 7, 8, 0, 3, 0, 0, 0),
  (8, .dup, .dup, 9, 0, 1, 0, 0, 0),
  (9, .invokespecial 9, .invokespecial 9, 12, 0, 3, 0, 0, 0),
  (12, .putfield 10, .putfield 0, 15, 9, 3, 0, 0, 371),
  (15, .aload_n 0, .aload 0, 16, 0, 1, 0, 0, 0),
  (16, .new 16, .new 16, 19, 0, 3, 0, 0, 0),
  (19, .dup, .dup, 20, 0, 1, 0, 0, 0),
  (20, .invokespecial 18, .invokespecial 18, 23, 0, 3, 0, 0, 0),
  (23, .putfield 19, .putfield 1, 26, 9, 3, 0, 0, 372),
  (26, .aload_n 0, .aload 0, 27, 0, 1, 0, 0, 0),
  (27, .new 23, .new 23, 30, 0, 3, 0, 0, 0),
  (30, .dup, .dup, 31, 0, 1, 0, 0, 0),
  (31, .aload_n 0, .aload 0, 32, 0, 1, 0, 0, 0),
  (32, .getfield 19, .getfield 1, 35, 9, 3, 0, 0, 372),
  (35, .invokespecial 25, .invokespecial 25, 38, 0, 3, 0, 0, 0),
  (38, .putfield 28, .putfield 2, 41, 9, 3, 0, 0, 373),
  (41, .aload_n 0, .aload 0, 42, 0, 1, 0, 0, 0),
  (42, .new 32, .new 32, 45, 0, 3, 0, 0, 0),
  (45, .dup, .dup, 46, 0, 1, 0, 0, 0),
  (46, .invokespecial 34, .invokespecial 34, 49, 0, 3, 0, 0, 0),
  (49, .putfield 35, .putfield 3, 52, 9, 3, 0, 0, 374),
  (52, .aload_n 0, .aload 0, 53, 0, 1, 0, 0, 0),
  (53, .new 39, .new 39, 56, 0, 3, 0, 0, 0),
  (56, .dup, .dup, 57, 0, 1, 0, 0, 0),
  (57, .invokespecial 41, .invokespecial 41, 60, 0, 3, 0, 0, 0),
  (60, .putfield 42, .putfield 4, 63, 9, 3, 0, 0, 375),
  (63, .aload_n 0, .aload 0, 64, 0, 1, 0, 0, 0),
  (64, .new 46, .new 46, 67, 0, 3, 0, 0, 0),
  (67, .dup, .dup, 68, 0, 1, 0, 0, 0),
  (68, .invokespecial 48, .invokespecial 48, 71, 0, 3, 0, 0, 0),
  (71, .putfield 49, .putfield 5, 74, 9, 3, 0, 0, 376),
  (74, .aload_n 0, .aload 0, 75, 0, 1, 0, 0, 0),
  (75, .new 53, .new 53, 78, 0, 3, 0, 0, 0),
  (78, .dup, .dup, 79, 0, 1, 0, 0, 0),
  (79, .invokespecial 55, .invokespecial 55, 82, 0, 3, 0, 0, 0),
  (82, .putfield 56, .putfield 6, 85, 9, 3, 0, 0, 377),
  (85, .aload_n 0, .aload 0, 86, 0, 1, 0, 0, 0),
  (86, .bipush 10, .iconst 10, 88, 0, 2, 10, 0, 0),
  (88, .newarray .int, .newarray .int, 90, 0, 2, 0, 0, 0),
  (90, .putfield 60, .putfield 7, 93, 9, 3, 0, 0, 378),
  (93, .aload_n 0, .aload 0, 94, 0, 1, 0, 0, 0),
  (94, .getfield 60, .getfield 7, 97, 9, 3, 0, 0, 378),
  (97, .bipush 30, .iconst 30, 99, 0, 2, 30, 0, 0),
  (99, .invokestatic 64, .invokestatic 64, 102, 0, 3, 0, 0, 0),
  (102, .aload_n 0, .aload 0, 103, 0, 1, 0, 0, 0),
  (103, .new 70, .new 70, 106, 0, 3, 0, 0, 0),
  (106, .dup, .dup, 107, 0, 1, 0, 0, 0),
  (107, .invokespecial 72, .invokespecial 72, 110, 0, 3, 0, 0, 0),
  (110, .putfield 73, .putfield 8, 113, 9, 3, 0, 0, 379),
  (113, .aload_n 0, .aload 0, 114, 0, 1, 0, 0, 0),
  (114, .iconst 0, .iconst 0, 115, 0, 1, 0, 0, 0),
  (115, .putfield 77, .putfield 9, 118, 9, 3, 0, 0, 380),
  (118, .return_, .return_, 119, 0, 1, 0, 0, 0)])
set_option maxRecDepth 100000 in
theorem okX9_init : okm mX9_init = true := by decide +kernel
def mX9_lot : mt_T := (yX9_lot, cX9_lot, 7, (some .int), [
  (0, .iload_n 1, .iload 1, 1, 0, 1, 0, 0, 0),
  (1, .iconst 1, .iconst 1, 2, 0, 1, 1, 0, 0),
  (2, .ldc 81, .iconst 100000, 4, 81, 2, 100000, 0, 406),
  (4, .invokestatic 82, .invokestatic 82, 7, 0, 3, 0, 0, 0),
  (7, .ifCond .eq 50, .ifCond .eq 50, 10, 57, 3, 0, 0, 0),
  (10, .iload_n 2, .iload 2, 11, 0, 1, 0, 0, 0),
  (11, .iconst 1, .iconst 1, 12, 0, 1, 1, 0, 0),
  (12, .sipush 10000, .iconst 10000, 15, 0, 3, 10000, 0, 0),
  (15, .invokestatic 82, .invokestatic 82, 18, 0, 3, 0, 0, 0),
  (18, .ifCond .eq 39, .ifCond .eq 39, 21, 57, 3, 0, 0, 0),
  (21, .iload_n 3, .iload 3, 22, 0, 1, 0, 0, 0),
  (22, .iconst 0, .iconst 0, 23, 0, 1, 0, 0, 0),
  (23, .bipush 100, .iconst 100, 25, 0, 2, 100, 0, 0),
  (25, .invokestatic 82, .invokestatic 82, 28, 0, 3, 0, 0, 0),
  (28, .ifCond .eq 29, .ifCond .eq 29, 31, 57, 3, 0, 0, 0),
  (31, .iload 4, .iload 4, 33, 0, 2, 0, 0, 0),
  (33, .iconst 0, .iconst 0, 34, 0, 1, 0, 0, 0),
  (34, .bipush 100, .iconst 100, 36, 0, 2, 100, 0, 0),
  (36, .invokestatic 82, .invokestatic 82, 39, 0, 3, 0, 0, 0),
  (39, .ifCond .eq 18, .ifCond .eq 18, 42, 57, 3, 0, 0, 0),
  (42, .iload 5, .iload 5, 44, 0, 2, 0, 0, 0),
  (44, .iconst 0, .iconst 0, 45, 0, 1, 0, 0, 0),
  (45, .bipush 100, .iconst 100, 47, 0, 2, 100, 0, 0),
  (47, .invokestatic 82, .invokestatic 82, 50, 0, 3, 0, 0, 0),
  (50, .ifCond .eq 7, .ifCond .eq 7, 53, 57, 3, 0, 0, 0),
  (53, .iconst 1, .iconst 1, 54, 0, 1, 1, 0, 0),
  (54, .goto 4, .goto 4, 58, 0, 3, 0, 0, 0),
  (57, .iconst 0, .iconst 0, 58, 0, 1, 0, 0, 0),
  (58, .istore 6, .istore 6, 60, 0, 2, 0, 0, 0),
  (60, .iload 6, .iload 6, 62, 0, 2, 0, 0, 0),
  (62, .ifCond .eq 15, .ifCond .eq 15, 65, 77, 3, 0, 0, 0),
  (65, .aload_n 0, .aload 0, 66, 0, 1, 0, 0, 0),
  (66, .getfield 10, .getfield 0, 69, 9, 3, 0, 0, 371),
  (69, .getfield 86, .getfield 0, 72, 3, 3, 0, 0, 101),
  (72, .bipush 12, .iconst 12, 74, 0, 2, 12, 0, 0),
  (74, .if_icmp .lt 5, .if_icmp .lt 5, 77, 79, 3, 0, 0, 0),
  (77, .iconst (-1), .iconst (-1), 78, 0, 1, (-1), 0, 0),
  (78, .ireturn, .ireturn, 79, 0, 1, 0, 0, 0),
  (79, .aload_n 0, .aload 0, 80, 0, 1, 0, 0, 0),
  (80, .getfield 10, .getfield 0, 83, 9, 3, 0, 0, 371),
  (83, .iload_n 1, .iload 1, 84, 0, 1, 0, 0, 0),
  (84, .iload_n 2, .iload 2, 85, 0, 1, 0, 0, 0),
  (85, .iload_n 3, .iload 3, 86, 0, 1, 0, 0, 0),
  (86, .iload 4, .iload 4, 88, 0, 2, 0, 0, 0),
  (88, .iload 5, .iload 5, 90, 0, 2, 0, 0, 0),
  (90, .invokevirtual 89, .invokevirtual 89, 93, 0, 3, 0, 0, 0),
  (93, .ireturn, .ireturn, 94, 0, 1, 0, 0, 0)])
set_option maxRecDepth 100000 in
theorem okX9_lot : okm mX9_lot = true := by decide +kernel
def mX9_days : mt_T := (yX9_days, cX9_days, 2, (some .int), [
  (0, .iload_n 1, .iload 1, 1, 0, 1, 0, 0, 0),
  (1, .iconst 0, .iconst 0, 2, 0, 1, 0, 0, 0),
  (2, .bipush 100, .iconst 100, 4, 0, 2, 100, 0, 0),
  (4, .invokestatic 82, .invokestatic 82, 7, 0, 3, 0, 0, 0),
  (7, .ifCond .eq 15, .ifCond .eq 15, 10, 22, 3, 0, 0, 0),
  (10, .aload_n 0, .aload 0, 11, 0, 1, 0, 0, 0),
  (11, .getfield 77, .getfield 9, 14, 9, 3, 0, 0, 380),
  (14, .iload_n 1, .iload 1, 15, 0, 1, 0, 0, 0),
  (15, .iadd, .iadd, 16, 0, 1, 0, 0, 0),
  (16, .sipush 999, .iconst 999, 19, 0, 3, 999, 0, 0),
  (19, .if_icmp .le 5, .if_icmp .le 5, 22, 24, 3, 0, 0, 0),
  (22, .iconst (-1), .iconst (-1), 23, 0, 1, (-1), 0, 0),
  (23, .ireturn, .ireturn, 24, 0, 1, 0, 0, 0),
  (24, .aload_n 0, .aload 0, 25, 0, 1, 0, 0, 0),
  (25, .dup, .dup, 26, 0, 1, 0, 0, 0),
  (26, .getfield 77, .getfield 9, 29, 9, 3, 0, 0, 380),
  (29, .iload_n 1, .iload 1, 30, 0, 1, 0, 0, 0),
  (30, .iadd, .iadd, 31, 0, 1, 0, 0, 0),
  (31, .putfield 77, .putfield 9, 34, 9, 3, 0, 0, 380),
  (34, .aload_n 0, .aload 0, 35, 0, 1, 0, 0, 0),
  (35, .getfield 77, .getfield 9, 38, 9, 3, 0, 0, 380),
  (38, .ireturn, .ireturn, 39, 0, 1, 0, 0, 0)])
set_option maxRecDepth 100000 in
theorem okX9_days : okm mX9_days = true := by decide +kernel
def mX9_curve : mt_T := (yX9_curve, cX9_curve, 3, (some .boolean), [
  (0, .aload_n 0, .aload 0, 1, 0, 1, 0, 0, 0),
  (1, .getfield 35, .getfield 3, 4, 9, 3, 0, 0, 374),
  (4, .iload_n 1, .iload 1, 5, 0, 1, 0, 0, 0),
  (5, .iload_n 2, .iload 2, 6, 0, 1, 0, 0, 0),
  (6, .invokevirtual 93, .invokevirtual 93, 9, 0, 3, 0, 0, 0),
  (9, .ireturn, .ireturn, 10, 0, 1, 0, 0, 0)])
set_option maxRecDepth 100000 in
theorem okX9_curve : okm mX9_curve = true := by decide +kernel
def mX9_feed : mt_T := (yX9_feed, cX9_feed, 7, (some .int), [
  (0, .aload_n 0, .aload 0, 1, 0, 1, 0, 0, 0),
  (1, .getfield 19, .getfield 1, 4, 9, 3, 0, 0, 372),
  (4, .lload_n 1, .lload 1, 5, 0, 1, 0, 0, 0),
  (5, .invokevirtual 97, .invokevirtual 97, 8, 0, 3, 0, 0, 0),
  (8, .aload_n 0, .aload 0, 9, 0, 1, 0, 0, 0),
  (9, .getfield 19, .getfield 1, 12, 9, 3, 0, 0, 372),
  (12, .lload_n 3, .lload 3, 13, 0, 1, 0, 0, 0),
  (13, .invokevirtual 97, .invokevirtual 97, 16, 0, 3, 0, 0, 0),
  (16, .aload_n 0, .aload 0, 17, 0, 1, 0, 0, 0),
  (17, .getfield 19, .getfield 1, 20, 9, 3, 0, 0, 372),
  (20, .lload 5, .lload 5, 22, 0, 2, 0, 0, 0),
  (22, .invokevirtual 97, .invokevirtual 97, 25, 0, 3, 0, 0, 0),
  (25, .aload_n 0, .aload 0, 26, 0, 1, 0, 0, 0),
  (26, .getfield 19, .getfield 1, 29, 9, 3, 0, 0, 372),
  (29, .getfield 101, .getfield 1, 32, 7, 3, 0, 0, 130),
  (32, .ireturn, .ireturn, 33, 0, 1, 0, 0, 0)])
set_option maxRecDepth 100000 in
theorem okX9_feed : okm mX9_feed = true := by decide +kernel
def mX9_text : mt_T := (yX9_text, cX9_text, 2, (some .int), [
  (0, .aload_n 0, .aload 0, 1, 0, 1, 0, 0, 0),
  (1, .getfield 28, .getfield 2, 4, 9, 3, 0, 0, 373),
  (4, .invokevirtual 104, .invokevirtual 104, 7, 0, 3, 0, 0, 0),
  (7, .istore_n 1, .istore 1, 8, 0, 1, 0, 0, 0),
  (8, .aload_n 0, .aload 0, 9, 0, 1, 0, 0, 0),
  (9, .getfield 19, .getfield 1, 12, 9, 3, 0, 0, 372),
  (12, .iconst 0, .iconst 0, 13, 0, 1, 0, 0, 0),
  (13, .putfield 101, .putfield 1, 16, 7, 3, 0, 0, 130),
  (16, .iload_n 1, .iload 1, 17, 0, 1, 0, 0, 0),
  (17, .ifCond .ne 18, .ifCond .ne 18, 20, 35, 3, 0, 0, 0),
  (20, .aload_n 0, .aload 0, 21, 0, 1, 0, 0, 0),
  (21, .aload_n 0, .aload 0, 22, 0, 1, 0, 0, 0),
  (22, .getfield 28, .getfield 2, 25, 9, 3, 0, 0, 373),
  (25, .aload_n 0, .aload 0, 26, 0, 1, 0, 0, 0),
  (26, .getfield 73, .getfield 8, 29, 9, 3, 0, 0, 379),
  (29, .invokevirtual 108, .invokevirtual 108, 32, 0, 3, 0, 0, 0),
  (32, .putfield 73, .putfield 8, 35, 9, 3, 0, 0, 379),
  (35, .iload_n 1, .iload 1, 36, 0, 1, 0, 0, 0),
  (36, .ireturn, .ireturn, 37, 0, 1, 0, 0, 0)])
set_option maxRecDepth 100000 in
theorem okX9_text : okm mX9_text = true := by decide +kernel
def mX9_roast : mt_T := (yX9_roast, cX9_roast, 4, (some .int), [
  (0, .aload_n 0, .aload 0, 1, 0, 1, 0, 0, 0),
  (1, .getfield 10, .getfield 0, 4, 9, 3, 0, 0, 371),
  (4, .iload_n 1, .iload 1, 5, 0, 1, 0, 0, 0),
  (5, .invokevirtual 112, .invokevirtual 112, 8, 0, 3, 0, 0, 0),
  (8, .ifCond .eq 38, .ifCond .eq 38, 11, 46, 3, 0, 0, 0),
  (11, .iload_n 2, .iload 2, 12, 0, 1, 0, 0, 0),
  (12, .iconst 1, .iconst 1, 13, 0, 1, 1, 0, 0),
  (13, .sipush 20000, .iconst 20000, 16, 0, 3, 20000, 0, 0),
  (16, .aload_n 0, .aload 0, 17, 0, 1, 0, 0, 0),
  (17, .getfield 10, .getfield 0, 20, 9, 3, 0, 0, 371),
  (20, .getfield 116, .getfield 1, 23, 3, 3, 0, 0, 105),
  (23, .iload_n 1, .iload 1, 24, 0, 1, 0, 0, 0),
  (24, .iaload, .iaload, 25, 0, 1, 0, 0, 0),
  (25, .invokestatic 119, .invokestatic 119, 28, 0, 3, 0, 0, 0),
  (28, .invokestatic 82, .invokestatic 82, 31, 0, 3, 0, 0, 0),
  (31, .ifCond .eq 15, .ifCond .eq 15, 34, 46, 3, 0, 0, 0),
  (34, .aload_n 0, .aload 0, 35, 0, 1, 0, 0, 0),
  (35, .getfield 42, .getfield 4, 38, 9, 3, 0, 0, 375),
  (38, .getfield 125, .getfield 0, 41, 0, 3, 0, 0, 276),
  (41, .bipush 60, .iconst 60, 43, 0, 2, 60, 0, 0),
  (43, .if_icmp .lt 5, .if_icmp .lt 5, 46, 48, 3, 0, 0, 0),
  (46, .iconst (-1), .iconst (-1), 47, 0, 1, (-1), 0, 0),
  (47, .ireturn, .ireturn, 48, 0, 1, 0, 0, 0),
  (48, .aload_n 0, .aload 0, 49, 0, 1, 0, 0, 0),
  (49, .getfield 10, .getfield 0, 52, 9, 3, 0, 0, 371),
  (52, .getfield 116, .getfield 1, 55, 3, 3, 0, 0, 105),
  (55, .iload_n 1, .iload 1, 56, 0, 1, 0, 0, 0),
  (56, .dup2, .dup2, 57, 0, 1, 0, 0, 0),
  (57, .iaload, .iaload, 58, 0, 1, 0, 0, 0),
  (58, .iload_n 2, .iload 2, 59, 0, 1, 0, 0, 0),
  (59, .isub, .isub, 60, 0, 1, 0, 0, 0),
  (60, .iastore, .iastore, 61, 0, 1, 0, 0, 0),
  (61, .aload_n 0, .aload 0, 62, 0, 1, 0, 0, 0),
  (62, .getfield 35, .getfield 3, 65, 9, 3, 0, 0, 374),
  (65, .iload_n 2, .iload 2, 66, 0, 1, 0, 0, 0),
  (66, .aload_n 0, .aload 0, 67, 0, 1, 0, 0, 0),
  (67, .getfield 73, .getfield 8, 70, 9, 3, 0, 0, 379),
  (70, .invokevirtual 126, .invokevirtual 126, 73, 0, 3, 0, 0, 0),
  (73, .iload_n 2, .iload 2, 74, 0, 1, 0, 0, 0),
  (74, .sipush 1000, .iconst 1000, 77, 0, 3, 1000, 0, 0),
  (77, .aload_n 0, .aload 0, 78, 0, 1, 0, 0, 0),
  (78, .getfield 35, .getfield 3, 81, 9, 3, 0, 0, 374),
  (81, .getfield 130, .getfield 0, 84, 4, 3, 0, 0, 232),
  (84, .isub, .isub, 85, 0, 1, 0, 0, 0),
  (85, .imul, .imul, 86, 0, 1, 0, 0, 0),
  (86, .sipush 1000, .iconst 1000, 89, 0, 3, 1000, 0, 0),
  (89, .idiv, .idiv, 90, 0, 1, 0, 0, 0),
  (90, .istore_n 3, .istore 3, 91, 0, 1, 0, 0, 0),
  (91, .iload_n 3, .iload 3, 92, 0, 1, 0, 0, 0),
  (92, .iconst 1, .iconst 1, 93, 0, 1, 1, 0, 0),
  (93, .if_icmp .ge 8, .if_icmp .ge 8, 96, 101, 3, 0, 0, 0),
  (96, .bipush (-2), .iconst (-2), 98, 0, 2, (-2), 0, 0),
  (98, .goto 16, .goto 16, 114, 0, 3, 0, 0, 0),
  (101, .aload_n 0, .aload 0, 102, 0, 1, 0, 0, 0),
  (102, .getfield 42, .getfield 4, 105, 9, 3, 0, 0, 375),
  (105, .iload_n 1, .iload 1, 106, 0, 1, 0, 0, 0),
  (106, .iload_n 3, .iload 3, 107, 0, 1, 0, 0, 0),
  (107, .aload_n 0, .aload 0, 108, 0, 1, 0, 0, 0),
  (108, .getfield 77, .getfield 9, 111, 9, 3, 0, 0, 380),
  (111, .invokevirtual 133, .invokevirtual 133, 114, 0, 3, 0, 0, 0),
  (114, .ireturn, .ireturn, 115, 0, 1, 0, 0, 0)])
set_option maxRecDepth 100000 in
theorem okX9_roast : okm mX9_roast = true := by decide +kernel
def mX9_roasted : mt_T := (yX9_roasted, cX9_roasted, 2, (some .int), [
  (0, .aload_n 0, .aload 0, 1, 0, 1, 0, 0, 0),
  (1, .getfield 35, .getfield 3, 4, 9, 3, 0, 0, 374),
  (4, .iload_n 1, .iload 1, 5, 0, 1, 0, 0, 0),
  (5, .invokevirtual 137, .invokevirtual 137, 8, 0, 3, 0, 0, 0),
  (8, .ireturn, .ireturn, 9, 0, 1, 0, 0, 0)])
set_option maxRecDepth 100000 in
theorem okX9_roasted : okm mX9_roasted = true := by decide +kernel
def mX9_take : mt_T := (yX9_take, cX9_take, 3, (some .int), [
  (0, .aload_n 0, .aload 0, 1, 0, 1, 0, 0, 0),
  (1, .getfield 42, .getfield 4, 4, 9, 3, 0, 0, 375),
  (4, .iload_n 1, .iload 1, 5, 0, 1, 0, 0, 0),
  (5, .iload_n 2, .iload 2, 6, 0, 1, 0, 0, 0),
  (6, .invokevirtual 141, .invokevirtual 141, 9, 0, 3, 0, 0, 0),
  (9, .ireturn, .ireturn, 10, 0, 1, 0, 0, 0)])
set_option maxRecDepth 100000 in
theorem okX9_take : okm mX9_take = true := by decide +kernel
def mX9_blend : mt_T := (yX9_blend, cX9_blend, 1, (some .int), [
  (0, .aload_n 0, .aload 0, 1, 0, 1, 0, 0, 0),
  (1, .getfield 42, .getfield 4, 4, 9, 3, 0, 0, 375),
  (4, .invokevirtual 144, .invokevirtual 144, 7, 0, 3, 0, 0, 0),
  (7, .ireturn, .ireturn, 8, 0, 1, 0, 0, 0)])
set_option maxRecDepth 100000 in
theorem okX9_blend : okm mX9_blend = true := by decide +kernel
def mX9_bag : mt_T := (yX9_bag, cX9_bag, 3, (some .int), [
  (0, .aload_n 0, .aload 0, 1, 0, 1, 0, 0, 0),
  (1, .getfield 42, .getfield 4, 4, 9, 3, 0, 0, 375),
  (4, .iload_n 1, .iload 1, 5, 0, 1, 0, 0, 0),
  (5, .invokevirtual 147, .invokevirtual 147, 8, 0, 3, 0, 0, 0),
  (8, .ifCond .eq 12, .ifCond .eq 12, 11, 20, 3, 0, 0, 0),
  (11, .iload_n 2, .iload 2, 12, 0, 1, 0, 0, 0),
  (12, .iconst 0, .iconst 0, 13, 0, 1, 0, 0, 0),
  (13, .iconst 3, .iconst 3, 14, 0, 1, 3, 0, 0),
  (14, .invokestatic 82, .invokestatic 82, 17, 0, 3, 0, 0, 0),
  (17, .ifCond .ne 11, .ifCond .ne 11, 20, 28, 3, 0, 0, 0),
  (20, .new 148, .new 148, 23, 0, 3, 0, 0, 0),
  (23, .dup, .dup, 24, 0, 1, 0, 0, 0),
  (24, .invokespecial 150, .invokespecial 150, 27, 0, 3, 0, 0, 0),
  (27, .athrow, .athrow, 28, 0, 1, 0, 0, 0),
  (28, .iload_n 2, .iload 2, 29, 0, 1, 0, 0, 0),
  (29, .tableswitch 57 0 2 #[27, 37, 47], .tableswitch 57 0 2 #[27, 37, 47], 56, 0, 27, 0, 0, 0),
  (56, .aload_n 0, .aload 0, 57, 0, 1, 0, 0, 0),
  (57, .getfield 42, .getfield 4, 60, 9, 3, 0, 0, 375),
  (60, .getfield 151, .getfield 2, 63, 0, 3, 0, 0, 280),
  (63, .iload_n 1, .iload 1, 64, 0, 1, 0, 0, 0),
  (64, .iaload, .iaload, 65, 0, 1, 0, 0, 0),
  (65, .ireturn, .ireturn, 66, 0, 1, 0, 0, 0),
  (66, .aload_n 0, .aload 0, 67, 0, 1, 0, 0, 0),
  (67, .getfield 42, .getfield 4, 70, 9, 3, 0, 0, 375),
  (70, .getfield 154, .getfield 3, 73, 0, 3, 0, 0, 282),
  (73, .iload_n 1, .iload 1, 74, 0, 1, 0, 0, 0),
  (74, .iaload, .iaload, 75, 0, 1, 0, 0, 0),
  (75, .ireturn, .ireturn, 76, 0, 1, 0, 0, 0),
  (76, .aload_n 0, .aload 0, 77, 0, 1, 0, 0, 0),
  (77, .getfield 42, .getfield 4, 80, 9, 3, 0, 0, 375),
  (80, .getfield 157, .getfield 4, 83, 0, 3, 0, 0, 284),
  (83, .iload_n 1, .iload 1, 84, 0, 1, 0, 0, 0),
  (84, .iaload, .iaload, 85, 0, 1, 0, 0, 0),
  (85, .ireturn, .ireturn, 86, 0, 1, 0, 0, 0),
  (86, .aload_n 0, .aload 0, 87, 0, 1, 0, 0, 0),
  (87, .getfield 42, .getfield 4, 90, 9, 3, 0, 0, 375),
  (90, .iload_n 1, .iload 1, 91, 0, 1, 0, 0, 0),
  (91, .invokevirtual 160, .invokevirtual 160, 94, 0, 3, 0, 0, 0),
  (94, .ireturn, .ireturn, 95, 0, 1, 0, 0, 0)])
set_option maxRecDepth 100000 in
theorem okX9_bag : okm mX9_bag = true := by decide +kernel
def mX9_part : mt_T := (yX9_part, cX9_part, 3, (some .int), [
  (0, .aload_n 0, .aload 0, 1, 0, 1, 0, 0, 0),
  (1, .getfield 10, .getfield 0, 4, 9, 3, 0, 0, 371),
  (4, .iload_n 2, .iload 2, 5, 0, 1, 0, 0, 0),
  (5, .invokevirtual 112, .invokevirtual 112, 8, 0, 3, 0, 0, 0),
  (8, .ifCond .ne 5, .ifCond .ne 5, 11, 13, 3, 0, 0, 0),
  (11, .iconst (-1), .iconst (-1), 12, 0, 1, (-1), 0, 0),
  (12, .ireturn, .ireturn, 13, 0, 1, 0, 0, 0),
  (13, .iload_n 1, .iload 1, 14, 0, 1, 0, 0, 0),
  (14, .iconst (-1), .iconst (-1), 15, 0, 1, (-1), 0, 0),
  (15, .if_icmp .ne 13, .if_icmp .ne 13, 18, 28, 3, 0, 0, 0),
  (18, .aload_n 0, .aload 0, 19, 0, 1, 0, 0, 0),
  (19, .getfield 10, .getfield 0, 22, 9, 3, 0, 0, 371),
  (22, .getfield 116, .getfield 1, 25, 3, 3, 0, 0, 105),
  (25, .iload_n 2, .iload 2, 26, 0, 1, 0, 0, 0),
  (26, .iaload, .iaload, 27, 0, 1, 0, 0, 0),
  (27, .ireturn, .ireturn, 28, 0, 1, 0, 0, 0),
  (28, .aload_n 0, .aload 0, 29, 0, 1, 0, 0, 0),
  (29, .getfield 42, .getfield 4, 32, 9, 3, 0, 0, 375),
  (32, .iload_n 1, .iload 1, 33, 0, 1, 0, 0, 0),
  (33, .invokevirtual 147, .invokevirtual 147, 36, 0, 3, 0, 0, 0),
  (36, .ifCond .eq 15, .ifCond .eq 15, 39, 51, 3, 0, 0, 0),
  (39, .aload_n 0, .aload 0, 40, 0, 1, 0, 0, 0),
  (40, .getfield 42, .getfield 4, 43, 9, 3, 0, 0, 375),
  (43, .iload_n 1, .iload 1, 44, 0, 1, 0, 0, 0),
  (44, .iload_n 2, .iload 2, 45, 0, 1, 0, 0, 0),
  (45, .invokevirtual 163, .invokevirtual 163, 48, 0, 3, 0, 0, 0),
  (48, .goto 4, .goto 4, 52, 0, 3, 0, 0, 0),
  (51, .iconst (-1), .iconst (-1), 52, 0, 1, (-1), 0, 0),
  (52, .ireturn, .ireturn, 53, 0, 1, 0, 0, 0)])
set_option maxRecDepth 100000 in
theorem okX9_part : okm mX9_part = true := by decide +kernel
def mX9_mark : mt_T := (yX9_mark, cX9_mark, 4, (some .boolean), [
  (0, .aload_n 0, .aload 0, 1, 0, 1, 0, 0, 0),
  (1, .getfield 49, .getfield 5, 4, 9, 3, 0, 0, 376),
  (4, .iload_n 1, .iload 1, 5, 0, 1, 0, 0, 0),
  (5, .iload_n 2, .iload 2, 6, 0, 1, 0, 0, 0),
  (6, .iload_n 3, .iload 3, 7, 0, 1, 0, 0, 0),
  (7, .invokevirtual 166, .invokevirtual 166, 10, 0, 3, 0, 0, 0),
  (10, .ireturn, .ireturn, 11, 0, 1, 0, 0, 0)])
set_option maxRecDepth 100000 in
theorem okX9_mark : okm mX9_mark = true := by decide +kernel
def mX9_told : mt_T := (yX9_told, cX9_told, 3, (some .boolean), [
  (0, .aload_n 0, .aload 0, 1, 0, 1, 0, 0, 0),
  (1, .getfield 49, .getfield 5, 4, 9, 3, 0, 0, 376),
  (4, .iload_n 1, .iload 1, 5, 0, 1, 0, 0, 0),
  (5, .iload_n 2, .iload 2, 6, 0, 1, 0, 0, 0),
  (6, .invokevirtual 169, .invokevirtual 169, 9, 0, 3, 0, 0, 0),
  (9, .ireturn, .ireturn, 10, 0, 1, 0, 0, 0)])
set_option maxRecDepth 100000 in
theorem okX9_told : okm mX9_told = true := by decide +kernel
def mX9_order : mt_T := (yX9_order, cX9_order, 3, (some .int), [
  (0, .aload_n 0, .aload 0, 1, 0, 1, 0, 0, 0),
  (1, .getfield 49, .getfield 5, 4, 9, 3, 0, 0, 376),
  (4, .iload_n 1, .iload 1, 5, 0, 1, 0, 0, 0),
  (5, .iload_n 2, .iload 2, 6, 0, 1, 0, 0, 0),
  (6, .invokevirtual 172, .invokevirtual 172, 9, 0, 3, 0, 0, 0),
  (9, .ireturn, .ireturn, 10, 0, 1, 0, 0, 0)])
set_option maxRecDepth 100000 in
theorem okX9_order : okm mX9_order = true := by decide +kernel
def mX9_worth : mt_T := (yX9_worth, cX9_worth, 2, (some .int), [
  (0, .aload_n 0, .aload 0, 1, 0, 1, 0, 0, 0),
  (1, .getfield 49, .getfield 5, 4, 9, 3, 0, 0, 376),
  (4, .iload_n 1, .iload 1, 5, 0, 1, 0, 0, 0),
  (5, .invokevirtual 175, .invokevirtual 175, 8, 0, 3, 0, 0, 0),
  (8, .ireturn, .ireturn, 9, 0, 1, 0, 0, 0)])
set_option maxRecDepth 100000 in
theorem okX9_worth : okm mX9_worth = true := by decide +kernel
def mX9_span : mt_T := (yX9_span, cX9_span, 4, (some .boolean), [
  (0, .aload_n 0, .aload 0, 1, 0, 1, 0, 0, 0),
  (1, .getfield 56, .getfield 6, 4, 9, 3, 0, 0, 377),
  (4, .iload_n 1, .iload 1, 5, 0, 1, 0, 0, 0),
  (5, .iload_n 2, .iload 2, 6, 0, 1, 0, 0, 0),
  (6, .iload_n 3, .iload 3, 7, 0, 1, 0, 0, 0),
  (7, .invokevirtual 178, .invokevirtual 178, 10, 0, 3, 0, 0, 0),
  (10, .ireturn, .ireturn, 11, 0, 1, 0, 0, 0)])
set_option maxRecDepth 100000 in
theorem okX9_span : okm mX9_span = true := by decide +kernel
def mX9_best : mt_T := (yX9_best, cX9_best, 3, (some .int), [
  (0, .aload_n 0, .aload 0, 1, 0, 1, 0, 0, 0),
  (1, .getfield 56, .getfield 6, 4, 9, 3, 0, 0, 377),
  (4, .aload_n 0, .aload 0, 5, 0, 1, 0, 0, 0),
  (5, .getfield 10, .getfield 0, 8, 9, 3, 0, 0, 371),
  (8, .iload_n 1, .iload 1, 9, 0, 1, 0, 0, 0),
  (9, .iload_n 2, .iload 2, 10, 0, 1, 0, 0, 0),
  (10, .invokevirtual 181, .invokevirtual 181, 13, 0, 3, 0, 0, 0),
  (13, .ireturn, .ireturn, 14, 0, 1, 0, 0, 0)])
set_option maxRecDepth 100000 in
theorem okX9_best : okm mX9_best = true := by decide +kernel
def mX9_tenths : mt_T := (yX9_tenths, cX9_tenths, 2, (some .int), [
  (0, .aload_n 0, .aload 0, 1, 0, 1, 0, 0, 0),
  (1, .getfield 10, .getfield 0, 4, 9, 3, 0, 0, 371),
  (4, .iload_n 1, .iload 1, 5, 0, 1, 0, 0, 0),
  (5, .invokevirtual 112, .invokevirtual 112, 8, 0, 3, 0, 0, 0),
  (8, .ifCond .eq 25, .ifCond .eq 25, 11, 33, 3, 0, 0, 0),
  (11, .aload_n 0, .aload 0, 12, 0, 1, 0, 0, 0),
  (12, .getfield 56, .getfield 6, 15, 9, 3, 0, 0, 377),
  (15, .getfield 185, .getfield 0, 18, 1, 3, 0, 0, 336),
  (18, .ifCond .eq 15, .ifCond .eq 15, 21, 33, 3, 0, 0, 0),
  (21, .aload_n 0, .aload 0, 22, 0, 1, 0, 0, 0),
  (22, .getfield 56, .getfield 6, 25, 9, 3, 0, 0, 377),
  (25, .getfield 189, .getfield 1, 28, 1, 3, 0, 0, 338),
  (28, .iload_n 1, .iload 1, 29, 0, 1, 0, 0, 0),
  (29, .iaload, .iaload, 30, 0, 1, 0, 0, 0),
  (30, .goto 4, .goto 4, 34, 0, 3, 0, 0, 0),
  (33, .iconst (-1), .iconst (-1), 34, 0, 1, (-1), 0, 0),
  (34, .ireturn, .ireturn, 35, 0, 1, 0, 0, 0)])
set_option maxRecDepth 100000 in
theorem okX9_tenths : okm mX9_tenths = true := by decide +kernel
def mX9_send : mt_T := (yX9_send, cX9_send, 3, (some .boolean), [
  (0, .iload_n 2, .iload 2, 1, 0, 1, 0, 0, 0),
  (1, .iconst 0, .iconst 0, 2, 0, 1, 0, 0, 0),
  (2, .bipush 9, .iconst 9, 4, 0, 2, 9, 0, 0),
  (4, .invokestatic 82, .invokestatic 82, 7, 0, 3, 0, 0, 0),
  (7, .ifCond .eq 19, .ifCond .eq 19, 10, 26, 3, 0, 0, 0),
  (10, .aload_n 0, .aload 0, 11, 0, 1, 0, 0, 0),
  (11, .getfield 42, .getfield 4, 14, 9, 3, 0, 0, 375),
  (14, .iload_n 1, .iload 1, 15, 0, 1, 0, 0, 0),
  (15, .iload_n 2, .iload 2, 16, 0, 1, 0, 0, 0),
  (16, .invokevirtual 192, .invokevirtual 192, 19, 0, 3, 0, 0, 0),
  (19, .ifCond .eq 7, .ifCond .eq 7, 22, 26, 3, 0, 0, 0),
  (22, .iconst 1, .iconst 1, 23, 0, 1, 1, 0, 0),
  (23, .goto 4, .goto 4, 27, 0, 3, 0, 0, 0),
  (26, .iconst 0, .iconst 0, 27, 0, 1, 0, 0, 0),
  (27, .ireturn, .ireturn, 28, 0, 1, 0, 0, 0)])
set_option maxRecDepth 100000 in
theorem okX9_send : okm mX9_send = true := by decide +kernel
def mX9_keeps : mt_T := (yX9_keeps, cX9_keeps, 3, (some .boolean), [
  (0, .iload_n 1, .iload 1, 1, 0, 1, 0, 0, 0),
  (1, .iconst 0, .iconst 0, 2, 0, 1, 0, 0, 0),
  (2, .bipush 9, .iconst 9, 4, 0, 2, 9, 0, 0),
  (4, .invokestatic 82, .invokestatic 82, 7, 0, 3, 0, 0, 0),
  (7, .ifCond .eq 14, .ifCond .eq 14, 10, 21, 3, 0, 0, 0),
  (10, .iload_n 2, .iload 2, 11, 0, 1, 0, 0, 0),
  (11, .iconst 0, .iconst 0, 12, 0, 1, 0, 0, 0),
  (12, .sipush 999, .iconst 999, 15, 0, 3, 999, 0, 0),
  (15, .invokestatic 82, .invokestatic 82, 18, 0, 3, 0, 0, 0),
  (18, .ifCond .ne 5, .ifCond .ne 5, 21, 23, 3, 0, 0, 0),
  (21, .iconst 0, .iconst 0, 22, 0, 1, 0, 0, 0),
  (22, .ireturn, .ireturn, 23, 0, 1, 0, 0, 0),
  (23, .aload_n 0, .aload 0, 24, 0, 1, 0, 0, 0),
  (24, .getfield 60, .getfield 7, 27, 9, 3, 0, 0, 378),
  (27, .iload_n 1, .iload 1, 28, 0, 1, 0, 0, 0),
  (28, .iload_n 2, .iload 2, 29, 0, 1, 0, 0, 0),
  (29, .iastore, .iastore, 30, 0, 1, 0, 0, 0),
  (30, .iconst 1, .iconst 1, 31, 0, 1, 1, 0, 0),
  (31, .ireturn, .ireturn, 32, 0, 1, 0, 0, 0)])
set_option maxRecDepth 100000 in
theorem okX9_keeps : okm mX9_keeps = true := by decide +kernel
def mX9_stale : mt_T := (yX9_stale, cX9_stale, 2, (some .int), [
  (0, .iload_n 1, .iload 1, 1, 0, 1, 0, 0, 0),
  (1, .iconst 0, .iconst 0, 2, 0, 1, 0, 0, 0),
  (2, .bipush 9, .iconst 9, 4, 0, 2, 9, 0, 0),
  (4, .invokestatic 82, .invokestatic 82, 7, 0, 3, 0, 0, 0),
  (7, .ifCond .ne 5, .ifCond .ne 5, 10, 12, 3, 0, 0, 0),
  (10, .iconst (-1), .iconst (-1), 11, 0, 1, (-1), 0, 0),
  (11, .ireturn, .ireturn, 12, 0, 1, 0, 0, 0),
  (12, .aload_n 0, .aload 0, 13, 0, 1, 0, 0, 0),
  (13, .getfield 42, .getfield 4, 16, 9, 3, 0, 0, 375),
  (16, .iload_n 1, .iload 1, 17, 0, 1, 0, 0, 0),
  (17, .aload_n 0, .aload 0, 18, 0, 1, 0, 0, 0),
  (18, .getfield 77, .getfield 9, 21, 9, 3, 0, 0, 380),
  (21, .aload_n 0, .aload 0, 22, 0, 1, 0, 0, 0),
  (22, .getfield 60, .getfield 7, 25, 9, 3, 0, 0, 378),
  (25, .iload_n 1, .iload 1, 26, 0, 1, 0, 0, 0),
  (26, .iaload, .iaload, 27, 0, 1, 0, 0, 0),
  (27, .isub, .isub, 28, 0, 1, 0, 0, 0),
  (28, .invokevirtual 195, .invokevirtual 195, 31, 0, 3, 0, 0, 0),
  (31, .ireturn, .ireturn, 32, 0, 1, 0, 0, 0)])
set_option maxRecDepth 100000 in
theorem okX9_stale : okm mX9_stale = true := by decide +kernel
def mX9_found : mt_T := (yX9_found, cX9_found, 3, (some .int), [
  (0, .aload_n 0, .aload 0, 1, 0, 1, 0, 0, 0),
  (1, .getfield 10, .getfield 0, 4, 9, 3, 0, 0, 371),
  (4, .iload_n 1, .iload 1, 5, 0, 1, 0, 0, 0),
  (5, .invokevirtual 112, .invokevirtual 112, 8, 0, 3, 0, 0, 0),
  (8, .ifCond .eq 15, .ifCond .eq 15, 11, 23, 3, 0, 0, 0),
  (11, .aload_n 0, .aload 0, 12, 0, 1, 0, 0, 0),
  (12, .getfield 42, .getfield 4, 15, 9, 3, 0, 0, 375),
  (15, .iload_n 1, .iload 1, 16, 0, 1, 0, 0, 0),
  (16, .iload_n 2, .iload 2, 17, 0, 1, 0, 0, 0),
  (17, .invokevirtual 198, .invokevirtual 198, 20, 0, 3, 0, 0, 0),
  (20, .goto 4, .goto 4, 24, 0, 3, 0, 0, 0),
  (23, .iconst (-1), .iconst (-1), 24, 0, 1, (-1), 0, 0),
  (24, .ireturn, .ireturn, 25, 0, 1, 0, 0, 0)])
set_option maxRecDepth 100000 in
theorem okX9_found : okm mX9_found = true := by decide +kernel
def mX9_led : mt_T := (yX9_led, cX9_led, 3, (some .int), [
  (0, .aload_n 0, .aload 0, 1, 0, 1, 0, 0, 0),
  (1, .getfield 10, .getfield 0, 4, 9, 3, 0, 0, 371),
  (4, .iload_n 1, .iload 1, 5, 0, 1, 0, 0, 0),
  (5, .invokevirtual 112, .invokevirtual 112, 8, 0, 3, 0, 0, 0),
  (8, .ifCond .eq 13, .ifCond .eq 13, 11, 21, 3, 0, 0, 0),
  (11, .iload_n 2, .iload 2, 12, 0, 1, 0, 0, 0),
  (12, .iconst 0, .iconst 0, 13, 0, 1, 0, 0, 0),
  (13, .bipush 9, .iconst 9, 15, 0, 2, 9, 0, 0),
  (15, .invokestatic 82, .invokestatic 82, 18, 0, 3, 0, 0, 0),
  (18, .ifCond .ne 5, .ifCond .ne 5, 21, 23, 3, 0, 0, 0),
  (21, .iconst (-1), .iconst (-1), 22, 0, 1, (-1), 0, 0),
  (22, .ireturn, .ireturn, 23, 0, 1, 0, 0, 0),
  (23, .aload_n 0, .aload 0, 24, 0, 1, 0, 0, 0),
  (24, .getfield 42, .getfield 4, 27, 9, 3, 0, 0, 375),
  (27, .iload_n 2, .iload 2, 28, 0, 1, 0, 0, 0),
  (28, .iload_n 1, .iload 1, 29, 0, 1, 0, 0, 0),
  (29, .invokevirtual 201, .invokevirtual 201, 32, 0, 3, 0, 0, 0),
  (32, .ireturn, .ireturn, 33, 0, 1, 0, 0, 0)])
set_option maxRecDepth 100000 in
theorem okX9_led : okm mX9_led = true := by decide +kernel
def mX9_count : mt_T := (yX9_count, cX9_count, 2, (some .int), [
  (0, .iload_n 1, .iload 1, 1, 0, 1, 0, 0, 0),
  (1, .tableswitch 96 0 6 #[43, 51, 59, 64, 72, 80, 88], .tableswitch 96 0 6 #[43, 51, 59, 64, 72, 80, 88], 44, 0, 43, 0, 0, 0),
  (44, .aload_n 0, .aload 0, 45, 0, 1, 0, 0, 0),
  (45, .getfield 10, .getfield 0, 48, 9, 3, 0, 0, 371),
  (48, .getfield 86, .getfield 0, 51, 3, 3, 0, 0, 101),
  (51, .ireturn, .ireturn, 52, 0, 1, 0, 0, 0),
  (52, .aload_n 0, .aload 0, 53, 0, 1, 0, 0, 0),
  (53, .getfield 42, .getfield 4, 56, 9, 3, 0, 0, 375),
  (56, .getfield 125, .getfield 0, 59, 0, 3, 0, 0, 276),
  (59, .ireturn, .ireturn, 60, 0, 1, 0, 0, 0),
  (60, .aload_n 0, .aload 0, 61, 0, 1, 0, 0, 0),
  (61, .getfield 77, .getfield 9, 64, 9, 3, 0, 0, 380),
  (64, .ireturn, .ireturn, 65, 0, 1, 0, 0, 0),
  (65, .aload_n 0, .aload 0, 66, 0, 1, 0, 0, 0),
  (66, .getfield 73, .getfield 8, 69, 9, 3, 0, 0, 379),
  (69, .getfield 204, .getfield 0, 72, 6, 3, 0, 0, 181),
  (72, .ireturn, .ireturn, 73, 0, 1, 0, 0, 0),
  (73, .aload_n 0, .aload 0, 74, 0, 1, 0, 0, 0),
  (74, .getfield 19, .getfield 1, 77, 9, 3, 0, 0, 372),
  (77, .getfield 101, .getfield 1, 80, 7, 3, 0, 0, 130),
  (80, .ireturn, .ireturn, 81, 0, 1, 0, 0, 0),
  (81, .aload_n 0, .aload 0, 82, 0, 1, 0, 0, 0),
  (82, .getfield 42, .getfield 4, 85, 9, 3, 0, 0, 375),
  (85, .getfield 207, .getfield 1, 88, 0, 3, 0, 0, 278),
  (88, .ireturn, .ireturn, 89, 0, 1, 0, 0, 0),
  (89, .aload_n 0, .aload 0, 90, 0, 1, 0, 0, 0),
  (90, .getfield 42, .getfield 4, 93, 9, 3, 0, 0, 375),
  (93, .invokevirtual 210, .invokevirtual 210, 96, 0, 3, 0, 0, 0),
  (96, .ireturn, .ireturn, 97, 0, 1, 0, 0, 0),
  (97, .iconst (-1), .iconst (-1), 98, 0, 1, (-1), 0, 0),
  (98, .ireturn, .ireturn, 99, 0, 1, 0, 0, 0)])
set_option maxRecDepth 100000 in
theorem okX9_count : okm mX9_count = true := by decide +kernel
def mX9_within : mt_T := (yX9_within, cX9_within, 3, (some .boolean), [
  (0, .iload_n 0, .iload 0, 1, 0, 1, 0, 0, 0),
  (1, .iload_n 1, .iload 1, 2, 0, 1, 0, 0, 0),
  (2, .if_icmp .lt 12, .if_icmp .lt 12, 5, 14, 3, 0, 0, 0),
  (5, .iload_n 0, .iload 0, 6, 0, 1, 0, 0, 0),
  (6, .iload_n 2, .iload 2, 7, 0, 1, 0, 0, 0),
  (7, .if_icmp .gt 7, .if_icmp .gt 7, 10, 14, 3, 0, 0, 0),
  (10, .iconst 1, .iconst 1, 11, 0, 1, 1, 0, 0),
  (11, .goto 4, .goto 4, 15, 0, 3, 0, 0, 0),
  (14, .iconst 0, .iconst 0, 15, 0, 1, 0, 0, 0),
  (15, .ireturn, .ireturn, 16, 0, 1, 0, 0, 0)])
set_option maxRecDepth 100000 in
theorem okX9_within : okm mX9_within = true := by decide +kernel
end
section
/-! the methods of the reference -/
def mX10_thrown : mt_T := (yX10_thrown, cX10_thrown, 1, (some .int), [
  (0, .aload_n 0, .aload 0, 1, 0, 1, 0, 0, 0),
  (1, .getfield 1, .getfield 0, 4, 10, 3, 0, 0, 975),
  (4, .ireturn, .ireturn, 5, 0, 1, 0, 0, 0)])
set_option maxRecDepth 100000 in
theorem okX10_thrown : okm mX10_thrown = true := by decide +kernel
def mX10_feed : mt_T := (yX10_feed, cX10_feed, 7, (some .int), [
  (0, .aload_n 0, .aload 0, 1, 0, 1, 0, 0, 0),
  (1, .iconst 0, .iconst 0, 2, 0, 1, 0, 0, 0),
  (2, .putfield 1, .putfield 0, 5, 10, 3, 0, 0, 975),
  (5, .aload_n 0, .aload 0, 6, 0, 1, 0, 0, 0),
  (6, .lload_n 1, .lload 1, 7, 0, 1, 0, 0, 0),
  (7, .invokevirtual 7, .invokevirtual 7, 10, 0, 3, 0, 0, 0),
  (10, .aload_n 0, .aload 0, 11, 0, 1, 0, 0, 0),
  (11, .lload_n 3, .lload 3, 12, 0, 1, 0, 0, 0),
  (12, .invokevirtual 7, .invokevirtual 7, 15, 0, 3, 0, 0, 0),
  (15, .aload_n 0, .aload 0, 16, 0, 1, 0, 0, 0),
  (16, .lload 5, .lload 5, 18, 0, 2, 0, 0, 0),
  (18, .invokevirtual 7, .invokevirtual 7, 21, 0, 3, 0, 0, 0),
  (21, .aload_n 0, .aload 0, 22, 0, 1, 0, 0, 0),
  (22, .getfield 11, .getfield 2, 25, 10, 3, 0, 0, 977),
  (25, .ireturn, .ireturn, 26, 0, 1, 0, 0, 0)])
set_option maxRecDepth 100000 in
theorem okX10_feed : okm mX10_feed = true := by decide +kernel
def mX10_lay : mt_T := (yX10_lay, cX10_lay, 5, none, [
  (0, .bipush 56, .iconst 56, 2, 0, 2, 56, 0, 0),
  (2, .istore_n 3, .istore 3, 3, 0, 1, 0, 0, 0),
  (3, .iload_n 3, .iload 3, 4, 0, 1, 0, 0, 0),
  (4, .ifCond .lt 71, .ifCond .lt 71, 7, 75, 3, 0, 0, 0),
  (7, .lload_n 1, .lload 1, 8, 0, 1, 0, 0, 0),
  (8, .iload_n 3, .iload 3, 9, 0, 1, 0, 0, 0),
  (9, .lshr, .lshr, 10, 0, 1, 0, 0, 0),
  (10, .l2i, .l2i, 11, 0, 1, 0, 0, 0),
  (11, .sipush 255, .iconst 255, 14, 0, 3, 255, 0, 0),
  (14, .iand, .iand, 15, 0, 1, 0, 0, 0),
  (15, .istore 4, .istore 4, 17, 0, 2, 0, 0, 0),
  (17, .iload 4, .iload 4, 19, 0, 2, 0, 0, 0),
  (19, .bipush 10, .iconst 10, 21, 0, 2, 10, 0, 0),
  (21, .if_icmp .eq 17, .if_icmp .eq 17, 24, 38, 3, 0, 0, 0),
  (24, .iload 4, .iload 4, 26, 0, 2, 0, 0, 0),
  (26, .bipush 32, .iconst 32, 28, 0, 2, 32, 0, 0),
  (28, .if_icmp .lt 41, .if_icmp .lt 41, 31, 69, 3, 0, 0, 0),
  (31, .iload 4, .iload 4, 33, 0, 2, 0, 0, 0),
  (33, .bipush 126, .iconst 126, 35, 0, 2, 126, 0, 0),
  (35, .if_icmp .gt 34, .if_icmp .gt 34, 38, 69, 3, 0, 0, 0),
  (38, .aload_n 0, .aload 0, 39, 0, 1, 0, 0, 0),
  (39, .getfield 11, .getfield 2, 42, 10, 3, 0, 0, 977),
  (42, .sipush 600, .iconst 600, 45, 0, 3, 600, 0, 0),
  (45, .if_icmp .ge 24, .if_icmp .ge 24, 48, 69, 3, 0, 0, 0),
  (48, .aload_n 0, .aload 0, 49, 0, 1, 0, 0, 0),
  (49, .getfield 14, .getfield 1, 52, 10, 3, 0, 0, 976),
  (52, .aload_n 0, .aload 0, 53, 0, 1, 0, 0, 0),
  (53, .getfield 11, .getfield 2, 56, 10, 3, 0, 0, 977),
  (56, .iload 4, .iload 4, 58, 0, 2, 0, 0, 0),
  (58, .iastore, .iastore, 59, 0, 1, 0, 0, 0),
  (59, .aload_n 0, .aload 0, 60, 0, 1, 0, 0, 0),
  (60, .dup, .dup, 61, 0, 1, 0, 0, 0),
  (61, .getfield 11, .getfield 2, 64, 10, 3, 0, 0, 977),
  (64, .iconst 1, .iconst 1, 65, 0, 1, 1, 0, 0),
  (65, .iadd, .iadd, 66, 0, 1, 0, 0, 0),
  (66, .putfield 11, .putfield 2, 69, 10, 3, 0, 0, 977),
  (69, .iinc 3 (-8), .iinc 3 (-8), 72, 0, 3, (-8), 0, 0),
  (72, .goto (-69), .goto (-69), 3, 0, 3, 0, 0, 0),
  (75, .return_, .return_, 76, 0, 1, 0, 0, 0)])
set_option maxRecDepth 100000 in
theorem okX10_lay : okm mX10_lay = true := by decide +kernel
def mX10_init : mt_T := (yX10_init, cX10_init, 3, none, [
  (0, .aload_n 0, .aload 0, 1, 0, 1, 0, 0, 0),
  (1, .invokespecial 18, .invokespecial 18, 4, 0, 3, 0, 0, 0),
  (4, .aload_n 0, .aload 0, 5, 0, 1, 0, 0, 0),
  (5, .sipush 600, .iconst 600, 8, 0, 3, 600, 0, 0),
  (8, .newarray .int, .newarray .int, 10, 0, 2, 0, 0, 0),
  (10, .putfield 14, .putfield 1, 13, 10, 3, 0, 0, 976),
  (13, .aload_n 0, .aload 0, 14, 0, 1, 0, 0, 0),
  (14, .sipush 602, .iconst 602, 17, 0, 3, 602, 0, 0),
  (17, .newarray .int, .newarray .int, 19, 0, 2, 0, 0, 0),
  (19, .putfield 24, .putfield 4, 22, 10, 3, 0, 0, 979),
  (22, .aload_n 0, .aload 0, 23, 0, 1, 0, 0, 0),
  (23, .sipush 602, .iconst 602, 26, 0, 3, 602, 0, 0),
  (26, .newarray .int, .newarray .int, 28, 0, 2, 0, 0, 0),
  (28, .putfield 27, .putfield 5, 31, 10, 3, 0, 0, 980),
  (31, .aload_n 0, .aload 0, 32, 0, 1, 0, 0, 0),
  (32, .sipush 602, .iconst 602, 35, 0, 3, 602, 0, 0),
  (35, .newarray .long, .newarray .long, 37, 0, 2, 0, 0, 0),
  (37, .putfield 30, .putfield 6, 40, 10, 3, 0, 0, 981),
  (40, .aload_n 0, .aload 0, 41, 0, 1, 0, 0, 0),
  (41, .bipush 10, .iconst 10, 43, 0, 2, 10, 0, 0),
  (43, .newarray .long, .newarray .long, 45, 0, 2, 0, 0, 0),
  (45, .dup, .dup, 46, 0, 1, 0, 0, 0),
  (46, .iconst 0, .iconst 0, 47, 0, 1, 0, 0, 0),
  (47, .ldc2_w 34, .ldc2_w 34, 50, 0, 3, 0, 227825, 965),
  (50, .lastore, .lastore, 51, 0, 1, 0, 0, 0),
  (51, .dup, .dup, 52, 0, 1, 0, 0, 0),
  (52, .iconst 1, .iconst 1, 53, 0, 1, 1, 0, 0),
  (53, .ldc2_w 36, .ldc2_w 36, 56, 0, 3, 0, 316910, 966),
  (56, .lastore, .lastore, 57, 0, 1, 0, 0, 0),
  (57, .dup, .dup, 58, 0, 1, 0, 0, 0),
  (58, .iconst 2, .iconst 2, 59, 0, 1, 2, 0, 0),
  (59, .ldc2_w 38, .ldc2_w 38, 62, 0, 3, 0, 228044, 967),
  (62, .lastore, .lastore, 63, 0, 1, 0, 0, 0),
  (63, .dup, .dup, 64, 0, 1, 0, 0, 0),
  (64, .iconst 3, .iconst 3, 65, 0, 1, 3, 0, 0),
  (65, .ldc2_w 40, .ldc2_w 40, 68, 0, 3, 0, 1176170, 968),
  (68, .lastore, .lastore, 69, 0, 1, 0, 0, 0),
  (69, .dup, .dup, 70, 0, 1, 0, 0, 0),
  (70, .iconst 4, .iconst 4, 71, 0, 1, 4, 0, 0),
  (71, .ldc2_w 42, .ldc2_w 42, 74, 0, 3, 0, 1891, 969),
  (74, .lastore, .lastore, 75, 0, 1, 0, 0, 0),
  (75, .dup, .dup, 76, 0, 1, 0, 0, 0),
  (76, .iconst 5, .iconst 5, 77, 0, 1, 5, 0, 0),
  (77, .ldc2_w 44, .ldc2_w 44, 80, 0, 3, 0, 919077526, 970),
  (80, .lastore, .lastore, 81, 0, 1, 0, 0, 0),
  (81, .dup, .dup, 82, 0, 1, 0, 0, 0),
  (82, .bipush 6, .iconst 6, 84, 0, 2, 6, 0, 0),
  (84, .ldc2_w 46, .ldc2_w 46, 87, 0, 3, 0, 1597715471, 971),
  (87, .lastore, .lastore, 88, 0, 1, 0, 0, 0),
  (88, .dup, .dup, 89, 0, 1, 0, 0, 0),
  (89, .bipush 7, .iconst 7, 91, 0, 2, 7, 0, 0),
  (91, .ldc2_w 48, .ldc2_w 48, 94, 0, 3, 0, 1034043, 972),
  (94, .lastore, .lastore, 95, 0, 1, 0, 0, 0),
  (95, .dup, .dup, 96, 0, 1, 0, 0, 0),
  (96, .bipush 8, .iconst 8, 98, 0, 2, 8, 0, 0),
  (98, .ldc2_w 50, .ldc2_w 50, 101, 0, 3, 0, 924783, 973),
  (101, .lastore, .lastore, 102, 0, 1, 0, 0, 0),
  (102, .dup, .dup, 103, 0, 1, 0, 0, 0),
  (103, .bipush 9, .iconst 9, 105, 0, 2, 9, 0, 0),
  (105, .ldc2_w 52, .ldc2_w 52, 108, 0, 3, 0, 14032750, 974),
  (108, .lastore, .lastore, 109, 0, 1, 0, 0, 0),
  (109, .putfield 54, .putfield 9, 112, 10, 3, 0, 0, 984),
  (112, .aload_n 0, .aload 0, 113, 0, 1, 0, 0, 0),
  (113, .iconst 2, .iconst 2, 114, 0, 1, 2, 0, 0),
  (114, .newarray .int, .newarray .int, 116, 0, 2, 0, 0, 0),
  (116, .putfield 57, .putfield 10, 119, 10, 3, 0, 0, 985),
  (119, .aload_n 0, .aload 0, 120, 0, 1, 0, 0, 0),
  (120, .bipush 32, .iconst 32, 122, 0, 2, 32, 0, 0),
  (122, .newarray .int, .newarray .int, 124, 0, 2, 0, 0, 0),
  (124, .putfield 60, .putfield 11, 127, 10, 3, 0, 0, 986),
  (127, .aload_n 0, .aload 0, 128, 0, 1, 0, 0, 0),
  (128, .bipush 32, .iconst 32, 130, 0, 2, 32, 0, 0),
  (130, .newarray .int, .newarray .int, 132, 0, 2, 0, 0, 0),
  (132, .putfield 63, .putfield 12, 135, 10, 3, 0, 0, 987),
  (135, .aload_n 0, .aload 0, 136, 0, 1, 0, 0, 0),
  (136, .bipush 32, .iconst 32, 138, 0, 2, 32, 0, 0),
  (138, .newarray .int, .newarray .int, 140, 0, 2, 0, 0, 0),
  (140, .putfield 66, .putfield 13, 143, 10, 3, 0, 0, 988),
  (143, .aload_n 0, .aload 0, 144, 0, 1, 0, 0, 0),
  (144, .sipush 1320, .iconst 1320, 147, 0, 3, 1320, 0, 0),
  (147, .newarray .int, .newarray .int, 149, 0, 2, 0, 0, 0),
  (149, .putfield 69, .putfield 14, 152, 10, 3, 0, 0, 989),
  (152, .aload_n 0, .aload 0, 153, 0, 1, 0, 0, 0),
  (153, .sipush 1320, .iconst 1320, 156, 0, 3, 1320, 0, 0),
  (156, .newarray .int, .newarray .int, 158, 0, 2, 0, 0, 0),
  (158, .putfield 72, .putfield 15, 161, 10, 3, 0, 0, 990),
  (161, .aload_n 0, .aload 0, 162, 0, 1, 0, 0, 0),
  (162, .bipush 7, .iconst 7, 164, 0, 2, 7, 0, 0),
  (164, .newarray .int, .newarray .int, 166, 0, 2, 0, 0, 0),
  (166, .putfield 75, .putfield 20, 169, 10, 3, 0, 0, 995),
  (169, .aload_n 0, .aload 0, 170, 0, 1, 0, 0, 0),
  (170, .bipush 7, .iconst 7, 172, 0, 2, 7, 0, 0),
  (172, .newarray .int, .newarray .int, 174, 0, 2, 0, 0, 0),
  (174, .putfield 78, .putfield 21, 177, 10, 3, 0, 0, 996),
  (177, .aload_n 0, .aload 0, 178, 0, 1, 0, 0, 0),
  (178, .bipush 7, .iconst 7, 180, 0, 2, 7, 0, 0),
  (180, .newarray .int, .newarray .int, 182, 0, 2, 0, 0, 0),
  (182, .putfield 81, .putfield 22, 185, 10, 3, 0, 0, 997),
  (185, .aload_n 0, .aload 0, 186, 0, 1, 0, 0, 0),
  (186, .bipush 7, .iconst 7, 188, 0, 2, 7, 0, 0),
  (188, .newarray .int, .newarray .int, 190, 0, 2, 0, 0, 0),
  (190, .putfield 84, .putfield 23, 193, 10, 3, 0, 0, 998),
  (193, .aload_n 0, .aload 0, 194, 0, 1, 0, 0, 0),
  (194, .sipush 660, .iconst 660, 197, 0, 3, 660, 0, 0),
  (197, .newarray .int, .newarray .int, 199, 0, 2, 0, 0, 0),
  (199, .putfield 87, .putfield 24, 202, 10, 3, 0, 0, 999),
  (202, .aload_n 0, .aload 0, 203, 0, 1, 0, 0, 0),
  (203, .bipush 12, .iconst 12, 205, 0, 2, 12, 0, 0),
  (205, .newarray .int, .newarray .int, 207, 0, 2, 0, 0, 0),
  (207, .putfield 90, .putfield 27, 210, 10, 3, 0, 0, 1002),
  (210, .aload_n 0, .aload 0, 211, 0, 1, 0, 0, 0),
  (211, .bipush 12, .iconst 12, 213, 0, 2, 12, 0, 0),
  (213, .newarray .int, .newarray .int, 215, 0, 2, 0, 0, 0),
  (215, .putfield 93, .putfield 28, 218, 10, 3, 0, 0, 1003),
  (218, .aload_n 0, .aload 0, 219, 0, 1, 0, 0, 0),
  (219, .bipush 36, .iconst 36, 221, 0, 2, 36, 0, 0),
  (221, .newarray .int, .newarray .int, 223, 0, 2, 0, 0, 0),
  (223, .putfield 96, .putfield 29, 226, 10, 3, 0, 0, 1004),
  (226, .aload_n 0, .aload 0, 227, 0, 1, 0, 0, 0),
  (227, .sipush 720, .iconst 720, 230, 0, 3, 720, 0, 0),
  (230, .newarray .int, .newarray .int, 232, 0, 2, 0, 0, 0),
  (232, .putfield 99, .putfield 31, 235, 10, 3, 0, 0, 1006),
  (235, .aload_n 0, .aload 0, 236, 0, 1, 0, 0, 0),
  (236, .bipush 60, .iconst 60, 238, 0, 2, 60, 0, 0),
  (238, .newarray .int, .newarray .int, 240, 0, 2, 0, 0, 0),
  (240, .putfield 102, .putfield 32, 243, 10, 3, 0, 0, 1007),
  (243, .aload_n 0, .aload 0, 244, 0, 1, 0, 0, 0),
  (244, .bipush 60, .iconst 60, 246, 0, 2, 60, 0, 0),
  (246, .newarray .int, .newarray .int, 248, 0, 2, 0, 0, 0),
  (248, .putfield 105, .putfield 33, 251, 10, 3, 0, 0, 1008),
  (251, .aload_n 0, .aload 0, 252, 0, 1, 0, 0, 0),
  (252, .bipush 20, .iconst 20, 254, 0, 2, 20, 0, 0),
  (254, .newarray .int, .newarray .int, 256, 0, 2, 0, 0, 0),
  (256, .putfield 108, .putfield 34, 259, 10, 3, 0, 0, 1009),
  (259, .aload_n 0, .aload 0, 260, 0, 1, 0, 0, 0),
  (260, .bipush 60, .iconst 60, 262, 0, 2, 60, 0, 0),
  (262, .newarray .int, .newarray .int, 264, 0, 2, 0, 0, 0),
  (264, .putfield 111, .putfield 45, 267, 10, 3, 0, 0, 1020),
  (267, .aload_n 0, .aload 0, 268, 0, 1, 0, 0, 0),
  (268, .bipush 12, .iconst 12, 270, 0, 2, 12, 0, 0),
  (270, .newarray .int, .newarray .int, 272, 0, 2, 0, 0, 0),
  (272, .putfield 114, .putfield 46, 275, 10, 3, 0, 0, 1021),
  (275, .aload_n 0, .aload 0, 276, 0, 1, 0, 0, 0),
  (276, .bipush 100, .iconst 100, 278, 0, 2, 100, 0, 0),
  (278, .newarray .int, .newarray .int, 280, 0, 2, 0, 0, 0),
  (280, .putfield 117, .putfield 47, 283, 10, 3, 0, 0, 1022),
  (283, .aload_n 0, .aload 0, 284, 0, 1, 0, 0, 0),
  (284, .bipush 20, .iconst 20, 286, 0, 2, 20, 0, 0),
  (286, .newarray .int, .newarray .int, 288, 0, 2, 0, 0, 0),
  (288, .putfield 120, .putfield 48, 291, 10, 3, 0, 0, 1023),
  (291, .aload_n 0, .aload 0, 292, 0, 1, 0, 0, 0),
  (292, .iconst 3, .iconst 3, 293, 0, 1, 3, 0, 0),
  (293, .newarray .int, .newarray .int, 295, 0, 2, 0, 0, 0),
  (295, .putfield 123, .putfield 51, 298, 10, 3, 0, 0, 1026),
  (298, .aload_n 0, .aload 0, 299, 0, 1, 0, 0, 0),
  (299, .iconst 3, .iconst 3, 300, 0, 1, 3, 0, 0),
  (300, .newarray .int, .newarray .int, 302, 0, 2, 0, 0, 0),
  (302, .putfield 126, .putfield 52, 305, 10, 3, 0, 0, 1027),
  (305, .aload_n 0, .aload 0, 306, 0, 1, 0, 0, 0),
  (306, .bipush 6, .iconst 6, 308, 0, 2, 6, 0, 0),
  (308, .newarray .int, .newarray .int, 310, 0, 2, 0, 0, 0),
  (310, .putfield 129, .putfield 53, 313, 10, 3, 0, 0, 1028),
  (313, .aload_n 0, .aload 0, 314, 0, 1, 0, 0, 0),
  (314, .bipush 6, .iconst 6, 316, 0, 2, 6, 0, 0),
  (316, .newarray .int, .newarray .int, 318, 0, 2, 0, 0, 0),
  (318, .putfield 132, .putfield 54, 321, 10, 3, 0, 0, 1029),
  (321, .aload_n 0, .aload 0, 322, 0, 1, 0, 0, 0),
  (322, .bipush 12, .iconst 12, 324, 0, 2, 12, 0, 0),
  (324, .newarray .int, .newarray .int, 326, 0, 2, 0, 0, 0),
  (326, .putfield 135, .putfield 55, 329, 10, 3, 0, 0, 1030),
  (329, .aload_n 0, .aload 0, 330, 0, 1, 0, 0, 0),
  (330, .bipush 10, .iconst 10, 332, 0, 2, 10, 0, 0),
  (332, .newarray .int, .newarray .int, 334, 0, 2, 0, 0, 0),
  (334, .putfield 138, .putfield 59, 337, 10, 3, 0, 0, 1034),
  (337, .iconst 0, .iconst 0, 338, 0, 1, 0, 0, 0),
  (338, .istore_n 1, .istore 1, 339, 0, 1, 0, 0, 0),
  (339, .iload_n 1, .iload 1, 340, 0, 1, 0, 0, 0),
  (340, .bipush 20, .iconst 20, 342, 0, 2, 20, 0, 0),
  (342, .if_icmp .ge 50, .if_icmp .ge 50, 345, 392, 3, 0, 0, 0),
  (345, .aload_n 0, .aload 0, 346, 0, 1, 0, 0, 0),
  (346, .getfield 108, .getfield 34, 349, 10, 3, 0, 0, 1009),
  (349, .iload_n 1, .iload 1, 350, 0, 1, 0, 0, 0),
  (350, .sipush 200, .iconst 200, 353, 0, 3, 200, 0, 0),
  (353, .iastore, .iastore, 354, 0, 1, 0, 0, 0),
  (354, .aload_n 0, .aload 0, 355, 0, 1, 0, 0, 0),
  (355, .getfield 120, .getfield 48, 358, 10, 3, 0, 0, 1023),
  (358, .iload_n 1, .iload 1, 359, 0, 1, 0, 0, 0),
  (359, .iconst (-1), .iconst (-1), 360, 0, 1, (-1), 0, 0),
  (360, .iastore, .iastore, 361, 0, 1, 0, 0, 0),
  (361, .iconst 0, .iconst 0, 362, 0, 1, 0, 0, 0),
  (362, .istore_n 2, .istore 2, 363, 0, 1, 0, 0, 0),
  (363, .iload_n 2, .iload 2, 364, 0, 1, 0, 0, 0),
  (364, .iconst 5, .iconst 5, 365, 0, 1, 5, 0, 0),
  (365, .if_icmp .ge 21, .if_icmp .ge 21, 368, 386, 3, 0, 0, 0),
  (368, .aload_n 0, .aload 0, 369, 0, 1, 0, 0, 0),
  (369, .getfield 117, .getfield 47, 372, 10, 3, 0, 0, 1022),
  (372, .bipush 20, .iconst 20, 374, 0, 2, 20, 0, 0),
  (374, .iload_n 2, .iload 2, 375, 0, 1, 0, 0, 0),
  (375, .imul, .imul, 376, 0, 1, 0, 0, 0),
  (376, .iload_n 1, .iload 1, 377, 0, 1, 0, 0, 0),
  (377, .iadd, .iadd, 378, 0, 1, 0, 0, 0),
  (378, .iconst (-1), .iconst (-1), 379, 0, 1, (-1), 0, 0),
  (379, .iastore, .iastore, 380, 0, 1, 0, 0, 0),
  (380, .iinc 2 1, .iinc 2 1, 383, 0, 3, 1, 0, 0),
  (383, .goto (-20), .goto (-20), 363, 0, 3, 0, 0, 0),
  (386, .iinc 1 1, .iinc 1 1, 389, 0, 3, 1, 0, 0),
  (389, .goto (-50), .goto (-50), 339, 0, 3, 0, 0, 0),
  (392, .iconst 0, .iconst 0, 393, 0, 1, 0, 0, 0),
  (393, .istore_n 1, .istore 1, 394, 0, 1, 0, 0, 0),
  (394, .iload_n 1, .iload 1, 395, 0, 1, 0, 0, 0),
  (395, .bipush 10, .iconst 10, 397, 0, 2, 10, 0, 0),
  (397, .if_icmp .ge 17, .if_icmp .ge 17, 400, 414, 3, 0, 0, 0),
  (400, .aload_n 0, .aload 0, 401, 0, 1, 0, 0, 0),
  (401, .getfield 138, .getfield 59, 404, 10, 3, 0, 0, 1034),
  (404, .iload_n 1, .iload 1, 405, 0, 1, 0, 0, 0),
  (405, .bipush 30, .iconst 30, 407, 0, 2, 30, 0, 0),
  (407, .iastore, .iastore, 408, 0, 1, 0, 0, 0),
  (408, .iinc 1 1, .iinc 1 1, 411, 0, 3, 1, 0, 0),
  (411, .goto (-17), .goto (-17), 394, 0, 3, 0, 0, 0),
  (414, .iconst 0, .iconst 0, 415, 0, 1, 0, 0, 0),
  (415, .istore_n 1, .istore 1, 416, 0, 1, 0, 0, 0),
  (416, .iload_n 1, .iload 1, 417, 0, 1, 0, 0, 0),
  (417, .iconst 3, .iconst 3, 418, 0, 1, 3, 0, 0),
  (418, .if_icmp .ge 17, .if_icmp .ge 17, 421, 435, 3, 0, 0, 0),
  (421, .aload_n 0, .aload 0, 422, 0, 1, 0, 0, 0),
  (422, .getfield 126, .getfield 52, 425, 10, 3, 0, 0, 1027),
  (425, .iload_n 1, .iload 1, 426, 0, 1, 0, 0, 0),
  (426, .bipush 100, .iconst 100, 428, 0, 2, 100, 0, 0),
  (428, .iastore, .iastore, 429, 0, 1, 0, 0, 0),
  (429, .iinc 1 1, .iinc 1 1, 432, 0, 3, 1, 0, 0),
  (432, .goto (-16), .goto (-16), 416, 0, 3, 0, 0, 0),
  (435, .return_, .return_, 436, 0, 1, 0, 0, 0)])
set_option maxRecDepth 100000 in
theorem okX10_init : okm mX10_init = true := by decide +kernel
def mX10_isLetter : mt_T := (yX10_isLetter, cX10_isLetter, 1, (some .boolean), [
  (0, .iload_n 0, .iload 0, 1, 0, 1, 0, 0, 0),
  (1, .bipush 97, .iconst 97, 3, 0, 2, 97, 0, 0),
  (3, .if_icmp .lt 13, .if_icmp .lt 13, 6, 16, 3, 0, 0, 0),
  (6, .iload_n 0, .iload 0, 7, 0, 1, 0, 0, 0),
  (7, .bipush 122, .iconst 122, 9, 0, 2, 122, 0, 0),
  (9, .if_icmp .gt 7, .if_icmp .gt 7, 12, 16, 3, 0, 0, 0),
  (12, .iconst 1, .iconst 1, 13, 0, 1, 1, 0, 0),
  (13, .goto 4, .goto 4, 17, 0, 3, 0, 0, 0),
  (16, .iconst 0, .iconst 0, 17, 0, 1, 0, 0, 0),
  (17, .ireturn, .ireturn, 18, 0, 1, 0, 0, 0)])
set_option maxRecDepth 100000 in
theorem okX10_isLetter : okm mX10_isLetter = true := by decide +kernel
def mX10_isDigit : mt_T := (yX10_isDigit, cX10_isDigit, 1, (some .boolean), [
  (0, .iload_n 0, .iload 0, 1, 0, 1, 0, 0, 0),
  (1, .bipush 48, .iconst 48, 3, 0, 2, 48, 0, 0),
  (3, .if_icmp .lt 13, .if_icmp .lt 13, 6, 16, 3, 0, 0, 0),
  (6, .iload_n 0, .iload 0, 7, 0, 1, 0, 0, 0),
  (7, .bipush 57, .iconst 57, 9, 0, 2, 57, 0, 0),
  (9, .if_icmp .gt 7, .if_icmp .gt 7, 12, 16, 3, 0, 0, 0),
  (12, .iconst 1, .iconst 1, 13, 0, 1, 1, 0, 0),
  (13, .goto 4, .goto 4, 17, 0, 3, 0, 0, 0),
  (16, .iconst 0, .iconst 0, 17, 0, 1, 0, 0, 0),
  (17, .ireturn, .ireturn, 18, 0, 1, 0, 0, 0)])
set_option maxRecDepth 100000 in
theorem okX10_isDigit : okm mX10_isDigit = true := by decide +kernel
def mX10_rank : mt_T := (yX10_rank, cX10_rank, 1, (some .int), [
  (0, .iload_n 0, .iload 0, 1, 0, 1, 0, 0, 0),
  (1, .invokestatic 141, .invokestatic 141, 4, 0, 3, 0, 0, 0),
  (4, .ifCond .eq 10, .ifCond .eq 10, 7, 14, 3, 0, 0, 0),
  (7, .iload_n 0, .iload 0, 8, 0, 1, 0, 0, 0),
  (8, .bipush 96, .iconst 96, 10, 0, 2, 96, 0, 0),
  (10, .isub, .isub, 11, 0, 1, 0, 0, 0),
  (11, .goto 7, .goto 7, 18, 0, 3, 0, 0, 0),
  (14, .iload_n 0, .iload 0, 15, 0, 1, 0, 0, 0),
  (15, .bipush 21, .iconst 21, 17, 0, 2, 21, 0, 0),
  (17, .isub, .isub, 18, 0, 1, 0, 0, 0),
  (18, .ireturn, .ireturn, 19, 0, 1, 0, 0, 0)])
set_option maxRecDepth 100000 in
theorem okX10_rank : okm mX10_rank = true := by decide +kernel
def mX10_isSignOf : mt_T := (yX10_isSignOf, cX10_isSignOf, 1, (some .boolean), [
  (0, .iload_n 0, .iload 0, 1, 0, 1, 0, 0, 0),
  (1, .bipush 40, .iconst 40, 3, 0, 2, 40, 0, 0),
  (3, .if_icmp .eq 39, .if_icmp .eq 39, 6, 42, 3, 0, 0, 0),
  (6, .iload_n 0, .iload 0, 7, 0, 1, 0, 0, 0),
  (7, .bipush 41, .iconst 41, 9, 0, 2, 41, 0, 0),
  (9, .if_icmp .eq 33, .if_icmp .eq 33, 12, 42, 3, 0, 0, 0),
  (12, .iload_n 0, .iload 0, 13, 0, 1, 0, 0, 0),
  (13, .bipush 59, .iconst 59, 15, 0, 2, 59, 0, 0),
  (15, .if_icmp .eq 27, .if_icmp .eq 27, 18, 42, 3, 0, 0, 0),
  (18, .iload_n 0, .iload 0, 19, 0, 1, 0, 0, 0),
  (19, .bipush 61, .iconst 61, 21, 0, 2, 61, 0, 0),
  (21, .if_icmp .eq 21, .if_icmp .eq 21, 24, 42, 3, 0, 0, 0),
  (24, .iload_n 0, .iload 0, 25, 0, 1, 0, 0, 0),
  (25, .bipush 60, .iconst 60, 27, 0, 2, 60, 0, 0),
  (27, .if_icmp .eq 15, .if_icmp .eq 15, 30, 42, 3, 0, 0, 0),
  (30, .iload_n 0, .iload 0, 31, 0, 1, 0, 0, 0),
  (31, .bipush 43, .iconst 43, 33, 0, 2, 43, 0, 0),
  (33, .if_icmp .eq 9, .if_icmp .eq 9, 36, 42, 3, 0, 0, 0),
  (36, .iload_n 0, .iload 0, 37, 0, 1, 0, 0, 0),
  (37, .bipush 45, .iconst 45, 39, 0, 2, 45, 0, 0),
  (39, .if_icmp .ne 7, .if_icmp .ne 7, 42, 46, 3, 0, 0, 0),
  (42, .iconst 1, .iconst 1, 43, 0, 1, 1, 0, 0),
  (43, .goto 4, .goto 4, 47, 0, 3, 0, 0, 0),
  (46, .iconst 0, .iconst 0, 47, 0, 1, 0, 0, 0),
  (47, .ireturn, .ireturn, 48, 0, 1, 0, 0, 0)])
set_option maxRecDepth 100000 in
theorem okX10_isSignOf : okm mX10_isSignOf = true := by decide +kernel
def mX10_cutAll : mt_T := (yX10_cutAll, cX10_cutAll, 7, none, [
  (0, .aload_n 0, .aload 0, 1, 0, 1, 0, 0, 0),
  (1, .aload_n 0, .aload 0, 2, 0, 1, 0, 0, 0),
  (2, .getfield 11, .getfield 2, 5, 10, 3, 0, 0, 977),
  (5, .putfield 145, .putfield 3, 8, 10, 3, 0, 0, 978),
  (8, .aload_n 0, .aload 0, 9, 0, 1, 0, 0, 0),
  (9, .iconst 0, .iconst 0, 10, 0, 1, 0, 0, 0),
  (10, .putfield 11, .putfield 2, 13, 10, 3, 0, 0, 977),
  (13, .iconst 0, .iconst 0, 14, 0, 1, 0, 0, 0),
  (14, .istore_n 1, .istore 1, 15, 0, 1, 0, 0, 0),
  (15, .iconst 0, .iconst 0, 16, 0, 1, 0, 0, 0),
  (16, .istore_n 2, .istore 2, 17, 0, 1, 0, 0, 0),
  (17, .iload_n 2, .iload 2, 18, 0, 1, 0, 0, 0),
  (18, .aload_n 0, .aload 0, 19, 0, 1, 0, 0, 0),
  (19, .getfield 145, .getfield 3, 22, 10, 3, 0, 0, 978),
  (22, .if_icmp .ge 257, .if_icmp .ge 257, 25, 279, 3, 0, 0, 0),
  (25, .aload_n 0, .aload 0, 26, 0, 1, 0, 0, 0),
  (26, .getfield 14, .getfield 1, 29, 10, 3, 0, 0, 976),
  (29, .iload_n 2, .iload 2, 30, 0, 1, 0, 0, 0),
  (30, .iaload, .iaload, 31, 0, 1, 0, 0, 0),
  (31, .istore_n 3, .istore 3, 32, 0, 1, 0, 0, 0),
  (32, .iload_n 3, .iload 3, 33, 0, 1, 0, 0, 0),
  (33, .bipush 10, .iconst 10, 35, 0, 2, 10, 0, 0),
  (35, .if_icmp .eq 9, .if_icmp .eq 9, 38, 44, 3, 0, 0, 0),
  (38, .iload_n 3, .iload 3, 39, 0, 1, 0, 0, 0),
  (39, .bipush 32, .iconst 32, 41, 0, 2, 32, 0, 0),
  (41, .if_icmp .ne 9, .if_icmp .ne 9, 44, 50, 3, 0, 0, 0),
  (44, .iinc 2 1, .iinc 2 1, 47, 0, 3, 1, 0, 0),
  (47, .goto (-30), .goto (-30), 17, 0, 3, 0, 0, 0),
  (50, .iload_n 2, .iload 2, 51, 0, 1, 0, 0, 0),
  (51, .istore 4, .istore 4, 53, 0, 2, 0, 0, 0),
  (53, .lconst 0, .lconst 0, 54, 0, 1, 0, 0, 0),
  (54, .lstore 5, .lstore 5, 56, 0, 2, 0, 0, 0),
  (56, .aload_n 0, .aload 0, 57, 0, 1, 0, 0, 0),
  (57, .getfield 27, .getfield 5, 60, 10, 3, 0, 0, 980),
  (60, .iload_n 1, .iload 1, 61, 0, 1, 0, 0, 0),
  (61, .iload_n 2, .iload 2, 62, 0, 1, 0, 0, 0),
  (62, .iastore, .iastore, 63, 0, 1, 0, 0, 0),
  (63, .iload_n 3, .iload 3, 64, 0, 1, 0, 0, 0),
  (64, .invokestatic 141, .invokestatic 141, 67, 0, 3, 0, 0, 0),
  (67, .ifCond .eq 85, .ifCond .eq 85, 70, 152, 3, 0, 0, 0),
  (70, .iload_n 2, .iload 2, 71, 0, 1, 0, 0, 0),
  (71, .aload_n 0, .aload 0, 72, 0, 1, 0, 0, 0),
  (72, .getfield 145, .getfield 3, 75, 10, 3, 0, 0, 978),
  (75, .if_icmp .ge 54, .if_icmp .ge 54, 78, 129, 3, 0, 0, 0),
  (78, .aload_n 0, .aload 0, 79, 0, 1, 0, 0, 0),
  (79, .getfield 14, .getfield 1, 82, 10, 3, 0, 0, 976),
  (82, .iload_n 2, .iload 2, 83, 0, 1, 0, 0, 0),
  (83, .iaload, .iaload, 84, 0, 1, 0, 0, 0),
  (84, .invokestatic 141, .invokestatic 141, 87, 0, 3, 0, 0, 0),
  (87, .ifCond .eq 42, .ifCond .eq 42, 90, 129, 3, 0, 0, 0),
  (90, .iload_n 2, .iload 2, 91, 0, 1, 0, 0, 0),
  (91, .iload 4, .iload 4, 93, 0, 2, 0, 0, 0),
  (93, .isub, .isub, 94, 0, 1, 0, 0, 0),
  (94, .bipush 8, .iconst 8, 96, 0, 2, 8, 0, 0),
  (96, .if_icmp .ge 23, .if_icmp .ge 23, 99, 119, 3, 0, 0, 0),
  (99, .ldc2_w 148, .ldc2_w 148, 102, 0, 3, 0, 37, 1168),
  (102, .lload 5, .lload 5, 104, 0, 2, 0, 0, 0),
  (104, .lmul, .lmul, 105, 0, 1, 0, 0, 0),
  (105, .aload_n 0, .aload 0, 106, 0, 1, 0, 0, 0),
  (106, .getfield 14, .getfield 1, 109, 10, 3, 0, 0, 976),
  (109, .iload_n 2, .iload 2, 110, 0, 1, 0, 0, 0),
  (110, .iaload, .iaload, 111, 0, 1, 0, 0, 0),
  (111, .invokestatic 150, .invokestatic 150, 114, 0, 3, 0, 0, 0),
  (114, .i2l, .i2l, 115, 0, 1, 0, 0, 0),
  (115, .ladd, .ladd, 116, 0, 1, 0, 0, 0),
  (116, .goto 5, .goto 5, 121, 0, 3, 0, 0, 0),
  (119, .lload 5, .lload 5, 121, 0, 2, 0, 0, 0),
  (121, .lstore 5, .lstore 5, 123, 0, 2, 0, 0, 0),
  (123, .iinc 2 1, .iinc 2 1, 126, 0, 3, 1, 0, 0),
  (126, .goto (-56), .goto (-56), 70, 0, 3, 0, 0, 0),
  (129, .aload_n 0, .aload 0, 130, 0, 1, 0, 0, 0),
  (130, .getfield 24, .getfield 4, 133, 10, 3, 0, 0, 979),
  (133, .iload_n 1, .iload 1, 134, 0, 1, 0, 0, 0),
  (134, .iload_n 2, .iload 2, 135, 0, 1, 0, 0, 0),
  (135, .iload 4, .iload 4, 137, 0, 2, 0, 0, 0),
  (137, .isub, .isub, 138, 0, 1, 0, 0, 0),
  (138, .bipush 8, .iconst 8, 140, 0, 2, 8, 0, 0),
  (140, .if_icmp .le 7, .if_icmp .le 7, 143, 147, 3, 0, 0, 0),
  (143, .iconst 4, .iconst 4, 144, 0, 1, 4, 0, 0),
  (144, .goto 4, .goto 4, 148, 0, 3, 0, 0, 0),
  (147, .iconst 1, .iconst 1, 148, 0, 1, 1, 0, 0),
  (148, .iastore, .iastore, 149, 0, 1, 0, 0, 0),
  (149, .goto 116, .goto 116, 265, 0, 3, 0, 0, 0),
  (152, .iload_n 3, .iload 3, 153, 0, 1, 0, 0, 0),
  (153, .invokestatic 154, .invokestatic 154, 156, 0, 3, 0, 0, 0),
  (156, .ifCond .eq 84, .ifCond .eq 84, 159, 240, 3, 0, 0, 0),
  (159, .iload_n 2, .iload 2, 160, 0, 1, 0, 0, 0),
  (160, .aload_n 0, .aload 0, 161, 0, 1, 0, 0, 0),
  (161, .getfield 145, .getfield 3, 164, 10, 3, 0, 0, 978),
  (164, .if_icmp .ge 54, .if_icmp .ge 54, 167, 218, 3, 0, 0, 0),
  (167, .aload_n 0, .aload 0, 168, 0, 1, 0, 0, 0),
  (168, .getfield 14, .getfield 1, 171, 10, 3, 0, 0, 976),
  (171, .iload_n 2, .iload 2, 172, 0, 1, 0, 0, 0),
  (172, .iaload, .iaload, 173, 0, 1, 0, 0, 0),
  (173, .invokestatic 154, .invokestatic 154, 176, 0, 3, 0, 0, 0),
  (176, .ifCond .eq 42, .ifCond .eq 42, 179, 218, 3, 0, 0, 0),
  (179, .iload_n 2, .iload 2, 180, 0, 1, 0, 0, 0),
  (180, .iload 4, .iload 4, 182, 0, 2, 0, 0, 0),
  (182, .isub, .isub, 183, 0, 1, 0, 0, 0),
  (183, .iconst 4, .iconst 4, 184, 0, 1, 4, 0, 0),
  (184, .if_icmp .ge 24, .if_icmp .ge 24, 187, 208, 3, 0, 0, 0),
  (187, .ldc2_w 157, .ldc2_w 157, 190, 0, 3, 0, 10, 1175),
  (190, .lload 5, .lload 5, 192, 0, 2, 0, 0, 0),
  (192, .lmul, .lmul, 193, 0, 1, 0, 0, 0),
  (193, .aload_n 0, .aload 0, 194, 0, 1, 0, 0, 0),
  (194, .getfield 14, .getfield 1, 197, 10, 3, 0, 0, 976),
  (197, .iload_n 2, .iload 2, 198, 0, 1, 0, 0, 0),
  (198, .iaload, .iaload, 199, 0, 1, 0, 0, 0),
  (199, .i2l, .i2l, 200, 0, 1, 0, 0, 0),
  (200, .ladd, .ladd, 201, 0, 1, 0, 0, 0),
  (201, .ldc2_w 159, .ldc2_w 159, 204, 0, 3, 0, 48, 1176),
  (204, .lsub, .lsub, 205, 0, 1, 0, 0, 0),
  (205, .goto 5, .goto 5, 210, 0, 3, 0, 0, 0),
  (208, .lload 5, .lload 5, 210, 0, 2, 0, 0, 0),
  (210, .lstore 5, .lstore 5, 212, 0, 2, 0, 0, 0),
  (212, .iinc 2 1, .iinc 2 1, 215, 0, 3, 1, 0, 0),
  (215, .goto (-56), .goto (-56), 159, 0, 3, 0, 0, 0),
  (218, .aload_n 0, .aload 0, 219, 0, 1, 0, 0, 0),
  (219, .getfield 24, .getfield 4, 222, 10, 3, 0, 0, 979),
  (222, .iload_n 1, .iload 1, 223, 0, 1, 0, 0, 0),
  (223, .iload_n 2, .iload 2, 224, 0, 1, 0, 0, 0),
  (224, .iload 4, .iload 4, 226, 0, 2, 0, 0, 0),
  (226, .isub, .isub, 227, 0, 1, 0, 0, 0),
  (227, .iconst 4, .iconst 4, 228, 0, 1, 4, 0, 0),
  (228, .if_icmp .le 7, .if_icmp .le 7, 231, 235, 3, 0, 0, 0),
  (231, .iconst 4, .iconst 4, 232, 0, 1, 4, 0, 0),
  (232, .goto 4, .goto 4, 236, 0, 3, 0, 0, 0),
  (235, .iconst 2, .iconst 2, 236, 0, 1, 2, 0, 0),
  (236, .iastore, .iastore, 237, 0, 1, 0, 0, 0),
  (237, .goto 28, .goto 28, 265, 0, 3, 0, 0, 0),
  (240, .iload_n 3, .iload 3, 241, 0, 1, 0, 0, 0),
  (241, .i2l, .i2l, 242, 0, 1, 0, 0, 0),
  (242, .lstore 5, .lstore 5, 244, 0, 2, 0, 0, 0),
  (244, .aload_n 0, .aload 0, 245, 0, 1, 0, 0, 0),
  (245, .getfield 24, .getfield 4, 248, 10, 3, 0, 0, 979),
  (248, .iload_n 1, .iload 1, 249, 0, 1, 0, 0, 0),
  (249, .iload_n 3, .iload 3, 250, 0, 1, 0, 0, 0),
  (250, .invokestatic 161, .invokestatic 161, 253, 0, 3, 0, 0, 0),
  (253, .ifCond .eq 7, .ifCond .eq 7, 256, 260, 3, 0, 0, 0),
  (256, .iconst 3, .iconst 3, 257, 0, 1, 3, 0, 0),
  (257, .goto 4, .goto 4, 261, 0, 3, 0, 0, 0),
  (260, .iconst 4, .iconst 4, 261, 0, 1, 4, 0, 0),
  (261, .iastore, .iastore, 262, 0, 1, 0, 0, 0),
  (262, .iinc 2 1, .iinc 2 1, 265, 0, 3, 1, 0, 0),
  (265, .aload_n 0, .aload 0, 266, 0, 1, 0, 0, 0),
  (266, .getfield 30, .getfield 6, 269, 10, 3, 0, 0, 981),
  (269, .iload_n 1, .iload 1, 270, 0, 1, 0, 0, 0),
  (270, .lload 5, .lload 5, 272, 0, 2, 0, 0, 0),
  (272, .lastore, .lastore, 273, 0, 1, 0, 0, 0),
  (273, .iinc 1 1, .iinc 1 1, 276, 0, 3, 1, 0, 0),
  (276, .goto (-259), .goto (-259), 17, 0, 3, 0, 0, 0),
  (279, .aload_n 0, .aload 0, 280, 0, 1, 0, 0, 0),
  (280, .getfield 24, .getfield 4, 283, 10, 3, 0, 0, 979),
  (283, .iload_n 1, .iload 1, 284, 0, 1, 0, 0, 0),
  (284, .iconst 0, .iconst 0, 285, 0, 1, 0, 0, 0),
  (285, .iastore, .iastore, 286, 0, 1, 0, 0, 0),
  (286, .aload_n 0, .aload 0, 287, 0, 1, 0, 0, 0),
  (287, .getfield 27, .getfield 5, 290, 10, 3, 0, 0, 980),
  (290, .iload_n 1, .iload 1, 291, 0, 1, 0, 0, 0),
  (291, .aload_n 0, .aload 0, 292, 0, 1, 0, 0, 0),
  (292, .getfield 145, .getfield 3, 295, 10, 3, 0, 0, 978),
  (295, .iastore, .iastore, 296, 0, 1, 0, 0, 0),
  (296, .aload_n 0, .aload 0, 297, 0, 1, 0, 0, 0),
  (297, .iconst 0, .iconst 0, 298, 0, 1, 0, 0, 0),
  (298, .putfield 164, .putfield 7, 301, 10, 3, 0, 0, 982),
  (301, .aload_n 0, .aload 0, 302, 0, 1, 0, 0, 0),
  (302, .iconst 0, .iconst 0, 303, 0, 1, 0, 0, 0),
  (303, .putfield 167, .putfield 8, 306, 10, 3, 0, 0, 983),
  (306, .return_, .return_, 307, 0, 1, 0, 0, 0)])
set_option maxRecDepth 100000 in
theorem okX10_cutAll : okm mX10_cutAll = true := by decide +kernel
def mX10_wrong : mt_T := (yX10_wrong, cX10_wrong, 2, none, [
  (0, .aload_n 0, .aload 0, 1, 0, 1, 0, 0, 0),
  (1, .getfield 167, .getfield 8, 4, 10, 3, 0, 0, 983),
  (4, .ifCond .ne 21, .ifCond .ne 21, 7, 25, 3, 0, 0, 0),
  (7, .aload_n 0, .aload 0, 8, 0, 1, 0, 0, 0),
  (8, .iload_n 1, .iload 1, 9, 0, 1, 0, 0, 0),
  (9, .bipush 16, .iconst 16, 11, 0, 2, 16, 0, 0),
  (11, .aload_n 0, .aload 0, 12, 0, 1, 0, 0, 0),
  (12, .getfield 27, .getfield 5, 15, 10, 3, 0, 0, 980),
  (15, .aload_n 0, .aload 0, 16, 0, 1, 0, 0, 0),
  (16, .getfield 164, .getfield 7, 19, 10, 3, 0, 0, 982),
  (19, .iaload, .iaload, 20, 0, 1, 0, 0, 0),
  (20, .imul, .imul, 21, 0, 1, 0, 0, 0),
  (21, .iadd, .iadd, 22, 0, 1, 0, 0, 0),
  (22, .putfield 167, .putfield 8, 25, 10, 3, 0, 0, 983),
  (25, .return_, .return_, 26, 0, 1, 0, 0, 0)])
set_option maxRecDepth 100000 in
theorem okX10_wrong : okm mX10_wrong = true := by decide +kernel
def mX10_isSign : mt_T := (yX10_isSign, cX10_isSign, 2, (some .boolean), [
  (0, .aload_n 0, .aload 0, 1, 0, 1, 0, 0, 0),
  (1, .getfield 167, .getfield 8, 4, 10, 3, 0, 0, 983),
  (4, .ifCond .ne 35, .ifCond .ne 35, 7, 39, 3, 0, 0, 0),
  (7, .aload_n 0, .aload 0, 8, 0, 1, 0, 0, 0),
  (8, .getfield 24, .getfield 4, 11, 10, 3, 0, 0, 979),
  (11, .aload_n 0, .aload 0, 12, 0, 1, 0, 0, 0),
  (12, .getfield 164, .getfield 7, 15, 10, 3, 0, 0, 982),
  (15, .iaload, .iaload, 16, 0, 1, 0, 0, 0),
  (16, .iconst 3, .iconst 3, 17, 0, 1, 3, 0, 0),
  (17, .if_icmp .ne 22, .if_icmp .ne 22, 20, 39, 3, 0, 0, 0),
  (20, .aload_n 0, .aload 0, 21, 0, 1, 0, 0, 0),
  (21, .getfield 30, .getfield 6, 24, 10, 3, 0, 0, 981),
  (24, .aload_n 0, .aload 0, 25, 0, 1, 0, 0, 0),
  (25, .getfield 164, .getfield 7, 28, 10, 3, 0, 0, 982),
  (28, .laload, .laload, 29, 0, 1, 0, 0, 0),
  (29, .iload_n 1, .iload 1, 30, 0, 1, 0, 0, 0),
  (30, .i2l, .i2l, 31, 0, 1, 0, 0, 0),
  (31, .lcmp, .lcmp, 32, 0, 1, 0, 0, 0),
  (32, .ifCond .ne 7, .ifCond .ne 7, 35, 39, 3, 0, 0, 0),
  (35, .iconst 1, .iconst 1, 36, 0, 1, 1, 0, 0),
  (36, .goto 4, .goto 4, 40, 0, 3, 0, 0, 0),
  (39, .iconst 0, .iconst 0, 40, 0, 1, 0, 0, 0),
  (40, .ireturn, .ireturn, 41, 0, 1, 0, 0, 0)])
set_option maxRecDepth 100000 in
theorem okX10_isSign : okm mX10_isSign = true := by decide +kernel
def mX10_isWord : mt_T := (yX10_isWord, cX10_isWord, 2, (some .boolean), [
  (0, .aload_n 0, .aload 0, 1, 0, 1, 0, 0, 0),
  (1, .getfield 167, .getfield 8, 4, 10, 3, 0, 0, 983),
  (4, .ifCond .ne 39, .ifCond .ne 39, 7, 43, 3, 0, 0, 0),
  (7, .aload_n 0, .aload 0, 8, 0, 1, 0, 0, 0),
  (8, .getfield 24, .getfield 4, 11, 10, 3, 0, 0, 979),
  (11, .aload_n 0, .aload 0, 12, 0, 1, 0, 0, 0),
  (12, .getfield 164, .getfield 7, 15, 10, 3, 0, 0, 982),
  (15, .iaload, .iaload, 16, 0, 1, 0, 0, 0),
  (16, .iconst 1, .iconst 1, 17, 0, 1, 1, 0, 0),
  (17, .if_icmp .ne 26, .if_icmp .ne 26, 20, 43, 3, 0, 0, 0),
  (20, .aload_n 0, .aload 0, 21, 0, 1, 0, 0, 0),
  (21, .getfield 30, .getfield 6, 24, 10, 3, 0, 0, 981),
  (24, .aload_n 0, .aload 0, 25, 0, 1, 0, 0, 0),
  (25, .getfield 164, .getfield 7, 28, 10, 3, 0, 0, 982),
  (28, .laload, .laload, 29, 0, 1, 0, 0, 0),
  (29, .aload_n 0, .aload 0, 30, 0, 1, 0, 0, 0),
  (30, .getfield 54, .getfield 9, 33, 10, 3, 0, 0, 984),
  (33, .iload_n 1, .iload 1, 34, 0, 1, 0, 0, 0),
  (34, .laload, .laload, 35, 0, 1, 0, 0, 0),
  (35, .lcmp, .lcmp, 36, 0, 1, 0, 0, 0),
  (36, .ifCond .ne 7, .ifCond .ne 7, 39, 43, 3, 0, 0, 0),
  (39, .iconst 1, .iconst 1, 40, 0, 1, 1, 0, 0),
  (40, .goto 4, .goto 4, 44, 0, 3, 0, 0, 0),
  (43, .iconst 0, .iconst 0, 44, 0, 1, 0, 0, 0),
  (44, .ireturn, .ireturn, 45, 0, 1, 0, 0, 0)])
set_option maxRecDepth 100000 in
theorem okX10_isWord : okm mX10_isWord = true := by decide +kernel
def mX10_takeSign : mt_T := (yX10_takeSign, cX10_takeSign, 2, none, [
  (0, .aload_n 0, .aload 0, 1, 0, 1, 0, 0, 0),
  (1, .iload_n 1, .iload 1, 2, 0, 1, 0, 0, 0),
  (2, .invokevirtual 170, .invokevirtual 170, 5, 0, 3, 0, 0, 0),
  (5, .ifCond .eq 16, .ifCond .eq 16, 8, 21, 3, 0, 0, 0),
  (8, .aload_n 0, .aload 0, 9, 0, 1, 0, 0, 0),
  (9, .dup, .dup, 10, 0, 1, 0, 0, 0),
  (10, .getfield 164, .getfield 7, 13, 10, 3, 0, 0, 982),
  (13, .iconst 1, .iconst 1, 14, 0, 1, 1, 0, 0),
  (14, .iadd, .iadd, 15, 0, 1, 0, 0, 0),
  (15, .putfield 164, .putfield 7, 18, 10, 3, 0, 0, 982),
  (18, .goto 8, .goto 8, 26, 0, 3, 0, 0, 0),
  (21, .aload_n 0, .aload 0, 22, 0, 1, 0, 0, 0),
  (22, .iconst 1, .iconst 1, 23, 0, 1, 1, 0, 0),
  (23, .invokevirtual 173, .invokevirtual 173, 26, 0, 3, 0, 0, 0),
  (26, .return_, .return_, 27, 0, 1, 0, 0, 0)])
set_option maxRecDepth 100000 in
theorem okX10_takeSign : okm mX10_takeSign = true := by decide +kernel
def mX10_hasSign : mt_T := (yX10_hasSign, cX10_hasSign, 3, (some .boolean), [
  (0, .aload_n 0, .aload 0, 1, 0, 1, 0, 0, 0),
  (1, .iload_n 1, .iload 1, 2, 0, 1, 0, 0, 0),
  (2, .invokevirtual 170, .invokevirtual 170, 5, 0, 3, 0, 0, 0),
  (5, .istore_n 2, .istore 2, 6, 0, 1, 0, 0, 0),
  (6, .aload_n 0, .aload 0, 7, 0, 1, 0, 0, 0),
  (7, .dup, .dup, 8, 0, 1, 0, 0, 0),
  (8, .getfield 164, .getfield 7, 11, 10, 3, 0, 0, 982),
  (11, .iload_n 2, .iload 2, 12, 0, 1, 0, 0, 0),
  (12, .ifCond .eq 7, .ifCond .eq 7, 15, 19, 3, 0, 0, 0),
  (15, .iconst 1, .iconst 1, 16, 0, 1, 1, 0, 0),
  (16, .goto 4, .goto 4, 20, 0, 3, 0, 0, 0),
  (19, .iconst 0, .iconst 0, 20, 0, 1, 0, 0, 0),
  (20, .iadd, .iadd, 21, 0, 1, 0, 0, 0),
  (21, .putfield 164, .putfield 7, 24, 10, 3, 0, 0, 982),
  (24, .iload_n 2, .iload 2, 25, 0, 1, 0, 0, 0),
  (25, .ireturn, .ireturn, 26, 0, 1, 0, 0, 0)])
set_option maxRecDepth 100000 in
theorem okX10_hasSign : okm mX10_hasSign = true := by decide +kernel
def mX10_hasWord : mt_T := (yX10_hasWord, cX10_hasWord, 3, (some .boolean), [
  (0, .aload_n 0, .aload 0, 1, 0, 1, 0, 0, 0),
  (1, .iload_n 1, .iload 1, 2, 0, 1, 0, 0, 0),
  (2, .invokevirtual 177, .invokevirtual 177, 5, 0, 3, 0, 0, 0),
  (5, .istore_n 2, .istore 2, 6, 0, 1, 0, 0, 0),
  (6, .aload_n 0, .aload 0, 7, 0, 1, 0, 0, 0),
  (7, .dup, .dup, 8, 0, 1, 0, 0, 0),
  (8, .getfield 164, .getfield 7, 11, 10, 3, 0, 0, 982),
  (11, .iload_n 2, .iload 2, 12, 0, 1, 0, 0, 0),
  (12, .ifCond .eq 7, .ifCond .eq 7, 15, 19, 3, 0, 0, 0),
  (15, .iconst 1, .iconst 1, 16, 0, 1, 1, 0, 0),
  (16, .goto 4, .goto 4, 20, 0, 3, 0, 0, 0),
  (19, .iconst 0, .iconst 0, 20, 0, 1, 0, 0, 0),
  (20, .iadd, .iadd, 21, 0, 1, 0, 0, 0),
  (21, .putfield 164, .putfield 7, 24, 10, 3, 0, 0, 982),
  (24, .iload_n 2, .iload 2, 25, 0, 1, 0, 0, 0),
  (25, .ireturn, .ireturn, 26, 0, 1, 0, 0, 0)])
set_option maxRecDepth 100000 in
theorem okX10_hasWord : okm mX10_hasWord = true := by decide +kernel
def mX10_takeWord : mt_T := (yX10_takeWord, cX10_takeWord, 2, none, [
  (0, .aload_n 0, .aload 0, 1, 0, 1, 0, 0, 0),
  (1, .iload_n 1, .iload 1, 2, 0, 1, 0, 0, 0),
  (2, .invokevirtual 180, .invokevirtual 180, 5, 0, 3, 0, 0, 0),
  (5, .ifCond .ne 8, .ifCond .ne 8, 8, 13, 3, 0, 0, 0),
  (8, .aload_n 0, .aload 0, 9, 0, 1, 0, 0, 0),
  (9, .iconst 1, .iconst 1, 10, 0, 1, 1, 0, 0),
  (10, .invokevirtual 173, .invokevirtual 173, 13, 0, 3, 0, 0, 0),
  (13, .return_, .return_, 14, 0, 1, 0, 0, 0)])
set_option maxRecDepth 100000 in
theorem okX10_takeWord : okm mX10_takeWord = true := by decide +kernel
def mX10_emit : mt_T := (yX10_emit, cX10_emit, 3, none, [
  (0, .aload_n 0, .aload 0, 1, 0, 1, 0, 0, 0),
  (1, .getfield 69, .getfield 14, 4, 10, 3, 0, 0, 989),
  (4, .sipush 660, .iconst 660, 7, 0, 3, 660, 0, 0),
  (7, .aload_n 0, .aload 0, 8, 0, 1, 0, 0, 0),
  (8, .getfield 183, .getfield 17, 11, 10, 3, 0, 0, 992),
  (11, .imul, .imul, 12, 0, 1, 0, 0, 0),
  (12, .aload_n 0, .aload 0, 13, 0, 1, 0, 0, 0),
  (13, .getfield 186, .getfield 18, 16, 10, 3, 0, 0, 993),
  (16, .iadd, .iadd, 17, 0, 1, 0, 0, 0),
  (17, .iload_n 1, .iload 1, 18, 0, 1, 0, 0, 0),
  (18, .iastore, .iastore, 19, 0, 1, 0, 0, 0),
  (19, .aload_n 0, .aload 0, 20, 0, 1, 0, 0, 0),
  (20, .getfield 72, .getfield 15, 23, 10, 3, 0, 0, 990),
  (23, .sipush 660, .iconst 660, 26, 0, 3, 660, 0, 0),
  (26, .aload_n 0, .aload 0, 27, 0, 1, 0, 0, 0),
  (27, .getfield 183, .getfield 17, 30, 10, 3, 0, 0, 992),
  (30, .imul, .imul, 31, 0, 1, 0, 0, 0),
  (31, .aload_n 0, .aload 0, 32, 0, 1, 0, 0, 0),
  (32, .getfield 186, .getfield 18, 35, 10, 3, 0, 0, 993),
  (35, .iadd, .iadd, 36, 0, 1, 0, 0, 0),
  (36, .iload_n 2, .iload 2, 37, 0, 1, 0, 0, 0),
  (37, .iastore, .iastore, 38, 0, 1, 0, 0, 0),
  (38, .aload_n 0, .aload 0, 39, 0, 1, 0, 0, 0),
  (39, .dup, .dup, 40, 0, 1, 0, 0, 0),
  (40, .getfield 186, .getfield 18, 43, 10, 3, 0, 0, 993),
  (43, .iconst 1, .iconst 1, 44, 0, 1, 1, 0, 0),
  (44, .iadd, .iadd, 45, 0, 1, 0, 0, 0),
  (45, .putfield 186, .putfield 18, 48, 10, 3, 0, 0, 993),
  (48, .return_, .return_, 49, 0, 1, 0, 0, 0)])
set_option maxRecDepth 100000 in
theorem okX10_emit : okm mX10_emit = true := by decide +kernel
def mX10_text : mt_T := (yX10_text, cX10_text, 1, (some .int), [
  (0, .aload_n 0, .aload 0, 1, 0, 1, 0, 0, 0),
  (1, .iconst 0, .iconst 0, 2, 0, 1, 0, 0, 0),
  (2, .putfield 1, .putfield 0, 5, 10, 3, 0, 0, 975),
  (5, .aload_n 0, .aload 0, 6, 0, 1, 0, 0, 0),
  (6, .invokevirtual 189, .invokevirtual 189, 9, 0, 3, 0, 0, 0),
  (9, .aload_n 0, .aload 0, 10, 0, 1, 0, 0, 0),
  (10, .iconst 1, .iconst 1, 11, 0, 1, 1, 0, 0),
  (11, .aload_n 0, .aload 0, 12, 0, 1, 0, 0, 0),
  (12, .getfield 192, .getfield 16, 15, 10, 3, 0, 0, 991),
  (15, .isub, .isub, 16, 0, 1, 0, 0, 0),
  (16, .putfield 183, .putfield 17, 19, 10, 3, 0, 0, 992),
  (19, .aload_n 0, .aload 0, 20, 0, 1, 0, 0, 0),
  (20, .getfield 57, .getfield 10, 23, 10, 3, 0, 0, 985),
  (23, .aload_n 0, .aload 0, 24, 0, 1, 0, 0, 0),
  (24, .getfield 183, .getfield 17, 27, 10, 3, 0, 0, 992),
  (27, .iconst 0, .iconst 0, 28, 0, 1, 0, 0, 0),
  (28, .iastore, .iastore, 29, 0, 1, 0, 0, 0),
  (29, .aload_n 0, .aload 0, 30, 0, 1, 0, 0, 0),
  (30, .iconst 0, .iconst 0, 31, 0, 1, 0, 0, 0),
  (31, .putfield 186, .putfield 18, 34, 10, 3, 0, 0, 993),
  (34, .aload_n 0, .aload 0, 35, 0, 1, 0, 0, 0),
  (35, .getfield 167, .getfield 8, 38, 10, 3, 0, 0, 983),
  (38, .ifCond .ne 22, .ifCond .ne 22, 41, 60, 3, 0, 0, 0),
  (41, .aload_n 0, .aload 0, 42, 0, 1, 0, 0, 0),
  (42, .getfield 24, .getfield 4, 45, 10, 3, 0, 0, 979),
  (45, .aload_n 0, .aload 0, 46, 0, 1, 0, 0, 0),
  (46, .getfield 164, .getfield 7, 49, 10, 3, 0, 0, 982),
  (49, .iaload, .iaload, 50, 0, 1, 0, 0, 0),
  (50, .ifCond .eq 10, .ifCond .eq 10, 53, 60, 3, 0, 0, 0),
  (53, .aload_n 0, .aload 0, 54, 0, 1, 0, 0, 0),
  (54, .invokevirtual 195, .invokevirtual 195, 57, 0, 3, 0, 0, 0),
  (57, .goto (-23), .goto (-23), 34, 0, 3, 0, 0, 0),
  (60, .aload_n 0, .aload 0, 61, 0, 1, 0, 0, 0),
  (61, .getfield 167, .getfield 8, 64, 10, 3, 0, 0, 983),
  (64, .ifCond .ne 11, .ifCond .ne 11, 67, 75, 3, 0, 0, 0),
  (67, .aload_n 0, .aload 0, 68, 0, 1, 0, 0, 0),
  (68, .aload_n 0, .aload 0, 69, 0, 1, 0, 0, 0),
  (69, .getfield 183, .getfield 17, 72, 10, 3, 0, 0, 992),
  (72, .putfield 192, .putfield 16, 75, 10, 3, 0, 0, 991),
  (75, .aload_n 0, .aload 0, 76, 0, 1, 0, 0, 0),
  (76, .getfield 167, .getfield 8, 79, 10, 3, 0, 0, 983),
  (79, .ireturn, .ireturn, 80, 0, 1, 0, 0, 0)])
set_option maxRecDepth 100000 in
theorem okX10_text : okm mX10_text = true := by decide +kernel
def mX10_line : mt_T := (yX10_line, cX10_line, 4, none, [
  (0, .aload_n 0, .aload 0, 1, 0, 1, 0, 0, 0),
  (1, .iconst 0, .iconst 0, 2, 0, 1, 0, 0, 0),
  (2, .invokevirtual 177, .invokevirtual 177, 5, 0, 3, 0, 0, 0),
  (5, .ifCond .eq 7, .ifCond .eq 7, 8, 12, 3, 0, 0, 0),
  (8, .iconst 0, .iconst 0, 9, 0, 1, 0, 0, 0),
  (9, .goto 28, .goto 28, 37, 0, 3, 0, 0, 0),
  (12, .aload_n 0, .aload 0, 13, 0, 1, 0, 0, 0),
  (13, .iconst 1, .iconst 1, 14, 0, 1, 1, 0, 0),
  (14, .invokevirtual 177, .invokevirtual 177, 17, 0, 3, 0, 0, 0),
  (17, .ifCond .eq 7, .ifCond .eq 7, 20, 24, 3, 0, 0, 0),
  (20, .iconst 1, .iconst 1, 21, 0, 1, 1, 0, 0),
  (21, .goto 16, .goto 16, 37, 0, 3, 0, 0, 0),
  (24, .aload_n 0, .aload 0, 25, 0, 1, 0, 0, 0),
  (25, .iconst 2, .iconst 2, 26, 0, 1, 2, 0, 0),
  (26, .invokevirtual 177, .invokevirtual 177, 29, 0, 3, 0, 0, 0),
  (29, .ifCond .eq 7, .ifCond .eq 7, 32, 36, 3, 0, 0, 0),
  (32, .iconst 2, .iconst 2, 33, 0, 1, 2, 0, 0),
  (33, .goto 4, .goto 4, 37, 0, 3, 0, 0, 0),
  (36, .iconst (-1), .iconst (-1), 37, 0, 1, (-1), 0, 0),
  (37, .istore_n 1, .istore 1, 38, 0, 1, 0, 0, 0),
  (38, .iload_n 1, .iload 1, 39, 0, 1, 0, 0, 0),
  (39, .ifCond .ge 11, .ifCond .ge 11, 42, 50, 3, 0, 0, 0),
  (42, .aload_n 0, .aload 0, 43, 0, 1, 0, 0, 0),
  (43, .iconst 1, .iconst 1, 44, 0, 1, 1, 0, 0),
  (44, .invokevirtual 173, .invokevirtual 173, 47, 0, 3, 0, 0, 0),
  (47, .goto 22, .goto 22, 69, 0, 3, 0, 0, 0),
  (50, .aload_n 0, .aload 0, 51, 0, 1, 0, 0, 0),
  (51, .getfield 57, .getfield 10, 54, 10, 3, 0, 0, 985),
  (54, .aload_n 0, .aload 0, 55, 0, 1, 0, 0, 0),
  (55, .getfield 183, .getfield 17, 58, 10, 3, 0, 0, 992),
  (58, .iaload, .iaload, 59, 0, 1, 0, 0, 0),
  (59, .bipush 16, .iconst 16, 61, 0, 2, 16, 0, 0),
  (61, .if_icmp .ne 8, .if_icmp .ne 8, 64, 69, 3, 0, 0, 0),
  (64, .aload_n 0, .aload 0, 65, 0, 1, 0, 0, 0),
  (65, .iconst 5, .iconst 5, 66, 0, 1, 5, 0, 0),
  (66, .invokevirtual 173, .invokevirtual 173, 69, 0, 3, 0, 0, 0),
  (69, .aload_n 0, .aload 0, 70, 0, 1, 0, 0, 0),
  (70, .getfield 167, .getfield 8, 73, 10, 3, 0, 0, 983),
  (73, .ifCond .le 4, .ifCond .le 4, 76, 77, 3, 0, 0, 0),
  (76, .return_, .return_, 77, 0, 1, 0, 0, 0),
  (77, .aload_n 0, .aload 0, 78, 0, 1, 0, 0, 0),
  (78, .dup, .dup, 79, 0, 1, 0, 0, 0),
  (79, .getfield 164, .getfield 7, 82, 10, 3, 0, 0, 982),
  (82, .iconst 1, .iconst 1, 83, 0, 1, 1, 0, 0),
  (83, .iadd, .iadd, 84, 0, 1, 0, 0, 0),
  (84, .putfield 164, .putfield 7, 87, 10, 3, 0, 0, 982),
  (87, .bipush 16, .iconst 16, 89, 0, 2, 16, 0, 0),
  (89, .aload_n 0, .aload 0, 90, 0, 1, 0, 0, 0),
  (90, .getfield 183, .getfield 17, 93, 10, 3, 0, 0, 992),
  (93, .imul, .imul, 94, 0, 1, 0, 0, 0),
  (94, .aload_n 0, .aload 0, 95, 0, 1, 0, 0, 0),
  (95, .getfield 57, .getfield 10, 98, 10, 3, 0, 0, 985),
  (98, .aload_n 0, .aload 0, 99, 0, 1, 0, 0, 0),
  (99, .getfield 183, .getfield 17, 102, 10, 3, 0, 0, 992),
  (102, .iaload, .iaload, 103, 0, 1, 0, 0, 0),
  (103, .iadd, .iadd, 104, 0, 1, 0, 0, 0),
  (104, .istore_n 2, .istore 2, 105, 0, 1, 0, 0, 0),
  (105, .aload_n 0, .aload 0, 106, 0, 1, 0, 0, 0),
  (106, .getfield 60, .getfield 11, 109, 10, 3, 0, 0, 986),
  (109, .iload_n 2, .iload 2, 110, 0, 1, 0, 0, 0),
  (110, .iload_n 1, .iload 1, 111, 0, 1, 0, 0, 0),
  (111, .iastore, .iastore, 112, 0, 1, 0, 0, 0),
  (112, .iload_n 1, .iload 1, 113, 0, 1, 0, 0, 0),
  (113, .ifCond .eq 82, .ifCond .eq 82, 116, 195, 3, 0, 0, 0),
  (116, .aload_n 0, .aload 0, 117, 0, 1, 0, 0, 0),
  (117, .getfield 24, .getfield 4, 120, 10, 3, 0, 0, 979),
  (120, .aload_n 0, .aload 0, 121, 0, 1, 0, 0, 0),
  (121, .getfield 164, .getfield 7, 124, 10, 3, 0, 0, 982),
  (124, .iaload, .iaload, 125, 0, 1, 0, 0, 0),
  (125, .iconst 2, .iconst 2, 126, 0, 1, 2, 0, 0),
  (126, .if_icmp .eq 11, .if_icmp .eq 11, 129, 137, 3, 0, 0, 0),
  (129, .aload_n 0, .aload 0, 130, 0, 1, 0, 0, 0),
  (130, .iconst 1, .iconst 1, 131, 0, 1, 1, 0, 0),
  (131, .invokevirtual 173, .invokevirtual 173, 134, 0, 3, 0, 0, 0),
  (134, .goto 24, .goto 24, 158, 0, 3, 0, 0, 0),
  (137, .aload_n 0, .aload 0, 138, 0, 1, 0, 0, 0),
  (138, .getfield 30, .getfield 6, 141, 10, 3, 0, 0, 981),
  (141, .aload_n 0, .aload 0, 142, 0, 1, 0, 0, 0),
  (142, .getfield 164, .getfield 7, 145, 10, 3, 0, 0, 982),
  (145, .laload, .laload, 146, 0, 1, 0, 0, 0),
  (146, .ldc2_w 198, .ldc2_w 198, 149, 0, 3, 0, 9, 1192),
  (149, .lcmp, .lcmp, 150, 0, 1, 0, 0, 0),
  (150, .ifCond .le 8, .ifCond .le 8, 153, 158, 3, 0, 0, 0),
  (153, .aload_n 0, .aload 0, 154, 0, 1, 0, 0, 0),
  (154, .iconst 4, .iconst 4, 155, 0, 1, 4, 0, 0),
  (155, .invokevirtual 173, .invokevirtual 173, 158, 0, 3, 0, 0, 0),
  (158, .aload_n 0, .aload 0, 159, 0, 1, 0, 0, 0),
  (159, .getfield 63, .getfield 12, 162, 10, 3, 0, 0, 987),
  (162, .iload_n 2, .iload 2, 163, 0, 1, 0, 0, 0),
  (163, .aload_n 0, .aload 0, 164, 0, 1, 0, 0, 0),
  (164, .getfield 167, .getfield 8, 167, 10, 3, 0, 0, 983),
  (167, .ifCond .le 7, .ifCond .le 7, 170, 174, 3, 0, 0, 0),
  (170, .iconst 0, .iconst 0, 171, 0, 1, 0, 0, 0),
  (171, .goto 13, .goto 13, 184, 0, 3, 0, 0, 0),
  (174, .aload_n 0, .aload 0, 175, 0, 1, 0, 0, 0),
  (175, .getfield 30, .getfield 6, 178, 10, 3, 0, 0, 981),
  (178, .aload_n 0, .aload 0, 179, 0, 1, 0, 0, 0),
  (179, .getfield 164, .getfield 7, 182, 10, 3, 0, 0, 982),
  (182, .laload, .laload, 183, 0, 1, 0, 0, 0),
  (183, .l2i, .l2i, 184, 0, 1, 0, 0, 0),
  (184, .iastore, .iastore, 185, 0, 1, 0, 0, 0),
  (185, .aload_n 0, .aload 0, 186, 0, 1, 0, 0, 0),
  (186, .dup, .dup, 187, 0, 1, 0, 0, 0),
  (187, .getfield 164, .getfield 7, 190, 10, 3, 0, 0, 982),
  (190, .iconst 1, .iconst 1, 191, 0, 1, 1, 0, 0),
  (191, .iadd, .iadd, 192, 0, 1, 0, 0, 0),
  (192, .putfield 164, .putfield 7, 195, 10, 3, 0, 0, 982),
  (195, .aload_n 0, .aload 0, 196, 0, 1, 0, 0, 0),
  (196, .iconst 3, .iconst 3, 197, 0, 1, 3, 0, 0),
  (197, .invokevirtual 200, .invokevirtual 200, 200, 0, 3, 0, 0, 0),
  (200, .aload_n 0, .aload 0, 201, 0, 1, 0, 0, 0),
  (201, .getfield 66, .getfield 13, 204, 10, 3, 0, 0, 988),
  (204, .iload_n 2, .iload 2, 205, 0, 1, 0, 0, 0),
  (205, .sipush 660, .iconst 660, 208, 0, 3, 660, 0, 0),
  (208, .aload_n 0, .aload 0, 209, 0, 1, 0, 0, 0),
  (209, .getfield 183, .getfield 17, 212, 10, 3, 0, 0, 992),
  (212, .imul, .imul, 213, 0, 1, 0, 0, 0),
  (213, .aload_n 0, .aload 0, 214, 0, 1, 0, 0, 0),
  (214, .getfield 186, .getfield 18, 217, 10, 3, 0, 0, 993),
  (217, .iadd, .iadd, 218, 0, 1, 0, 0, 0),
  (218, .iastore, .iastore, 219, 0, 1, 0, 0, 0),
  (219, .aload_n 0, .aload 0, 220, 0, 1, 0, 0, 0),
  (220, .iconst 0, .iconst 0, 221, 0, 1, 0, 0, 0),
  (221, .putfield 203, .putfield 19, 224, 10, 3, 0, 0, 994),
  (224, .aload_n 0, .aload 0, 225, 0, 1, 0, 0, 0),
  (225, .invokevirtual 206, .invokevirtual 206, 228, 0, 3, 0, 0, 0),
  (228, .iconst 1, .iconst 1, 229, 0, 1, 1, 0, 0),
  (229, .istore_n 3, .istore 3, 230, 0, 1, 0, 0, 0),
  (230, .iload_n 3, .iload 3, 231, 0, 1, 0, 0, 0),
  (231, .ifCond .eq 33, .ifCond .eq 33, 234, 264, 3, 0, 0, 0),
  (234, .aload_n 0, .aload 0, 235, 0, 1, 0, 0, 0),
  (235, .getfield 167, .getfield 8, 238, 10, 3, 0, 0, 983),
  (238, .ifCond .ne 26, .ifCond .ne 26, 241, 264, 3, 0, 0, 0),
  (241, .aload_n 0, .aload 0, 242, 0, 1, 0, 0, 0),
  (242, .invokevirtual 209, .invokevirtual 209, 245, 0, 3, 0, 0, 0),
  (245, .ifCond .ne 10, .ifCond .ne 10, 248, 255, 3, 0, 0, 0),
  (248, .aload_n 0, .aload 0, 249, 0, 1, 0, 0, 0),
  (249, .invokevirtual 213, .invokevirtual 213, 252, 0, 3, 0, 0, 0),
  (252, .ifCond .eq 7, .ifCond .eq 7, 255, 259, 3, 0, 0, 0),
  (255, .iconst 1, .iconst 1, 256, 0, 1, 1, 0, 0),
  (256, .goto 4, .goto 4, 260, 0, 3, 0, 0, 0),
  (259, .iconst 0, .iconst 0, 260, 0, 1, 0, 0, 0),
  (260, .istore_n 3, .istore 3, 261, 0, 1, 0, 0, 0),
  (261, .goto (-31), .goto (-31), 230, 0, 3, 0, 0, 0),
  (264, .aload_n 0, .aload 0, 265, 0, 1, 0, 0, 0),
  (265, .iconst 0, .iconst 0, 266, 0, 1, 0, 0, 0),
  (266, .iconst 0, .iconst 0, 267, 0, 1, 0, 0, 0),
  (267, .invokevirtual 216, .invokevirtual 216, 270, 0, 3, 0, 0, 0),
  (270, .aload_n 0, .aload 0, 271, 0, 1, 0, 0, 0),
  (271, .bipush 59, .iconst 59, 273, 0, 2, 59, 0, 0),
  (273, .invokevirtual 220, .invokevirtual 220, 276, 0, 3, 0, 0, 0),
  (276, .aload_n 0, .aload 0, 277, 0, 1, 0, 0, 0),
  (277, .getfield 57, .getfield 10, 280, 10, 3, 0, 0, 985),
  (280, .aload_n 0, .aload 0, 281, 0, 1, 0, 0, 0),
  (281, .getfield 183, .getfield 17, 284, 10, 3, 0, 0, 992),
  (284, .dup2, .dup2, 285, 0, 1, 0, 0, 0),
  (285, .iaload, .iaload, 286, 0, 1, 0, 0, 0),
  (286, .iconst 1, .iconst 1, 287, 0, 1, 1, 0, 0),
  (287, .iadd, .iadd, 288, 0, 1, 0, 0, 0),
  (288, .iastore, .iastore, 289, 0, 1, 0, 0, 0),
  (289, .return_, .return_, 290, 0, 1, 0, 0, 0)])
set_option maxRecDepth 100000 in
theorem okX10_line : okm mX10_line = true := by decide +kernel
def mX10_opens : mt_T := (yX10_opens, cX10_opens, 1, none, [
  (0, .aload_n 0, .aload 0, 1, 0, 1, 0, 0, 0),
  (1, .getfield 75, .getfield 20, 4, 10, 3, 0, 0, 995),
  (4, .aload_n 0, .aload 0, 5, 0, 1, 0, 0, 0),
  (5, .getfield 203, .getfield 19, 8, 10, 3, 0, 0, 994),
  (8, .iconst 0, .iconst 0, 9, 0, 1, 0, 0, 0),
  (9, .iastore, .iastore, 10, 0, 1, 0, 0, 0),
  (10, .aload_n 0, .aload 0, 11, 0, 1, 0, 0, 0),
  (11, .getfield 78, .getfield 21, 14, 10, 3, 0, 0, 996),
  (14, .aload_n 0, .aload 0, 15, 0, 1, 0, 0, 0),
  (15, .getfield 203, .getfield 19, 18, 10, 3, 0, 0, 994),
  (18, .iconst 0, .iconst 0, 19, 0, 1, 0, 0, 0),
  (19, .iastore, .iastore, 20, 0, 1, 0, 0, 0),
  (20, .aload_n 0, .aload 0, 21, 0, 1, 0, 0, 0),
  (21, .getfield 81, .getfield 22, 24, 10, 3, 0, 0, 997),
  (24, .aload_n 0, .aload 0, 25, 0, 1, 0, 0, 0),
  (25, .getfield 203, .getfield 19, 28, 10, 3, 0, 0, 994),
  (28, .iconst 0, .iconst 0, 29, 0, 1, 0, 0, 0),
  (29, .iastore, .iastore, 30, 0, 1, 0, 0, 0),
  (30, .return_, .return_, 31, 0, 1, 0, 0, 0)])
set_option maxRecDepth 100000 in
theorem okX10_opens : okm mX10_opens = true := by decide +kernel
def mX10_partWord : mt_T := (yX10_partWord, cX10_partWord, 2, (some .int), [
  (0, .iconst 0, .iconst 0, 1, 0, 1, 0, 0, 0),
  (1, .istore_n 1, .istore 1, 2, 0, 1, 0, 0, 0),
  (2, .iload_n 1, .iload 1, 3, 0, 1, 0, 0, 0),
  (3, .iconst 5, .iconst 5, 4, 0, 1, 5, 0, 0),
  (4, .if_icmp .ge 21, .if_icmp .ge 21, 7, 25, 3, 0, 0, 0),
  (7, .aload_n 0, .aload 0, 8, 0, 1, 0, 0, 0),
  (8, .iconst 5, .iconst 5, 9, 0, 1, 5, 0, 0),
  (9, .iload_n 1, .iload 1, 10, 0, 1, 0, 0, 0),
  (10, .iadd, .iadd, 11, 0, 1, 0, 0, 0),
  (11, .invokevirtual 177, .invokevirtual 177, 14, 0, 3, 0, 0, 0),
  (14, .ifCond .eq 5, .ifCond .eq 5, 17, 19, 3, 0, 0, 0),
  (17, .iload_n 1, .iload 1, 18, 0, 1, 0, 0, 0),
  (18, .ireturn, .ireturn, 19, 0, 1, 0, 0, 0),
  (19, .iinc 1 1, .iinc 1 1, 22, 0, 3, 1, 0, 0),
  (22, .goto (-20), .goto (-20), 2, 0, 3, 0, 0, 0),
  (25, .aload_n 0, .aload 0, 26, 0, 1, 0, 0, 0),
  (26, .iconst 1, .iconst 1, 27, 0, 1, 1, 0, 0),
  (27, .invokevirtual 177, .invokevirtual 177, 30, 0, 3, 0, 0, 0),
  (30, .ifCond .eq 7, .ifCond .eq 7, 33, 37, 3, 0, 0, 0),
  (33, .iconst 5, .iconst 5, 34, 0, 1, 5, 0, 0),
  (34, .goto 17, .goto 17, 51, 0, 3, 0, 0, 0),
  (37, .aload_n 0, .aload 0, 38, 0, 1, 0, 0, 0),
  (38, .iconst 2, .iconst 2, 39, 0, 1, 2, 0, 0),
  (39, .invokevirtual 177, .invokevirtual 177, 42, 0, 3, 0, 0, 0),
  (42, .ifCond .eq 8, .ifCond .eq 8, 45, 50, 3, 0, 0, 0),
  (45, .bipush 6, .iconst 6, 47, 0, 2, 6, 0, 0),
  (47, .goto 4, .goto 4, 51, 0, 3, 0, 0, 0),
  (50, .iconst (-1), .iconst (-1), 51, 0, 1, (-1), 0, 0),
  (51, .ireturn, .ireturn, 52, 0, 1, 0, 0, 0)])
set_option maxRecDepth 100000 in
theorem okX10_partWord : okm mX10_partWord = true := by decide +kernel
def mX10_part : mt_T := (yX10_part, cX10_part, 2, (some .boolean), [
  (0, .aload_n 0, .aload 0, 1, 0, 1, 0, 0, 0),
  (1, .invokevirtual 223, .invokevirtual 223, 4, 0, 3, 0, 0, 0),
  (4, .istore_n 1, .istore 1, 5, 0, 1, 0, 0, 0),
  (5, .aload_n 0, .aload 0, 6, 0, 1, 0, 0, 0),
  (6, .getfield 167, .getfield 8, 9, 10, 3, 0, 0, 983),
  (9, .ifCond .ne 37, .ifCond .ne 37, 12, 46, 3, 0, 0, 0),
  (12, .aload_n 0, .aload 0, 13, 0, 1, 0, 0, 0),
  (13, .getfield 24, .getfield 4, 16, 10, 3, 0, 0, 979),
  (16, .aload_n 0, .aload 0, 17, 0, 1, 0, 0, 0),
  (17, .getfield 164, .getfield 7, 20, 10, 3, 0, 0, 982),
  (20, .iaload, .iaload, 21, 0, 1, 0, 0, 0),
  (21, .iconst 2, .iconst 2, 22, 0, 1, 2, 0, 0),
  (22, .if_icmp .eq 24, .if_icmp .eq 24, 25, 46, 3, 0, 0, 0),
  (25, .aload_n 0, .aload 0, 26, 0, 1, 0, 0, 0),
  (26, .bipush 40, .iconst 40, 28, 0, 2, 40, 0, 0),
  (28, .invokevirtual 170, .invokevirtual 170, 31, 0, 3, 0, 0, 0),
  (31, .ifCond .ne 15, .ifCond .ne 15, 34, 46, 3, 0, 0, 0),
  (34, .iload_n 1, .iload 1, 35, 0, 1, 0, 0, 0),
  (35, .ifCond .ge 11, .ifCond .ge 11, 38, 46, 3, 0, 0, 0),
  (38, .aload_n 0, .aload 0, 39, 0, 1, 0, 0, 0),
  (39, .iconst 1, .iconst 1, 40, 0, 1, 1, 0, 0),
  (40, .invokevirtual 173, .invokevirtual 173, 43, 0, 3, 0, 0, 0),
  (43, .goto 16, .goto 16, 59, 0, 3, 0, 0, 0),
  (46, .aload_n 0, .aload 0, 47, 0, 1, 0, 0, 0),
  (47, .getfield 203, .getfield 19, 50, 10, 3, 0, 0, 994),
  (50, .iconst 5, .iconst 5, 51, 0, 1, 5, 0, 0),
  (51, .if_icmp .ne 8, .if_icmp .ne 8, 54, 59, 3, 0, 0, 0),
  (54, .aload_n 0, .aload 0, 55, 0, 1, 0, 0, 0),
  (55, .iconst 5, .iconst 5, 56, 0, 1, 5, 0, 0),
  (56, .invokevirtual 173, .invokevirtual 173, 59, 0, 3, 0, 0, 0),
  (59, .aload_n 0, .aload 0, 60, 0, 1, 0, 0, 0),
  (60, .getfield 167, .getfield 8, 63, 10, 3, 0, 0, 983),
  (63, .ifCond .le 5, .ifCond .le 5, 66, 68, 3, 0, 0, 0),
  (66, .iconst 0, .iconst 0, 67, 0, 1, 0, 0, 0),
  (67, .ireturn, .ireturn, 68, 0, 1, 0, 0, 0),
  (68, .aload_n 0, .aload 0, 69, 0, 1, 0, 0, 0),
  (69, .bipush 40, .iconst 40, 71, 0, 2, 40, 0, 0),
  (71, .invokevirtual 227, .invokevirtual 227, 74, 0, 3, 0, 0, 0),
  (74, .ifCond .eq 19, .ifCond .eq 19, 77, 93, 3, 0, 0, 0),
  (77, .aload_n 0, .aload 0, 78, 0, 1, 0, 0, 0),
  (78, .dup, .dup, 79, 0, 1, 0, 0, 0),
  (79, .getfield 203, .getfield 19, 82, 10, 3, 0, 0, 994),
  (82, .iconst 1, .iconst 1, 83, 0, 1, 1, 0, 0),
  (83, .iadd, .iadd, 84, 0, 1, 0, 0, 0),
  (84, .putfield 203, .putfield 19, 87, 10, 3, 0, 0, 994),
  (87, .aload_n 0, .aload 0, 88, 0, 1, 0, 0, 0),
  (88, .invokevirtual 206, .invokevirtual 206, 91, 0, 3, 0, 0, 0),
  (91, .iconst 1, .iconst 1, 92, 0, 1, 1, 0, 0),
  (92, .ireturn, .ireturn, 93, 0, 1, 0, 0, 0),
  (93, .aload_n 0, .aload 0, 94, 0, 1, 0, 0, 0),
  (94, .iload_n 1, .iload 1, 95, 0, 1, 0, 0, 0),
  (95, .ifCond .ge 7, .ifCond .ge 7, 98, 102, 3, 0, 0, 0),
  (98, .iconst 1, .iconst 1, 99, 0, 1, 1, 0, 0),
  (99, .goto 4, .goto 4, 103, 0, 3, 0, 0, 0),
  (102, .iconst 2, .iconst 2, 103, 0, 1, 2, 0, 0),
  (103, .iload_n 1, .iload 1, 104, 0, 1, 0, 0, 0),
  (104, .ifCond .ge 16, .ifCond .ge 16, 107, 120, 3, 0, 0, 0),
  (107, .aload_n 0, .aload 0, 108, 0, 1, 0, 0, 0),
  (108, .getfield 30, .getfield 6, 111, 10, 3, 0, 0, 981),
  (111, .aload_n 0, .aload 0, 112, 0, 1, 0, 0, 0),
  (112, .getfield 164, .getfield 7, 115, 10, 3, 0, 0, 982),
  (115, .laload, .laload, 116, 0, 1, 0, 0, 0),
  (116, .l2i, .l2i, 117, 0, 1, 0, 0, 0),
  (117, .goto 4, .goto 4, 121, 0, 3, 0, 0, 0),
  (120, .iload_n 1, .iload 1, 121, 0, 1, 0, 0, 0),
  (121, .invokevirtual 216, .invokevirtual 216, 124, 0, 3, 0, 0, 0),
  (124, .aload_n 0, .aload 0, 125, 0, 1, 0, 0, 0),
  (125, .dup, .dup, 126, 0, 1, 0, 0, 0),
  (126, .getfield 164, .getfield 7, 129, 10, 3, 0, 0, 982),
  (129, .iconst 1, .iconst 1, 130, 0, 1, 1, 0, 0),
  (130, .iadd, .iadd, 131, 0, 1, 0, 0, 0),
  (131, .putfield 164, .putfield 7, 134, 10, 3, 0, 0, 982),
  (134, .iconst 0, .iconst 0, 135, 0, 1, 0, 0, 0),
  (135, .ireturn, .ireturn, 136, 0, 1, 0, 0, 0)])
set_option maxRecDepth 100000 in
theorem okX10_part : okm mX10_part = true := by decide +kernel
def mX10_goesOnBehind : mt_T := (yX10_goesOnBehind, cX10_goesOnBehind, 1, (some .boolean), [
  (0, .aload_n 0, .aload 0, 1, 0, 1, 0, 0, 0),
  (1, .getfield 167, .getfield 8, 4, 10, 3, 0, 0, 983),
  (4, .ifCond .ne 273, .ifCond .ne 273, 7, 277, 3, 0, 0, 0),
  (7, .aload_n 0, .aload 0, 8, 0, 1, 0, 0, 0),
  (8, .getfield 75, .getfield 20, 11, 10, 3, 0, 0, 995),
  (11, .aload_n 0, .aload 0, 12, 0, 1, 0, 0, 0),
  (12, .getfield 203, .getfield 19, 15, 10, 3, 0, 0, 994),
  (15, .iaload, .iaload, 16, 0, 1, 0, 0, 0),
  (16, .ifCond .eq 27, .ifCond .eq 27, 19, 43, 3, 0, 0, 0),
  (19, .aload_n 0, .aload 0, 20, 0, 1, 0, 0, 0),
  (20, .aload_n 0, .aload 0, 21, 0, 1, 0, 0, 0),
  (21, .getfield 75, .getfield 20, 24, 10, 3, 0, 0, 995),
  (24, .aload_n 0, .aload 0, 25, 0, 1, 0, 0, 0),
  (25, .getfield 203, .getfield 19, 28, 10, 3, 0, 0, 994),
  (28, .iaload, .iaload, 29, 0, 1, 0, 0, 0),
  (29, .iconst 0, .iconst 0, 30, 0, 1, 0, 0, 0),
  (30, .invokevirtual 216, .invokevirtual 216, 33, 0, 3, 0, 0, 0),
  (33, .aload_n 0, .aload 0, 34, 0, 1, 0, 0, 0),
  (34, .getfield 75, .getfield 20, 37, 10, 3, 0, 0, 995),
  (37, .aload_n 0, .aload 0, 38, 0, 1, 0, 0, 0),
  (38, .getfield 203, .getfield 19, 41, 10, 3, 0, 0, 994),
  (41, .iconst 0, .iconst 0, 42, 0, 1, 0, 0, 0),
  (42, .iastore, .iastore, 43, 0, 1, 0, 0, 0),
  (43, .aload_n 0, .aload 0, 44, 0, 1, 0, 0, 0),
  (44, .bipush 43, .iconst 43, 46, 0, 2, 43, 0, 0),
  (46, .invokevirtual 170, .invokevirtual 170, 49, 0, 3, 0, 0, 0),
  (49, .ifCond .ne 12, .ifCond .ne 12, 52, 61, 3, 0, 0, 0),
  (52, .aload_n 0, .aload 0, 53, 0, 1, 0, 0, 0),
  (53, .bipush 45, .iconst 45, 55, 0, 2, 45, 0, 0),
  (55, .invokevirtual 170, .invokevirtual 170, 58, 0, 3, 0, 0, 0),
  (58, .ifCond .eq 38, .ifCond .eq 38, 61, 96, 3, 0, 0, 0),
  (61, .aload_n 0, .aload 0, 62, 0, 1, 0, 0, 0),
  (62, .getfield 75, .getfield 20, 65, 10, 3, 0, 0, 995),
  (65, .aload_n 0, .aload 0, 66, 0, 1, 0, 0, 0),
  (66, .getfield 203, .getfield 19, 69, 10, 3, 0, 0, 994),
  (69, .aload_n 0, .aload 0, 70, 0, 1, 0, 0, 0),
  (70, .bipush 43, .iconst 43, 72, 0, 2, 43, 0, 0),
  (72, .invokevirtual 170, .invokevirtual 170, 75, 0, 3, 0, 0, 0),
  (75, .ifCond .eq 7, .ifCond .eq 7, 78, 82, 3, 0, 0, 0),
  (78, .iconst 3, .iconst 3, 79, 0, 1, 3, 0, 0),
  (79, .goto 4, .goto 4, 83, 0, 3, 0, 0, 0),
  (82, .iconst 4, .iconst 4, 83, 0, 1, 4, 0, 0),
  (83, .iastore, .iastore, 84, 0, 1, 0, 0, 0),
  (84, .aload_n 0, .aload 0, 85, 0, 1, 0, 0, 0),
  (85, .dup, .dup, 86, 0, 1, 0, 0, 0),
  (86, .getfield 164, .getfield 7, 89, 10, 3, 0, 0, 982),
  (89, .iconst 1, .iconst 1, 90, 0, 1, 1, 0, 0),
  (90, .iadd, .iadd, 91, 0, 1, 0, 0, 0),
  (91, .putfield 164, .putfield 7, 94, 10, 3, 0, 0, 982),
  (94, .iconst 1, .iconst 1, 95, 0, 1, 1, 0, 0),
  (95, .ireturn, .ireturn, 96, 0, 1, 0, 0, 0),
  (96, .aload_n 0, .aload 0, 97, 0, 1, 0, 0, 0),
  (97, .getfield 78, .getfield 21, 100, 10, 3, 0, 0, 996),
  (100, .aload_n 0, .aload 0, 101, 0, 1, 0, 0, 0),
  (101, .getfield 203, .getfield 19, 104, 10, 3, 0, 0, 994),
  (104, .iaload, .iaload, 105, 0, 1, 0, 0, 0),
  (105, .ifCond .eq 30, .ifCond .eq 30, 108, 135, 3, 0, 0, 0),
  (108, .aload_n 0, .aload 0, 109, 0, 1, 0, 0, 0),
  (109, .aload_n 0, .aload 0, 110, 0, 1, 0, 0, 0),
  (110, .getfield 78, .getfield 21, 113, 10, 3, 0, 0, 996),
  (113, .aload_n 0, .aload 0, 114, 0, 1, 0, 0, 0),
  (114, .getfield 203, .getfield 19, 117, 10, 3, 0, 0, 994),
  (117, .iaload, .iaload, 118, 0, 1, 0, 0, 0),
  (118, .iconst 0, .iconst 0, 119, 0, 1, 0, 0, 0),
  (119, .invokevirtual 216, .invokevirtual 216, 122, 0, 3, 0, 0, 0),
  (122, .aload_n 0, .aload 0, 123, 0, 1, 0, 0, 0),
  (123, .getfield 78, .getfield 21, 126, 10, 3, 0, 0, 996),
  (126, .aload_n 0, .aload 0, 127, 0, 1, 0, 0, 0),
  (127, .getfield 203, .getfield 19, 130, 10, 3, 0, 0, 994),
  (130, .iconst 0, .iconst 0, 131, 0, 1, 0, 0, 0),
  (131, .iastore, .iastore, 132, 0, 1, 0, 0, 0),
  (132, .goto 57, .goto 57, 189, 0, 3, 0, 0, 0),
  (135, .aload_n 0, .aload 0, 136, 0, 1, 0, 0, 0),
  (136, .bipush 60, .iconst 60, 138, 0, 2, 60, 0, 0),
  (138, .invokevirtual 170, .invokevirtual 170, 141, 0, 3, 0, 0, 0),
  (141, .ifCond .ne 12, .ifCond .ne 12, 144, 153, 3, 0, 0, 0),
  (144, .aload_n 0, .aload 0, 145, 0, 1, 0, 0, 0),
  (145, .bipush 61, .iconst 61, 147, 0, 2, 61, 0, 0),
  (147, .invokevirtual 170, .invokevirtual 170, 150, 0, 3, 0, 0, 0),
  (150, .ifCond .eq 39, .ifCond .eq 39, 153, 189, 3, 0, 0, 0),
  (153, .aload_n 0, .aload 0, 154, 0, 1, 0, 0, 0),
  (154, .getfield 78, .getfield 21, 157, 10, 3, 0, 0, 996),
  (157, .aload_n 0, .aload 0, 158, 0, 1, 0, 0, 0),
  (158, .getfield 203, .getfield 19, 161, 10, 3, 0, 0, 994),
  (161, .aload_n 0, .aload 0, 162, 0, 1, 0, 0, 0),
  (162, .bipush 60, .iconst 60, 164, 0, 2, 60, 0, 0),
  (164, .invokevirtual 170, .invokevirtual 170, 167, 0, 3, 0, 0, 0),
  (167, .ifCond .eq 7, .ifCond .eq 7, 170, 174, 3, 0, 0, 0),
  (170, .iconst 5, .iconst 5, 171, 0, 1, 5, 0, 0),
  (171, .goto 5, .goto 5, 176, 0, 3, 0, 0, 0),
  (174, .bipush 6, .iconst 6, 176, 0, 2, 6, 0, 0),
  (176, .iastore, .iastore, 177, 0, 1, 0, 0, 0),
  (177, .aload_n 0, .aload 0, 178, 0, 1, 0, 0, 0),
  (178, .dup, .dup, 179, 0, 1, 0, 0, 0),
  (179, .getfield 164, .getfield 7, 182, 10, 3, 0, 0, 982),
  (182, .iconst 1, .iconst 1, 183, 0, 1, 1, 0, 0),
  (183, .iadd, .iadd, 184, 0, 1, 0, 0, 0),
  (184, .putfield 164, .putfield 7, 187, 10, 3, 0, 0, 982),
  (187, .iconst 1, .iconst 1, 188, 0, 1, 1, 0, 0),
  (188, .ireturn, .ireturn, 189, 0, 1, 0, 0, 0),
  (189, .aload_n 0, .aload 0, 190, 0, 1, 0, 0, 0),
  (190, .getfield 81, .getfield 22, 193, 10, 3, 0, 0, 997),
  (193, .aload_n 0, .aload 0, 194, 0, 1, 0, 0, 0),
  (194, .getfield 203, .getfield 19, 197, 10, 3, 0, 0, 994),
  (197, .iaload, .iaload, 198, 0, 1, 0, 0, 0),
  (198, .ifCond .eq 20, .ifCond .eq 20, 201, 218, 3, 0, 0, 0),
  (201, .aload_n 0, .aload 0, 202, 0, 1, 0, 0, 0),
  (202, .bipush 7, .iconst 7, 204, 0, 2, 7, 0, 0),
  (204, .iconst 0, .iconst 0, 205, 0, 1, 0, 0, 0),
  (205, .invokevirtual 216, .invokevirtual 216, 208, 0, 3, 0, 0, 0),
  (208, .aload_n 0, .aload 0, 209, 0, 1, 0, 0, 0),
  (209, .getfield 81, .getfield 22, 212, 10, 3, 0, 0, 997),
  (212, .aload_n 0, .aload 0, 213, 0, 1, 0, 0, 0),
  (213, .getfield 203, .getfield 19, 216, 10, 3, 0, 0, 994),
  (216, .iconst 0, .iconst 0, 217, 0, 1, 0, 0, 0),
  (217, .iastore, .iastore, 218, 0, 1, 0, 0, 0),
  (218, .aload_n 0, .aload 0, 219, 0, 1, 0, 0, 0),
  (219, .iconst 4, .iconst 4, 220, 0, 1, 4, 0, 0),
  (220, .invokevirtual 177, .invokevirtual 177, 223, 0, 3, 0, 0, 0),
  (223, .ifCond .eq 26, .ifCond .eq 26, 226, 249, 3, 0, 0, 0),
  (226, .aload_n 0, .aload 0, 227, 0, 1, 0, 0, 0),
  (227, .getfield 81, .getfield 22, 230, 10, 3, 0, 0, 997),
  (230, .aload_n 0, .aload 0, 231, 0, 1, 0, 0, 0),
  (231, .getfield 203, .getfield 19, 234, 10, 3, 0, 0, 994),
  (234, .bipush 7, .iconst 7, 236, 0, 2, 7, 0, 0),
  (236, .iastore, .iastore, 237, 0, 1, 0, 0, 0),
  (237, .aload_n 0, .aload 0, 238, 0, 1, 0, 0, 0),
  (238, .dup, .dup, 239, 0, 1, 0, 0, 0),
  (239, .getfield 164, .getfield 7, 242, 10, 3, 0, 0, 982),
  (242, .iconst 1, .iconst 1, 243, 0, 1, 1, 0, 0),
  (243, .iadd, .iadd, 244, 0, 1, 0, 0, 0),
  (244, .putfield 164, .putfield 7, 247, 10, 3, 0, 0, 982),
  (247, .iconst 1, .iconst 1, 248, 0, 1, 1, 0, 0),
  (248, .ireturn, .ireturn, 249, 0, 1, 0, 0, 0),
  (249, .aload_n 0, .aload 0, 250, 0, 1, 0, 0, 0),
  (250, .getfield 203, .getfield 19, 253, 10, 3, 0, 0, 994),
  (253, .ifCond .ne 5, .ifCond .ne 5, 256, 258, 3, 0, 0, 0),
  (256, .iconst 0, .iconst 0, 257, 0, 1, 0, 0, 0),
  (257, .ireturn, .ireturn, 258, 0, 1, 0, 0, 0),
  (258, .aload_n 0, .aload 0, 259, 0, 1, 0, 0, 0),
  (259, .bipush 41, .iconst 41, 261, 0, 2, 41, 0, 0),
  (261, .invokevirtual 220, .invokevirtual 220, 264, 0, 3, 0, 0, 0),
  (264, .aload_n 0, .aload 0, 265, 0, 1, 0, 0, 0),
  (265, .dup, .dup, 266, 0, 1, 0, 0, 0),
  (266, .getfield 203, .getfield 19, 269, 10, 3, 0, 0, 994),
  (269, .iconst 1, .iconst 1, 270, 0, 1, 1, 0, 0),
  (270, .isub, .isub, 271, 0, 1, 0, 0, 0),
  (271, .putfield 203, .putfield 19, 274, 10, 3, 0, 0, 994),
  (274, .goto (-274), .goto (-274), 0, 0, 3, 0, 0, 0),
  (277, .iconst 0, .iconst 0, 278, 0, 1, 0, 0, 0),
  (278, .ireturn, .ireturn, 279, 0, 1, 0, 0, 0)])
set_option maxRecDepth 100000 in
theorem okX10_goesOnBehind : okm mX10_goesOnBehind = true := by decide +kernel
def mX10_valueOf : mt_T := (yX10_valueOf, cX10_valueOf, 7, (some .int), [
  (0, .iload_n 1, .iload 1, 1, 0, 1, 0, 0, 0),
  (1, .istore_n 2, .istore 2, 2, 0, 1, 0, 0, 0),
  (2, .iconst 0, .iconst 0, 3, 0, 1, 0, 0, 0),
  (3, .istore_n 3, .istore 3, 4, 0, 1, 0, 0, 0),
  (4, .aload_n 0, .aload 0, 5, 0, 1, 0, 0, 0),
  (5, .getfield 69, .getfield 14, 8, 10, 3, 0, 0, 989),
  (8, .iload_n 2, .iload 2, 9, 0, 1, 0, 0, 0),
  (9, .iaload, .iaload, 10, 0, 1, 0, 0, 0),
  (10, .ifCond .eq 182, .ifCond .eq 182, 13, 192, 3, 0, 0, 0),
  (13, .aload_n 0, .aload 0, 14, 0, 1, 0, 0, 0),
  (14, .getfield 69, .getfield 14, 17, 10, 3, 0, 0, 989),
  (17, .iload_n 2, .iload 2, 18, 0, 1, 0, 0, 0),
  (18, .iaload, .iaload, 19, 0, 1, 0, 0, 0),
  (19, .istore 4, .istore 4, 21, 0, 2, 0, 0, 0),
  (21, .iload 4, .iload 4, 23, 0, 2, 0, 0, 0),
  (23, .iconst 1, .iconst 1, 24, 0, 1, 1, 0, 0),
  (24, .if_icmp .eq 9, .if_icmp .eq 9, 27, 33, 3, 0, 0, 0),
  (27, .iload 4, .iload 4, 29, 0, 2, 0, 0, 0),
  (29, .iconst 2, .iconst 2, 30, 0, 1, 2, 0, 0),
  (30, .if_icmp .ne 41, .if_icmp .ne 41, 33, 71, 3, 0, 0, 0),
  (33, .aload_n 0, .aload 0, 34, 0, 1, 0, 0, 0),
  (34, .getfield 87, .getfield 24, 37, 10, 3, 0, 0, 999),
  (37, .iload_n 3, .iload 3, 38, 0, 1, 0, 0, 0),
  (38, .iload 4, .iload 4, 40, 0, 2, 0, 0, 0),
  (40, .iconst 1, .iconst 1, 41, 0, 1, 1, 0, 0),
  (41, .if_icmp .ne 12, .if_icmp .ne 12, 44, 53, 3, 0, 0, 0),
  (44, .aload_n 0, .aload 0, 45, 0, 1, 0, 0, 0),
  (45, .getfield 72, .getfield 15, 48, 10, 3, 0, 0, 990),
  (48, .iload_n 2, .iload 2, 49, 0, 1, 0, 0, 0),
  (49, .iaload, .iaload, 50, 0, 1, 0, 0, 0),
  (50, .goto 14, .goto 14, 64, 0, 3, 0, 0, 0),
  (53, .aload_n 0, .aload 0, 54, 0, 1, 0, 0, 0),
  (54, .getfield 84, .getfield 23, 57, 10, 3, 0, 0, 998),
  (57, .aload_n 0, .aload 0, 58, 0, 1, 0, 0, 0),
  (58, .getfield 72, .getfield 15, 61, 10, 3, 0, 0, 990),
  (61, .iload_n 2, .iload 2, 62, 0, 1, 0, 0, 0),
  (62, .iaload, .iaload, 63, 0, 1, 0, 0, 0),
  (63, .iaload, .iaload, 64, 0, 1, 0, 0, 0),
  (64, .iastore, .iastore, 65, 0, 1, 0, 0, 0),
  (65, .iinc 3 1, .iinc 3 1, 68, 0, 3, 1, 0, 0),
  (68, .goto 118, .goto 118, 186, 0, 3, 0, 0, 0),
  (71, .iinc 3 (-1), .iinc 3 (-1), 74, 0, 3, (-1), 0, 0),
  (74, .aload_n 0, .aload 0, 75, 0, 1, 0, 0, 0),
  (75, .getfield 87, .getfield 24, 78, 10, 3, 0, 0, 999),
  (78, .iload_n 3, .iload 3, 79, 0, 1, 0, 0, 0),
  (79, .iaload, .iaload, 80, 0, 1, 0, 0, 0),
  (80, .istore 5, .istore 5, 82, 0, 2, 0, 0, 0),
  (82, .aload_n 0, .aload 0, 83, 0, 1, 0, 0, 0),
  (83, .getfield 87, .getfield 24, 86, 10, 3, 0, 0, 999),
  (86, .iload_n 3, .iload 3, 87, 0, 1, 0, 0, 0),
  (87, .iconst 1, .iconst 1, 88, 0, 1, 1, 0, 0),
  (88, .isub, .isub, 89, 0, 1, 0, 0, 0),
  (89, .iaload, .iaload, 90, 0, 1, 0, 0, 0),
  (90, .istore 6, .istore 6, 92, 0, 2, 0, 0, 0),
  (92, .aload_n 0, .aload 0, 93, 0, 1, 0, 0, 0),
  (93, .getfield 87, .getfield 24, 96, 10, 3, 0, 0, 999),
  (96, .iload_n 3, .iload 3, 97, 0, 1, 0, 0, 0),
  (97, .iconst 1, .iconst 1, 98, 0, 1, 1, 0, 0),
  (98, .isub, .isub, 99, 0, 1, 0, 0, 0),
  (99, .iload 4, .iload 4, 101, 0, 2, 0, 0, 0),
  (101, .iconst 3, .iconst 3, 102, 0, 1, 3, 0, 0),
  (102, .if_icmp .ne 11, .if_icmp .ne 11, 105, 113, 3, 0, 0, 0),
  (105, .iload 6, .iload 6, 107, 0, 2, 0, 0, 0),
  (107, .iload 5, .iload 5, 109, 0, 2, 0, 0, 0),
  (109, .iadd, .iadd, 110, 0, 1, 0, 0, 0),
  (110, .goto 75, .goto 75, 185, 0, 3, 0, 0, 0),
  (113, .iload 4, .iload 4, 115, 0, 2, 0, 0, 0),
  (115, .iconst 4, .iconst 4, 116, 0, 1, 4, 0, 0),
  (116, .if_icmp .ne 11, .if_icmp .ne 11, 119, 127, 3, 0, 0, 0),
  (119, .iload 6, .iload 6, 121, 0, 2, 0, 0, 0),
  (121, .iload 5, .iload 5, 123, 0, 2, 0, 0, 0),
  (123, .isub, .isub, 124, 0, 1, 0, 0, 0),
  (124, .goto 61, .goto 61, 185, 0, 3, 0, 0, 0),
  (127, .iload 4, .iload 4, 129, 0, 2, 0, 0, 0),
  (129, .iconst 5, .iconst 5, 130, 0, 1, 5, 0, 0),
  (130, .if_icmp .ne 18, .if_icmp .ne 18, 133, 148, 3, 0, 0, 0),
  (133, .iload 6, .iload 6, 135, 0, 2, 0, 0, 0),
  (135, .iload 5, .iload 5, 137, 0, 2, 0, 0, 0),
  (137, .if_icmp .ge 7, .if_icmp .ge 7, 140, 144, 3, 0, 0, 0),
  (140, .iconst 1, .iconst 1, 141, 0, 1, 1, 0, 0),
  (141, .goto 44, .goto 44, 185, 0, 3, 0, 0, 0),
  (144, .iconst 0, .iconst 0, 145, 0, 1, 0, 0, 0),
  (145, .goto 40, .goto 40, 185, 0, 3, 0, 0, 0),
  (148, .iload 4, .iload 4, 150, 0, 2, 0, 0, 0),
  (150, .bipush 6, .iconst 6, 152, 0, 2, 6, 0, 0),
  (152, .if_icmp .ne 18, .if_icmp .ne 18, 155, 170, 3, 0, 0, 0),
  (155, .iload 6, .iload 6, 157, 0, 2, 0, 0, 0),
  (157, .iload 5, .iload 5, 159, 0, 2, 0, 0, 0),
  (159, .if_icmp .ne 7, .if_icmp .ne 7, 162, 166, 3, 0, 0, 0),
  (162, .iconst 1, .iconst 1, 163, 0, 1, 1, 0, 0),
  (163, .goto 22, .goto 22, 185, 0, 3, 0, 0, 0),
  (166, .iconst 0, .iconst 0, 167, 0, 1, 0, 0, 0),
  (167, .goto 18, .goto 18, 185, 0, 3, 0, 0, 0),
  (170, .iload 6, .iload 6, 172, 0, 2, 0, 0, 0),
  (172, .ifCond .eq 12, .ifCond .eq 12, 175, 184, 3, 0, 0, 0),
  (175, .iload 5, .iload 5, 177, 0, 2, 0, 0, 0),
  (177, .ifCond .eq 7, .ifCond .eq 7, 180, 184, 3, 0, 0, 0),
  (180, .iconst 1, .iconst 1, 181, 0, 1, 1, 0, 0),
  (181, .goto 4, .goto 4, 185, 0, 3, 0, 0, 0),
  (184, .iconst 0, .iconst 0, 185, 0, 1, 0, 0, 0),
  (185, .iastore, .iastore, 186, 0, 1, 0, 0, 0),
  (186, .iinc 2 1, .iinc 2 1, 189, 0, 3, 1, 0, 0),
  (189, .goto (-185), .goto (-185), 4, 0, 3, 0, 0, 0),
  (192, .aload_n 0, .aload 0, 193, 0, 1, 0, 0, 0),
  (193, .getfield 87, .getfield 24, 196, 10, 3, 0, 0, 999),
  (196, .iconst 0, .iconst 0, 197, 0, 1, 0, 0, 0),
  (197, .iaload, .iaload, 198, 0, 1, 0, 0, 0),
  (198, .ireturn, .ireturn, 199, 0, 1, 0, 0, 0)])
set_option maxRecDepth 100000 in
theorem okX10_valueOf : okm mX10_valueOf = true := by decide +kernel
def mX10_isTaste : mt_T := (yX10_isTaste, cX10_isTaste, 1, (some .boolean), [
  (0, .iload_n 0, .iload 0, 1, 0, 1, 0, 0, 0),
  (1, .ifCond .lt 13, .ifCond .lt 13, 4, 14, 3, 0, 0, 0),
  (4, .iload_n 0, .iload 0, 5, 0, 1, 0, 0, 0),
  (5, .bipush 100, .iconst 100, 7, 0, 2, 100, 0, 0),
  (7, .if_icmp .gt 7, .if_icmp .gt 7, 10, 14, 3, 0, 0, 0),
  (10, .iconst 1, .iconst 1, 11, 0, 1, 1, 0, 0),
  (11, .goto 4, .goto 4, 15, 0, 3, 0, 0, 0),
  (14, .iconst 0, .iconst 0, 15, 0, 1, 0, 0, 0),
  (15, .ireturn, .ireturn, 16, 0, 1, 0, 0, 0)])
set_option maxRecDepth 100000 in
theorem okX10_isTaste : okm mX10_isTaste = true := by decide +kernel
def mX10_lot : mt_T := (yX10_lot, cX10_lot, 6, (some .int), [
  (0, .aload_n 0, .aload 0, 1, 0, 1, 0, 0, 0),
  (1, .iconst 0, .iconst 0, 2, 0, 1, 0, 0, 0),
  (2, .putfield 1, .putfield 0, 5, 10, 3, 0, 0, 975),
  (5, .iload_n 1, .iload 1, 6, 0, 1, 0, 0, 0),
  (6, .iconst 1, .iconst 1, 7, 0, 1, 1, 0, 0),
  (7, .if_icmp .lt 53, .if_icmp .lt 53, 10, 60, 3, 0, 0, 0),
  (10, .iload_n 1, .iload 1, 11, 0, 1, 0, 0, 0),
  (11, .ldc 230, .iconst 100000, 13, 230, 2, 100000, 0, 1237),
  (13, .if_icmp .gt 47, .if_icmp .gt 47, 16, 60, 3, 0, 0, 0),
  (16, .iload_n 2, .iload 2, 17, 0, 1, 0, 0, 0),
  (17, .iconst 1, .iconst 1, 18, 0, 1, 1, 0, 0),
  (18, .if_icmp .lt 42, .if_icmp .lt 42, 21, 60, 3, 0, 0, 0),
  (21, .iload_n 2, .iload 2, 22, 0, 1, 0, 0, 0),
  (22, .sipush 10000, .iconst 10000, 25, 0, 3, 10000, 0, 0),
  (25, .if_icmp .gt 35, .if_icmp .gt 35, 28, 60, 3, 0, 0, 0),
  (28, .iload_n 3, .iload 3, 29, 0, 1, 0, 0, 0),
  (29, .invokestatic 231, .invokestatic 231, 32, 0, 3, 0, 0, 0),
  (32, .ifCond .eq 28, .ifCond .eq 28, 35, 60, 3, 0, 0, 0),
  (35, .iload 4, .iload 4, 37, 0, 2, 0, 0, 0),
  (37, .invokestatic 231, .invokestatic 231, 40, 0, 3, 0, 0, 0),
  (40, .ifCond .eq 20, .ifCond .eq 20, 43, 60, 3, 0, 0, 0),
  (43, .iload 5, .iload 5, 45, 0, 2, 0, 0, 0),
  (45, .invokestatic 231, .invokestatic 231, 48, 0, 3, 0, 0, 0),
  (48, .ifCond .eq 12, .ifCond .eq 12, 51, 60, 3, 0, 0, 0),
  (51, .aload_n 0, .aload 0, 52, 0, 1, 0, 0, 0),
  (52, .getfield 234, .getfield 26, 55, 10, 3, 0, 0, 1001),
  (55, .bipush 12, .iconst 12, 57, 0, 2, 12, 0, 0),
  (57, .if_icmp .ne 5, .if_icmp .ne 5, 60, 62, 3, 0, 0, 0),
  (60, .iconst (-1), .iconst (-1), 61, 0, 1, (-1), 0, 0),
  (61, .ireturn, .ireturn, 62, 0, 1, 0, 0, 0),
  (62, .aload_n 0, .aload 0, 63, 0, 1, 0, 0, 0),
  (63, .getfield 90, .getfield 27, 66, 10, 3, 0, 0, 1002),
  (66, .aload_n 0, .aload 0, 67, 0, 1, 0, 0, 0),
  (67, .getfield 234, .getfield 26, 70, 10, 3, 0, 0, 1001),
  (70, .iload_n 1, .iload 1, 71, 0, 1, 0, 0, 0),
  (71, .iastore, .iastore, 72, 0, 1, 0, 0, 0),
  (72, .aload_n 0, .aload 0, 73, 0, 1, 0, 0, 0),
  (73, .getfield 93, .getfield 28, 76, 10, 3, 0, 0, 1003),
  (76, .aload_n 0, .aload 0, 77, 0, 1, 0, 0, 0),
  (77, .getfield 234, .getfield 26, 80, 10, 3, 0, 0, 1001),
  (80, .iload_n 2, .iload 2, 81, 0, 1, 0, 0, 0),
  (81, .iastore, .iastore, 82, 0, 1, 0, 0, 0),
  (82, .aload_n 0, .aload 0, 83, 0, 1, 0, 0, 0),
  (83, .getfield 96, .getfield 29, 86, 10, 3, 0, 0, 1004),
  (86, .iconst 3, .iconst 3, 87, 0, 1, 3, 0, 0),
  (87, .aload_n 0, .aload 0, 88, 0, 1, 0, 0, 0),
  (88, .getfield 234, .getfield 26, 91, 10, 3, 0, 0, 1001),
  (91, .imul, .imul, 92, 0, 1, 0, 0, 0),
  (92, .iload_n 3, .iload 3, 93, 0, 1, 0, 0, 0),
  (93, .iastore, .iastore, 94, 0, 1, 0, 0, 0),
  (94, .aload_n 0, .aload 0, 95, 0, 1, 0, 0, 0),
  (95, .getfield 96, .getfield 29, 98, 10, 3, 0, 0, 1004),
  (98, .iconst 3, .iconst 3, 99, 0, 1, 3, 0, 0),
  (99, .aload_n 0, .aload 0, 100, 0, 1, 0, 0, 0),
  (100, .getfield 234, .getfield 26, 103, 10, 3, 0, 0, 1001),
  (103, .imul, .imul, 104, 0, 1, 0, 0, 0),
  (104, .iconst 1, .iconst 1, 105, 0, 1, 1, 0, 0),
  (105, .iadd, .iadd, 106, 0, 1, 0, 0, 0),
  (106, .iload 4, .iload 4, 108, 0, 2, 0, 0, 0),
  (108, .iastore, .iastore, 109, 0, 1, 0, 0, 0),
  (109, .aload_n 0, .aload 0, 110, 0, 1, 0, 0, 0),
  (110, .getfield 96, .getfield 29, 113, 10, 3, 0, 0, 1004),
  (113, .iconst 3, .iconst 3, 114, 0, 1, 3, 0, 0),
  (114, .aload_n 0, .aload 0, 115, 0, 1, 0, 0, 0),
  (115, .getfield 234, .getfield 26, 118, 10, 3, 0, 0, 1001),
  (118, .imul, .imul, 119, 0, 1, 0, 0, 0),
  (119, .iconst 2, .iconst 2, 120, 0, 1, 2, 0, 0),
  (120, .iadd, .iadd, 121, 0, 1, 0, 0, 0),
  (121, .iload 5, .iload 5, 123, 0, 2, 0, 0, 0),
  (123, .iastore, .iastore, 124, 0, 1, 0, 0, 0),
  (124, .aload_n 0, .aload 0, 125, 0, 1, 0, 0, 0),
  (125, .dup, .dup, 126, 0, 1, 0, 0, 0),
  (126, .getfield 234, .getfield 26, 129, 10, 3, 0, 0, 1001),
  (129, .iconst 1, .iconst 1, 130, 0, 1, 1, 0, 0),
  (130, .iadd, .iadd, 131, 0, 1, 0, 0, 0),
  (131, .putfield 234, .putfield 26, 134, 10, 3, 0, 0, 1001),
  (134, .aload_n 0, .aload 0, 135, 0, 1, 0, 0, 0),
  (135, .getfield 234, .getfield 26, 138, 10, 3, 0, 0, 1001),
  (138, .iconst 1, .iconst 1, 139, 0, 1, 1, 0, 0),
  (139, .isub, .isub, 140, 0, 1, 0, 0, 0),
  (140, .ireturn, .ireturn, 141, 0, 1, 0, 0, 0)])
set_option maxRecDepth 100000 in
theorem okX10_lot : okm mX10_lot = true := by decide +kernel
def mX10_isLot : mt_T := (yX10_isLot, cX10_isLot, 2, (some .boolean), [
  (0, .iload_n 1, .iload 1, 1, 0, 1, 0, 0, 0),
  (1, .ifCond .lt 15, .ifCond .lt 15, 4, 16, 3, 0, 0, 0),
  (4, .iload_n 1, .iload 1, 5, 0, 1, 0, 0, 0),
  (5, .aload_n 0, .aload 0, 6, 0, 1, 0, 0, 0),
  (6, .getfield 234, .getfield 26, 9, 10, 3, 0, 0, 1001),
  (9, .if_icmp .ge 7, .if_icmp .ge 7, 12, 16, 3, 0, 0, 0),
  (12, .iconst 1, .iconst 1, 13, 0, 1, 1, 0, 0),
  (13, .goto 4, .goto 4, 17, 0, 3, 0, 0, 0),
  (16, .iconst 0, .iconst 0, 17, 0, 1, 0, 0, 0),
  (17, .ireturn, .ireturn, 18, 0, 1, 0, 0, 0)])
set_option maxRecDepth 100000 in
theorem okX10_isLot : okm mX10_isLot = true := by decide +kernel
def mX10_isBag : mt_T := (yX10_isBag, cX10_isBag, 2, (some .boolean), [
  (0, .iload_n 1, .iload 1, 1, 0, 1, 0, 0, 0),
  (1, .ifCond .lt 15, .ifCond .lt 15, 4, 16, 3, 0, 0, 0),
  (4, .iload_n 1, .iload 1, 5, 0, 1, 0, 0, 0),
  (5, .aload_n 0, .aload 0, 6, 0, 1, 0, 0, 0),
  (6, .getfield 237, .getfield 30, 9, 10, 3, 0, 0, 1005),
  (9, .if_icmp .ge 7, .if_icmp .ge 7, 12, 16, 3, 0, 0, 0),
  (12, .iconst 1, .iconst 1, 13, 0, 1, 1, 0, 0),
  (13, .goto 4, .goto 4, 17, 0, 3, 0, 0, 0),
  (16, .iconst 0, .iconst 0, 17, 0, 1, 0, 0, 0),
  (17, .ireturn, .ireturn, 18, 0, 1, 0, 0, 0)])
set_option maxRecDepth 100000 in
theorem okX10_isBag : okm mX10_isBag = true := by decide +kernel
def mX10_days : mt_T := (yX10_days, cX10_days, 2, (some .int), [
  (0, .aload_n 0, .aload 0, 1, 0, 1, 0, 0, 0),
  (1, .iconst 0, .iconst 0, 2, 0, 1, 0, 0, 0),
  (2, .putfield 1, .putfield 0, 5, 10, 3, 0, 0, 975),
  (5, .iload_n 1, .iload 1, 6, 0, 1, 0, 0, 0),
  (6, .ifCond .lt 21, .ifCond .lt 21, 9, 27, 3, 0, 0, 0),
  (9, .iload_n 1, .iload 1, 10, 0, 1, 0, 0, 0),
  (10, .bipush 100, .iconst 100, 12, 0, 2, 100, 0, 0),
  (12, .if_icmp .gt 15, .if_icmp .gt 15, 15, 27, 3, 0, 0, 0),
  (15, .aload_n 0, .aload 0, 16, 0, 1, 0, 0, 0),
  (16, .getfield 240, .getfield 25, 19, 10, 3, 0, 0, 1000),
  (19, .iload_n 1, .iload 1, 20, 0, 1, 0, 0, 0),
  (20, .iadd, .iadd, 21, 0, 1, 0, 0, 0),
  (21, .sipush 999, .iconst 999, 24, 0, 3, 999, 0, 0),
  (24, .if_icmp .le 5, .if_icmp .le 5, 27, 29, 3, 0, 0, 0),
  (27, .iconst (-1), .iconst (-1), 28, 0, 1, (-1), 0, 0),
  (28, .ireturn, .ireturn, 29, 0, 1, 0, 0, 0),
  (29, .aload_n 0, .aload 0, 30, 0, 1, 0, 0, 0),
  (30, .dup, .dup, 31, 0, 1, 0, 0, 0),
  (31, .getfield 240, .getfield 25, 34, 10, 3, 0, 0, 1000),
  (34, .iload_n 1, .iload 1, 35, 0, 1, 0, 0, 0),
  (35, .iadd, .iadd, 36, 0, 1, 0, 0, 0),
  (36, .putfield 240, .putfield 25, 39, 10, 3, 0, 0, 1000),
  (39, .aload_n 0, .aload 0, 40, 0, 1, 0, 0, 0),
  (40, .getfield 240, .getfield 25, 43, 10, 3, 0, 0, 1000),
  (43, .ireturn, .ireturn, 44, 0, 1, 0, 0, 0)])
set_option maxRecDepth 100000 in
theorem okX10_days : okm mX10_days = true := by decide +kernel
def mX10_curve : mt_T := (yX10_curve, cX10_curve, 3, (some .boolean), [
  (0, .aload_n 0, .aload 0, 1, 0, 1, 0, 0, 0),
  (1, .iconst 0, .iconst 0, 2, 0, 1, 0, 0, 0),
  (2, .putfield 1, .putfield 0, 5, 10, 3, 0, 0, 975),
  (5, .iload_n 1, .iload 1, 6, 0, 1, 0, 0, 0),
  (6, .ifCond .lt 20, .ifCond .lt 20, 9, 26, 3, 0, 0, 0),
  (9, .iload_n 1, .iload 1, 10, 0, 1, 0, 0, 0),
  (10, .bipush 19, .iconst 19, 12, 0, 2, 19, 0, 0),
  (12, .if_icmp .gt 14, .if_icmp .gt 14, 15, 26, 3, 0, 0, 0),
  (15, .iload_n 2, .iload 2, 16, 0, 1, 0, 0, 0),
  (16, .ifCond .lt 10, .ifCond .lt 10, 19, 26, 3, 0, 0, 0),
  (19, .iload_n 2, .iload 2, 20, 0, 1, 0, 0, 0),
  (20, .sipush 400, .iconst 400, 23, 0, 3, 400, 0, 0),
  (23, .if_icmp .le 5, .if_icmp .le 5, 26, 28, 3, 0, 0, 0),
  (26, .iconst 0, .iconst 0, 27, 0, 1, 0, 0, 0),
  (27, .ireturn, .ireturn, 28, 0, 1, 0, 0, 0),
  (28, .aload_n 0, .aload 0, 29, 0, 1, 0, 0, 0),
  (29, .getfield 108, .getfield 34, 32, 10, 3, 0, 0, 1009),
  (32, .iload_n 1, .iload 1, 33, 0, 1, 0, 0, 0),
  (33, .iload_n 2, .iload 2, 34, 0, 1, 0, 0, 0),
  (34, .iastore, .iastore, 35, 0, 1, 0, 0, 0),
  (35, .iconst 1, .iconst 1, 36, 0, 1, 1, 0, 0),
  (36, .ireturn, .ireturn, 37, 0, 1, 0, 0, 0)])
set_option maxRecDepth 100000 in
theorem okX10_curve : okm mX10_curve = true := by decide +kernel
def mX10_actsBy : mt_T := (yX10_actsBy, cX10_actsBy, 3, none, [
  (0, .bipush 16, .iconst 16, 2, 0, 2, 16, 0, 0),
  (2, .aload_n 0, .aload 0, 3, 0, 1, 0, 0, 0),
  (3, .getfield 192, .getfield 16, 6, 10, 3, 0, 0, 991),
  (6, .imul, .imul, 7, 0, 1, 0, 0, 0),
  (7, .istore_n 2, .istore 2, 8, 0, 1, 0, 0, 0),
  (8, .iload_n 2, .iload 2, 9, 0, 1, 0, 0, 0),
  (9, .bipush 16, .iconst 16, 11, 0, 2, 16, 0, 0),
  (11, .aload_n 0, .aload 0, 12, 0, 1, 0, 0, 0),
  (12, .getfield 192, .getfield 16, 15, 10, 3, 0, 0, 991),
  (15, .imul, .imul, 16, 0, 1, 0, 0, 0),
  (16, .aload_n 0, .aload 0, 17, 0, 1, 0, 0, 0),
  (17, .getfield 57, .getfield 10, 20, 10, 3, 0, 0, 985),
  (20, .aload_n 0, .aload 0, 21, 0, 1, 0, 0, 0),
  (21, .getfield 192, .getfield 16, 24, 10, 3, 0, 0, 991),
  (24, .iaload, .iaload, 25, 0, 1, 0, 0, 0),
  (25, .iadd, .iadd, 26, 0, 1, 0, 0, 0),
  (26, .if_icmp .ge 174, .if_icmp .ge 174, 29, 200, 3, 0, 0, 0),
  (29, .aload_n 0, .aload 0, 30, 0, 1, 0, 0, 0),
  (30, .getfield 243, .getfield 42, 33, 10, 3, 0, 0, 1017),
  (33, .ifCond .ne 167, .ifCond .ne 167, 36, 200, 3, 0, 0, 0),
  (36, .aload_n 0, .aload 0, 37, 0, 1, 0, 0, 0),
  (37, .getfield 84, .getfield 23, 40, 10, 3, 0, 0, 998),
  (40, .iconst 0, .iconst 0, 41, 0, 1, 0, 0, 0),
  (41, .aload_n 0, .aload 0, 42, 0, 1, 0, 0, 0),
  (42, .getfield 247, .getfield 36, 45, 10, 3, 0, 0, 1011),
  (45, .iastore, .iastore, 46, 0, 1, 0, 0, 0),
  (46, .aload_n 0, .aload 0, 47, 0, 1, 0, 0, 0),
  (47, .getfield 84, .getfield 23, 50, 10, 3, 0, 0, 998),
  (50, .iconst 1, .iconst 1, 51, 0, 1, 1, 0, 0),
  (51, .aload_n 0, .aload 0, 52, 0, 1, 0, 0, 0),
  (52, .getfield 250, .getfield 37, 55, 10, 3, 0, 0, 1012),
  (55, .iastore, .iastore, 56, 0, 1, 0, 0, 0),
  (56, .aload_n 0, .aload 0, 57, 0, 1, 0, 0, 0),
  (57, .getfield 84, .getfield 23, 60, 10, 3, 0, 0, 998),
  (60, .iconst 2, .iconst 2, 61, 0, 1, 2, 0, 0),
  (61, .aload_n 0, .aload 0, 62, 0, 1, 0, 0, 0),
  (62, .getfield 108, .getfield 34, 65, 10, 3, 0, 0, 1009),
  (65, .aload_n 0, .aload 0, 66, 0, 1, 0, 0, 0),
  (66, .getfield 247, .getfield 36, 69, 10, 3, 0, 0, 1011),
  (69, .iaload, .iaload, 70, 0, 1, 0, 0, 0),
  (70, .iastore, .iastore, 71, 0, 1, 0, 0, 0),
  (71, .aload_n 0, .aload 0, 72, 0, 1, 0, 0, 0),
  (72, .getfield 84, .getfield 23, 75, 10, 3, 0, 0, 998),
  (75, .iconst 3, .iconst 3, 76, 0, 1, 3, 0, 0),
  (76, .aload_n 0, .aload 0, 77, 0, 1, 0, 0, 0),
  (77, .getfield 253, .getfield 38, 80, 10, 3, 0, 0, 1013),
  (80, .iastore, .iastore, 81, 0, 1, 0, 0, 0),
  (81, .aload_n 0, .aload 0, 82, 0, 1, 0, 0, 0),
  (82, .getfield 84, .getfield 23, 85, 10, 3, 0, 0, 998),
  (85, .iconst 4, .iconst 4, 86, 0, 1, 4, 0, 0),
  (86, .iload_n 1, .iload 1, 87, 0, 1, 0, 0, 0),
  (87, .iastore, .iastore, 88, 0, 1, 0, 0, 0),
  (88, .aload_n 0, .aload 0, 89, 0, 1, 0, 0, 0),
  (89, .getfield 84, .getfield 23, 92, 10, 3, 0, 0, 998),
  (92, .iconst 5, .iconst 5, 93, 0, 1, 5, 0, 0),
  (93, .aload_n 0, .aload 0, 94, 0, 1, 0, 0, 0),
  (94, .getfield 256, .getfield 39, 97, 10, 3, 0, 0, 1014),
  (97, .iastore, .iastore, 98, 0, 1, 0, 0, 0),
  (98, .aload_n 0, .aload 0, 99, 0, 1, 0, 0, 0),
  (99, .getfield 84, .getfield 23, 102, 10, 3, 0, 0, 998),
  (102, .bipush 6, .iconst 6, 104, 0, 2, 6, 0, 0),
  (104, .aload_n 0, .aload 0, 105, 0, 1, 0, 0, 0),
  (105, .getfield 259, .getfield 40, 108, 10, 3, 0, 0, 1015),
  (108, .iastore, .iastore, 109, 0, 1, 0, 0, 0),
  (109, .aload_n 0, .aload 0, 110, 0, 1, 0, 0, 0),
  (110, .aload_n 0, .aload 0, 111, 0, 1, 0, 0, 0),
  (111, .getfield 66, .getfield 13, 114, 10, 3, 0, 0, 988),
  (114, .iload_n 2, .iload 2, 115, 0, 1, 0, 0, 0),
  (115, .iaload, .iaload, 116, 0, 1, 0, 0, 0),
  (116, .invokevirtual 262, .invokevirtual 262, 119, 0, 3, 0, 0, 0),
  (119, .ifCond .eq 75, .ifCond .eq 75, 122, 194, 3, 0, 0, 0),
  (122, .aload_n 0, .aload 0, 123, 0, 1, 0, 0, 0),
  (123, .aload_n 0, .aload 0, 124, 0, 1, 0, 0, 0),
  (124, .getfield 60, .getfield 11, 127, 10, 3, 0, 0, 986),
  (127, .iload_n 2, .iload 2, 128, 0, 1, 0, 0, 0),
  (128, .iaload, .iaload, 129, 0, 1, 0, 0, 0),
  (129, .ifCond .ne 7, .ifCond .ne 7, 132, 136, 3, 0, 0, 0),
  (132, .iconst 1, .iconst 1, 133, 0, 1, 1, 0, 0),
  (133, .goto 4, .goto 4, 137, 0, 3, 0, 0, 0),
  (136, .iconst 0, .iconst 0, 137, 0, 1, 0, 0, 0),
  (137, .putfield 243, .putfield 42, 140, 10, 3, 0, 0, 1017),
  (140, .aload_n 0, .aload 0, 141, 0, 1, 0, 0, 0),
  (141, .aload_n 0, .aload 0, 142, 0, 1, 0, 0, 0),
  (142, .getfield 60, .getfield 11, 145, 10, 3, 0, 0, 986),
  (145, .iload_n 2, .iload 2, 146, 0, 1, 0, 0, 0),
  (146, .iaload, .iaload, 147, 0, 1, 0, 0, 0),
  (147, .iconst 1, .iconst 1, 148, 0, 1, 1, 0, 0),
  (148, .if_icmp .ne 12, .if_icmp .ne 12, 151, 160, 3, 0, 0, 0),
  (151, .aload_n 0, .aload 0, 152, 0, 1, 0, 0, 0),
  (152, .getfield 63, .getfield 12, 155, 10, 3, 0, 0, 987),
  (155, .iload_n 2, .iload 2, 156, 0, 1, 0, 0, 0),
  (156, .iaload, .iaload, 157, 0, 1, 0, 0, 0),
  (157, .goto 7, .goto 7, 164, 0, 3, 0, 0, 0),
  (160, .aload_n 0, .aload 0, 161, 0, 1, 0, 0, 0),
  (161, .getfield 256, .getfield 39, 164, 10, 3, 0, 0, 1014),
  (164, .putfield 256, .putfield 39, 167, 10, 3, 0, 0, 1014),
  (167, .aload_n 0, .aload 0, 168, 0, 1, 0, 0, 0),
  (168, .aload_n 0, .aload 0, 169, 0, 1, 0, 0, 0),
  (169, .getfield 60, .getfield 11, 172, 10, 3, 0, 0, 986),
  (172, .iload_n 2, .iload 2, 173, 0, 1, 0, 0, 0),
  (173, .iaload, .iaload, 174, 0, 1, 0, 0, 0),
  (174, .iconst 2, .iconst 2, 175, 0, 1, 2, 0, 0),
  (175, .if_icmp .ne 12, .if_icmp .ne 12, 178, 187, 3, 0, 0, 0),
  (178, .aload_n 0, .aload 0, 179, 0, 1, 0, 0, 0),
  (179, .getfield 63, .getfield 12, 182, 10, 3, 0, 0, 987),
  (182, .iload_n 2, .iload 2, 183, 0, 1, 0, 0, 0),
  (183, .iaload, .iaload, 184, 0, 1, 0, 0, 0),
  (184, .goto 7, .goto 7, 191, 0, 3, 0, 0, 0),
  (187, .aload_n 0, .aload 0, 188, 0, 1, 0, 0, 0),
  (188, .getfield 259, .getfield 40, 191, 10, 3, 0, 0, 1015),
  (191, .putfield 259, .putfield 40, 194, 10, 3, 0, 0, 1015),
  (194, .iinc 2 1, .iinc 2 1, 197, 0, 3, 1, 0, 0),
  (197, .goto (-189), .goto (-189), 8, 0, 3, 0, 0, 0),
  (200, .return_, .return_, 201, 0, 1, 0, 0, 0)])
set_option maxRecDepth 100000 in
theorem okX10_actsBy : okm mX10_actsBy = true := by decide +kernel
def mX10_goes : mt_T := (yX10_goes, cX10_goes, 4, none, [
  (0, .aload_n 0, .aload 0, 1, 0, 1, 0, 0, 0),
  (1, .iconst 0, .iconst 0, 2, 0, 1, 0, 0, 0),
  (2, .putfield 247, .putfield 36, 5, 10, 3, 0, 0, 1011),
  (5, .aload_n 0, .aload 0, 6, 0, 1, 0, 0, 0),
  (6, .sipush 200, .iconst 200, 9, 0, 3, 200, 0, 0),
  (9, .putfield 250, .putfield 37, 12, 10, 3, 0, 0, 1012),
  (12, .aload_n 0, .aload 0, 13, 0, 1, 0, 0, 0),
  (13, .iconst 0, .iconst 0, 14, 0, 1, 0, 0, 0),
  (14, .putfield 253, .putfield 38, 17, 10, 3, 0, 0, 1013),
  (17, .aload_n 0, .aload 0, 18, 0, 1, 0, 0, 0),
  (18, .iconst 5, .iconst 5, 19, 0, 1, 5, 0, 0),
  (19, .putfield 256, .putfield 39, 22, 10, 3, 0, 0, 1014),
  (22, .aload_n 0, .aload 0, 23, 0, 1, 0, 0, 0),
  (23, .iconst 5, .iconst 5, 24, 0, 1, 5, 0, 0),
  (24, .putfield 259, .putfield 40, 27, 10, 3, 0, 0, 1015),
  (27, .aload_n 0, .aload 0, 28, 0, 1, 0, 0, 0),
  (28, .iconst 0, .iconst 0, 29, 0, 1, 0, 0, 0),
  (29, .putfield 243, .putfield 42, 32, 10, 3, 0, 0, 1017),
  (32, .aload_n 0, .aload 0, 33, 0, 1, 0, 0, 0),
  (33, .iconst 0, .iconst 0, 34, 0, 1, 0, 0, 0),
  (34, .putfield 265, .putfield 43, 37, 10, 3, 0, 0, 1018),
  (37, .aload_n 0, .aload 0, 38, 0, 1, 0, 0, 0),
  (38, .getfield 247, .getfield 36, 41, 10, 3, 0, 0, 1011),
  (41, .bipush 20, .iconst 20, 43, 0, 2, 20, 0, 0),
  (43, .if_icmp .ge 172, .if_icmp .ge 172, 46, 215, 3, 0, 0, 0),
  (46, .aload_n 0, .aload 0, 47, 0, 1, 0, 0, 0),
  (47, .getfield 243, .getfield 42, 50, 10, 3, 0, 0, 1017),
  (50, .ifCond .ne 165, .ifCond .ne 165, 53, 215, 3, 0, 0, 0),
  (53, .aload_n 0, .aload 0, 54, 0, 1, 0, 0, 0),
  (54, .iload_n 1, .iload 1, 55, 0, 1, 0, 0, 0),
  (55, .invokevirtual 268, .invokevirtual 268, 58, 0, 3, 0, 0, 0),
  (58, .aload_n 0, .aload 0, 59, 0, 1, 0, 0, 0),
  (59, .getfield 250, .getfield 37, 62, 10, 3, 0, 0, 1012),
  (62, .aload_n 0, .aload 0, 63, 0, 1, 0, 0, 0),
  (63, .getfield 108, .getfield 34, 66, 10, 3, 0, 0, 1009),
  (66, .aload_n 0, .aload 0, 67, 0, 1, 0, 0, 0),
  (67, .getfield 247, .getfield 36, 70, 10, 3, 0, 0, 1011),
  (70, .iaload, .iaload, 71, 0, 1, 0, 0, 0),
  (71, .if_icmp .le 20, .if_icmp .le 20, 74, 91, 3, 0, 0, 0),
  (74, .aload_n 0, .aload 0, 75, 0, 1, 0, 0, 0),
  (75, .getfield 250, .getfield 37, 78, 10, 3, 0, 0, 1012),
  (78, .aload_n 0, .aload 0, 79, 0, 1, 0, 0, 0),
  (79, .getfield 108, .getfield 34, 82, 10, 3, 0, 0, 1009),
  (82, .aload_n 0, .aload 0, 83, 0, 1, 0, 0, 0),
  (83, .getfield 247, .getfield 36, 86, 10, 3, 0, 0, 1011),
  (86, .iaload, .iaload, 87, 0, 1, 0, 0, 0),
  (87, .isub, .isub, 88, 0, 1, 0, 0, 0),
  (88, .goto 17, .goto 17, 105, 0, 3, 0, 0, 0),
  (91, .aload_n 0, .aload 0, 92, 0, 1, 0, 0, 0),
  (92, .getfield 108, .getfield 34, 95, 10, 3, 0, 0, 1009),
  (95, .aload_n 0, .aload 0, 96, 0, 1, 0, 0, 0),
  (96, .getfield 247, .getfield 36, 99, 10, 3, 0, 0, 1011),
  (99, .iaload, .iaload, 100, 0, 1, 0, 0, 0),
  (100, .aload_n 0, .aload 0, 101, 0, 1, 0, 0, 0),
  (101, .getfield 250, .getfield 37, 104, 10, 3, 0, 0, 1012),
  (104, .isub, .isub, 105, 0, 1, 0, 0, 0),
  (105, .istore_n 2, .istore 2, 106, 0, 1, 0, 0, 0),
  (106, .aload_n 0, .aload 0, 107, 0, 1, 0, 0, 0),
  (107, .iload_n 2, .iload 2, 108, 0, 1, 0, 0, 0),
  (108, .aload_n 0, .aload 0, 109, 0, 1, 0, 0, 0),
  (109, .getfield 265, .getfield 43, 112, 10, 3, 0, 0, 1018),
  (112, .if_icmp .le 7, .if_icmp .le 7, 115, 119, 3, 0, 0, 0),
  (115, .iload_n 2, .iload 2, 116, 0, 1, 0, 0, 0),
  (116, .goto 7, .goto 7, 123, 0, 3, 0, 0, 0),
  (119, .aload_n 0, .aload 0, 120, 0, 1, 0, 0, 0),
  (120, .getfield 265, .getfield 43, 123, 10, 3, 0, 0, 1018),
  (123, .putfield 265, .putfield 43, 126, 10, 3, 0, 0, 1018),
  (126, .aload_n 0, .aload 0, 127, 0, 1, 0, 0, 0),
  (127, .getfield 243, .getfield 42, 130, 10, 3, 0, 0, 1017),
  (130, .ifCond .ne 82, .ifCond .ne 82, 133, 212, 3, 0, 0, 0),
  (133, .aload_n 0, .aload 0, 134, 0, 1, 0, 0, 0),
  (134, .getfield 250, .getfield 37, 137, 10, 3, 0, 0, 1012),
  (137, .iconst 4, .iconst 4, 138, 0, 1, 4, 0, 0),
  (138, .aload_n 0, .aload 0, 139, 0, 1, 0, 0, 0),
  (139, .getfield 256, .getfield 39, 142, 10, 3, 0, 0, 1014),
  (142, .imul, .imul, 143, 0, 1, 0, 0, 0),
  (143, .iadd, .iadd, 144, 0, 1, 0, 0, 0),
  (144, .aload_n 0, .aload 0, 145, 0, 1, 0, 0, 0),
  (145, .getfield 250, .getfield 37, 148, 10, 3, 0, 0, 1012),
  (148, .bipush 20, .iconst 20, 150, 0, 2, 20, 0, 0),
  (150, .isub, .isub, 151, 0, 1, 0, 0, 0),
  (151, .bipush 20, .iconst 20, 153, 0, 2, 20, 0, 0),
  (153, .idiv, .idiv, 154, 0, 1, 0, 0, 0),
  (154, .isub, .isub, 155, 0, 1, 0, 0, 0),
  (155, .aload_n 0, .aload 0, 156, 0, 1, 0, 0, 0),
  (156, .getfield 259, .getfield 40, 159, 10, 3, 0, 0, 1015),
  (159, .isub, .isub, 160, 0, 1, 0, 0, 0),
  (160, .istore_n 3, .istore 3, 161, 0, 1, 0, 0, 0),
  (161, .iload_n 3, .iload 3, 162, 0, 1, 0, 0, 0),
  (162, .bipush 20, .iconst 20, 164, 0, 2, 20, 0, 0),
  (164, .if_icmp .ge 8, .if_icmp .ge 8, 167, 172, 3, 0, 0, 0),
  (167, .bipush 20, .iconst 20, 169, 0, 2, 20, 0, 0),
  (169, .goto 17, .goto 17, 186, 0, 3, 0, 0, 0),
  (172, .iload_n 3, .iload 3, 173, 0, 1, 0, 0, 0),
  (173, .sipush 400, .iconst 400, 176, 0, 3, 400, 0, 0),
  (176, .if_icmp .le 9, .if_icmp .le 9, 179, 185, 3, 0, 0, 0),
  (179, .sipush 400, .iconst 400, 182, 0, 3, 400, 0, 0),
  (182, .goto 4, .goto 4, 186, 0, 3, 0, 0, 0),
  (185, .iload_n 3, .iload 3, 186, 0, 1, 0, 0, 0),
  (186, .istore_n 3, .istore 3, 187, 0, 1, 0, 0, 0),
  (187, .aload_n 0, .aload 0, 188, 0, 1, 0, 0, 0),
  (188, .iload_n 3, .iload 3, 189, 0, 1, 0, 0, 0),
  (189, .aload_n 0, .aload 0, 190, 0, 1, 0, 0, 0),
  (190, .getfield 250, .getfield 37, 193, 10, 3, 0, 0, 1012),
  (193, .isub, .isub, 194, 0, 1, 0, 0, 0),
  (194, .putfield 253, .putfield 38, 197, 10, 3, 0, 0, 1013),
  (197, .aload_n 0, .aload 0, 198, 0, 1, 0, 0, 0),
  (198, .iload_n 3, .iload 3, 199, 0, 1, 0, 0, 0),
  (199, .putfield 250, .putfield 37, 202, 10, 3, 0, 0, 1012),
  (202, .aload_n 0, .aload 0, 203, 0, 1, 0, 0, 0),
  (203, .dup, .dup, 204, 0, 1, 0, 0, 0),
  (204, .getfield 247, .getfield 36, 207, 10, 3, 0, 0, 1011),
  (207, .iconst 1, .iconst 1, 208, 0, 1, 1, 0, 0),
  (208, .iadd, .iadd, 209, 0, 1, 0, 0, 0),
  (209, .putfield 247, .putfield 36, 212, 10, 3, 0, 0, 1011),
  (212, .goto (-175), .goto (-175), 37, 0, 3, 0, 0, 0),
  (215, .aload_n 0, .aload 0, 216, 0, 1, 0, 0, 0),
  (216, .aload_n 0, .aload 0, 217, 0, 1, 0, 0, 0),
  (217, .getfield 250, .getfield 37, 220, 10, 3, 0, 0, 1012),
  (220, .iconst 4, .iconst 4, 221, 0, 1, 4, 0, 0),
  (221, .idiv, .idiv, 222, 0, 1, 0, 0, 0),
  (222, .iconst 3, .iconst 3, 223, 0, 1, 3, 0, 0),
  (223, .aload_n 0, .aload 0, 224, 0, 1, 0, 0, 0),
  (224, .getfield 247, .getfield 36, 227, 10, 3, 0, 0, 1011),
  (227, .imul, .imul, 228, 0, 1, 0, 0, 0),
  (228, .iadd, .iadd, 229, 0, 1, 0, 0, 0),
  (229, .putfield 271, .putfield 41, 232, 10, 3, 0, 0, 1016),
  (232, .aload_n 0, .aload 0, 233, 0, 1, 0, 0, 0),
  (233, .aload_n 0, .aload 0, 234, 0, 1, 0, 0, 0),
  (234, .getfield 271, .getfield 41, 237, 10, 3, 0, 0, 1016),
  (237, .sipush 600, .iconst 600, 240, 0, 3, 600, 0, 0),
  (240, .if_icmp .le 9, .if_icmp .le 9, 243, 249, 3, 0, 0, 0),
  (243, .sipush 600, .iconst 600, 246, 0, 3, 600, 0, 0),
  (246, .goto 7, .goto 7, 253, 0, 3, 0, 0, 0),
  (249, .aload_n 0, .aload 0, 250, 0, 1, 0, 0, 0),
  (250, .getfield 271, .getfield 41, 253, 10, 3, 0, 0, 1016),
  (253, .putfield 271, .putfield 41, 256, 10, 3, 0, 0, 1016),
  (256, .return_, .return_, 257, 0, 1, 0, 0, 0)])
set_option maxRecDepth 100000 in
theorem okX10_goes : okm mX10_goes = true := by decide +kernel
def mX10_roast : mt_T := (yX10_roast, cX10_roast, 5, (some .int), [
  (0, .aload_n 0, .aload 0, 1, 0, 1, 0, 0, 0),
  (1, .iconst 0, .iconst 0, 2, 0, 1, 0, 0, 0),
  (2, .putfield 1, .putfield 0, 5, 10, 3, 0, 0, 975),
  (5, .aload_n 0, .aload 0, 6, 0, 1, 0, 0, 0),
  (6, .iload_n 1, .iload 1, 7, 0, 1, 0, 0, 0),
  (7, .invokevirtual 274, .invokevirtual 274, 10, 0, 3, 0, 0, 0),
  (10, .ifCond .eq 34, .ifCond .eq 34, 13, 44, 3, 0, 0, 0),
  (13, .iload_n 2, .iload 2, 14, 0, 1, 0, 0, 0),
  (14, .iconst 1, .iconst 1, 15, 0, 1, 1, 0, 0),
  (15, .if_icmp .lt 29, .if_icmp .lt 29, 18, 44, 3, 0, 0, 0),
  (18, .iload_n 2, .iload 2, 19, 0, 1, 0, 0, 0),
  (19, .sipush 20000, .iconst 20000, 22, 0, 3, 20000, 0, 0),
  (22, .if_icmp .gt 22, .if_icmp .gt 22, 25, 44, 3, 0, 0, 0),
  (25, .iload_n 2, .iload 2, 26, 0, 1, 0, 0, 0),
  (26, .aload_n 0, .aload 0, 27, 0, 1, 0, 0, 0),
  (27, .getfield 90, .getfield 27, 30, 10, 3, 0, 0, 1002),
  (30, .iload_n 1, .iload 1, 31, 0, 1, 0, 0, 0),
  (31, .iaload, .iaload, 32, 0, 1, 0, 0, 0),
  (32, .if_icmp .gt 12, .if_icmp .gt 12, 35, 44, 3, 0, 0, 0),
  (35, .aload_n 0, .aload 0, 36, 0, 1, 0, 0, 0),
  (36, .getfield 237, .getfield 30, 39, 10, 3, 0, 0, 1005),
  (39, .bipush 60, .iconst 60, 41, 0, 2, 60, 0, 0),
  (41, .if_icmp .ne 5, .if_icmp .ne 5, 44, 46, 3, 0, 0, 0),
  (44, .iconst (-1), .iconst (-1), 45, 0, 1, (-1), 0, 0),
  (45, .ireturn, .ireturn, 46, 0, 1, 0, 0, 0),
  (46, .aload_n 0, .aload 0, 47, 0, 1, 0, 0, 0),
  (47, .getfield 90, .getfield 27, 50, 10, 3, 0, 0, 1002),
  (50, .iload_n 1, .iload 1, 51, 0, 1, 0, 0, 0),
  (51, .dup2, .dup2, 52, 0, 1, 0, 0, 0),
  (52, .iaload, .iaload, 53, 0, 1, 0, 0, 0),
  (53, .iload_n 2, .iload 2, 54, 0, 1, 0, 0, 0),
  (54, .isub, .isub, 55, 0, 1, 0, 0, 0),
  (55, .iastore, .iastore, 56, 0, 1, 0, 0, 0),
  (56, .aload_n 0, .aload 0, 57, 0, 1, 0, 0, 0),
  (57, .iconst 1, .iconst 1, 58, 0, 1, 1, 0, 0),
  (58, .putfield 277, .putfield 35, 61, 10, 3, 0, 0, 1010),
  (61, .aload_n 0, .aload 0, 62, 0, 1, 0, 0, 0),
  (62, .iload_n 2, .iload 2, 63, 0, 1, 0, 0, 0),
  (63, .invokevirtual 280, .invokevirtual 280, 66, 0, 3, 0, 0, 0),
  (66, .iload_n 2, .iload 2, 67, 0, 1, 0, 0, 0),
  (67, .sipush 1000, .iconst 1000, 70, 0, 3, 1000, 0, 0),
  (70, .aload_n 0, .aload 0, 71, 0, 1, 0, 0, 0),
  (71, .getfield 271, .getfield 41, 74, 10, 3, 0, 0, 1016),
  (74, .isub, .isub, 75, 0, 1, 0, 0, 0),
  (75, .imul, .imul, 76, 0, 1, 0, 0, 0),
  (76, .sipush 1000, .iconst 1000, 79, 0, 3, 1000, 0, 0),
  (79, .idiv, .idiv, 80, 0, 1, 0, 0, 0),
  (80, .istore_n 3, .istore 3, 81, 0, 1, 0, 0, 0),
  (81, .iload_n 3, .iload 3, 82, 0, 1, 0, 0, 0),
  (82, .iconst 1, .iconst 1, 83, 0, 1, 1, 0, 0),
  (83, .if_icmp .ge 6, .if_icmp .ge 6, 86, 89, 3, 0, 0, 0),
  (86, .bipush (-2), .iconst (-2), 88, 0, 2, (-2), 0, 0),
  (88, .ireturn, .ireturn, 89, 0, 1, 0, 0, 0),
  (89, .aload_n 0, .aload 0, 90, 0, 1, 0, 0, 0),
  (90, .aload_n 0, .aload 0, 91, 0, 1, 0, 0, 0),
  (91, .getfield 240, .getfield 25, 94, 10, 3, 0, 0, 1000),
  (94, .invokevirtual 283, .invokevirtual 283, 97, 0, 3, 0, 0, 0),
  (97, .istore 4, .istore 4, 99, 0, 2, 0, 0, 0),
  (99, .aload_n 0, .aload 0, 100, 0, 1, 0, 0, 0),
  (100, .getfield 99, .getfield 31, 103, 10, 3, 0, 0, 1006),
  (103, .bipush 12, .iconst 12, 105, 0, 2, 12, 0, 0),
  (105, .iload 4, .iload 4, 107, 0, 2, 0, 0, 0),
  (107, .imul, .imul, 108, 0, 1, 0, 0, 0),
  (108, .iload_n 1, .iload 1, 109, 0, 1, 0, 0, 0),
  (109, .iadd, .iadd, 110, 0, 1, 0, 0, 0),
  (110, .iload_n 3, .iload 3, 111, 0, 1, 0, 0, 0),
  (111, .iastore, .iastore, 112, 0, 1, 0, 0, 0),
  (112, .iload 4, .iload 4, 114, 0, 2, 0, 0, 0),
  (114, .ireturn, .ireturn, 115, 0, 1, 0, 0, 0)])
set_option maxRecDepth 100000 in
theorem okX10_roast : okm mX10_roast = true := by decide +kernel
def mX10_newBag : mt_T := (yX10_newBag, cX10_newBag, 3, (some .int), [
  (0, .iconst 0, .iconst 0, 1, 0, 1, 0, 0, 0),
  (1, .istore_n 2, .istore 2, 2, 0, 1, 0, 0, 0),
  (2, .iload_n 2, .iload 2, 3, 0, 1, 0, 0, 0),
  (3, .bipush 12, .iconst 12, 5, 0, 2, 12, 0, 0),
  (5, .if_icmp .ge 24, .if_icmp .ge 24, 8, 29, 3, 0, 0, 0),
  (8, .aload_n 0, .aload 0, 9, 0, 1, 0, 0, 0),
  (9, .getfield 99, .getfield 31, 12, 10, 3, 0, 0, 1006),
  (12, .bipush 12, .iconst 12, 14, 0, 2, 12, 0, 0),
  (14, .aload_n 0, .aload 0, 15, 0, 1, 0, 0, 0),
  (15, .getfield 237, .getfield 30, 18, 10, 3, 0, 0, 1005),
  (18, .imul, .imul, 19, 0, 1, 0, 0, 0),
  (19, .iload_n 2, .iload 2, 20, 0, 1, 0, 0, 0),
  (20, .iadd, .iadd, 21, 0, 1, 0, 0, 0),
  (21, .iconst 0, .iconst 0, 22, 0, 1, 0, 0, 0),
  (22, .iastore, .iastore, 23, 0, 1, 0, 0, 0),
  (23, .iinc 2 1, .iinc 2 1, 26, 0, 3, 1, 0, 0),
  (26, .goto (-24), .goto (-24), 2, 0, 3, 0, 0, 0),
  (29, .aload_n 0, .aload 0, 30, 0, 1, 0, 0, 0),
  (30, .getfield 102, .getfield 32, 33, 10, 3, 0, 0, 1007),
  (33, .aload_n 0, .aload 0, 34, 0, 1, 0, 0, 0),
  (34, .getfield 237, .getfield 30, 37, 10, 3, 0, 0, 1005),
  (37, .iload_n 1, .iload 1, 38, 0, 1, 0, 0, 0),
  (38, .iastore, .iastore, 39, 0, 1, 0, 0, 0),
  (39, .aload_n 0, .aload 0, 40, 0, 1, 0, 0, 0),
  (40, .getfield 105, .getfield 33, 43, 10, 3, 0, 0, 1008),
  (43, .aload_n 0, .aload 0, 44, 0, 1, 0, 0, 0),
  (44, .getfield 237, .getfield 30, 47, 10, 3, 0, 0, 1005),
  (47, .iconst (-1), .iconst (-1), 48, 0, 1, (-1), 0, 0),
  (48, .iastore, .iastore, 49, 0, 1, 0, 0, 0),
  (49, .aload_n 0, .aload 0, 50, 0, 1, 0, 0, 0),
  (50, .dup, .dup, 51, 0, 1, 0, 0, 0),
  (51, .getfield 237, .getfield 30, 54, 10, 3, 0, 0, 1005),
  (54, .iconst 1, .iconst 1, 55, 0, 1, 1, 0, 0),
  (55, .iadd, .iadd, 56, 0, 1, 0, 0, 0),
  (56, .putfield 237, .putfield 30, 59, 10, 3, 0, 0, 1005),
  (59, .aload_n 0, .aload 0, 60, 0, 1, 0, 0, 0),
  (60, .getfield 237, .getfield 30, 63, 10, 3, 0, 0, 1005),
  (63, .iconst 1, .iconst 1, 64, 0, 1, 1, 0, 0),
  (64, .isub, .isub, 65, 0, 1, 0, 0, 0),
  (65, .ireturn, .ireturn, 66, 0, 1, 0, 0, 0)])
set_option maxRecDepth 100000 in
theorem okX10_newBag : okm mX10_newBag = true := by decide +kernel
def mX10_roasted : mt_T := (yX10_roasted, cX10_roasted, 2, (some .int), [
  (0, .aload_n 0, .aload 0, 1, 0, 1, 0, 0, 0),
  (1, .iconst 0, .iconst 0, 2, 0, 1, 0, 0, 0),
  (2, .putfield 1, .putfield 0, 5, 10, 3, 0, 0, 975),
  (5, .aload_n 0, .aload 0, 6, 0, 1, 0, 0, 0),
  (6, .getfield 277, .getfield 35, 9, 10, 3, 0, 0, 1010),
  (9, .ifCond .ne 5, .ifCond .ne 5, 12, 14, 3, 0, 0, 0),
  (12, .iconst (-1), .iconst (-1), 13, 0, 1, (-1), 0, 0),
  (13, .ireturn, .ireturn, 14, 0, 1, 0, 0, 0),
  (14, .iload_n 1, .iload 1, 15, 0, 1, 0, 0, 0),
  (15, .ifCond .ne 10, .ifCond .ne 10, 18, 25, 3, 0, 0, 0),
  (18, .aload_n 0, .aload 0, 19, 0, 1, 0, 0, 0),
  (19, .getfield 247, .getfield 36, 22, 10, 3, 0, 0, 1011),
  (22, .goto 60, .goto 60, 82, 0, 3, 0, 0, 0),
  (25, .iload_n 1, .iload 1, 26, 0, 1, 0, 0, 0),
  (26, .iconst 1, .iconst 1, 27, 0, 1, 1, 0, 0),
  (27, .if_icmp .ne 10, .if_icmp .ne 10, 30, 37, 3, 0, 0, 0),
  (30, .aload_n 0, .aload 0, 31, 0, 1, 0, 0, 0),
  (31, .getfield 250, .getfield 37, 34, 10, 3, 0, 0, 1012),
  (34, .goto 48, .goto 48, 82, 0, 3, 0, 0, 0),
  (37, .iload_n 1, .iload 1, 38, 0, 1, 0, 0, 0),
  (38, .iconst 2, .iconst 2, 39, 0, 1, 2, 0, 0),
  (39, .if_icmp .ne 10, .if_icmp .ne 10, 42, 49, 3, 0, 0, 0),
  (42, .aload_n 0, .aload 0, 43, 0, 1, 0, 0, 0),
  (43, .getfield 271, .getfield 41, 46, 10, 3, 0, 0, 1016),
  (46, .goto 36, .goto 36, 82, 0, 3, 0, 0, 0),
  (49, .iload_n 1, .iload 1, 50, 0, 1, 0, 0, 0),
  (50, .iconst 3, .iconst 3, 51, 0, 1, 3, 0, 0),
  (51, .if_icmp .ne 18, .if_icmp .ne 18, 54, 69, 3, 0, 0, 0),
  (54, .aload_n 0, .aload 0, 55, 0, 1, 0, 0, 0),
  (55, .getfield 243, .getfield 42, 58, 10, 3, 0, 0, 1017),
  (58, .ifCond .eq 7, .ifCond .eq 7, 61, 65, 3, 0, 0, 0),
  (61, .iconst 1, .iconst 1, 62, 0, 1, 1, 0, 0),
  (62, .goto 20, .goto 20, 82, 0, 3, 0, 0, 0),
  (65, .iconst 0, .iconst 0, 66, 0, 1, 0, 0, 0),
  (66, .goto 16, .goto 16, 82, 0, 3, 0, 0, 0),
  (69, .iload_n 1, .iload 1, 70, 0, 1, 0, 0, 0),
  (70, .iconst 4, .iconst 4, 71, 0, 1, 4, 0, 0),
  (71, .if_icmp .ne 10, .if_icmp .ne 10, 74, 81, 3, 0, 0, 0),
  (74, .aload_n 0, .aload 0, 75, 0, 1, 0, 0, 0),
  (75, .getfield 265, .getfield 43, 78, 10, 3, 0, 0, 1018),
  (78, .goto 4, .goto 4, 82, 0, 3, 0, 0, 0),
  (81, .iconst (-1), .iconst (-1), 82, 0, 1, (-1), 0, 0),
  (82, .ireturn, .ireturn, 83, 0, 1, 0, 0, 0)])
set_option maxRecDepth 100000 in
theorem okX10_roasted : okm mX10_roasted = true := by decide +kernel
def mX10_gramsIn : mt_T := (yX10_gramsIn, cX10_gramsIn, 4, (some .int), [
  (0, .iconst 0, .iconst 0, 1, 0, 1, 0, 0, 0),
  (1, .istore_n 2, .istore 2, 2, 0, 1, 0, 0, 0),
  (2, .iconst 0, .iconst 0, 3, 0, 1, 0, 0, 0),
  (3, .istore_n 3, .istore 3, 4, 0, 1, 0, 0, 0),
  (4, .iload_n 3, .iload 3, 5, 0, 1, 0, 0, 0),
  (5, .bipush 12, .iconst 12, 7, 0, 2, 12, 0, 0),
  (7, .if_icmp .ge 23, .if_icmp .ge 23, 10, 30, 3, 0, 0, 0),
  (10, .iload_n 2, .iload 2, 11, 0, 1, 0, 0, 0),
  (11, .aload_n 0, .aload 0, 12, 0, 1, 0, 0, 0),
  (12, .getfield 99, .getfield 31, 15, 10, 3, 0, 0, 1006),
  (15, .bipush 12, .iconst 12, 17, 0, 2, 12, 0, 0),
  (17, .iload_n 1, .iload 1, 18, 0, 1, 0, 0, 0),
  (18, .imul, .imul, 19, 0, 1, 0, 0, 0),
  (19, .iload_n 3, .iload 3, 20, 0, 1, 0, 0, 0),
  (20, .iadd, .iadd, 21, 0, 1, 0, 0, 0),
  (21, .iaload, .iaload, 22, 0, 1, 0, 0, 0),
  (22, .iadd, .iadd, 23, 0, 1, 0, 0, 0),
  (23, .istore_n 2, .istore 2, 24, 0, 1, 0, 0, 0),
  (24, .iinc 3 1, .iinc 3 1, 27, 0, 3, 1, 0, 0),
  (27, .goto (-23), .goto (-23), 4, 0, 3, 0, 0, 0),
  (30, .iload_n 2, .iload 2, 31, 0, 1, 0, 0, 0),
  (31, .ireturn, .ireturn, 32, 0, 1, 0, 0, 0)])
set_option maxRecDepth 100000 in
theorem okX10_gramsIn : okm mX10_gramsIn = true := by decide +kernel
def mX10_take : mt_T := (yX10_take, cX10_take, 3, (some .int), [
  (0, .aload_n 0, .aload 0, 1, 0, 1, 0, 0, 0),
  (1, .iconst 0, .iconst 0, 2, 0, 1, 0, 0, 0),
  (2, .putfield 1, .putfield 0, 5, 10, 3, 0, 0, 975),
  (5, .aload_n 0, .aload 0, 6, 0, 1, 0, 0, 0),
  (6, .iload_n 1, .iload 1, 7, 0, 1, 0, 0, 0),
  (7, .invokevirtual 286, .invokevirtual 286, 10, 0, 3, 0, 0, 0),
  (10, .ifCond .eq 35, .ifCond .eq 35, 13, 45, 3, 0, 0, 0),
  (13, .iload_n 2, .iload 2, 14, 0, 1, 0, 0, 0),
  (14, .iconst 1, .iconst 1, 15, 0, 1, 1, 0, 0),
  (15, .if_icmp .lt 30, .if_icmp .lt 30, 18, 45, 3, 0, 0, 0),
  (18, .iload_n 2, .iload 2, 19, 0, 1, 0, 0, 0),
  (19, .aload_n 0, .aload 0, 20, 0, 1, 0, 0, 0),
  (20, .iload_n 1, .iload 1, 21, 0, 1, 0, 0, 0),
  (21, .invokevirtual 289, .invokevirtual 289, 24, 0, 3, 0, 0, 0),
  (24, .if_icmp .gt 21, .if_icmp .gt 21, 27, 45, 3, 0, 0, 0),
  (27, .aload_n 0, .aload 0, 28, 0, 1, 0, 0, 0),
  (28, .getfield 111, .getfield 45, 31, 10, 3, 0, 0, 1020),
  (31, .iload_n 1, .iload 1, 32, 0, 1, 0, 0, 0),
  (32, .iaload, .iaload, 33, 0, 1, 0, 0, 0),
  (33, .ifCond .gt 12, .ifCond .gt 12, 36, 45, 3, 0, 0, 0),
  (36, .aload_n 0, .aload 0, 37, 0, 1, 0, 0, 0),
  (37, .getfield 105, .getfield 33, 40, 10, 3, 0, 0, 1008),
  (40, .iload_n 1, .iload 1, 41, 0, 1, 0, 0, 0),
  (41, .iaload, .iaload, 42, 0, 1, 0, 0, 0),
  (42, .ifCond .lt 5, .ifCond .lt 5, 45, 47, 3, 0, 0, 0),
  (45, .iconst (-1), .iconst (-1), 46, 0, 1, (-1), 0, 0),
  (46, .ireturn, .ireturn, 47, 0, 1, 0, 0, 0),
  (47, .aload_n 0, .aload 0, 48, 0, 1, 0, 0, 0),
  (48, .getfield 111, .getfield 45, 51, 10, 3, 0, 0, 1020),
  (51, .iload_n 1, .iload 1, 52, 0, 1, 0, 0, 0),
  (52, .iload_n 2, .iload 2, 53, 0, 1, 0, 0, 0),
  (53, .iastore, .iastore, 54, 0, 1, 0, 0, 0),
  (54, .aload_n 0, .aload 0, 55, 0, 1, 0, 0, 0),
  (55, .dup, .dup, 56, 0, 1, 0, 0, 0),
  (56, .getfield 292, .getfield 44, 59, 10, 3, 0, 0, 1019),
  (59, .iconst 1, .iconst 1, 60, 0, 1, 1, 0, 0),
  (60, .iadd, .iadd, 61, 0, 1, 0, 0, 0),
  (61, .putfield 292, .putfield 44, 64, 10, 3, 0, 0, 1019),
  (64, .aload_n 0, .aload 0, 65, 0, 1, 0, 0, 0),
  (65, .getfield 292, .getfield 44, 68, 10, 3, 0, 0, 1019),
  (68, .ireturn, .ireturn, 69, 0, 1, 0, 0, 0)])
set_option maxRecDepth 100000 in
theorem okX10_take : okm mX10_take = true := by decide +kernel
def mX10_moves : mt_T := (yX10_moves, cX10_moves, 9, none, [
  (0, .aload_n 0, .aload 0, 1, 0, 1, 0, 0, 0),
  (1, .iload_n 1, .iload 1, 2, 0, 1, 0, 0, 0),
  (2, .invokevirtual 289, .invokevirtual 289, 5, 0, 3, 0, 0, 0),
  (5, .istore 4, .istore 4, 7, 0, 2, 0, 0, 0),
  (7, .iload_n 2, .iload 2, 8, 0, 1, 0, 0, 0),
  (8, .istore 5, .istore 5, 10, 0, 2, 0, 0, 0),
  (10, .iconst 0, .iconst 0, 11, 0, 1, 0, 0, 0),
  (11, .istore 6, .istore 6, 13, 0, 2, 0, 0, 0),
  (13, .iload 6, .iload 6, 15, 0, 2, 0, 0, 0),
  (15, .bipush 12, .iconst 12, 17, 0, 2, 12, 0, 0),
  (17, .if_icmp .ge 68, .if_icmp .ge 68, 20, 85, 3, 0, 0, 0),
  (20, .iload_n 2, .iload 2, 21, 0, 1, 0, 0, 0),
  (21, .i2l, .i2l, 22, 0, 1, 0, 0, 0),
  (22, .aload_n 0, .aload 0, 23, 0, 1, 0, 0, 0),
  (23, .getfield 99, .getfield 31, 26, 10, 3, 0, 0, 1006),
  (26, .bipush 12, .iconst 12, 28, 0, 2, 12, 0, 0),
  (28, .iload_n 1, .iload 1, 29, 0, 1, 0, 0, 0),
  (29, .imul, .imul, 30, 0, 1, 0, 0, 0),
  (30, .iload 6, .iload 6, 32, 0, 2, 0, 0, 0),
  (32, .iadd, .iadd, 33, 0, 1, 0, 0, 0),
  (33, .iaload, .iaload, 34, 0, 1, 0, 0, 0),
  (34, .i2l, .i2l, 35, 0, 1, 0, 0, 0),
  (35, .lmul, .lmul, 36, 0, 1, 0, 0, 0),
  (36, .lstore 7, .lstore 7, 38, 0, 2, 0, 0, 0),
  (38, .aload_n 0, .aload 0, 39, 0, 1, 0, 0, 0),
  (39, .getfield 114, .getfield 46, 42, 10, 3, 0, 0, 1021),
  (42, .iload 6, .iload 6, 44, 0, 2, 0, 0, 0),
  (44, .lload 7, .lload 7, 46, 0, 2, 0, 0, 0),
  (46, .iload 4, .iload 4, 48, 0, 2, 0, 0, 0),
  (48, .i2l, .i2l, 49, 0, 1, 0, 0, 0),
  (49, .lrem, .lrem, 50, 0, 1, 0, 0, 0),
  (50, .l2i, .l2i, 51, 0, 1, 0, 0, 0),
  (51, .iastore, .iastore, 52, 0, 1, 0, 0, 0),
  (52, .aload_n 0, .aload 0, 53, 0, 1, 0, 0, 0),
  (53, .iload_n 1, .iload 1, 54, 0, 1, 0, 0, 0),
  (54, .iload_n 3, .iload 3, 55, 0, 1, 0, 0, 0),
  (55, .iload 6, .iload 6, 57, 0, 2, 0, 0, 0),
  (57, .lload 7, .lload 7, 59, 0, 2, 0, 0, 0),
  (59, .iload 4, .iload 4, 61, 0, 2, 0, 0, 0),
  (61, .i2l, .i2l, 62, 0, 1, 0, 0, 0),
  (62, .ldiv, .ldiv, 63, 0, 1, 0, 0, 0),
  (63, .l2i, .l2i, 64, 0, 1, 0, 0, 0),
  (64, .invokevirtual 295, .invokevirtual 295, 67, 0, 3, 0, 0, 0),
  (67, .iload 5, .iload 5, 69, 0, 2, 0, 0, 0),
  (69, .lload 7, .lload 7, 71, 0, 2, 0, 0, 0),
  (71, .iload 4, .iload 4, 73, 0, 2, 0, 0, 0),
  (73, .i2l, .i2l, 74, 0, 1, 0, 0, 0),
  (74, .ldiv, .ldiv, 75, 0, 1, 0, 0, 0),
  (75, .l2i, .l2i, 76, 0, 1, 0, 0, 0),
  (76, .isub, .isub, 77, 0, 1, 0, 0, 0),
  (77, .istore 5, .istore 5, 79, 0, 2, 0, 0, 0),
  (79, .iinc 6 1, .iinc 6 1, 82, 0, 3, 1, 0, 0),
  (82, .goto (-69), .goto (-69), 13, 0, 3, 0, 0, 0),
  (85, .iload 5, .iload 5, 87, 0, 2, 0, 0, 0),
  (87, .ifCond .le 71, .ifCond .le 71, 90, 158, 3, 0, 0, 0),
  (90, .iconst 0, .iconst 0, 91, 0, 1, 0, 0, 0),
  (91, .istore 6, .istore 6, 93, 0, 2, 0, 0, 0),
  (93, .iconst 1, .iconst 1, 94, 0, 1, 1, 0, 0),
  (94, .istore 7, .istore 7, 96, 0, 2, 0, 0, 0),
  (96, .iload 7, .iload 7, 98, 0, 2, 0, 0, 0),
  (98, .bipush 12, .iconst 12, 100, 0, 2, 12, 0, 0),
  (100, .if_icmp .ge 35, .if_icmp .ge 35, 103, 135, 3, 0, 0, 0),
  (103, .aload_n 0, .aload 0, 104, 0, 1, 0, 0, 0),
  (104, .getfield 114, .getfield 46, 107, 10, 3, 0, 0, 1021),
  (107, .iload 7, .iload 7, 109, 0, 2, 0, 0, 0),
  (109, .iaload, .iaload, 110, 0, 1, 0, 0, 0),
  (110, .aload_n 0, .aload 0, 111, 0, 1, 0, 0, 0),
  (111, .getfield 114, .getfield 46, 114, 10, 3, 0, 0, 1021),
  (114, .iload 6, .iload 6, 116, 0, 2, 0, 0, 0),
  (116, .iaload, .iaload, 117, 0, 1, 0, 0, 0),
  (117, .if_icmp .le 8, .if_icmp .le 8, 120, 125, 3, 0, 0, 0),
  (120, .iload 7, .iload 7, 122, 0, 2, 0, 0, 0),
  (122, .goto 5, .goto 5, 127, 0, 3, 0, 0, 0),
  (125, .iload 6, .iload 6, 127, 0, 2, 0, 0, 0),
  (127, .istore 6, .istore 6, 129, 0, 2, 0, 0, 0),
  (129, .iinc 7 1, .iinc 7 1, 132, 0, 3, 1, 0, 0),
  (132, .goto (-36), .goto (-36), 96, 0, 3, 0, 0, 0),
  (135, .aload_n 0, .aload 0, 136, 0, 1, 0, 0, 0),
  (136, .getfield 114, .getfield 46, 139, 10, 3, 0, 0, 1021),
  (139, .iload 6, .iload 6, 141, 0, 2, 0, 0, 0),
  (141, .iconst (-1), .iconst (-1), 142, 0, 1, (-1), 0, 0),
  (142, .iastore, .iastore, 143, 0, 1, 0, 0, 0),
  (143, .aload_n 0, .aload 0, 144, 0, 1, 0, 0, 0),
  (144, .iload_n 1, .iload 1, 145, 0, 1, 0, 0, 0),
  (145, .iload_n 3, .iload 3, 146, 0, 1, 0, 0, 0),
  (146, .iload 6, .iload 6, 148, 0, 2, 0, 0, 0),
  (148, .iconst 1, .iconst 1, 149, 0, 1, 1, 0, 0),
  (149, .invokevirtual 295, .invokevirtual 295, 152, 0, 3, 0, 0, 0),
  (152, .iinc 5 (-1), .iinc 5 (-1), 155, 0, 3, (-1), 0, 0),
  (155, .goto (-70), .goto (-70), 85, 0, 3, 0, 0, 0),
  (158, .return_, .return_, 159, 0, 1, 0, 0, 0)])
set_option maxRecDepth 100000 in
theorem okX10_moves : okm mX10_moves = true := by decide +kernel
def mX10_gives : mt_T := (yX10_gives, cX10_gives, 5, none, [
  (0, .aload_n 0, .aload 0, 1, 0, 1, 0, 0, 0),
  (1, .getfield 99, .getfield 31, 4, 10, 3, 0, 0, 1006),
  (4, .bipush 12, .iconst 12, 6, 0, 2, 12, 0, 0),
  (6, .iload_n 1, .iload 1, 7, 0, 1, 0, 0, 0),
  (7, .imul, .imul, 8, 0, 1, 0, 0, 0),
  (8, .iload_n 3, .iload 3, 9, 0, 1, 0, 0, 0),
  (9, .iadd, .iadd, 10, 0, 1, 0, 0, 0),
  (10, .dup2, .dup2, 11, 0, 1, 0, 0, 0),
  (11, .iaload, .iaload, 12, 0, 1, 0, 0, 0),
  (12, .iload 4, .iload 4, 14, 0, 2, 0, 0, 0),
  (14, .isub, .isub, 15, 0, 1, 0, 0, 0),
  (15, .iastore, .iastore, 16, 0, 1, 0, 0, 0),
  (16, .aload_n 0, .aload 0, 17, 0, 1, 0, 0, 0),
  (17, .getfield 99, .getfield 31, 20, 10, 3, 0, 0, 1006),
  (20, .bipush 12, .iconst 12, 22, 0, 2, 12, 0, 0),
  (22, .iload_n 2, .iload 2, 23, 0, 1, 0, 0, 0),
  (23, .imul, .imul, 24, 0, 1, 0, 0, 0),
  (24, .iload_n 3, .iload 3, 25, 0, 1, 0, 0, 0),
  (25, .iadd, .iadd, 26, 0, 1, 0, 0, 0),
  (26, .dup2, .dup2, 27, 0, 1, 0, 0, 0),
  (27, .iaload, .iaload, 28, 0, 1, 0, 0, 0),
  (28, .iload 4, .iload 4, 30, 0, 2, 0, 0, 0),
  (30, .iadd, .iadd, 31, 0, 1, 0, 0, 0),
  (31, .iastore, .iastore, 32, 0, 1, 0, 0, 0),
  (32, .return_, .return_, 33, 0, 1, 0, 0, 0)])
set_option maxRecDepth 100000 in
theorem okX10_gives : okm mX10_gives = true := by decide +kernel
def mX10_blend : mt_T := (yX10_blend, cX10_blend, 4, (some .int), [
  (0, .aload_n 0, .aload 0, 1, 0, 1, 0, 0, 0),
  (1, .iconst 0, .iconst 0, 2, 0, 1, 0, 0, 0),
  (2, .putfield 1, .putfield 0, 5, 10, 3, 0, 0, 975),
  (5, .aload_n 0, .aload 0, 6, 0, 1, 0, 0, 0),
  (6, .getfield 292, .getfield 44, 9, 10, 3, 0, 0, 1019),
  (9, .ifCond .eq 12, .ifCond .eq 12, 12, 21, 3, 0, 0, 0),
  (12, .aload_n 0, .aload 0, 13, 0, 1, 0, 0, 0),
  (13, .getfield 237, .getfield 30, 16, 10, 3, 0, 0, 1005),
  (16, .bipush 60, .iconst 60, 18, 0, 2, 60, 0, 0),
  (18, .if_icmp .ne 5, .if_icmp .ne 5, 21, 23, 3, 0, 0, 0),
  (21, .iconst (-1), .iconst (-1), 22, 0, 1, (-1), 0, 0),
  (22, .ireturn, .ireturn, 23, 0, 1, 0, 0, 0),
  (23, .sipush 1000, .iconst 1000, 26, 0, 3, 1000, 0, 0),
  (26, .istore_n 1, .istore 1, 27, 0, 1, 0, 0, 0),
  (27, .iconst 0, .iconst 0, 28, 0, 1, 0, 0, 0),
  (28, .istore_n 2, .istore 2, 29, 0, 1, 0, 0, 0),
  (29, .iload_n 2, .iload 2, 30, 0, 1, 0, 0, 0),
  (30, .aload_n 0, .aload 0, 31, 0, 1, 0, 0, 0),
  (31, .getfield 237, .getfield 30, 34, 10, 3, 0, 0, 1005),
  (34, .if_icmp .ge 39, .if_icmp .ge 39, 37, 73, 3, 0, 0, 0),
  (37, .aload_n 0, .aload 0, 38, 0, 1, 0, 0, 0),
  (38, .getfield 111, .getfield 45, 41, 10, 3, 0, 0, 1020),
  (41, .iload_n 2, .iload 2, 42, 0, 1, 0, 0, 0),
  (42, .iaload, .iaload, 43, 0, 1, 0, 0, 0),
  (43, .ifCond .le 22, .ifCond .le 22, 46, 65, 3, 0, 0, 0),
  (46, .aload_n 0, .aload 0, 47, 0, 1, 0, 0, 0),
  (47, .getfield 102, .getfield 32, 50, 10, 3, 0, 0, 1007),
  (50, .iload_n 2, .iload 2, 51, 0, 1, 0, 0, 0),
  (51, .iaload, .iaload, 52, 0, 1, 0, 0, 0),
  (52, .iload_n 1, .iload 1, 53, 0, 1, 0, 0, 0),
  (53, .if_icmp .ge 12, .if_icmp .ge 12, 56, 65, 3, 0, 0, 0),
  (56, .aload_n 0, .aload 0, 57, 0, 1, 0, 0, 0),
  (57, .getfield 102, .getfield 32, 60, 10, 3, 0, 0, 1007),
  (60, .iload_n 2, .iload 2, 61, 0, 1, 0, 0, 0),
  (61, .iaload, .iaload, 62, 0, 1, 0, 0, 0),
  (62, .goto 4, .goto 4, 66, 0, 3, 0, 0, 0),
  (65, .iload_n 1, .iload 1, 66, 0, 1, 0, 0, 0),
  (66, .istore_n 1, .istore 1, 67, 0, 1, 0, 0, 0),
  (67, .iinc 2 1, .iinc 2 1, 70, 0, 3, 1, 0, 0),
  (70, .goto (-41), .goto (-41), 29, 0, 3, 0, 0, 0),
  (73, .aload_n 0, .aload 0, 74, 0, 1, 0, 0, 0),
  (74, .iload_n 1, .iload 1, 75, 0, 1, 0, 0, 0),
  (75, .invokevirtual 283, .invokevirtual 283, 78, 0, 3, 0, 0, 0),
  (78, .istore_n 2, .istore 2, 79, 0, 1, 0, 0, 0),
  (79, .iconst 0, .iconst 0, 80, 0, 1, 0, 0, 0),
  (80, .istore_n 3, .istore 3, 81, 0, 1, 0, 0, 0),
  (81, .iload_n 3, .iload 3, 82, 0, 1, 0, 0, 0),
  (82, .iload_n 2, .iload 2, 83, 0, 1, 0, 0, 0),
  (83, .if_icmp .ge 37, .if_icmp .ge 37, 86, 120, 3, 0, 0, 0),
  (86, .aload_n 0, .aload 0, 87, 0, 1, 0, 0, 0),
  (87, .getfield 111, .getfield 45, 90, 10, 3, 0, 0, 1020),
  (90, .iload_n 3, .iload 3, 91, 0, 1, 0, 0, 0),
  (91, .iaload, .iaload, 92, 0, 1, 0, 0, 0),
  (92, .ifCond .le 22, .ifCond .le 22, 95, 114, 3, 0, 0, 0),
  (95, .aload_n 0, .aload 0, 96, 0, 1, 0, 0, 0),
  (96, .iload_n 3, .iload 3, 97, 0, 1, 0, 0, 0),
  (97, .aload_n 0, .aload 0, 98, 0, 1, 0, 0, 0),
  (98, .getfield 111, .getfield 45, 101, 10, 3, 0, 0, 1020),
  (101, .iload_n 3, .iload 3, 102, 0, 1, 0, 0, 0),
  (102, .iaload, .iaload, 103, 0, 1, 0, 0, 0),
  (103, .iload_n 2, .iload 2, 104, 0, 1, 0, 0, 0),
  (104, .invokevirtual 299, .invokevirtual 299, 107, 0, 3, 0, 0, 0),
  (107, .aload_n 0, .aload 0, 108, 0, 1, 0, 0, 0),
  (108, .getfield 111, .getfield 45, 111, 10, 3, 0, 0, 1020),
  (111, .iload_n 3, .iload 3, 112, 0, 1, 0, 0, 0),
  (112, .iconst 0, .iconst 0, 113, 0, 1, 0, 0, 0),
  (113, .iastore, .iastore, 114, 0, 1, 0, 0, 0),
  (114, .iinc 3 1, .iinc 3 1, 117, 0, 3, 1, 0, 0),
  (117, .goto (-36), .goto (-36), 81, 0, 3, 0, 0, 0),
  (120, .aload_n 0, .aload 0, 121, 0, 1, 0, 0, 0),
  (121, .iconst 0, .iconst 0, 122, 0, 1, 0, 0, 0),
  (122, .putfield 292, .putfield 44, 125, 10, 3, 0, 0, 1019),
  (125, .iload_n 2, .iload 2, 126, 0, 1, 0, 0, 0),
  (126, .ireturn, .ireturn, 127, 0, 1, 0, 0, 0)])
set_option maxRecDepth 100000 in
theorem okX10_blend : okm mX10_blend = true := by decide +kernel
def mX10_bag : mt_T := (yX10_bag, cX10_bag, 5, (some .int), [
  (0, .aload_n 0, .aload 0, 1, 0, 1, 0, 0, 0),
  (1, .aload_n 0, .aload 0, 2, 0, 1, 0, 0, 0),
  (2, .iload_n 1, .iload 1, 3, 0, 1, 0, 0, 0),
  (3, .invokevirtual 286, .invokevirtual 286, 6, 0, 3, 0, 0, 0),
  (6, .ifCond .eq 16, .ifCond .eq 16, 9, 22, 3, 0, 0, 0),
  (9, .iload_n 2, .iload 2, 10, 0, 1, 0, 0, 0),
  (10, .ifCond .lt 12, .ifCond .lt 12, 13, 22, 3, 0, 0, 0),
  (13, .iload_n 2, .iload 2, 14, 0, 1, 0, 0, 0),
  (14, .iconst 3, .iconst 3, 15, 0, 1, 3, 0, 0),
  (15, .if_icmp .gt 7, .if_icmp .gt 7, 18, 22, 3, 0, 0, 0),
  (18, .iconst 0, .iconst 0, 19, 0, 1, 0, 0, 0),
  (19, .goto 4, .goto 4, 23, 0, 3, 0, 0, 0),
  (22, .iconst 1, .iconst 1, 23, 0, 1, 1, 0, 0),
  (23, .putfield 1, .putfield 0, 26, 10, 3, 0, 0, 975),
  (26, .aload_n 0, .aload 0, 27, 0, 1, 0, 0, 0),
  (27, .getfield 1, .getfield 0, 30, 10, 3, 0, 0, 975),
  (30, .ifCond .le 5, .ifCond .le 5, 33, 35, 3, 0, 0, 0),
  (33, .iconst 0, .iconst 0, 34, 0, 1, 0, 0, 0),
  (34, .ireturn, .ireturn, 35, 0, 1, 0, 0, 0),
  (35, .iconst 0, .iconst 0, 36, 0, 1, 0, 0, 0),
  (36, .istore_n 3, .istore 3, 37, 0, 1, 0, 0, 0),
  (37, .iconst 0, .iconst 0, 38, 0, 1, 0, 0, 0),
  (38, .istore 4, .istore 4, 40, 0, 2, 0, 0, 0),
  (40, .iload 4, .iload 4, 42, 0, 2, 0, 0, 0),
  (42, .bipush 12, .iconst 12, 44, 0, 2, 12, 0, 0),
  (44, .if_icmp .ge 32, .if_icmp .ge 32, 47, 76, 3, 0, 0, 0),
  (47, .iload_n 3, .iload 3, 48, 0, 1, 0, 0, 0),
  (48, .aload_n 0, .aload 0, 49, 0, 1, 0, 0, 0),
  (49, .getfield 99, .getfield 31, 52, 10, 3, 0, 0, 1006),
  (52, .bipush 12, .iconst 12, 54, 0, 2, 12, 0, 0),
  (54, .iload_n 1, .iload 1, 55, 0, 1, 0, 0, 0),
  (55, .imul, .imul, 56, 0, 1, 0, 0, 0),
  (56, .iload 4, .iload 4, 58, 0, 2, 0, 0, 0),
  (58, .iadd, .iadd, 59, 0, 1, 0, 0, 0),
  (59, .iaload, .iaload, 60, 0, 1, 0, 0, 0),
  (60, .ifCond .le 7, .ifCond .le 7, 63, 67, 3, 0, 0, 0),
  (63, .iconst 1, .iconst 1, 64, 0, 1, 1, 0, 0),
  (64, .goto 4, .goto 4, 68, 0, 3, 0, 0, 0),
  (67, .iconst 0, .iconst 0, 68, 0, 1, 0, 0, 0),
  (68, .iadd, .iadd, 69, 0, 1, 0, 0, 0),
  (69, .istore_n 3, .istore 3, 70, 0, 1, 0, 0, 0),
  (70, .iinc 4 1, .iinc 4 1, 73, 0, 3, 1, 0, 0),
  (73, .goto (-33), .goto (-33), 40, 0, 3, 0, 0, 0),
  (76, .iload_n 2, .iload 2, 77, 0, 1, 0, 0, 0),
  (77, .ifCond .ne 11, .ifCond .ne 11, 80, 88, 3, 0, 0, 0),
  (80, .aload_n 0, .aload 0, 81, 0, 1, 0, 0, 0),
  (81, .iload_n 1, .iload 1, 82, 0, 1, 0, 0, 0),
  (82, .invokevirtual 289, .invokevirtual 289, 85, 0, 3, 0, 0, 0),
  (85, .goto 32, .goto 32, 117, 0, 3, 0, 0, 0),
  (88, .iload_n 2, .iload 2, 89, 0, 1, 0, 0, 0),
  (89, .iconst 1, .iconst 1, 90, 0, 1, 1, 0, 0),
  (90, .if_icmp .ne 12, .if_icmp .ne 12, 93, 102, 3, 0, 0, 0),
  (93, .aload_n 0, .aload 0, 94, 0, 1, 0, 0, 0),
  (94, .getfield 102, .getfield 32, 97, 10, 3, 0, 0, 1007),
  (97, .iload_n 1, .iload 1, 98, 0, 1, 0, 0, 0),
  (98, .iaload, .iaload, 99, 0, 1, 0, 0, 0),
  (99, .goto 18, .goto 18, 117, 0, 3, 0, 0, 0),
  (102, .iload_n 2, .iload 2, 103, 0, 1, 0, 0, 0),
  (103, .iconst 2, .iconst 2, 104, 0, 1, 2, 0, 0),
  (104, .if_icmp .ne 12, .if_icmp .ne 12, 107, 116, 3, 0, 0, 0),
  (107, .aload_n 0, .aload 0, 108, 0, 1, 0, 0, 0),
  (108, .getfield 105, .getfield 33, 111, 10, 3, 0, 0, 1008),
  (111, .iload_n 1, .iload 1, 112, 0, 1, 0, 0, 0),
  (112, .iaload, .iaload, 113, 0, 1, 0, 0, 0),
  (113, .goto 4, .goto 4, 117, 0, 3, 0, 0, 0),
  (116, .iload_n 3, .iload 3, 117, 0, 1, 0, 0, 0),
  (117, .ireturn, .ireturn, 118, 0, 1, 0, 0, 0)])
set_option maxRecDepth 100000 in
theorem okX10_bag : okm mX10_bag = true := by decide +kernel
def mX10_part_ : mt_T := (yX10_part_, cX10_part_, 3, (some .int), [
  (0, .aload_n 0, .aload 0, 1, 0, 1, 0, 0, 0),
  (1, .iconst 0, .iconst 0, 2, 0, 1, 0, 0, 0),
  (2, .putfield 1, .putfield 0, 5, 10, 3, 0, 0, 975),
  (5, .aload_n 0, .aload 0, 6, 0, 1, 0, 0, 0),
  (6, .iload_n 2, .iload 2, 7, 0, 1, 0, 0, 0),
  (7, .invokevirtual 274, .invokevirtual 274, 10, 0, 3, 0, 0, 0),
  (10, .ifCond .eq 16, .ifCond .eq 16, 13, 26, 3, 0, 0, 0),
  (13, .iload_n 1, .iload 1, 14, 0, 1, 0, 0, 0),
  (14, .iconst (-1), .iconst (-1), 15, 0, 1, (-1), 0, 0),
  (15, .if_icmp .eq 15, .if_icmp .eq 15, 18, 30, 3, 0, 0, 0),
  (18, .aload_n 0, .aload 0, 19, 0, 1, 0, 0, 0),
  (19, .iload_n 1, .iload 1, 20, 0, 1, 0, 0, 0),
  (20, .invokevirtual 286, .invokevirtual 286, 23, 0, 3, 0, 0, 0),
  (23, .ifCond .ne 7, .ifCond .ne 7, 26, 30, 3, 0, 0, 0),
  (26, .iconst (-1), .iconst (-1), 27, 0, 1, (-1), 0, 0),
  (27, .goto 28, .goto 28, 55, 0, 3, 0, 0, 0),
  (30, .iload_n 1, .iload 1, 31, 0, 1, 0, 0, 0),
  (31, .iconst (-1), .iconst (-1), 32, 0, 1, (-1), 0, 0),
  (32, .if_icmp .ne 12, .if_icmp .ne 12, 35, 44, 3, 0, 0, 0),
  (35, .aload_n 0, .aload 0, 36, 0, 1, 0, 0, 0),
  (36, .getfield 90, .getfield 27, 39, 10, 3, 0, 0, 1002),
  (39, .iload_n 2, .iload 2, 40, 0, 1, 0, 0, 0),
  (40, .iaload, .iaload, 41, 0, 1, 0, 0, 0),
  (41, .goto 14, .goto 14, 55, 0, 3, 0, 0, 0),
  (44, .aload_n 0, .aload 0, 45, 0, 1, 0, 0, 0),
  (45, .getfield 99, .getfield 31, 48, 10, 3, 0, 0, 1006),
  (48, .bipush 12, .iconst 12, 50, 0, 2, 12, 0, 0),
  (50, .iload_n 1, .iload 1, 51, 0, 1, 0, 0, 0),
  (51, .imul, .imul, 52, 0, 1, 0, 0, 0),
  (52, .iload_n 2, .iload 2, 53, 0, 1, 0, 0, 0),
  (53, .iadd, .iadd, 54, 0, 1, 0, 0, 0),
  (54, .iaload, .iaload, 55, 0, 1, 0, 0, 0),
  (55, .ireturn, .ireturn, 56, 0, 1, 0, 0, 0)])
set_option maxRecDepth 100000 in
theorem okX10_part_ : okm mX10_part_ = true := by decide +kernel
def mX10_isSample : mt_T := (yX10_isSample, cX10_isSample, 1, (some .boolean), [
  (0, .iload_n 0, .iload 0, 1, 0, 1, 0, 0, 0),
  (1, .ifCond .lt 13, .ifCond .lt 13, 4, 14, 3, 0, 0, 0),
  (4, .iload_n 0, .iload 0, 5, 0, 1, 0, 0, 0),
  (5, .bipush 20, .iconst 20, 7, 0, 2, 20, 0, 0),
  (7, .if_icmp .ge 7, .if_icmp .ge 7, 10, 14, 3, 0, 0, 0),
  (10, .iconst 1, .iconst 1, 11, 0, 1, 1, 0, 0),
  (11, .goto 4, .goto 4, 15, 0, 3, 0, 0, 0),
  (14, .iconst 0, .iconst 0, 15, 0, 1, 0, 0, 0),
  (15, .ireturn, .ireturn, 16, 0, 1, 0, 0, 0)])
set_option maxRecDepth 100000 in
theorem okX10_isSample : okm mX10_isSample = true := by decide +kernel
def mX10_mark : mt_T := (yX10_mark, cX10_mark, 4, (some .boolean), [
  (0, .aload_n 0, .aload 0, 1, 0, 1, 0, 0, 0),
  (1, .iconst 0, .iconst 0, 2, 0, 1, 0, 0, 0),
  (2, .putfield 1, .putfield 0, 5, 10, 3, 0, 0, 975),
  (5, .iload_n 1, .iload 1, 6, 0, 1, 0, 0, 0),
  (6, .ifCond .lt 22, .ifCond .lt 22, 9, 28, 3, 0, 0, 0),
  (9, .iload_n 1, .iload 1, 10, 0, 1, 0, 0, 0),
  (10, .iconst 4, .iconst 4, 11, 0, 1, 4, 0, 0),
  (11, .if_icmp .gt 17, .if_icmp .gt 17, 14, 28, 3, 0, 0, 0),
  (14, .iload_n 2, .iload 2, 15, 0, 1, 0, 0, 0),
  (15, .invokestatic 303, .invokestatic 303, 18, 0, 3, 0, 0, 0),
  (18, .ifCond .eq 10, .ifCond .eq 10, 21, 28, 3, 0, 0, 0),
  (21, .iload_n 3, .iload 3, 22, 0, 1, 0, 0, 0),
  (22, .invokestatic 231, .invokestatic 231, 25, 0, 3, 0, 0, 0),
  (25, .ifCond .ne 5, .ifCond .ne 5, 28, 30, 3, 0, 0, 0),
  (28, .iconst 0, .iconst 0, 29, 0, 1, 0, 0, 0),
  (29, .ireturn, .ireturn, 30, 0, 1, 0, 0, 0),
  (30, .aload_n 0, .aload 0, 31, 0, 1, 0, 0, 0),
  (31, .getfield 117, .getfield 47, 34, 10, 3, 0, 0, 1022),
  (34, .bipush 20, .iconst 20, 36, 0, 2, 20, 0, 0),
  (36, .iload_n 1, .iload 1, 37, 0, 1, 0, 0, 0),
  (37, .imul, .imul, 38, 0, 1, 0, 0, 0),
  (38, .iload_n 2, .iload 2, 39, 0, 1, 0, 0, 0),
  (39, .iadd, .iadd, 40, 0, 1, 0, 0, 0),
  (40, .iload_n 3, .iload 3, 41, 0, 1, 0, 0, 0),
  (41, .iastore, .iastore, 42, 0, 1, 0, 0, 0),
  (42, .iconst 1, .iconst 1, 43, 0, 1, 1, 0, 0),
  (43, .ireturn, .ireturn, 44, 0, 1, 0, 0, 0)])
set_option maxRecDepth 100000 in
theorem okX10_mark : okm mX10_mark = true := by decide +kernel
def mX10_told : mt_T := (yX10_told, cX10_told, 3, (some .boolean), [
  (0, .aload_n 0, .aload 0, 1, 0, 1, 0, 0, 0),
  (1, .iconst 0, .iconst 0, 2, 0, 1, 0, 0, 0),
  (2, .putfield 1, .putfield 0, 5, 10, 3, 0, 0, 975),
  (5, .iload_n 1, .iload 1, 6, 0, 1, 0, 0, 0),
  (6, .invokestatic 303, .invokestatic 303, 9, 0, 3, 0, 0, 0),
  (9, .ifCond .eq 15, .ifCond .eq 15, 12, 24, 3, 0, 0, 0),
  (12, .iload_n 2, .iload 2, 13, 0, 1, 0, 0, 0),
  (13, .iconst (-1), .iconst (-1), 14, 0, 1, (-1), 0, 0),
  (14, .if_icmp .eq 12, .if_icmp .eq 12, 17, 26, 3, 0, 0, 0),
  (17, .iload_n 2, .iload 2, 18, 0, 1, 0, 0, 0),
  (18, .invokestatic 231, .invokestatic 231, 21, 0, 3, 0, 0, 0),
  (21, .ifCond .ne 5, .ifCond .ne 5, 24, 26, 3, 0, 0, 0),
  (24, .iconst 0, .iconst 0, 25, 0, 1, 0, 0, 0),
  (25, .ireturn, .ireturn, 26, 0, 1, 0, 0, 0),
  (26, .aload_n 0, .aload 0, 27, 0, 1, 0, 0, 0),
  (27, .getfield 120, .getfield 48, 30, 10, 3, 0, 0, 1023),
  (30, .iload_n 1, .iload 1, 31, 0, 1, 0, 0, 0),
  (31, .iload_n 2, .iload 2, 32, 0, 1, 0, 0, 0),
  (32, .iastore, .iastore, 33, 0, 1, 0, 0, 0),
  (33, .iconst 1, .iconst 1, 34, 0, 1, 1, 0, 0),
  (34, .ireturn, .ireturn, 35, 0, 1, 0, 0, 0)])
set_option maxRecDepth 100000 in
theorem okX10_told : okm mX10_told = true := by decide +kernel
def mX10_weighs : mt_T := (yX10_weighs, cX10_weighs, 9, (some .boolean), [
  (0, .aload_n 0, .aload 0, 1, 0, 1, 0, 0, 0),
  (1, .lconst 0, .lconst 0, 2, 0, 1, 0, 0, 0),
  (2, .putfield 306, .putfield 49, 5, 10, 3, 0, 0, 1024),
  (5, .aload_n 0, .aload 0, 6, 0, 1, 0, 0, 0),
  (6, .lconst 1, .lconst 1, 7, 0, 1, 0, 1, 0),
  (7, .putfield 310, .putfield 50, 10, 10, 3, 0, 0, 1025),
  (10, .iconst 0, .iconst 0, 11, 0, 1, 0, 0, 0),
  (11, .istore_n 2, .istore 2, 12, 0, 1, 0, 0, 0),
  (12, .iconst 0, .iconst 0, 13, 0, 1, 0, 0, 0),
  (13, .istore_n 3, .istore 3, 14, 0, 1, 0, 0, 0),
  (14, .iload_n 3, .iload 3, 15, 0, 1, 0, 0, 0),
  (15, .iconst 5, .iconst 5, 16, 0, 1, 5, 0, 0),
  (16, .if_icmp .ge 158, .if_icmp .ge 158, 19, 174, 3, 0, 0, 0),
  (19, .lconst 0, .lconst 0, 20, 0, 1, 0, 0, 0),
  (20, .lstore 4, .lstore 4, 22, 0, 2, 0, 0, 0),
  (22, .lconst 0, .lconst 0, 23, 0, 1, 0, 0, 0),
  (23, .lstore 6, .lstore 6, 25, 0, 2, 0, 0, 0),
  (25, .iconst 0, .iconst 0, 26, 0, 1, 0, 0, 0),
  (26, .istore 8, .istore 8, 28, 0, 2, 0, 0, 0),
  (28, .iload 8, .iload 8, 30, 0, 2, 0, 0, 0),
  (30, .bipush 20, .iconst 20, 32, 0, 2, 20, 0, 0),
  (32, .if_icmp .ge 66, .if_icmp .ge 66, 35, 98, 3, 0, 0, 0),
  (35, .aload_n 0, .aload 0, 36, 0, 1, 0, 0, 0),
  (36, .getfield 120, .getfield 48, 39, 10, 3, 0, 0, 1023),
  (39, .iload 8, .iload 8, 41, 0, 2, 0, 0, 0),
  (41, .iaload, .iaload, 42, 0, 1, 0, 0, 0),
  (42, .ifCond .lt 50, .ifCond .lt 50, 45, 92, 3, 0, 0, 0),
  (45, .aload_n 0, .aload 0, 46, 0, 1, 0, 0, 0),
  (46, .getfield 117, .getfield 47, 49, 10, 3, 0, 0, 1022),
  (49, .bipush 20, .iconst 20, 51, 0, 2, 20, 0, 0),
  (51, .iload_n 3, .iload 3, 52, 0, 1, 0, 0, 0),
  (52, .imul, .imul, 53, 0, 1, 0, 0, 0),
  (53, .iload 8, .iload 8, 55, 0, 2, 0, 0, 0),
  (55, .iadd, .iadd, 56, 0, 1, 0, 0, 0),
  (56, .iaload, .iaload, 57, 0, 1, 0, 0, 0),
  (57, .ifCond .lt 35, .ifCond .lt 35, 60, 92, 3, 0, 0, 0),
  (60, .lload 4, .lload 4, 62, 0, 2, 0, 0, 0),
  (62, .lconst 1, .lconst 1, 63, 0, 1, 0, 1, 0),
  (63, .ladd, .ladd, 64, 0, 1, 0, 0, 0),
  (64, .lstore 4, .lstore 4, 66, 0, 2, 0, 0, 0),
  (66, .lload 6, .lload 6, 68, 0, 2, 0, 0, 0),
  (68, .aload_n 0, .aload 0, 69, 0, 1, 0, 0, 0),
  (69, .getfield 117, .getfield 47, 72, 10, 3, 0, 0, 1022),
  (72, .bipush 20, .iconst 20, 74, 0, 2, 20, 0, 0),
  (74, .iload_n 3, .iload 3, 75, 0, 1, 0, 0, 0),
  (75, .imul, .imul, 76, 0, 1, 0, 0, 0),
  (76, .iload 8, .iload 8, 78, 0, 2, 0, 0, 0),
  (78, .iadd, .iadd, 79, 0, 1, 0, 0, 0),
  (79, .iaload, .iaload, 80, 0, 1, 0, 0, 0),
  (80, .aload_n 0, .aload 0, 81, 0, 1, 0, 0, 0),
  (81, .getfield 120, .getfield 48, 84, 10, 3, 0, 0, 1023),
  (84, .iload 8, .iload 8, 86, 0, 2, 0, 0, 0),
  (86, .iaload, .iaload, 87, 0, 1, 0, 0, 0),
  (87, .isub, .isub, 88, 0, 1, 0, 0, 0),
  (88, .i2l, .i2l, 89, 0, 1, 0, 0, 0),
  (89, .ladd, .ladd, 90, 0, 1, 0, 0, 0),
  (90, .lstore 6, .lstore 6, 92, 0, 2, 0, 0, 0),
  (92, .iinc 8 1, .iinc 8 1, 95, 0, 3, 1, 0, 0),
  (95, .goto (-67), .goto (-67), 28, 0, 3, 0, 0, 0),
  (98, .aload_n 0, .aload 0, 99, 0, 1, 0, 0, 0),
  (99, .getfield 117, .getfield 47, 102, 10, 3, 0, 0, 1022),
  (102, .bipush 20, .iconst 20, 104, 0, 2, 20, 0, 0),
  (104, .iload_n 3, .iload 3, 105, 0, 1, 0, 0, 0),
  (105, .imul, .imul, 106, 0, 1, 0, 0, 0),
  (106, .iload_n 1, .iload 1, 107, 0, 1, 0, 0, 0),
  (107, .iadd, .iadd, 108, 0, 1, 0, 0, 0),
  (108, .iaload, .iaload, 109, 0, 1, 0, 0, 0),
  (109, .ifCond .lt 59, .ifCond .lt 59, 112, 168, 3, 0, 0, 0),
  (112, .lload 4, .lload 4, 114, 0, 2, 0, 0, 0),
  (114, .lconst 0, .lconst 0, 115, 0, 1, 0, 0, 0),
  (115, .lcmp, .lcmp, 116, 0, 1, 0, 0, 0),
  (116, .ifCond .le 52, .ifCond .le 52, 119, 168, 3, 0, 0, 0),
  (119, .aload_n 0, .aload 0, 120, 0, 1, 0, 0, 0),
  (120, .aload_n 0, .aload 0, 121, 0, 1, 0, 0, 0),
  (121, .getfield 306, .getfield 49, 124, 10, 3, 0, 0, 1024),
  (124, .lload 4, .lload 4, 126, 0, 2, 0, 0, 0),
  (126, .lmul, .lmul, 127, 0, 1, 0, 0, 0),
  (127, .aload_n 0, .aload 0, 128, 0, 1, 0, 0, 0),
  (128, .getfield 117, .getfield 47, 131, 10, 3, 0, 0, 1022),
  (131, .bipush 20, .iconst 20, 133, 0, 2, 20, 0, 0),
  (133, .iload_n 3, .iload 3, 134, 0, 1, 0, 0, 0),
  (134, .imul, .imul, 135, 0, 1, 0, 0, 0),
  (135, .iload_n 1, .iload 1, 136, 0, 1, 0, 0, 0),
  (136, .iadd, .iadd, 137, 0, 1, 0, 0, 0),
  (137, .iaload, .iaload, 138, 0, 1, 0, 0, 0),
  (138, .i2l, .i2l, 139, 0, 1, 0, 0, 0),
  (139, .lload 4, .lload 4, 141, 0, 2, 0, 0, 0),
  (141, .lmul, .lmul, 142, 0, 1, 0, 0, 0),
  (142, .lload 6, .lload 6, 144, 0, 2, 0, 0, 0),
  (144, .lsub, .lsub, 145, 0, 1, 0, 0, 0),
  (145, .aload_n 0, .aload 0, 146, 0, 1, 0, 0, 0),
  (146, .getfield 310, .getfield 50, 149, 10, 3, 0, 0, 1025),
  (149, .lmul, .lmul, 150, 0, 1, 0, 0, 0),
  (150, .ladd, .ladd, 151, 0, 1, 0, 0, 0),
  (151, .putfield 306, .putfield 49, 154, 10, 3, 0, 0, 1024),
  (154, .aload_n 0, .aload 0, 155, 0, 1, 0, 0, 0),
  (155, .aload_n 0, .aload 0, 156, 0, 1, 0, 0, 0),
  (156, .getfield 310, .getfield 50, 159, 10, 3, 0, 0, 1025),
  (159, .lload 4, .lload 4, 161, 0, 2, 0, 0, 0),
  (161, .lmul, .lmul, 162, 0, 1, 0, 0, 0),
  (162, .putfield 310, .putfield 50, 165, 10, 3, 0, 0, 1025),
  (165, .iinc 2 1, .iinc 2 1, 168, 0, 3, 1, 0, 0),
  (168, .iinc 3 1, .iinc 3 1, 171, 0, 3, 1, 0, 0),
  (171, .goto (-157), .goto (-157), 14, 0, 3, 0, 0, 0),
  (174, .aload_n 0, .aload 0, 175, 0, 1, 0, 0, 0),
  (175, .iload_n 2, .iload 2, 176, 0, 1, 0, 0, 0),
  (176, .ifCond .ne 7, .ifCond .ne 7, 179, 183, 3, 0, 0, 0),
  (179, .lconst 1, .lconst 1, 180, 0, 1, 0, 1, 0),
  (180, .goto 10, .goto 10, 190, 0, 3, 0, 0, 0),
  (183, .aload_n 0, .aload 0, 184, 0, 1, 0, 0, 0),
  (184, .getfield 310, .getfield 50, 187, 10, 3, 0, 0, 1025),
  (187, .iload_n 2, .iload 2, 188, 0, 1, 0, 0, 0),
  (188, .i2l, .i2l, 189, 0, 1, 0, 0, 0),
  (189, .lmul, .lmul, 190, 0, 1, 0, 0, 0),
  (190, .putfield 310, .putfield 50, 193, 10, 3, 0, 0, 1025),
  (193, .iload_n 2, .iload 2, 194, 0, 1, 0, 0, 0),
  (194, .ifCond .le 7, .ifCond .le 7, 197, 201, 3, 0, 0, 0),
  (197, .iconst 1, .iconst 1, 198, 0, 1, 1, 0, 0),
  (198, .goto 4, .goto 4, 202, 0, 3, 0, 0, 0),
  (201, .iconst 0, .iconst 0, 202, 0, 1, 0, 0, 0),
  (202, .ireturn, .ireturn, 203, 0, 1, 0, 0, 0)])
set_option maxRecDepth 100000 in
theorem okX10_weighs : okm mX10_weighs = true := by decide +kernel
def mX10_order : mt_T := (yX10_order, cX10_order, 9, (some .int), [
  (0, .aload_n 0, .aload 0, 1, 0, 1, 0, 0, 0),
  (1, .iconst 0, .iconst 0, 2, 0, 1, 0, 0, 0),
  (2, .putfield 1, .putfield 0, 5, 10, 3, 0, 0, 975),
  (5, .iload_n 1, .iload 1, 6, 0, 1, 0, 0, 0),
  (6, .invokestatic 303, .invokestatic 303, 9, 0, 3, 0, 0, 0),
  (9, .ifCond .eq 18, .ifCond .eq 18, 12, 27, 3, 0, 0, 0),
  (12, .iload_n 2, .iload 2, 13, 0, 1, 0, 0, 0),
  (13, .invokestatic 303, .invokestatic 303, 16, 0, 3, 0, 0, 0),
  (16, .ifCond .eq 11, .ifCond .eq 11, 19, 27, 3, 0, 0, 0),
  (19, .aload_n 0, .aload 0, 20, 0, 1, 0, 0, 0),
  (20, .iload_n 1, .iload 1, 21, 0, 1, 0, 0, 0),
  (21, .invokevirtual 313, .invokevirtual 313, 24, 0, 3, 0, 0, 0),
  (24, .ifCond .ne 6, .ifCond .ne 6, 27, 30, 3, 0, 0, 0),
  (27, .bipush (-2), .iconst (-2), 29, 0, 2, (-2), 0, 0),
  (29, .ireturn, .ireturn, 30, 0, 1, 0, 0, 0),
  (30, .aload_n 0, .aload 0, 31, 0, 1, 0, 0, 0),
  (31, .getfield 306, .getfield 49, 34, 10, 3, 0, 0, 1024),
  (34, .lstore_n 3, .lstore 3, 35, 0, 1, 0, 0, 0),
  (35, .aload_n 0, .aload 0, 36, 0, 1, 0, 0, 0),
  (36, .getfield 310, .getfield 50, 39, 10, 3, 0, 0, 1025),
  (39, .lstore 5, .lstore 5, 41, 0, 2, 0, 0, 0),
  (41, .aload_n 0, .aload 0, 42, 0, 1, 0, 0, 0),
  (42, .iload_n 2, .iload 2, 43, 0, 1, 0, 0, 0),
  (43, .invokevirtual 313, .invokevirtual 313, 46, 0, 3, 0, 0, 0),
  (46, .ifCond .ne 6, .ifCond .ne 6, 49, 52, 3, 0, 0, 0),
  (49, .bipush (-2), .iconst (-2), 51, 0, 2, (-2), 0, 0),
  (51, .ireturn, .ireturn, 52, 0, 1, 0, 0, 0),
  (52, .lload_n 3, .lload 3, 53, 0, 1, 0, 0, 0),
  (53, .aload_n 0, .aload 0, 54, 0, 1, 0, 0, 0),
  (54, .getfield 310, .getfield 50, 57, 10, 3, 0, 0, 1025),
  (57, .lmul, .lmul, 58, 0, 1, 0, 0, 0),
  (58, .aload_n 0, .aload 0, 59, 0, 1, 0, 0, 0),
  (59, .getfield 306, .getfield 49, 62, 10, 3, 0, 0, 1024),
  (62, .lload 5, .lload 5, 64, 0, 2, 0, 0, 0),
  (64, .lmul, .lmul, 65, 0, 1, 0, 0, 0),
  (65, .lsub, .lsub, 66, 0, 1, 0, 0, 0),
  (66, .lstore 7, .lstore 7, 68, 0, 2, 0, 0, 0),
  (68, .lload 7, .lload 7, 70, 0, 2, 0, 0, 0),
  (70, .lconst 0, .lconst 0, 71, 0, 1, 0, 0, 0),
  (71, .lcmp, .lcmp, 72, 0, 1, 0, 0, 0),
  (72, .ifCond .le 7, .ifCond .le 7, 75, 79, 3, 0, 0, 0),
  (75, .iconst 1, .iconst 1, 76, 0, 1, 1, 0, 0),
  (76, .goto 15, .goto 15, 91, 0, 3, 0, 0, 0),
  (79, .lload 7, .lload 7, 81, 0, 2, 0, 0, 0),
  (81, .lconst 0, .lconst 0, 82, 0, 1, 0, 0, 0),
  (82, .lcmp, .lcmp, 83, 0, 1, 0, 0, 0),
  (83, .ifCond .ge 7, .ifCond .ge 7, 86, 90, 3, 0, 0, 0),
  (86, .iconst (-1), .iconst (-1), 87, 0, 1, (-1), 0, 0),
  (87, .goto 4, .goto 4, 91, 0, 3, 0, 0, 0),
  (90, .iconst 0, .iconst 0, 91, 0, 1, 0, 0, 0),
  (91, .ireturn, .ireturn, 92, 0, 1, 0, 0, 0)])
set_option maxRecDepth 100000 in
theorem okX10_order : okm mX10_order = true := by decide +kernel
def mX10_worth : mt_T := (yX10_worth, cX10_worth, 2, (some .int), [
  (0, .aload_n 0, .aload 0, 1, 0, 1, 0, 0, 0),
  (1, .iconst 0, .iconst 0, 2, 0, 1, 0, 0, 0),
  (2, .putfield 1, .putfield 0, 5, 10, 3, 0, 0, 975),
  (5, .iload_n 1, .iload 1, 6, 0, 1, 0, 0, 0),
  (6, .invokestatic 303, .invokestatic 303, 9, 0, 3, 0, 0, 0),
  (9, .ifCond .eq 11, .ifCond .eq 11, 12, 20, 3, 0, 0, 0),
  (12, .aload_n 0, .aload 0, 13, 0, 1, 0, 0, 0),
  (13, .iload_n 1, .iload 1, 14, 0, 1, 0, 0, 0),
  (14, .invokevirtual 313, .invokevirtual 313, 17, 0, 3, 0, 0, 0),
  (17, .ifCond .ne 9, .ifCond .ne 9, 20, 26, 3, 0, 0, 0),
  (20, .ldc_w 316, .iconst (-1000000), 23, 316, 3, (-1000000), 0, 1332),
  (23, .goto 19, .goto 19, 42, 0, 3, 0, 0, 0),
  (26, .aload_n 0, .aload 0, 27, 0, 1, 0, 0, 0),
  (27, .getfield 306, .getfield 49, 30, 10, 3, 0, 0, 1024),
  (30, .ldc2_w 317, .ldc2_w 317, 33, 0, 3, 0, 1000, 1333),
  (33, .lmul, .lmul, 34, 0, 1, 0, 0, 0),
  (34, .aload_n 0, .aload 0, 35, 0, 1, 0, 0, 0),
  (35, .getfield 310, .getfield 50, 38, 10, 3, 0, 0, 1025),
  (38, .invokestatic 319, .invokestatic 319, 41, 0, 3, 0, 0, 0),
  (41, .l2i, .l2i, 42, 0, 1, 0, 0, 0),
  (42, .ireturn, .ireturn, 43, 0, 1, 0, 0, 0)])
set_option maxRecDepth 100000 in
theorem okX10_worth : okm mX10_worth = true := by decide +kernel
def mX10_span : mt_T := (yX10_span, cX10_span, 4, (some .boolean), [
  (0, .aload_n 0, .aload 0, 1, 0, 1, 0, 0, 0),
  (1, .iconst 0, .iconst 0, 2, 0, 1, 0, 0, 0),
  (2, .putfield 1, .putfield 0, 5, 10, 3, 0, 0, 975),
  (5, .iload_n 1, .iload 1, 6, 0, 1, 0, 0, 0),
  (6, .ifCond .lt 23, .ifCond .lt 23, 9, 29, 3, 0, 0, 0),
  (9, .iload_n 1, .iload 1, 10, 0, 1, 0, 0, 0),
  (10, .iconst 2, .iconst 2, 11, 0, 1, 2, 0, 0),
  (11, .if_icmp .gt 18, .if_icmp .gt 18, 14, 29, 3, 0, 0, 0),
  (14, .iload_n 2, .iload 2, 15, 0, 1, 0, 0, 0),
  (15, .ifCond .lt 14, .ifCond .lt 14, 18, 29, 3, 0, 0, 0),
  (18, .iload_n 3, .iload 3, 19, 0, 1, 0, 0, 0),
  (19, .bipush 100, .iconst 100, 21, 0, 2, 100, 0, 0),
  (21, .if_icmp .gt 8, .if_icmp .gt 8, 24, 29, 3, 0, 0, 0),
  (24, .iload_n 2, .iload 2, 25, 0, 1, 0, 0, 0),
  (25, .iload_n 3, .iload 3, 26, 0, 1, 0, 0, 0),
  (26, .if_icmp .le 5, .if_icmp .le 5, 29, 31, 3, 0, 0, 0),
  (29, .iconst 0, .iconst 0, 30, 0, 1, 0, 0, 0),
  (30, .ireturn, .ireturn, 31, 0, 1, 0, 0, 0),
  (31, .aload_n 0, .aload 0, 32, 0, 1, 0, 0, 0),
  (32, .getfield 123, .getfield 51, 35, 10, 3, 0, 0, 1026),
  (35, .iload_n 1, .iload 1, 36, 0, 1, 0, 0, 0),
  (36, .iload_n 2, .iload 2, 37, 0, 1, 0, 0, 0),
  (37, .iastore, .iastore, 38, 0, 1, 0, 0, 0),
  (38, .aload_n 0, .aload 0, 39, 0, 1, 0, 0, 0),
  (39, .getfield 126, .getfield 52, 42, 10, 3, 0, 0, 1027),
  (42, .iload_n 1, .iload 1, 43, 0, 1, 0, 0, 0),
  (43, .iload_n 3, .iload 3, 44, 0, 1, 0, 0, 0),
  (44, .iastore, .iastore, 45, 0, 1, 0, 0, 0),
  (45, .iconst 1, .iconst 1, 46, 0, 1, 1, 0, 0),
  (46, .ireturn, .ireturn, 47, 0, 1, 0, 0, 0)])
set_option maxRecDepth 100000 in
theorem okX10_span : okm mX10_span = true := by decide +kernel
def mX10_isInSpans : mt_T := (yX10_isInSpans, cX10_isInSpans, 5, (some .boolean), [
  (0, .iconst 1, .iconst 1, 1, 0, 1, 1, 0, 0),
  (1, .istore_n 1, .istore 1, 2, 0, 1, 0, 0, 0),
  (2, .iconst 0, .iconst 0, 3, 0, 1, 0, 0, 0),
  (3, .istore_n 2, .istore 2, 4, 0, 1, 0, 0, 0),
  (4, .iload_n 2, .iload 2, 5, 0, 1, 0, 0, 0),
  (5, .iconst 3, .iconst 3, 6, 0, 1, 3, 0, 0),
  (6, .if_icmp .ge 92, .if_icmp .ge 92, 9, 98, 3, 0, 0, 0),
  (9, .iconst 0, .iconst 0, 10, 0, 1, 0, 0, 0),
  (10, .istore_n 3, .istore 3, 11, 0, 1, 0, 0, 0),
  (11, .iconst 0, .iconst 0, 12, 0, 1, 0, 0, 0),
  (12, .istore 4, .istore 4, 14, 0, 2, 0, 0, 0),
  (14, .iload 4, .iload 4, 16, 0, 2, 0, 0, 0),
  (16, .aload_n 0, .aload 0, 17, 0, 1, 0, 0, 0),
  (17, .getfield 325, .getfield 57, 20, 10, 3, 0, 0, 1032),
  (20, .if_icmp .ge 36, .if_icmp .ge 36, 23, 56, 3, 0, 0, 0),
  (23, .iload_n 3, .iload 3, 24, 0, 1, 0, 0, 0),
  (24, .aload_n 0, .aload 0, 25, 0, 1, 0, 0, 0),
  (25, .getfield 132, .getfield 54, 28, 10, 3, 0, 0, 1029),
  (28, .iload 4, .iload 4, 30, 0, 2, 0, 0, 0),
  (30, .iaload, .iaload, 31, 0, 1, 0, 0, 0),
  (31, .aload_n 0, .aload 0, 32, 0, 1, 0, 0, 0),
  (32, .getfield 96, .getfield 29, 35, 10, 3, 0, 0, 1004),
  (35, .iconst 3, .iconst 3, 36, 0, 1, 3, 0, 0),
  (36, .aload_n 0, .aload 0, 37, 0, 1, 0, 0, 0),
  (37, .getfield 129, .getfield 53, 40, 10, 3, 0, 0, 1028),
  (40, .iload 4, .iload 4, 42, 0, 2, 0, 0, 0),
  (42, .iaload, .iaload, 43, 0, 1, 0, 0, 0),
  (43, .imul, .imul, 44, 0, 1, 0, 0, 0),
  (44, .iload_n 2, .iload 2, 45, 0, 1, 0, 0, 0),
  (45, .iadd, .iadd, 46, 0, 1, 0, 0, 0),
  (46, .iaload, .iaload, 47, 0, 1, 0, 0, 0),
  (47, .imul, .imul, 48, 0, 1, 0, 0, 0),
  (48, .iadd, .iadd, 49, 0, 1, 0, 0, 0),
  (49, .istore_n 3, .istore 3, 50, 0, 1, 0, 0, 0),
  (50, .iinc 4 1, .iinc 4 1, 53, 0, 3, 1, 0, 0),
  (53, .goto (-39), .goto (-39), 14, 0, 3, 0, 0, 0),
  (56, .iload_n 1, .iload 1, 57, 0, 1, 0, 0, 0),
  (57, .ifCond .eq 33, .ifCond .eq 33, 60, 90, 3, 0, 0, 0),
  (60, .iload_n 3, .iload 3, 61, 0, 1, 0, 0, 0),
  (61, .bipush 10, .iconst 10, 63, 0, 2, 10, 0, 0),
  (63, .aload_n 0, .aload 0, 64, 0, 1, 0, 0, 0),
  (64, .getfield 123, .getfield 51, 67, 10, 3, 0, 0, 1026),
  (67, .iload_n 2, .iload 2, 68, 0, 1, 0, 0, 0),
  (68, .iaload, .iaload, 69, 0, 1, 0, 0, 0),
  (69, .imul, .imul, 70, 0, 1, 0, 0, 0),
  (70, .if_icmp .lt 20, .if_icmp .lt 20, 73, 90, 3, 0, 0, 0),
  (73, .iload_n 3, .iload 3, 74, 0, 1, 0, 0, 0),
  (74, .bipush 10, .iconst 10, 76, 0, 2, 10, 0, 0),
  (76, .aload_n 0, .aload 0, 77, 0, 1, 0, 0, 0),
  (77, .getfield 126, .getfield 52, 80, 10, 3, 0, 0, 1027),
  (80, .iload_n 2, .iload 2, 81, 0, 1, 0, 0, 0),
  (81, .iaload, .iaload, 82, 0, 1, 0, 0, 0),
  (82, .imul, .imul, 83, 0, 1, 0, 0, 0),
  (83, .if_icmp .gt 7, .if_icmp .gt 7, 86, 90, 3, 0, 0, 0),
  (86, .iconst 1, .iconst 1, 87, 0, 1, 1, 0, 0),
  (87, .goto 4, .goto 4, 91, 0, 3, 0, 0, 0),
  (90, .iconst 0, .iconst 0, 91, 0, 1, 0, 0, 0),
  (91, .istore_n 1, .istore 1, 92, 0, 1, 0, 0, 0),
  (92, .iinc 2 1, .iinc 2 1, 95, 0, 3, 1, 0, 0),
  (95, .goto (-91), .goto (-91), 4, 0, 3, 0, 0, 0),
  (98, .iload_n 1, .iload 1, 99, 0, 1, 0, 0, 0),
  (99, .ireturn, .ireturn, 100, 0, 1, 0, 0, 0)])
set_option maxRecDepth 100000 in
theorem okX10_isInSpans : okm mX10_isInSpans = true := by decide +kernel
def mX10_tries : mt_T := (yX10_tries, cX10_tries, 5, none, [
  (0, .iload_n 1, .iload 1, 1, 0, 1, 0, 0, 0),
  (1, .aload_n 0, .aload 0, 2, 0, 1, 0, 0, 0),
  (2, .getfield 325, .getfield 57, 5, 10, 3, 0, 0, 1032),
  (5, .if_icmp .ne 9, .if_icmp .ne 9, 8, 14, 3, 0, 0, 0),
  (8, .aload_n 0, .aload 0, 9, 0, 1, 0, 0, 0),
  (9, .iload_n 2, .iload 2, 10, 0, 1, 0, 0, 0),
  (10, .invokevirtual 328, .invokevirtual 328, 13, 0, 3, 0, 0, 0),
  (13, .return_, .return_, 14, 0, 1, 0, 0, 0),
  (14, .iload_n 2, .iload 2, 15, 0, 1, 0, 0, 0),
  (15, .istore 4, .istore 4, 17, 0, 2, 0, 0, 0),
  (17, .iload 4, .iload 4, 19, 0, 2, 0, 0, 0),
  (19, .ifCond .lt 50, .ifCond .lt 50, 22, 69, 3, 0, 0, 0),
  (22, .iload 4, .iload 4, 24, 0, 2, 0, 0, 0),
  (24, .iload_n 3, .iload 3, 25, 0, 1, 0, 0, 0),
  (25, .bipush 10, .iconst 10, 27, 0, 2, 10, 0, 0),
  (27, .idiv, .idiv, 28, 0, 1, 0, 0, 0),
  (28, .imul, .imul, 29, 0, 1, 0, 0, 0),
  (29, .aload_n 0, .aload 0, 30, 0, 1, 0, 0, 0),
  (30, .getfield 90, .getfield 27, 33, 10, 3, 0, 0, 1002),
  (33, .aload_n 0, .aload 0, 34, 0, 1, 0, 0, 0),
  (34, .getfield 129, .getfield 53, 37, 10, 3, 0, 0, 1028),
  (37, .iload_n 1, .iload 1, 38, 0, 1, 0, 0, 0),
  (38, .iaload, .iaload, 39, 0, 1, 0, 0, 0),
  (39, .iaload, .iaload, 40, 0, 1, 0, 0, 0),
  (40, .if_icmp .gt 23, .if_icmp .gt 23, 43, 63, 3, 0, 0, 0),
  (43, .aload_n 0, .aload 0, 44, 0, 1, 0, 0, 0),
  (44, .getfield 132, .getfield 54, 47, 10, 3, 0, 0, 1029),
  (47, .iload_n 1, .iload 1, 48, 0, 1, 0, 0, 0),
  (48, .iload 4, .iload 4, 50, 0, 2, 0, 0, 0),
  (50, .iastore, .iastore, 51, 0, 1, 0, 0, 0),
  (51, .aload_n 0, .aload 0, 52, 0, 1, 0, 0, 0),
  (52, .iload_n 1, .iload 1, 53, 0, 1, 0, 0, 0),
  (53, .iconst 1, .iconst 1, 54, 0, 1, 1, 0, 0),
  (54, .iadd, .iadd, 55, 0, 1, 0, 0, 0),
  (55, .iload_n 2, .iload 2, 56, 0, 1, 0, 0, 0),
  (56, .iload 4, .iload 4, 58, 0, 2, 0, 0, 0),
  (58, .isub, .isub, 59, 0, 1, 0, 0, 0),
  (59, .iload_n 3, .iload 3, 60, 0, 1, 0, 0, 0),
  (60, .invokevirtual 331, .invokevirtual 331, 63, 0, 3, 0, 0, 0),
  (63, .iinc 4 (-1), .iinc 4 (-1), 66, 0, 3, (-1), 0, 0),
  (66, .goto (-49), .goto (-49), 17, 0, 3, 0, 0, 0),
  (69, .return_, .return_, 70, 0, 1, 0, 0, 0)])
set_option maxRecDepth 100000 in
theorem okX10_tries : okm mX10_tries = true := by decide +kernel
def mX10_asks : mt_T := (yX10_asks, cX10_asks, 4, none, [
  (0, .iconst 0, .iconst 0, 1, 0, 1, 0, 0, 0),
  (1, .istore_n 2, .istore 2, 2, 0, 1, 0, 0, 0),
  (2, .iconst 0, .iconst 0, 3, 0, 1, 0, 0, 0),
  (3, .istore_n 3, .istore 3, 4, 0, 1, 0, 0, 0),
  (4, .iload_n 3, .iload 3, 5, 0, 1, 0, 0, 0),
  (5, .aload_n 0, .aload 0, 6, 0, 1, 0, 0, 0),
  (6, .getfield 325, .getfield 57, 9, 10, 3, 0, 0, 1032),
  (9, .if_icmp .ge 30, .if_icmp .ge 30, 12, 39, 3, 0, 0, 0),
  (12, .iload_n 2, .iload 2, 13, 0, 1, 0, 0, 0),
  (13, .aload_n 0, .aload 0, 14, 0, 1, 0, 0, 0),
  (14, .getfield 132, .getfield 54, 17, 10, 3, 0, 0, 1029),
  (17, .iload_n 3, .iload 3, 18, 0, 1, 0, 0, 0),
  (18, .iaload, .iaload, 19, 0, 1, 0, 0, 0),
  (19, .aload_n 0, .aload 0, 20, 0, 1, 0, 0, 0),
  (20, .getfield 93, .getfield 28, 23, 10, 3, 0, 0, 1003),
  (23, .aload_n 0, .aload 0, 24, 0, 1, 0, 0, 0),
  (24, .getfield 129, .getfield 53, 27, 10, 3, 0, 0, 1028),
  (27, .iload_n 3, .iload 3, 28, 0, 1, 0, 0, 0),
  (28, .iaload, .iaload, 29, 0, 1, 0, 0, 0),
  (29, .iaload, .iaload, 30, 0, 1, 0, 0, 0),
  (30, .imul, .imul, 31, 0, 1, 0, 0, 0),
  (31, .iadd, .iadd, 32, 0, 1, 0, 0, 0),
  (32, .istore_n 2, .istore 2, 33, 0, 1, 0, 0, 0),
  (33, .iinc 3 1, .iinc 3 1, 36, 0, 3, 1, 0, 0),
  (36, .goto (-32), .goto (-32), 4, 0, 3, 0, 0, 0),
  (39, .iload_n 1, .iload 1, 40, 0, 1, 0, 0, 0),
  (40, .ifCond .gt 25, .ifCond .gt 25, 43, 65, 3, 0, 0, 0),
  (43, .aload_n 0, .aload 0, 44, 0, 1, 0, 0, 0),
  (44, .getfield 334, .getfield 58, 47, 10, 3, 0, 0, 1033),
  (47, .ifCond .lt 11, .ifCond .lt 11, 50, 58, 3, 0, 0, 0),
  (50, .iload_n 2, .iload 2, 51, 0, 1, 0, 0, 0),
  (51, .aload_n 0, .aload 0, 52, 0, 1, 0, 0, 0),
  (52, .getfield 334, .getfield 58, 55, 10, 3, 0, 0, 1033),
  (55, .if_icmp .ge 10, .if_icmp .ge 10, 58, 65, 3, 0, 0, 0),
  (58, .aload_n 0, .aload 0, 59, 0, 1, 0, 0, 0),
  (59, .invokevirtual 337, .invokevirtual 337, 62, 0, 3, 0, 0, 0),
  (62, .ifCond .ne 4, .ifCond .ne 4, 65, 66, 3, 0, 0, 0),
  (65, .return_, .return_, 66, 0, 1, 0, 0, 0),
  (66, .aload_n 0, .aload 0, 67, 0, 1, 0, 0, 0),
  (67, .iload_n 2, .iload 2, 68, 0, 1, 0, 0, 0),
  (68, .putfield 334, .putfield 58, 71, 10, 3, 0, 0, 1033),
  (71, .aload_n 0, .aload 0, 72, 0, 1, 0, 0, 0),
  (72, .iconst 1, .iconst 1, 73, 0, 1, 1, 0, 0),
  (73, .putfield 340, .putfield 56, 76, 10, 3, 0, 0, 1031),
  (76, .iconst 0, .iconst 0, 77, 0, 1, 0, 0, 0),
  (77, .istore_n 3, .istore 3, 78, 0, 1, 0, 0, 0),
  (78, .iload_n 3, .iload 3, 79, 0, 1, 0, 0, 0),
  (79, .bipush 12, .iconst 12, 81, 0, 2, 12, 0, 0),
  (81, .if_icmp .ge 16, .if_icmp .ge 16, 84, 97, 3, 0, 0, 0),
  (84, .aload_n 0, .aload 0, 85, 0, 1, 0, 0, 0),
  (85, .getfield 135, .getfield 55, 88, 10, 3, 0, 0, 1030),
  (88, .iload_n 3, .iload 3, 89, 0, 1, 0, 0, 0),
  (89, .iconst 0, .iconst 0, 90, 0, 1, 0, 0, 0),
  (90, .iastore, .iastore, 91, 0, 1, 0, 0, 0),
  (91, .iinc 3 1, .iinc 3 1, 94, 0, 3, 1, 0, 0),
  (94, .goto (-16), .goto (-16), 78, 0, 3, 0, 0, 0),
  (97, .iconst 0, .iconst 0, 98, 0, 1, 0, 0, 0),
  (98, .istore_n 3, .istore 3, 99, 0, 1, 0, 0, 0),
  (99, .iload_n 3, .iload 3, 100, 0, 1, 0, 0, 0),
  (100, .aload_n 0, .aload 0, 101, 0, 1, 0, 0, 0),
  (101, .getfield 325, .getfield 57, 104, 10, 3, 0, 0, 1032),
  (104, .if_icmp .ge 26, .if_icmp .ge 26, 107, 130, 3, 0, 0, 0),
  (107, .aload_n 0, .aload 0, 108, 0, 1, 0, 0, 0),
  (108, .getfield 135, .getfield 55, 111, 10, 3, 0, 0, 1030),
  (111, .aload_n 0, .aload 0, 112, 0, 1, 0, 0, 0),
  (112, .getfield 129, .getfield 53, 115, 10, 3, 0, 0, 1028),
  (115, .iload_n 3, .iload 3, 116, 0, 1, 0, 0, 0),
  (116, .iaload, .iaload, 117, 0, 1, 0, 0, 0),
  (117, .aload_n 0, .aload 0, 118, 0, 1, 0, 0, 0),
  (118, .getfield 132, .getfield 54, 121, 10, 3, 0, 0, 1029),
  (121, .iload_n 3, .iload 3, 122, 0, 1, 0, 0, 0),
  (122, .iaload, .iaload, 123, 0, 1, 0, 0, 0),
  (123, .iastore, .iastore, 124, 0, 1, 0, 0, 0),
  (124, .iinc 3 1, .iinc 3 1, 127, 0, 3, 1, 0, 0),
  (127, .goto (-28), .goto (-28), 99, 0, 3, 0, 0, 0),
  (130, .return_, .return_, 131, 0, 1, 0, 0, 0)])
set_option maxRecDepth 100000 in
theorem okX10_asks : okm mX10_asks = true := by decide +kernel
def mX10_best : mt_T := (yX10_best, cX10_best, 4, (some .int), [
  (0, .aload_n 0, .aload 0, 1, 0, 1, 0, 0, 0),
  (1, .iconst 0, .iconst 0, 2, 0, 1, 0, 0, 0),
  (2, .putfield 1, .putfield 0, 5, 10, 3, 0, 0, 975),
  (5, .aload_n 0, .aload 0, 6, 0, 1, 0, 0, 0),
  (6, .iconst 0, .iconst 0, 7, 0, 1, 0, 0, 0),
  (7, .putfield 325, .putfield 57, 10, 10, 3, 0, 0, 1032),
  (10, .iconst 0, .iconst 0, 11, 0, 1, 0, 0, 0),
  (11, .istore_n 3, .istore 3, 12, 0, 1, 0, 0, 0),
  (12, .iload_n 3, .iload 3, 13, 0, 1, 0, 0, 0),
  (13, .aload_n 0, .aload 0, 14, 0, 1, 0, 0, 0),
  (14, .getfield 234, .getfield 26, 17, 10, 3, 0, 0, 1001),
  (17, .if_icmp .ge 47, .if_icmp .ge 47, 20, 64, 3, 0, 0, 0),
  (20, .iload_n 1, .iload 1, 21, 0, 1, 0, 0, 0),
  (21, .iload_n 3, .iload 3, 22, 0, 1, 0, 0, 0),
  (22, .ishr, .ishr, 23, 0, 1, 0, 0, 0),
  (23, .iconst 1, .iconst 1, 24, 0, 1, 1, 0, 0),
  (24, .iand, .iand, 25, 0, 1, 0, 0, 0),
  (25, .iconst 1, .iconst 1, 26, 0, 1, 1, 0, 0),
  (26, .if_icmp .ne 32, .if_icmp .ne 32, 29, 58, 3, 0, 0, 0),
  (29, .aload_n 0, .aload 0, 30, 0, 1, 0, 0, 0),
  (30, .getfield 325, .getfield 57, 33, 10, 3, 0, 0, 1032),
  (33, .bipush 6, .iconst 6, 35, 0, 2, 6, 0, 0),
  (35, .if_icmp .ge 13, .if_icmp .ge 13, 38, 48, 3, 0, 0, 0),
  (38, .aload_n 0, .aload 0, 39, 0, 1, 0, 0, 0),
  (39, .getfield 129, .getfield 53, 42, 10, 3, 0, 0, 1028),
  (42, .aload_n 0, .aload 0, 43, 0, 1, 0, 0, 0),
  (43, .getfield 325, .getfield 57, 46, 10, 3, 0, 0, 1032),
  (46, .iload_n 3, .iload 3, 47, 0, 1, 0, 0, 0),
  (47, .iastore, .iastore, 48, 0, 1, 0, 0, 0),
  (48, .aload_n 0, .aload 0, 49, 0, 1, 0, 0, 0),
  (49, .dup, .dup, 50, 0, 1, 0, 0, 0),
  (50, .getfield 325, .getfield 57, 53, 10, 3, 0, 0, 1032),
  (53, .iconst 1, .iconst 1, 54, 0, 1, 1, 0, 0),
  (54, .iadd, .iadd, 55, 0, 1, 0, 0, 0),
  (55, .putfield 325, .putfield 57, 58, 10, 3, 0, 0, 1032),
  (58, .iinc 3 1, .iinc 3 1, 61, 0, 3, 1, 0, 0),
  (61, .goto (-49), .goto (-49), 12, 0, 3, 0, 0, 0),
  (64, .iload_n 1, .iload 1, 65, 0, 1, 0, 0, 0),
  (65, .iconst 1, .iconst 1, 66, 0, 1, 1, 0, 0),
  (66, .if_icmp .lt 41, .if_icmp .lt 41, 69, 107, 3, 0, 0, 0),
  (69, .iload_n 1, .iload 1, 70, 0, 1, 0, 0, 0),
  (70, .iconst 1, .iconst 1, 71, 0, 1, 1, 0, 0),
  (71, .aload_n 0, .aload 0, 72, 0, 1, 0, 0, 0),
  (72, .getfield 234, .getfield 26, 75, 10, 3, 0, 0, 1001),
  (75, .ishl, .ishl, 76, 0, 1, 0, 0, 0),
  (76, .if_icmp .ge 31, .if_icmp .ge 31, 79, 107, 3, 0, 0, 0),
  (79, .aload_n 0, .aload 0, 80, 0, 1, 0, 0, 0),
  (80, .getfield 325, .getfield 57, 83, 10, 3, 0, 0, 1032),
  (83, .bipush 6, .iconst 6, 85, 0, 2, 6, 0, 0),
  (85, .if_icmp .gt 22, .if_icmp .gt 22, 88, 107, 3, 0, 0, 0),
  (88, .iload_n 2, .iload 2, 89, 0, 1, 0, 0, 0),
  (89, .bipush 10, .iconst 10, 91, 0, 2, 10, 0, 0),
  (91, .if_icmp .lt 16, .if_icmp .lt 16, 94, 107, 3, 0, 0, 0),
  (94, .iload_n 2, .iload 2, 95, 0, 1, 0, 0, 0),
  (95, .ldc 230, .iconst 100000, 97, 230, 2, 100000, 0, 1237),
  (97, .if_icmp .gt 10, .if_icmp .gt 10, 100, 107, 3, 0, 0, 0),
  (100, .iload_n 2, .iload 2, 101, 0, 1, 0, 0, 0),
  (101, .bipush 10, .iconst 10, 103, 0, 2, 10, 0, 0),
  (103, .irem, .irem, 104, 0, 1, 0, 0, 0),
  (104, .ifCond .eq 5, .ifCond .eq 5, 107, 109, 3, 0, 0, 0),
  (107, .iconst (-1), .iconst (-1), 108, 0, 1, (-1), 0, 0),
  (108, .ireturn, .ireturn, 109, 0, 1, 0, 0, 0),
  (109, .aload_n 0, .aload 0, 110, 0, 1, 0, 0, 0),
  (110, .iconst (-1), .iconst (-1), 111, 0, 1, (-1), 0, 0),
  (111, .putfield 334, .putfield 58, 114, 10, 3, 0, 0, 1033),
  (114, .aload_n 0, .aload 0, 115, 0, 1, 0, 0, 0),
  (115, .iconst 0, .iconst 0, 116, 0, 1, 0, 0, 0),
  (116, .bipush 10, .iconst 10, 118, 0, 2, 10, 0, 0),
  (118, .iload_n 2, .iload 2, 119, 0, 1, 0, 0, 0),
  (119, .invokevirtual 331, .invokevirtual 331, 122, 0, 3, 0, 0, 0),
  (122, .aload_n 0, .aload 0, 123, 0, 1, 0, 0, 0),
  (123, .getfield 334, .getfield 58, 126, 10, 3, 0, 0, 1033),
  (126, .ireturn, .ireturn, 127, 0, 1, 0, 0, 0)])
set_option maxRecDepth 100000 in
theorem okX10_best : okm mX10_best = true := by decide +kernel
def mX10_tenths : mt_T := (yX10_tenths, cX10_tenths, 2, (some .int), [
  (0, .aload_n 0, .aload 0, 1, 0, 1, 0, 0, 0),
  (1, .iconst 0, .iconst 0, 2, 0, 1, 0, 0, 0),
  (2, .putfield 1, .putfield 0, 5, 10, 3, 0, 0, 975),
  (5, .aload_n 0, .aload 0, 6, 0, 1, 0, 0, 0),
  (6, .iload_n 1, .iload 1, 7, 0, 1, 0, 0, 0),
  (7, .invokevirtual 274, .invokevirtual 274, 10, 0, 3, 0, 0, 0),
  (10, .ifCond .eq 10, .ifCond .eq 10, 13, 20, 3, 0, 0, 0),
  (13, .aload_n 0, .aload 0, 14, 0, 1, 0, 0, 0),
  (14, .getfield 340, .getfield 56, 17, 10, 3, 0, 0, 1031),
  (17, .ifCond .ne 7, .ifCond .ne 7, 20, 24, 3, 0, 0, 0),
  (20, .iconst (-1), .iconst (-1), 21, 0, 1, (-1), 0, 0),
  (21, .goto 9, .goto 9, 30, 0, 3, 0, 0, 0),
  (24, .aload_n 0, .aload 0, 25, 0, 1, 0, 0, 0),
  (25, .getfield 135, .getfield 55, 28, 10, 3, 0, 0, 1030),
  (28, .iload_n 1, .iload 1, 29, 0, 1, 0, 0, 0),
  (29, .iaload, .iaload, 30, 0, 1, 0, 0, 0),
  (30, .ireturn, .ireturn, 31, 0, 1, 0, 0, 0)])
set_option maxRecDepth 100000 in
theorem okX10_tenths : okm mX10_tenths = true := by decide +kernel
def mX10_isHouse : mt_T := (yX10_isHouse, cX10_isHouse, 1, (some .boolean), [
  (0, .iload_n 0, .iload 0, 1, 0, 1, 0, 0, 0),
  (1, .ifCond .lt 13, .ifCond .lt 13, 4, 14, 3, 0, 0, 0),
  (4, .iload_n 0, .iload 0, 5, 0, 1, 0, 0, 0),
  (5, .bipush 10, .iconst 10, 7, 0, 2, 10, 0, 0),
  (7, .if_icmp .ge 7, .if_icmp .ge 7, 10, 14, 3, 0, 0, 0),
  (10, .iconst 1, .iconst 1, 11, 0, 1, 1, 0, 0),
  (11, .goto 4, .goto 4, 15, 0, 3, 0, 0, 0),
  (14, .iconst 0, .iconst 0, 15, 0, 1, 0, 0, 0),
  (15, .ireturn, .ireturn, 16, 0, 1, 0, 0, 0)])
set_option maxRecDepth 100000 in
theorem okX10_isHouse : okm mX10_isHouse = true := by decide +kernel
def mX10_send : mt_T := (yX10_send, cX10_send, 3, (some .boolean), [
  (0, .aload_n 0, .aload 0, 1, 0, 1, 0, 0, 0),
  (1, .iconst 0, .iconst 0, 2, 0, 1, 0, 0, 0),
  (2, .putfield 1, .putfield 0, 5, 10, 3, 0, 0, 975),
  (5, .aload_n 0, .aload 0, 6, 0, 1, 0, 0, 0),
  (6, .iload_n 1, .iload 1, 7, 0, 1, 0, 0, 0),
  (7, .invokevirtual 286, .invokevirtual 286, 10, 0, 3, 0, 0, 0),
  (10, .ifCond .eq 36, .ifCond .eq 36, 13, 46, 3, 0, 0, 0),
  (13, .iload_n 2, .iload 2, 14, 0, 1, 0, 0, 0),
  (14, .invokestatic 343, .invokestatic 343, 17, 0, 3, 0, 0, 0),
  (17, .ifCond .eq 29, .ifCond .eq 29, 20, 46, 3, 0, 0, 0),
  (20, .aload_n 0, .aload 0, 21, 0, 1, 0, 0, 0),
  (21, .getfield 105, .getfield 33, 24, 10, 3, 0, 0, 1008),
  (24, .iload_n 1, .iload 1, 25, 0, 1, 0, 0, 0),
  (25, .iaload, .iaload, 26, 0, 1, 0, 0, 0),
  (26, .ifCond .ge 20, .ifCond .ge 20, 29, 46, 3, 0, 0, 0),
  (29, .aload_n 0, .aload 0, 30, 0, 1, 0, 0, 0),
  (30, .getfield 111, .getfield 45, 33, 10, 3, 0, 0, 1020),
  (33, .iload_n 1, .iload 1, 34, 0, 1, 0, 0, 0),
  (34, .iaload, .iaload, 35, 0, 1, 0, 0, 0),
  (35, .ifCond .gt 11, .ifCond .gt 11, 38, 46, 3, 0, 0, 0),
  (38, .aload_n 0, .aload 0, 39, 0, 1, 0, 0, 0),
  (39, .iload_n 1, .iload 1, 40, 0, 1, 0, 0, 0),
  (40, .invokevirtual 289, .invokevirtual 289, 43, 0, 3, 0, 0, 0),
  (43, .ifCond .ne 5, .ifCond .ne 5, 46, 48, 3, 0, 0, 0),
  (46, .iconst 0, .iconst 0, 47, 0, 1, 0, 0, 0),
  (47, .ireturn, .ireturn, 48, 0, 1, 0, 0, 0),
  (48, .aload_n 0, .aload 0, 49, 0, 1, 0, 0, 0),
  (49, .getfield 105, .getfield 33, 52, 10, 3, 0, 0, 1008),
  (52, .iload_n 1, .iload 1, 53, 0, 1, 0, 0, 0),
  (53, .iload_n 2, .iload 2, 54, 0, 1, 0, 0, 0),
  (54, .iastore, .iastore, 55, 0, 1, 0, 0, 0),
  (55, .iconst 1, .iconst 1, 56, 0, 1, 1, 0, 0),
  (56, .ireturn, .ireturn, 57, 0, 1, 0, 0, 0)])
set_option maxRecDepth 100000 in
theorem okX10_send : okm mX10_send = true := by decide +kernel
def mX10_keeps : mt_T := (yX10_keeps, cX10_keeps, 3, (some .boolean), [
  (0, .aload_n 0, .aload 0, 1, 0, 1, 0, 0, 0),
  (1, .iconst 0, .iconst 0, 2, 0, 1, 0, 0, 0),
  (2, .putfield 1, .putfield 0, 5, 10, 3, 0, 0, 975),
  (5, .iload_n 1, .iload 1, 6, 0, 1, 0, 0, 0),
  (6, .invokestatic 343, .invokestatic 343, 9, 0, 3, 0, 0, 0),
  (9, .ifCond .eq 14, .ifCond .eq 14, 12, 23, 3, 0, 0, 0),
  (12, .iload_n 2, .iload 2, 13, 0, 1, 0, 0, 0),
  (13, .ifCond .lt 10, .ifCond .lt 10, 16, 23, 3, 0, 0, 0),
  (16, .iload_n 2, .iload 2, 17, 0, 1, 0, 0, 0),
  (17, .sipush 999, .iconst 999, 20, 0, 3, 999, 0, 0),
  (20, .if_icmp .le 5, .if_icmp .le 5, 23, 25, 3, 0, 0, 0),
  (23, .iconst 0, .iconst 0, 24, 0, 1, 0, 0, 0),
  (24, .ireturn, .ireturn, 25, 0, 1, 0, 0, 0),
  (25, .aload_n 0, .aload 0, 26, 0, 1, 0, 0, 0),
  (26, .getfield 138, .getfield 59, 29, 10, 3, 0, 0, 1034),
  (29, .iload_n 1, .iload 1, 30, 0, 1, 0, 0, 0),
  (30, .iload_n 2, .iload 2, 31, 0, 1, 0, 0, 0),
  (31, .iastore, .iastore, 32, 0, 1, 0, 0, 0),
  (32, .iconst 1, .iconst 1, 33, 0, 1, 1, 0, 0),
  (33, .ireturn, .ireturn, 34, 0, 1, 0, 0, 0)])
set_option maxRecDepth 100000 in
theorem okX10_keeps : okm mX10_keeps = true := by decide +kernel
def mX10_stale : mt_T := (yX10_stale, cX10_stale, 4, (some .int), [
  (0, .aload_n 0, .aload 0, 1, 0, 1, 0, 0, 0),
  (1, .iconst 0, .iconst 0, 2, 0, 1, 0, 0, 0),
  (2, .putfield 1, .putfield 0, 5, 10, 3, 0, 0, 975),
  (5, .iconst 0, .iconst 0, 6, 0, 1, 0, 0, 0),
  (6, .istore_n 2, .istore 2, 7, 0, 1, 0, 0, 0),
  (7, .iconst 0, .iconst 0, 8, 0, 1, 0, 0, 0),
  (8, .istore_n 3, .istore 3, 9, 0, 1, 0, 0, 0),
  (9, .iload_n 3, .iload 3, 10, 0, 1, 0, 0, 0),
  (10, .aload_n 0, .aload 0, 11, 0, 1, 0, 0, 0),
  (11, .getfield 237, .getfield 30, 14, 10, 3, 0, 0, 1005),
  (14, .if_icmp .ge 54, .if_icmp .ge 54, 17, 68, 3, 0, 0, 0),
  (17, .iload_n 2, .iload 2, 18, 0, 1, 0, 0, 0),
  (18, .iload_n 1, .iload 1, 19, 0, 1, 0, 0, 0),
  (19, .invokestatic 343, .invokestatic 343, 22, 0, 3, 0, 0, 0),
  (22, .ifCond .eq 37, .ifCond .eq 37, 25, 59, 3, 0, 0, 0),
  (25, .aload_n 0, .aload 0, 26, 0, 1, 0, 0, 0),
  (26, .getfield 105, .getfield 33, 29, 10, 3, 0, 0, 1008),
  (29, .iload_n 3, .iload 3, 30, 0, 1, 0, 0, 0),
  (30, .iaload, .iaload, 31, 0, 1, 0, 0, 0),
  (31, .iload_n 1, .iload 1, 32, 0, 1, 0, 0, 0),
  (32, .if_icmp .ne 27, .if_icmp .ne 27, 35, 59, 3, 0, 0, 0),
  (35, .aload_n 0, .aload 0, 36, 0, 1, 0, 0, 0),
  (36, .getfield 240, .getfield 25, 39, 10, 3, 0, 0, 1000),
  (39, .aload_n 0, .aload 0, 40, 0, 1, 0, 0, 0),
  (40, .getfield 102, .getfield 32, 43, 10, 3, 0, 0, 1007),
  (43, .iload_n 3, .iload 3, 44, 0, 1, 0, 0, 0),
  (44, .iaload, .iaload, 45, 0, 1, 0, 0, 0),
  (45, .isub, .isub, 46, 0, 1, 0, 0, 0),
  (46, .aload_n 0, .aload 0, 47, 0, 1, 0, 0, 0),
  (47, .getfield 138, .getfield 59, 50, 10, 3, 0, 0, 1034),
  (50, .iload_n 1, .iload 1, 51, 0, 1, 0, 0, 0),
  (51, .iaload, .iaload, 52, 0, 1, 0, 0, 0),
  (52, .if_icmp .le 7, .if_icmp .le 7, 55, 59, 3, 0, 0, 0),
  (55, .iconst 1, .iconst 1, 56, 0, 1, 1, 0, 0),
  (56, .goto 4, .goto 4, 60, 0, 3, 0, 0, 0),
  (59, .iconst 0, .iconst 0, 60, 0, 1, 0, 0, 0),
  (60, .iadd, .iadd, 61, 0, 1, 0, 0, 0),
  (61, .istore_n 2, .istore 2, 62, 0, 1, 0, 0, 0),
  (62, .iinc 3 1, .iinc 3 1, 65, 0, 3, 1, 0, 0),
  (65, .goto (-56), .goto (-56), 9, 0, 3, 0, 0, 0),
  (68, .iload_n 1, .iload 1, 69, 0, 1, 0, 0, 0),
  (69, .invokestatic 343, .invokestatic 343, 72, 0, 3, 0, 0, 0),
  (72, .ifCond .eq 7, .ifCond .eq 7, 75, 79, 3, 0, 0, 0),
  (75, .iload_n 2, .iload 2, 76, 0, 1, 0, 0, 0),
  (76, .goto 4, .goto 4, 80, 0, 3, 0, 0, 0),
  (79, .iconst (-1), .iconst (-1), 80, 0, 1, (-1), 0, 0),
  (80, .ireturn, .ireturn, 81, 0, 1, 0, 0, 0)])
set_option maxRecDepth 100000 in
theorem okX10_stale : okm mX10_stale = true := by decide +kernel
def mX10_found : mt_T := (yX10_found, cX10_found, 5, (some .int), [
  (0, .aload_n 0, .aload 0, 1, 0, 1, 0, 0, 0),
  (1, .iconst 0, .iconst 0, 2, 0, 1, 0, 0, 0),
  (2, .putfield 1, .putfield 0, 5, 10, 3, 0, 0, 975),
  (5, .iload_n 2, .iload 2, 6, 0, 1, 0, 0, 0),
  (6, .istore_n 3, .istore 3, 7, 0, 1, 0, 0, 0),
  (7, .iconst 0, .iconst 0, 8, 0, 1, 0, 0, 0),
  (8, .istore 4, .istore 4, 10, 0, 2, 0, 0, 0),
  (10, .iload 4, .iload 4, 12, 0, 2, 0, 0, 0),
  (12, .aload_n 0, .aload 0, 13, 0, 1, 0, 0, 0),
  (13, .getfield 237, .getfield 30, 16, 10, 3, 0, 0, 1005),
  (16, .if_icmp .ge 46, .if_icmp .ge 46, 19, 62, 3, 0, 0, 0),
  (19, .aload_n 0, .aload 0, 20, 0, 1, 0, 0, 0),
  (20, .iload_n 1, .iload 1, 21, 0, 1, 0, 0, 0),
  (21, .invokevirtual 274, .invokevirtual 274, 24, 0, 3, 0, 0, 0),
  (24, .ifCond .eq 38, .ifCond .eq 38, 27, 62, 3, 0, 0, 0),
  (27, .iload_n 2, .iload 2, 28, 0, 1, 0, 0, 0),
  (28, .ifCond .lt 34, .ifCond .lt 34, 31, 62, 3, 0, 0, 0),
  (31, .aload_n 0, .aload 0, 32, 0, 1, 0, 0, 0),
  (32, .getfield 99, .getfield 31, 35, 10, 3, 0, 0, 1006),
  (35, .bipush 12, .iconst 12, 37, 0, 2, 12, 0, 0),
  (37, .iload 4, .iload 4, 39, 0, 2, 0, 0, 0),
  (39, .imul, .imul, 40, 0, 1, 0, 0, 0),
  (40, .iload_n 1, .iload 1, 41, 0, 1, 0, 0, 0),
  (41, .iadd, .iadd, 42, 0, 1, 0, 0, 0),
  (42, .iaload, .iaload, 43, 0, 1, 0, 0, 0),
  (43, .ifCond .le 13, .ifCond .le 13, 46, 56, 3, 0, 0, 0),
  (46, .iload_n 3, .iload 3, 47, 0, 1, 0, 0, 0),
  (47, .ifCond .ne 6, .ifCond .ne 6, 50, 53, 3, 0, 0, 0),
  (50, .iload 4, .iload 4, 52, 0, 2, 0, 0, 0),
  (52, .ireturn, .ireturn, 53, 0, 1, 0, 0, 0),
  (53, .iinc 3 (-1), .iinc 3 (-1), 56, 0, 3, (-1), 0, 0),
  (56, .iinc 4 1, .iinc 4 1, 59, 0, 3, 1, 0, 0),
  (59, .goto (-49), .goto (-49), 10, 0, 3, 0, 0, 0),
  (62, .iconst (-1), .iconst (-1), 63, 0, 1, (-1), 0, 0),
  (63, .ireturn, .ireturn, 64, 0, 1, 0, 0, 0)])
set_option maxRecDepth 100000 in
theorem okX10_found : okm mX10_found = true := by decide +kernel
def mX10_led : mt_T := (yX10_led, cX10_led, 5, (some .int), [
  (0, .aload_n 0, .aload 0, 1, 0, 1, 0, 0, 0),
  (1, .iconst 0, .iconst 0, 2, 0, 1, 0, 0, 0),
  (2, .putfield 1, .putfield 0, 5, 10, 3, 0, 0, 975),
  (5, .iconst 0, .iconst 0, 6, 0, 1, 0, 0, 0),
  (6, .istore_n 3, .istore 3, 7, 0, 1, 0, 0, 0),
  (7, .iconst 0, .iconst 0, 8, 0, 1, 0, 0, 0),
  (8, .istore 4, .istore 4, 10, 0, 2, 0, 0, 0),
  (10, .iload 4, .iload 4, 12, 0, 2, 0, 0, 0),
  (12, .aload_n 0, .aload 0, 13, 0, 1, 0, 0, 0),
  (13, .getfield 237, .getfield 30, 16, 10, 3, 0, 0, 1005),
  (16, .if_icmp .ge 47, .if_icmp .ge 47, 19, 63, 3, 0, 0, 0),
  (19, .aload_n 0, .aload 0, 20, 0, 1, 0, 0, 0),
  (20, .iload_n 1, .iload 1, 21, 0, 1, 0, 0, 0),
  (21, .invokevirtual 274, .invokevirtual 274, 24, 0, 3, 0, 0, 0),
  (24, .ifCond .eq 39, .ifCond .eq 39, 27, 63, 3, 0, 0, 0),
  (27, .iload_n 3, .iload 3, 28, 0, 1, 0, 0, 0),
  (28, .aload_n 0, .aload 0, 29, 0, 1, 0, 0, 0),
  (29, .getfield 105, .getfield 33, 32, 10, 3, 0, 0, 1008),
  (32, .iload 4, .iload 4, 34, 0, 2, 0, 0, 0),
  (34, .iaload, .iaload, 35, 0, 1, 0, 0, 0),
  (35, .iload_n 2, .iload 2, 36, 0, 1, 0, 0, 0),
  (36, .if_icmp .ne 18, .if_icmp .ne 18, 39, 54, 3, 0, 0, 0),
  (39, .aload_n 0, .aload 0, 40, 0, 1, 0, 0, 0),
  (40, .getfield 99, .getfield 31, 43, 10, 3, 0, 0, 1006),
  (43, .bipush 12, .iconst 12, 45, 0, 2, 12, 0, 0),
  (45, .iload 4, .iload 4, 47, 0, 2, 0, 0, 0),
  (47, .imul, .imul, 48, 0, 1, 0, 0, 0),
  (48, .iload_n 1, .iload 1, 49, 0, 1, 0, 0, 0),
  (49, .iadd, .iadd, 50, 0, 1, 0, 0, 0),
  (50, .iaload, .iaload, 51, 0, 1, 0, 0, 0),
  (51, .goto 4, .goto 4, 55, 0, 3, 0, 0, 0),
  (54, .iconst 0, .iconst 0, 55, 0, 1, 0, 0, 0),
  (55, .iadd, .iadd, 56, 0, 1, 0, 0, 0),
  (56, .istore_n 3, .istore 3, 57, 0, 1, 0, 0, 0),
  (57, .iinc 4 1, .iinc 4 1, 60, 0, 3, 1, 0, 0),
  (60, .goto (-50), .goto (-50), 10, 0, 3, 0, 0, 0),
  (63, .aload_n 0, .aload 0, 64, 0, 1, 0, 0, 0),
  (64, .iload_n 1, .iload 1, 65, 0, 1, 0, 0, 0),
  (65, .invokevirtual 274, .invokevirtual 274, 68, 0, 3, 0, 0, 0),
  (68, .ifCond .eq 14, .ifCond .eq 14, 71, 82, 3, 0, 0, 0),
  (71, .iload_n 2, .iload 2, 72, 0, 1, 0, 0, 0),
  (72, .invokestatic 343, .invokestatic 343, 75, 0, 3, 0, 0, 0),
  (75, .ifCond .eq 7, .ifCond .eq 7, 78, 82, 3, 0, 0, 0),
  (78, .iload_n 3, .iload 3, 79, 0, 1, 0, 0, 0),
  (79, .goto 4, .goto 4, 83, 0, 3, 0, 0, 0),
  (82, .iconst (-1), .iconst (-1), 83, 0, 1, (-1), 0, 0),
  (83, .ireturn, .ireturn, 84, 0, 1, 0, 0, 0)])
set_option maxRecDepth 100000 in
theorem okX10_led : okm mX10_led = true := by decide +kernel
def mX10_count : mt_T := (yX10_count, cX10_count, 4, (some .int), [
  (0, .aload_n 0, .aload 0, 1, 0, 1, 0, 0, 0),
  (1, .iconst 0, .iconst 0, 2, 0, 1, 0, 0, 0),
  (2, .putfield 1, .putfield 0, 5, 10, 3, 0, 0, 975),
  (5, .iconst 0, .iconst 0, 6, 0, 1, 0, 0, 0),
  (6, .istore_n 2, .istore 2, 7, 0, 1, 0, 0, 0),
  (7, .iconst 0, .iconst 0, 8, 0, 1, 0, 0, 0),
  (8, .istore_n 3, .istore 3, 9, 0, 1, 0, 0, 0),
  (9, .iload_n 3, .iload 3, 10, 0, 1, 0, 0, 0),
  (10, .aload_n 0, .aload 0, 11, 0, 1, 0, 0, 0),
  (11, .getfield 237, .getfield 30, 14, 10, 3, 0, 0, 1005),
  (14, .if_icmp .ge 17, .if_icmp .ge 17, 17, 31, 3, 0, 0, 0),
  (17, .iload_n 2, .iload 2, 18, 0, 1, 0, 0, 0),
  (18, .aload_n 0, .aload 0, 19, 0, 1, 0, 0, 0),
  (19, .iload_n 3, .iload 3, 20, 0, 1, 0, 0, 0),
  (20, .invokevirtual 289, .invokevirtual 289, 23, 0, 3, 0, 0, 0),
  (23, .iadd, .iadd, 24, 0, 1, 0, 0, 0),
  (24, .istore_n 2, .istore 2, 25, 0, 1, 0, 0, 0),
  (25, .iinc 3 1, .iinc 3 1, 28, 0, 3, 1, 0, 0),
  (28, .goto (-19), .goto (-19), 9, 0, 3, 0, 0, 0),
  (31, .iload_n 1, .iload 1, 32, 0, 1, 0, 0, 0),
  (32, .tableswitch 81 0 6 #[44, 49, 54, 59, 69, 74, 79], .tableswitch 81 0 6 #[44, 49, 54, 59, 69, 74, 79], 76, 0, 44, 0, 0, 0),
  (76, .aload_n 0, .aload 0, 77, 0, 1, 0, 0, 0),
  (77, .getfield 234, .getfield 26, 80, 10, 3, 0, 0, 1001),
  (80, .ireturn, .ireturn, 81, 0, 1, 0, 0, 0),
  (81, .aload_n 0, .aload 0, 82, 0, 1, 0, 0, 0),
  (82, .getfield 237, .getfield 30, 85, 10, 3, 0, 0, 1005),
  (85, .ireturn, .ireturn, 86, 0, 1, 0, 0, 0),
  (86, .aload_n 0, .aload 0, 87, 0, 1, 0, 0, 0),
  (87, .getfield 240, .getfield 25, 90, 10, 3, 0, 0, 1000),
  (90, .ireturn, .ireturn, 91, 0, 1, 0, 0, 0),
  (91, .aload_n 0, .aload 0, 92, 0, 1, 0, 0, 0),
  (92, .getfield 57, .getfield 10, 95, 10, 3, 0, 0, 985),
  (95, .aload_n 0, .aload 0, 96, 0, 1, 0, 0, 0),
  (96, .getfield 192, .getfield 16, 99, 10, 3, 0, 0, 991),
  (99, .iaload, .iaload, 100, 0, 1, 0, 0, 0),
  (100, .ireturn, .ireturn, 101, 0, 1, 0, 0, 0),
  (101, .aload_n 0, .aload 0, 102, 0, 1, 0, 0, 0),
  (102, .getfield 11, .getfield 2, 105, 10, 3, 0, 0, 977),
  (105, .ireturn, .ireturn, 106, 0, 1, 0, 0, 0),
  (106, .aload_n 0, .aload 0, 107, 0, 1, 0, 0, 0),
  (107, .getfield 292, .getfield 44, 110, 10, 3, 0, 0, 1019),
  (110, .ireturn, .ireturn, 111, 0, 1, 0, 0, 0),
  (111, .iload_n 2, .iload 2, 112, 0, 1, 0, 0, 0),
  (112, .ireturn, .ireturn, 113, 0, 1, 0, 0, 0),
  (113, .iconst (-1), .iconst (-1), 114, 0, 1, (-1), 0, 0),
  (114, .ireturn, .ireturn, 115, 0, 1, 0, 0, 0)])
set_option maxRecDepth 100000 in
theorem okX10_count : okm mX10_count = true := by decide +kernel
end
section
/-! what a call needs of the tables -/
def lC (y' : mt_T) (n : Nat) : Prop := Cond.code y'.1 y'.2.1 y'.2.2.1 y'.2.2.2.1 ∈ gT ∧ Cond.initialized y'.1.cls ∈ gT ∧ (y'.1.cls ≠ "java/lang/invoke/MethodHandle" ∧ y'.1.cls ≠ "java/lang/invoke/VarHandle" ∧ (parseMethodDescriptor y'.1.desc).map (fun d => d.parameters.length) = some n) ∧ y'.2.2.1 ≤ 21
def lV (own : String) (x : Nat) (y' : mt_T) (n : Nat) : Prop := lC y' n ∧ Cond.methodLink own x y'.1 ∈ gT ∧ Cond.instanceMethod y'.1 ∈ gT ∧ Cond.selects y'.1.cls y'.1 y'.1 ∈ gT
def lS (own : String) (x : Nat) (y' : mt_T) (n : Nat) : Prop := lC y' n ∧ Cond.methodLink own x y'.1 ∈ gT ∧ Cond.static y'.1 ∈ gT
def lN2 (own : String) (x : Nat) (y' : mt_T) (n : Nat) : Prop := lC y' n ∧ (own, x) ∈ nests ∧ y'.1 = yX9_within ∧ Cond.static y'.1 ∈ gT
def lI (own : String) (x : Nat) (y' : mt_T) (n : Nat) : Prop := lC y' n ∧ Cond.methodLink own x y'.1 ∈ gT ∧ Cond.instanceMethod y'.1 ∈ gT ∧ y'.1.name = "<init>" ∧ y'.2.2.2.1 = none
/-! calls: what they need of the tables -/
set_option maxRecDepth 100000 in
theorem lcJ13_compare_74951 : lC mJ13_compare_74951 2 := ⟨gT_of (List.mem_of_getElem? (i := 768) rfl) rfl, gT_of (List.mem_of_getElem? (i := 83) rfl) rfl, by decide +kernel, by decide⟩
set_option maxRecDepth 100000 in
theorem lcJ6_bitCount_0f7a4 : lC mJ6_bitCount_0f7a4 1 := ⟨gT_of (List.mem_of_getElem? (i := 801) rfl) rfl, gT_of (List.mem_of_getElem? (i := 84) rfl) rfl, by decide +kernel, by decide⟩
set_option maxRecDepth 100000 in
theorem lcJ7_fill_53178 : lC mJ7_fill_53178 2 := ⟨gT_of (List.mem_of_getElem? (i := 226) rfl) rfl, gT_of (List.mem_of_getElem? (i := 69) rfl) rfl, by decide +kernel, by decide⟩
set_option maxRecDepth 100000 in
theorem lcJ9_abs_0f7a4 : lC mJ9_abs_0f7a4 1 := ⟨gT_of (List.mem_of_getElem? (i := 621) rfl) rfl, gT_of (List.mem_of_getElem? (i := 78) rfl) rfl, by decide +kernel, by decide⟩
set_option maxRecDepth 100000 in
theorem lcJ9_floorDiv_f86c9 : lC mJ9_floorDiv_f86c9 2 := ⟨gT_of (List.mem_of_getElem? (i := 781) rfl) rfl, gT_of (List.mem_of_getElem? (i := 78) rfl) rfl, by decide +kernel, by decide⟩
set_option maxRecDepth 100000 in
theorem lcJ9_max_7cf53 : lC mJ9_max_7cf53 2 := ⟨gT_of (List.mem_of_getElem? (i := 624) rfl) rfl, gT_of (List.mem_of_getElem? (i := 78) rfl) rfl, by decide +kernel, by decide⟩
set_option maxRecDepth 100000 in
theorem lcJ9_min_7cf53 : lC mJ9_min_7cf53 2 := ⟨gT_of (List.mem_of_getElem? (i := 614) rfl) rfl, gT_of (List.mem_of_getElem? (i := 78) rfl) rfl, by decide +kernel, by decide⟩
set_option maxRecDepth 100000 in
theorem lcX0_addEmpty : lC mX0_addEmpty 1 := ⟨gT_of (List.mem_of_getElem? (i := 668) rfl) rfl, gT_of (List.mem_of_getElem? (i := 70) rfl) rfl, by decide +kernel, by decide⟩
set_option maxRecDepth 100000 in
theorem lcX0_addOfOneLot : lC mX0_addOfOneLot 3 := ⟨gT_of (List.mem_of_getElem? (i := 664) rfl) rfl, gT_of (List.mem_of_getElem? (i := 70) rfl) rfl, by decide +kernel, by decide⟩
set_option maxRecDepth 100000 in
theorem lcX0_allGrams : lC mX0_allGrams 0 := ⟨gT_of (List.mem_of_getElem? (i := 873) rfl) rfl, gT_of (List.mem_of_getElem? (i := 70) rfl) rfl, by decide +kernel, by decide⟩
set_option maxRecDepth 100000 in
theorem lcX0_bagWith : lC mX0_bagWith 2 := ⟨gT_of (List.mem_of_getElem? (i := 857) rfl) rfl, gT_of (List.mem_of_getElem? (i := 70) rfl) rfl, by decide +kernel, by decide⟩
set_option maxRecDepth 100000 in
theorem lcX0_blendTaken : lC mX0_blendTaken 0 := ⟨gT_of (List.mem_of_getElem? (i := 697) rfl) rfl, gT_of (List.mem_of_getElem? (i := 70) rfl) rfl, by decide +kernel, by decide⟩
set_option maxRecDepth 100000 in
theorem lcX0_gramsIn : lC mX0_gramsIn 2 := ⟨gT_of (List.mem_of_getElem? (i := 865) rfl) rfl, gT_of (List.mem_of_getElem? (i := 70) rfl) rfl, by decide +kernel, by decide⟩
set_option maxRecDepth 100000 in
theorem lcX0_has : lC mX0_has 1 := ⟨gT_of (List.mem_of_getElem? (i := 688) rfl) rfl, gT_of (List.mem_of_getElem? (i := 70) rfl) rfl, by decide +kernel, by decide⟩
set_option maxRecDepth 100000 in
theorem lcX0_init : lC mX0_init 0 := ⟨gT_of (List.mem_of_getElem? (i := 273) rfl) rfl, gT_of (List.mem_of_getElem? (i := 70) rfl) rfl, by decide +kernel, by decide⟩
set_option maxRecDepth 100000 in
theorem lcX0_lotOfGreatestRest : lC mX0_lotOfGreatestRest 0 := ⟨gT_of (List.mem_of_getElem? (i := 714) rfl) rfl, gT_of (List.mem_of_getElem? (i := 70) rfl) rfl, by decide +kernel, by decide⟩
set_option maxRecDepth 100000 in
theorem lcX0_lotsIn : lC mX0_lotsIn 1 := ⟨gT_of (List.mem_of_getElem? (i := 946) rfl) rfl, gT_of (List.mem_of_getElem? (i := 70) rfl) rfl, by decide +kernel, by decide⟩
set_option maxRecDepth 100000 in
theorem lcX0_olderIn : lC mX0_olderIn 2 := ⟨gT_of (List.mem_of_getElem? (i := 849) rfl) rfl, gT_of (List.mem_of_getElem? (i := 70) rfl) rfl, by decide +kernel, by decide⟩
set_option maxRecDepth 100000 in
theorem lcX0_partOf : lC mX0_partOf 2 := ⟨gT_of (List.mem_of_getElem? (i := 710) rfl) rfl, gT_of (List.mem_of_getElem? (i := 70) rfl) rfl, by decide +kernel, by decide⟩
set_option maxRecDepth 100000 in
theorem lcX0_pour : lC mX0_pour 3 := ⟨gT_of (List.mem_of_getElem? (i := 701) rfl) rfl, gT_of (List.mem_of_getElem? (i := 70) rfl) rfl, by decide +kernel, by decide⟩
set_option maxRecDepth 100000 in
theorem lcX0_sendTo : lC mX0_sendTo 2 := ⟨gT_of (List.mem_of_getElem? (i := 837) rfl) rfl, gT_of (List.mem_of_getElem? (i := 70) rfl) rfl, by decide +kernel, by decide⟩
set_option maxRecDepth 100000 in
theorem lcX0_shareOut : lC mX0_shareOut 2 := ⟨gT_of (List.mem_of_getElem? (i := 705) rfl) rfl, gT_of (List.mem_of_getElem? (i := 70) rfl) rfl, by decide +kernel, by decide⟩
set_option maxRecDepth 100000 in
theorem lcX0_tellForBlend : lC mX0_tellForBlend 2 := ⟨gT_of (List.mem_of_getElem? (i := 684) rfl) rfl, gT_of (List.mem_of_getElem? (i := 70) rfl) rfl, by decide +kernel, by decide⟩
set_option maxRecDepth 100000 in
theorem lcX10_actsBy : lC mX10_actsBy 1 := ⟨gT_of (List.mem_of_getElem? (i := 1264) rfl) rfl, gT_of (List.mem_of_getElem? (i := 73) rfl) rfl, by decide +kernel, by decide⟩
set_option maxRecDepth 100000 in
theorem lcX10_asks : lC mX10_asks 1 := ⟨gT_of (List.mem_of_getElem? (i := 1350) rfl) rfl, gT_of (List.mem_of_getElem? (i := 73) rfl) rfl, by decide +kernel, by decide⟩
set_option maxRecDepth 100000 in
theorem lcX10_cutAll : lC mX10_cutAll 0 := ⟨gT_of (List.mem_of_getElem? (i := 1164) rfl) rfl, gT_of (List.mem_of_getElem? (i := 73) rfl) rfl, by decide +kernel, by decide⟩
set_option maxRecDepth 100000 in
theorem lcX10_emit : lC mX10_emit 2 := ⟨gT_of (List.mem_of_getElem? (i := 1224) rfl) rfl, gT_of (List.mem_of_getElem? (i := 73) rfl) rfl, by decide +kernel, by decide⟩
set_option maxRecDepth 100000 in
theorem lcX10_gives : lC mX10_gives 4 := ⟨gT_of (List.mem_of_getElem? (i := 1300) rfl) rfl, gT_of (List.mem_of_getElem? (i := 73) rfl) rfl, by decide +kernel, by decide⟩
set_option maxRecDepth 100000 in
theorem lcX10_goes : lC mX10_goes 1 := ⟨gT_of (List.mem_of_getElem? (i := 1260) rfl) rfl, gT_of (List.mem_of_getElem? (i := 73) rfl) rfl, by decide +kernel, by decide⟩
set_option maxRecDepth 100000 in
theorem lcX10_goesOnBehind : lC mX10_goesOnBehind 0 := ⟨gT_of (List.mem_of_getElem? (i := 1228) rfl) rfl, gT_of (List.mem_of_getElem? (i := 73) rfl) rfl, by decide +kernel, by decide⟩
set_option maxRecDepth 100000 in
theorem lcX10_gramsIn : lC mX10_gramsIn 1 := ⟨gT_of (List.mem_of_getElem? (i := 1288) rfl) rfl, gT_of (List.mem_of_getElem? (i := 73) rfl) rfl, by decide +kernel, by decide⟩
set_option maxRecDepth 100000 in
theorem lcX10_hasSign : lC mX10_hasSign 1 := ⟨gT_of (List.mem_of_getElem? (i := 1220) rfl) rfl, gT_of (List.mem_of_getElem? (i := 73) rfl) rfl, by decide +kernel, by decide⟩
set_option maxRecDepth 100000 in
theorem lcX10_hasWord : lC mX10_hasWord 1 := ⟨gT_of (List.mem_of_getElem? (i := 1200) rfl) rfl, gT_of (List.mem_of_getElem? (i := 73) rfl) rfl, by decide +kernel, by decide⟩
set_option maxRecDepth 100000 in
theorem lcX10_isBag : lC mX10_isBag 1 := ⟨gT_of (List.mem_of_getElem? (i := 1284) rfl) rfl, gT_of (List.mem_of_getElem? (i := 73) rfl) rfl, by decide +kernel, by decide⟩
set_option maxRecDepth 100000 in
theorem lcX10_isDigit : lC mX10_isDigit 1 := ⟨gT_of (List.mem_of_getElem? (i := 1174) rfl) rfl, gT_of (List.mem_of_getElem? (i := 73) rfl) rfl, by decide +kernel, by decide⟩
set_option maxRecDepth 100000 in
theorem lcX10_isHouse : lC mX10_isHouse 1 := ⟨gT_of (List.mem_of_getElem? (i := 1365) rfl) rfl, gT_of (List.mem_of_getElem? (i := 73) rfl) rfl, by decide +kernel, by decide⟩
set_option maxRecDepth 100000 in
theorem lcX10_isInSpans : lC mX10_isInSpans 0 := ⟨gT_of (List.mem_of_getElem? (i := 1354) rfl) rfl, gT_of (List.mem_of_getElem? (i := 73) rfl) rfl, by decide +kernel, by decide⟩
set_option maxRecDepth 100000 in
theorem lcX10_isLetter : lC mX10_isLetter 1 := ⟨gT_of (List.mem_of_getElem? (i := 1167) rfl) rfl, gT_of (List.mem_of_getElem? (i := 73) rfl) rfl, by decide +kernel, by decide⟩
set_option maxRecDepth 100000 in
theorem lcX10_isLot : lC mX10_isLot 1 := ⟨gT_of (List.mem_of_getElem? (i := 1256) rfl) rfl, gT_of (List.mem_of_getElem? (i := 73) rfl) rfl, by decide +kernel, by decide⟩
set_option maxRecDepth 100000 in
theorem lcX10_isSample : lC mX10_isSample 1 := ⟨gT_of (List.mem_of_getElem? (i := 1315) rfl) rfl, gT_of (List.mem_of_getElem? (i := 73) rfl) rfl, by decide +kernel, by decide⟩
set_option maxRecDepth 100000 in
theorem lcX10_isSign : lC mX10_isSign 1 := ⟨gT_of (List.mem_of_getElem? (i := 1216) rfl) rfl, gT_of (List.mem_of_getElem? (i := 73) rfl) rfl, by decide +kernel, by decide⟩
set_option maxRecDepth 100000 in
theorem lcX10_isSignOf : lC mX10_isSignOf 1 := ⟨gT_of (List.mem_of_getElem? (i := 1179) rfl) rfl, gT_of (List.mem_of_getElem? (i := 73) rfl) rfl, by decide +kernel, by decide⟩
set_option maxRecDepth 100000 in
theorem lcX10_isTaste : lC mX10_isTaste 1 := ⟨gT_of (List.mem_of_getElem? (i := 1240) rfl) rfl, gT_of (List.mem_of_getElem? (i := 73) rfl) rfl, by decide +kernel, by decide⟩
set_option maxRecDepth 100000 in
theorem lcX10_isWord : lC mX10_isWord 1 := ⟨gT_of (List.mem_of_getElem? (i := 1187) rfl) rfl, gT_of (List.mem_of_getElem? (i := 73) rfl) rfl, by decide +kernel, by decide⟩
set_option maxRecDepth 100000 in
theorem lcX10_lay : lC mX10_lay 1 := ⟨gT_of (List.mem_of_getElem? (i := 959) rfl) rfl, gT_of (List.mem_of_getElem? (i := 73) rfl) rfl, by decide +kernel, by decide⟩
set_option maxRecDepth 100000 in
theorem lcX10_line : lC mX10_line 0 := ⟨gT_of (List.mem_of_getElem? (i := 1183) rfl) rfl, gT_of (List.mem_of_getElem? (i := 73) rfl) rfl, by decide +kernel, by decide⟩
set_option maxRecDepth 100000 in
theorem lcX10_moves : lC mX10_moves 3 := ⟨gT_of (List.mem_of_getElem? (i := 1296) rfl) rfl, gT_of (List.mem_of_getElem? (i := 73) rfl) rfl, by decide +kernel, by decide⟩
set_option maxRecDepth 100000 in
theorem lcX10_newBag : lC mX10_newBag 1 := ⟨gT_of (List.mem_of_getElem? (i := 1272) rfl) rfl, gT_of (List.mem_of_getElem? (i := 73) rfl) rfl, by decide +kernel, by decide⟩
set_option maxRecDepth 100000 in
theorem lcX10_opens : lC mX10_opens 0 := ⟨gT_of (List.mem_of_getElem? (i := 1204) rfl) rfl, gT_of (List.mem_of_getElem? (i := 73) rfl) rfl, by decide +kernel, by decide⟩
set_option maxRecDepth 100000 in
theorem lcX10_part : lC mX10_part 0 := ⟨gT_of (List.mem_of_getElem? (i := 1208) rfl) rfl, gT_of (List.mem_of_getElem? (i := 73) rfl) rfl, by decide +kernel, by decide⟩
set_option maxRecDepth 100000 in
theorem lcX10_partWord : lC mX10_partWord 0 := ⟨gT_of (List.mem_of_getElem? (i := 1212) rfl) rfl, gT_of (List.mem_of_getElem? (i := 73) rfl) rfl, by decide +kernel, by decide⟩
set_option maxRecDepth 100000 in
theorem lcX10_rank : lC mX10_rank 1 := ⟨gT_of (List.mem_of_getElem? (i := 1171) rfl) rfl, gT_of (List.mem_of_getElem? (i := 73) rfl) rfl, by decide +kernel, by decide⟩
set_option maxRecDepth 100000 in
theorem lcX10_takeSign : lC mX10_takeSign 1 := ⟨gT_of (List.mem_of_getElem? (i := 1232) rfl) rfl, gT_of (List.mem_of_getElem? (i := 73) rfl) rfl, by decide +kernel, by decide⟩
set_option maxRecDepth 100000 in
theorem lcX10_takeWord : lC mX10_takeWord 1 := ⟨gT_of (List.mem_of_getElem? (i := 1196) rfl) rfl, gT_of (List.mem_of_getElem? (i := 73) rfl) rfl, by decide +kernel, by decide⟩
set_option maxRecDepth 100000 in
theorem lcX10_tries : lC mX10_tries 3 := ⟨gT_of (List.mem_of_getElem? (i := 1346) rfl) rfl, gT_of (List.mem_of_getElem? (i := 73) rfl) rfl, by decide +kernel, by decide⟩
set_option maxRecDepth 100000 in
theorem lcX10_valueOf : lC mX10_valueOf 1 := ⟨gT_of (List.mem_of_getElem? (i := 1268) rfl) rfl, gT_of (List.mem_of_getElem? (i := 73) rfl) rfl, by decide +kernel, by decide⟩
set_option maxRecDepth 100000 in
theorem lcX10_weighs : lC mX10_weighs 1 := ⟨gT_of (List.mem_of_getElem? (i := 1327) rfl) rfl, gT_of (List.mem_of_getElem? (i := 73) rfl) rfl, by decide +kernel, by decide⟩
set_option maxRecDepth 100000 in
theorem lcX10_wrong : lC mX10_wrong 1 := ⟨gT_of (List.mem_of_getElem? (i := 1191) rfl) rfl, gT_of (List.mem_of_getElem? (i := 73) rfl) rfl, by decide +kernel, by decide⟩
set_option maxRecDepth 100000 in
theorem lcX1_gather : lC mX1_gather 3 := ⟨gT_of (List.mem_of_getElem? (i := 809) rfl) rfl, gT_of (List.mem_of_getElem? (i := 72) rfl) rfl, by decide +kernel, by decide⟩
set_option maxRecDepth 100000 in
theorem lcX1_init : lC mX1_init 0 := ⟨gT_of (List.mem_of_getElem? (i := 332) rfl) rfl, gT_of (List.mem_of_getElem? (i := 72) rfl) rfl, by decide +kernel, by decide⟩
set_option maxRecDepth 100000 in
theorem lcX1_keepAsLatest : lC mX1_keepAsLatest 0 := ⟨gT_of (List.mem_of_getElem? (i := 825) rfl) rfl, gT_of (List.mem_of_getElem? (i := 72) rfl) rfl, by decide +kernel, by decide⟩
set_option maxRecDepth 100000 in
theorem lcX1_search : lC mX1_search 3 := ⟨gT_of (List.mem_of_getElem? (i := 798) rfl) rfl, gT_of (List.mem_of_getElem? (i := 72) rfl) rfl, by decide +kernel, by decide⟩
set_option maxRecDepth 100000 in
theorem lcX1_setSpan : lC mX1_setSpan 3 := ⟨gT_of (List.mem_of_getElem? (i := 789) rfl) rfl, gT_of (List.mem_of_getElem? (i := 72) rfl) rfl, by decide +kernel, by decide⟩
set_option maxRecDepth 100000 in
theorem lcX1_tastesFit : lC mX1_tastesFit 1 := ⟨gT_of (List.mem_of_getElem? (i := 818) rfl) rfl, gT_of (List.mem_of_getElem? (i := 72) rfl) rfl, by decide +kernel, by decide⟩
set_option maxRecDepth 100000 in
theorem lcX1_tryMember : lC mX1_tryMember 4 := ⟨gT_of (List.mem_of_getElem? (i := 814) rfl) rfl, gT_of (List.mem_of_getElem? (i := 72) rfl) rfl, by decide +kernel, by decide⟩
set_option maxRecDepth 100000 in
theorem lcX2_compare : lC mX2_compare 2 := ⟨gT_of (List.mem_of_getElem? (i := 749) rfl) rfl, gT_of (List.mem_of_getElem? (i := 71) rfl) rfl, by decide +kernel, by decide⟩
set_option maxRecDepth 100000 in
theorem lcX2_excessOf : lC mX2_excessOf 1 := ⟨gT_of (List.mem_of_getElem? (i := 765) rfl) rfl, gT_of (List.mem_of_getElem? (i := 71) rfl) rfl, by decide +kernel, by decide⟩
set_option maxRecDepth 100000 in
theorem lcX2_giveMark : lC mX2_giveMark 3 := ⟨gT_of (List.mem_of_getElem? (i := 729) rfl) rfl, gT_of (List.mem_of_getElem? (i := 71) rfl) rfl, by decide +kernel, by decide⟩
set_option maxRecDepth 100000 in
theorem lcX2_hasSample : lC mX2_hasSample 1 := ⟨gT_of (List.mem_of_getElem? (i := 733) rfl) rfl, gT_of (List.mem_of_getElem? (i := 71) rfl) rfl, by decide +kernel, by decide⟩
set_option maxRecDepth 100000 in
theorem lcX2_init : lC mX2_init 0 := ⟨gT_of (List.mem_of_getElem? (i := 312) rfl) rfl, gT_of (List.mem_of_getElem? (i := 71) rfl) rfl, by decide +kernel, by decide⟩
set_option maxRecDepth 100000 in
theorem lcX2_isToldAndMarked : lC mX2_isToldAndMarked 2 := ⟨gT_of (List.mem_of_getElem? (i := 761) rfl) rfl, gT_of (List.mem_of_getElem? (i := 71) rfl) rfl, by decide +kernel, by decide⟩
set_option maxRecDepth 100000 in
theorem lcX2_tellWorth : lC mX2_tellWorth 2 := ⟨gT_of (List.mem_of_getElem? (i := 741) rfl) rfl, gT_of (List.mem_of_getElem? (i := 71) rfl) rfl, by decide +kernel, by decide⟩
set_option maxRecDepth 100000 in
theorem lcX2_thousandths : lC mX2_thousandths 1 := ⟨gT_of (List.mem_of_getElem? (i := 776) rfl) rfl, gT_of (List.mem_of_getElem? (i := 71) rfl) rfl, by decide +kernel, by decide⟩
set_option maxRecDepth 100000 in
theorem lcX2_toldMarkedBy : lC mX2_toldMarkedBy 1 := ⟨gT_of (List.mem_of_getElem? (i := 757) rfl) rfl, gT_of (List.mem_of_getElem? (i := 71) rfl) rfl, by decide +kernel, by decide⟩
set_option maxRecDepth 100000 in
theorem lcX2_weigh : lC mX2_weigh 1 := ⟨gT_of (List.mem_of_getElem? (i := 753) rfl) rfl, gT_of (List.mem_of_getElem? (i := 71) rfl) rfl, by decide +kernel, by decide⟩
set_option maxRecDepth 100000 in
theorem lcX3_add : lC mX3_add 5 := ⟨gT_of (List.mem_of_getElem? (i := 413) rfl) rfl, gT_of (List.mem_of_getElem? (i := 63) rfl) rfl, by decide +kernel, by decide⟩
set_option maxRecDepth 100000 in
theorem lcX3_has : lC mX3_has 1 := ⟨gT_of (List.mem_of_getElem? (i := 611) rfl) rfl, gT_of (List.mem_of_getElem? (i := 63) rfl) rfl, by decide +kernel, by decide⟩
set_option maxRecDepth 100000 in
theorem lcX3_init : lC mX3_init 0 := ⟨gT_of (List.mem_of_getElem? (i := 98) rfl) rfl, gT_of (List.mem_of_getElem? (i := 63) rfl) rfl, by decide +kernel, by decide⟩
set_option maxRecDepth 100000 in
theorem lcX4_doAct : lC mX4_doAct 2 := ⟨gT_of (List.mem_of_getElem? (i := 655) rfl) rfl, gT_of (List.mem_of_getElem? (i := 68) rfl) rfl, by decide +kernel, by decide⟩
set_option maxRecDepth 100000 in
theorem lcX4_goThrough : lC mX4_goThrough 1 := ⟨gT_of (List.mem_of_getElem? (i := 628) rfl) rfl, gT_of (List.mem_of_getElem? (i := 68) rfl) rfl, by decide +kernel, by decide⟩
set_option maxRecDepth 100000 in
theorem lcX4_grow : lC mX4_grow 0 := ⟨gT_of (List.mem_of_getElem? (i := 659) rfl) rfl, gT_of (List.mem_of_getElem? (i := 68) rfl) rfl, by decide +kernel, by decide⟩
set_option maxRecDepth 100000 in
theorem lcX4_init : lC mX4_init 0 := ⟨gT_of (List.mem_of_getElem? (i := 222) rfl) rfl, gT_of (List.mem_of_getElem? (i := 68) rfl) rfl, by decide +kernel, by decide⟩
set_option maxRecDepth 100000 in
theorem lcX4_run : lC mX4_run 2 := ⟨gT_of (List.mem_of_getElem? (i := 618) rfl) rfl, gT_of (List.mem_of_getElem? (i := 68) rfl) rfl, by decide +kernel, by decide⟩
set_option maxRecDepth 100000 in
theorem lcX4_start : lC mX4_start 1 := ⟨gT_of (List.mem_of_getElem? (i := 230) rfl) rfl, gT_of (List.mem_of_getElem? (i := 68) rfl) rfl, by decide +kernel, by decide⟩
set_option maxRecDepth 100000 in
theorem lcX4_tell : lC mX4_tell 1 := ⟨gT_of (List.mem_of_getElem? (i := 676) rfl) rfl, gT_of (List.mem_of_getElem? (i := 68) rfl) rfl, by decide +kernel, by decide⟩
set_option maxRecDepth 100000 in
theorem lcX4_tellCurve : lC mX4_tellCurve 2 := ⟨gT_of (List.mem_of_getElem? (i := 425) rfl) rfl, gT_of (List.mem_of_getElem? (i := 68) rfl) rfl, by decide +kernel, by decide⟩
set_option maxRecDepth 100000 in
theorem lcX4_valueNow : lC mX4_valueNow 1 := ⟨gT_of (List.mem_of_getElem? (i := 651) rfl) rfl, gT_of (List.mem_of_getElem? (i := 68) rfl) rfl, by decide +kernel, by decide⟩
set_option maxRecDepth 100000 in
theorem lcX5_exchange : lC mX5_exchange 1 := ⟨gT_of (List.mem_of_getElem? (i := 603) rfl) rfl, gT_of (List.mem_of_getElem? (i := 65) rfl) rfl, by decide +kernel, by decide⟩
set_option maxRecDepth 100000 in
theorem lcX5_init : lC mX5_init 1 := ⟨gT_of (List.mem_of_getElem? (i := 141) rfl) rfl, gT_of (List.mem_of_getElem? (i := 65) rfl) rfl, by decide +kernel, by decide⟩
set_option maxRecDepth 100000 in
theorem lcX5_isName : lC mX5_isName 1 := ⟨gT_of (List.mem_of_getElem? (i := 582) rfl) rfl, gT_of (List.mem_of_getElem? (i := 65) rfl) rfl, by decide +kernel, by decide⟩
set_option maxRecDepth 100000 in
theorem lcX5_isPlusOrMinus : lC mX5_isPlusOrMinus 1 := ⟨gT_of (List.mem_of_getElem? (i := 595) rfl) rfl, gT_of (List.mem_of_getElem? (i := 65) rfl) rfl, by decide +kernel, by decide⟩
set_option maxRecDepth 100000 in
theorem lcX5_pass : lC mX5_pass 1 := ⟨gT_of (List.mem_of_getElem? (i := 563) rfl) rfl, gT_of (List.mem_of_getElem? (i := 65) rfl) rfl, by decide +kernel, by decide⟩
set_option maxRecDepth 100000 in
theorem lcX5_passAmount : lC mX5_passAmount 0 := ⟨gT_of (List.mem_of_getElem? (i := 559) rfl) rfl, gT_of (List.mem_of_getElem? (i := 65) rfl) rfl, by decide +kernel, by decide⟩
set_option maxRecDepth 100000 in
theorem lcX5_readLine : lC mX5_readLine 0 := ⟨gT_of (List.mem_of_getElem? (i := 551) rfl) rfl, gT_of (List.mem_of_getElem? (i := 65) rfl) rfl, by decide +kernel, by decide⟩
set_option maxRecDepth 100000 in
theorem lcX5_readPart : lC mX5_readPart 1 := ⟨gT_of (List.mem_of_getElem? (i := 579) rfl) rfl, gT_of (List.mem_of_getElem? (i := 65) rfl) rfl, by decide +kernel, by decide⟩
set_option maxRecDepth 100000 in
theorem lcX5_readSum : lC mX5_readSum 1 := ⟨gT_of (List.mem_of_getElem? (i := 575) rfl) rfl, gT_of (List.mem_of_getElem? (i := 65) rfl) rfl, by decide +kernel, by decide⟩
set_option maxRecDepth 100000 in
theorem lcX5_readTape : lC mX5_readTape 0 := ⟨gT_of (List.mem_of_getElem? (i := 447) rfl) rfl, gT_of (List.mem_of_getElem? (i := 65) rfl) rfl, by decide +kernel, by decide⟩
set_option maxRecDepth 100000 in
theorem lcX5_readTest : lC mX5_readTest 1 := ⟨gT_of (List.mem_of_getElem? (i := 571) rfl) rfl, gT_of (List.mem_of_getElem? (i := 65) rfl) rfl, by decide +kernel, by decide⟩
set_option maxRecDepth 100000 in
theorem lcX5_readTests : lC mX5_readTests 1 := ⟨gT_of (List.mem_of_getElem? (i := 567) rfl) rfl, gT_of (List.mem_of_getElem? (i := 65) rfl) rfl, by decide +kernel, by decide⟩
set_option maxRecDepth 100000 in
theorem lcX5_wrong : lC mX5_wrong 1 := ⟨gT_of (List.mem_of_getElem? (i := 555) rfl) rfl, gT_of (List.mem_of_getElem? (i := 65) rfl) rfl, by decide +kernel, by decide⟩
set_option maxRecDepth 100000 in
theorem lcX6_addKind : lC mX6_addKind 1 := ⟨gT_of (List.mem_of_getElem? (i := 591) rfl) rfl, gT_of (List.mem_of_getElem? (i := 67) rfl) rfl, by decide +kernel, by decide⟩
set_option maxRecDepth 100000 in
theorem lcX6_addNumber : lC mX6_addNumber 1 := ⟨gT_of (List.mem_of_getElem? (i := 587) rfl) rfl, gT_of (List.mem_of_getElem? (i := 67) rfl) rfl, by decide +kernel, by decide⟩
set_option maxRecDepth 100000 in
theorem lcX6_clear : lC mX6_clear 0 := ⟨gT_of (List.mem_of_getElem? (i := 451) rfl) rfl, gT_of (List.mem_of_getElem? (i := 67) rfl) rfl, by decide +kernel, by decide⟩
set_option maxRecDepth 100000 in
theorem lcX6_endLine : lC mX6_endLine 2 := ⟨gT_of (List.mem_of_getElem? (i := 599) rfl) rfl, gT_of (List.mem_of_getElem? (i := 67) rfl) rfl, by decide +kernel, by decide⟩
set_option maxRecDepth 100000 in
theorem lcX6_init : lC mX6_init 0 := ⟨gT_of (List.mem_of_getElem? (i := 176) rfl) rfl, gT_of (List.mem_of_getElem? (i := 67) rfl) rfl, by decide +kernel, by decide⟩
set_option maxRecDepth 100000 in
theorem lcX6_joined : lC mX6_joined 3 := ⟨gT_of (List.mem_of_getElem? (i := 647) rfl) rfl, gT_of (List.mem_of_getElem? (i := 67) rfl) rfl, by decide +kernel, by decide⟩
set_option maxRecDepth 100000 in
theorem lcX6_joins : lC mX6_joins 1 := ⟨gT_of (List.mem_of_getElem? (i := 639) rfl) rfl, gT_of (List.mem_of_getElem? (i := 67) rfl) rfl, by decide +kernel, by decide⟩
set_option maxRecDepth 100000 in
theorem lcX6_pop : lC mX6_pop 0 := ⟨gT_of (List.mem_of_getElem? (i := 644) rfl) rfl, gT_of (List.mem_of_getElem? (i := 67) rfl) rfl, by decide +kernel, by decide⟩
set_option maxRecDepth 100000 in
theorem lcX6_push : lC mX6_push 1 := ⟨gT_of (List.mem_of_getElem? (i := 636) rfl) rfl, gT_of (List.mem_of_getElem? (i := 67) rfl) rfl, by decide +kernel, by decide⟩
set_option maxRecDepth 100000 in
theorem lcX6_valueOf : lC mX6_valueOf 2 := ⟨gT_of (List.mem_of_getElem? (i := 632) rfl) rfl, gT_of (List.mem_of_getElem? (i := 67) rfl) rfl, by decide +kernel, by decide⟩
set_option maxRecDepth 100000 in
theorem lcX7_addBytes : lC mX7_addBytes 1 := ⟨gT_of (List.mem_of_getElem? (i := 434) rfl) rfl, gT_of (List.mem_of_getElem? (i := 64) rfl) rfl, by decide +kernel, by decide⟩
set_option maxRecDepth 100000 in
theorem lcX7_addSign : lC mX7_addSign 1 := ⟨gT_of (List.mem_of_getElem? (i := 438) rfl) rfl, gT_of (List.mem_of_getElem? (i := 64) rfl) rfl, by decide +kernel, by decide⟩
set_option maxRecDepth 100000 in
theorem lcX7_init : lC mX7_init 0 := ⟨gT_of (List.mem_of_getElem? (i := 124) rfl) rfl, gT_of (List.mem_of_getElem? (i := 64) rfl) rfl, by decide +kernel, by decide⟩
set_option maxRecDepth 100000 in
theorem lcX8_advance : lC mX8_advance 0 := ⟨gT_of (List.mem_of_getElem? (i := 456) rfl) rfl, gT_of (List.mem_of_getElem? (i := 66) rfl) rfl, by decide +kernel, by decide⟩
set_option maxRecDepth 100000 in
theorem lcX8_begin : lC mX8_begin 0 := ⟨gT_of (List.mem_of_getElem? (i := 152) rfl) rfl, gT_of (List.mem_of_getElem? (i := 66) rfl) rfl, by decide +kernel, by decide⟩
set_option maxRecDepth 100000 in
theorem lcX8_goBehindWord : lC mX8_goBehindWord 0 := ⟨gT_of (List.mem_of_getElem? (i := 471) rfl) rfl, gT_of (List.mem_of_getElem? (i := 66) rfl) rfl, by decide +kernel, by decide⟩
set_option maxRecDepth 100000 in
theorem lcX8_init : lC mX8_init 1 := ⟨gT_of (List.mem_of_getElem? (i := 147) rfl) rfl, gT_of (List.mem_of_getElem? (i := 66) rfl) rfl, by decide +kernel, by decide⟩
set_option maxRecDepth 100000 in
theorem lcX8_isBlank : lC mX8_isBlank 1 := ⟨gT_of (List.mem_of_getElem? (i := 463) rfl) rfl, gT_of (List.mem_of_getElem? (i := 66) rfl) rfl, by decide +kernel, by decide⟩
set_option maxRecDepth 100000 in
theorem lcX8_isDigit : lC mX8_isDigit 1 := ⟨gT_of (List.mem_of_getElem? (i := 540) rfl) rfl, gT_of (List.mem_of_getElem? (i := 66) rfl) rfl, by decide +kernel, by decide⟩
set_option maxRecDepth 100000 in
theorem lcX8_isLetter : lC mX8_isLetter 1 := ⟨gT_of (List.mem_of_getElem? (i := 466) rfl) rfl, gT_of (List.mem_of_getElem? (i := 66) rfl) rfl, by decide +kernel, by decide⟩
set_option maxRecDepth 100000 in
theorem lcX8_isWord : lC mX8_isWord 1 := ⟨gT_of (List.mem_of_getElem? (i := 480) rfl) rfl, gT_of (List.mem_of_getElem? (i := 66) rfl) rfl, by decide +kernel, by decide⟩
set_option maxRecDepth 100000 in
theorem lcX8_kindOfSign : lC mX8_kindOfSign 1 := ⟨gT_of (List.mem_of_getElem? (i := 547) rfl) rfl, gT_of (List.mem_of_getElem? (i := 66) rfl) rfl, by decide +kernel, by decide⟩
set_option maxRecDepth 100000 in
theorem lcX8_kindOfWord : lC mX8_kindOfWord 1 := ⟨gT_of (List.mem_of_getElem? (i := 475) rfl) rfl, gT_of (List.mem_of_getElem? (i := 66) rfl) rfl, by decide +kernel, by decide⟩
set_option maxRecDepth 100000 in
theorem lcX8_readNumber : lC mX8_readNumber 0 := ⟨gT_of (List.mem_of_getElem? (i := 544) rfl) rfl, gT_of (List.mem_of_getElem? (i := 66) rfl) rfl, by decide +kernel, by decide⟩
set_option maxRecDepth 100000 in
theorem lcX8_skipBlanks : lC mX8_skipBlanks 0 := ⟨gT_of (List.mem_of_getElem? (i := 460) rfl) rfl, gT_of (List.mem_of_getElem? (i := 66) rfl) rfl, by decide +kernel, by decide⟩
set_option maxRecDepth 100000 in
theorem lcX9_within : lC mX9_within 3 := ⟨gT_of (List.mem_of_getElem? (i := 409) rfl) rfl, gT_of (List.mem_of_getElem? (i := 62) rfl) rfl, by decide +kernel, by decide⟩
set_option maxRecDepth 100000 in
theorem LX0_40 : lV RX0 40 mX0_addEmpty 1 := ⟨lcX0_addEmpty, gT_of (List.mem_of_getElem? (i := 665) rfl) rfl, gT_of (List.mem_of_getElem? (i := 667) rfl) rfl, gT_of (List.mem_of_getElem? (i := 20) rfl) rfl⟩
set_option maxRecDepth 100000 in
theorem LX0_44 : lV RX0 44 mX0_partOf 2 := ⟨lcX0_partOf, gT_of (List.mem_of_getElem? (i := 707) rfl) rfl, gT_of (List.mem_of_getElem? (i := 708) rfl) rfl, gT_of (List.mem_of_getElem? (i := 709) rfl) rfl⟩
set_option maxRecDepth 100000 in
theorem LX0_48 : lV RX0 48 mX0_has 1 := ⟨lcX0_has, gT_of (List.mem_of_getElem? (i := 685) rfl) rfl, gT_of (List.mem_of_getElem? (i := 686) rfl) rfl, gT_of (List.mem_of_getElem? (i := 687) rfl) rfl⟩
set_option maxRecDepth 100000 in
theorem LX0_52 : lS RX0 52 mX9_within 3 ∨ lN2 RX0 52 mX9_within 3 := Or.inr ⟨lcX9_within, by decide +kernel, rfl, gT_of (List.mem_of_getElem? (i := 408) rfl) rfl⟩
set_option maxRecDepth 100000 in
theorem LX0_56 : lV RX0 56 mX0_pour 3 := ⟨lcX0_pour, gT_of (List.mem_of_getElem? (i := 698) rfl) rfl, gT_of (List.mem_of_getElem? (i := 700) rfl) rfl, gT_of (List.mem_of_getElem? (i := 21) rfl) rfl⟩
set_option maxRecDepth 100000 in
theorem LX0_60 : lS RX0 60 mJ9_min_7cf53 2 ∨ lN2 RX0 60 mJ9_min_7cf53 2 := Or.inl ⟨lcJ9_min_7cf53, gT_of (List.mem_of_getElem? (i := 715) rfl) rfl, gT_of (List.mem_of_getElem? (i := 613) rfl) rfl⟩
set_option maxRecDepth 100000 in
theorem LX0_65 : lV RX0 65 mX0_shareOut 2 := ⟨lcX0_shareOut, gT_of (List.mem_of_getElem? (i := 702) rfl) rfl, gT_of (List.mem_of_getElem? (i := 704) rfl) rfl, gT_of (List.mem_of_getElem? (i := 22) rfl) rfl⟩
set_option maxRecDepth 100000 in
theorem LX0_69 : lS RX0 69 mJ9_max_7cf53 2 ∨ lN2 RX0 69 mJ9_max_7cf53 2 := Or.inl ⟨lcJ9_max_7cf53, gT_of (List.mem_of_getElem? (i := 706) rfl) rfl, gT_of (List.mem_of_getElem? (i := 623) rfl) rfl⟩
set_option maxRecDepth 100000 in
theorem LX0_72 : lV RX0 72 mX0_lotOfGreatestRest 0 := ⟨lcX0_lotOfGreatestRest, gT_of (List.mem_of_getElem? (i := 711) rfl) rfl, gT_of (List.mem_of_getElem? (i := 713) rfl) rfl, gT_of (List.mem_of_getElem? (i := 23) rfl) rfl⟩
set_option maxRecDepth 100000 in
theorem LX1_25 : lS RX1 25 mJ7_fill_53178 2 ∨ lN2 RX1 25 mJ7_fill_53178 2 := Or.inl ⟨lcJ7_fill_53178, gT_of (List.mem_of_getElem? (i := 334) rfl) rfl, gT_of (List.mem_of_getElem? (i := 225) rfl) rfl⟩
set_option maxRecDepth 100000 in
theorem LX1_50 : lS RX1 50 mX9_within 3 ∨ lN2 RX1 50 mX9_within 3 := Or.inr ⟨lcX9_within, by decide +kernel, rfl, gT_of (List.mem_of_getElem? (i := 408) rfl) rfl⟩
set_option maxRecDepth 100000 in
theorem LX1_59 : lS RX1 59 mJ6_bitCount_0f7a4 1 ∨ lN2 RX1 59 mJ6_bitCount_0f7a4 1 := Or.inl ⟨lcJ6_bitCount_0f7a4, gT_of (List.mem_of_getElem? (i := 799) rfl) rfl, gT_of (List.mem_of_getElem? (i := 800) rfl) rfl⟩
set_option maxRecDepth 100000 in
theorem LX1_66 : lV RX1 66 mX1_gather 3 := ⟨lcX1_gather, gT_of (List.mem_of_getElem? (i := 806) rfl) rfl, gT_of (List.mem_of_getElem? (i := 808) rfl) rfl, gT_of (List.mem_of_getElem? (i := 28) rfl) rfl⟩
set_option maxRecDepth 100000 in
theorem LX1_70 : lV RX1 70 mX1_tryMember 4 := ⟨lcX1_tryMember, gT_of (List.mem_of_getElem? (i := 811) rfl) rfl, gT_of (List.mem_of_getElem? (i := 813) rfl) rfl, gT_of (List.mem_of_getElem? (i := 29) rfl) rfl⟩
set_option maxRecDepth 100000 in
theorem LX1_74 : lV RX1 74 mX1_keepAsLatest 0 := ⟨lcX1_keepAsLatest, gT_of (List.mem_of_getElem? (i := 822) rfl) rfl, gT_of (List.mem_of_getElem? (i := 824) rfl) rfl, gT_of (List.mem_of_getElem? (i := 31) rfl) rfl⟩
set_option maxRecDepth 100000 in
theorem LX1_80 : lS RX1 80 mJ9_min_7cf53 2 ∨ lN2 RX1 80 mJ9_min_7cf53 2 := Or.inl ⟨lcJ9_min_7cf53, gT_of (List.mem_of_getElem? (i := 810) rfl) rfl, gT_of (List.mem_of_getElem? (i := 613) rfl) rfl⟩
set_option maxRecDepth 100000 in
theorem LX1_86 : lV RX1 86 mX1_tastesFit 1 := ⟨lcX1_tastesFit, gT_of (List.mem_of_getElem? (i := 815) rfl) rfl, gT_of (List.mem_of_getElem? (i := 817) rfl) rfl, gT_of (List.mem_of_getElem? (i := 30) rfl) rfl⟩
set_option maxRecDepth 100000 in
theorem LX2_15 : lS RX2 15 mJ7_fill_53178 2 ∨ lN2 RX2 15 mJ7_fill_53178 2 := Or.inl ⟨lcJ7_fill_53178, gT_of (List.mem_of_getElem? (i := 314) rfl) rfl, gT_of (List.mem_of_getElem? (i := 225) rfl) rfl⟩
set_option maxRecDepth 100000 in
theorem LX2_31 : lS RX2 31 mX9_within 3 ∨ lN2 RX2 31 mX9_within 3 := Or.inr ⟨lcX9_within, by decide +kernel, rfl, gT_of (List.mem_of_getElem? (i := 408) rfl) rfl⟩
set_option maxRecDepth 100000 in
theorem LX2_35 : lS RX2 35 mX2_hasSample 1 ∨ lN2 RX2 35 mX2_hasSample 1 := Or.inl ⟨lcX2_hasSample, gT_of (List.mem_of_getElem? (i := 731) rfl) rfl, gT_of (List.mem_of_getElem? (i := 732) rfl) rfl⟩
set_option maxRecDepth 100000 in
theorem LX2_39 : lV RX2 39 mX2_weigh 1 := ⟨lcX2_weigh, gT_of (List.mem_of_getElem? (i := 750) rfl) rfl, gT_of (List.mem_of_getElem? (i := 752) rfl) rfl, gT_of (List.mem_of_getElem? (i := 24) rfl) rfl⟩
set_option maxRecDepth 100000 in
theorem LX2_42 : lS RX2 42 mJ13_compare_74951 2 ∨ lN2 RX2 42 mJ13_compare_74951 2 := Or.inl ⟨lcJ13_compare_74951, gT_of (List.mem_of_getElem? (i := 766) rfl) rfl, gT_of (List.mem_of_getElem? (i := 767) rfl) rfl⟩
set_option maxRecDepth 100000 in
theorem LX2_51 : lS RX2 51 mJ9_floorDiv_f86c9 2 ∨ lN2 RX2 51 mJ9_floorDiv_f86c9 2 := Or.inl ⟨lcJ9_floorDiv_f86c9, gT_of (List.mem_of_getElem? (i := 779) rfl) rfl, gT_of (List.mem_of_getElem? (i := 780) rfl) rfl⟩
set_option maxRecDepth 100000 in
theorem LX2_57 : lV RX2 57 mX2_toldMarkedBy 1 := ⟨lcX2_toldMarkedBy, gT_of (List.mem_of_getElem? (i := 754) rfl) rfl, gT_of (List.mem_of_getElem? (i := 756) rfl) rfl, gT_of (List.mem_of_getElem? (i := 25) rfl) rfl⟩
set_option maxRecDepth 100000 in
theorem LX2_61 : lV RX2 61 mX2_excessOf 1 := ⟨lcX2_excessOf, gT_of (List.mem_of_getElem? (i := 762) rfl) rfl, gT_of (List.mem_of_getElem? (i := 764) rfl) rfl, gT_of (List.mem_of_getElem? (i := 27) rfl) rfl⟩
set_option maxRecDepth 100000 in
theorem LX2_64 : lV RX2 64 mX2_isToldAndMarked 2 := ⟨lcX2_isToldAndMarked, gT_of (List.mem_of_getElem? (i := 758) rfl) rfl, gT_of (List.mem_of_getElem? (i := 760) rfl) rfl, gT_of (List.mem_of_getElem? (i := 26) rfl) rfl⟩
set_option maxRecDepth 100000 in
theorem LX4_15 : lS RX4 15 mJ7_fill_53178 2 ∨ lN2 RX4 15 mJ7_fill_53178 2 := Or.inl ⟨lcJ7_fill_53178, gT_of (List.mem_of_getElem? (i := 224) rfl) rfl, gT_of (List.mem_of_getElem? (i := 225) rfl) rfl⟩
set_option maxRecDepth 100000 in
theorem LX4_25 : lV RX4 25 mX4_start 1 := ⟨lcX4_start, gT_of (List.mem_of_getElem? (i := 227) rfl) rfl, gT_of (List.mem_of_getElem? (i := 229) rfl) rfl, gT_of (List.mem_of_getElem? (i := 0) rfl) rfl⟩
set_option maxRecDepth 100000 in
theorem LX4_60 : lS RX4 60 mX9_within 3 ∨ lN2 RX4 60 mX9_within 3 := Or.inr ⟨lcX9_within, by decide +kernel, rfl, gT_of (List.mem_of_getElem? (i := 408) rfl) rfl⟩
set_option maxRecDepth 100000 in
theorem LX4_64 : lS RX4 64 mJ9_abs_0f7a4 1 ∨ lN2 RX4 64 mJ9_abs_0f7a4 1 := Or.inl ⟨lcJ9_abs_0f7a4, gT_of (List.mem_of_getElem? (i := 619) rfl) rfl, gT_of (List.mem_of_getElem? (i := 620) rfl) rfl⟩
set_option maxRecDepth 100000 in
theorem LX4_70 : lS RX4 70 mJ9_max_7cf53 2 ∨ lN2 RX4 70 mJ9_max_7cf53 2 := Or.inl ⟨lcJ9_max_7cf53, gT_of (List.mem_of_getElem? (i := 622) rfl) rfl, gT_of (List.mem_of_getElem? (i := 623) rfl) rfl⟩
set_option maxRecDepth 100000 in
theorem LX4_74 : lV RX4 74 mX4_goThrough 1 := ⟨lcX4_goThrough, gT_of (List.mem_of_getElem? (i := 625) rfl) rfl, gT_of (List.mem_of_getElem? (i := 627) rfl) rfl, gT_of (List.mem_of_getElem? (i := 15) rfl) rfl⟩
set_option maxRecDepth 100000 in
theorem LX4_78 : lV RX4 78 mX4_grow 0 := ⟨lcX4_grow, gT_of (List.mem_of_getElem? (i := 656) rfl) rfl, gT_of (List.mem_of_getElem? (i := 658) rfl) rfl, gT_of (List.mem_of_getElem? (i := 19) rfl) rfl⟩
set_option maxRecDepth 100000 in
theorem LX4_81 : lS RX4 81 mJ9_min_7cf53 2 ∨ lN2 RX4 81 mJ9_min_7cf53 2 := Or.inl ⟨lcJ9_min_7cf53, gT_of (List.mem_of_getElem? (i := 660) rfl) rfl, gT_of (List.mem_of_getElem? (i := 613) rfl) rfl⟩
set_option maxRecDepth 100000 in
theorem LX4_89 : lV RX4 89 mX6_valueOf 2 := ⟨lcX6_valueOf, gT_of (List.mem_of_getElem? (i := 629) rfl) rfl, gT_of (List.mem_of_getElem? (i := 630) rfl) rfl, gT_of (List.mem_of_getElem? (i := 631) rfl) rfl⟩
set_option maxRecDepth 100000 in
theorem LX4_99 : lV RX4 99 mX4_doAct 2 := ⟨lcX4_doAct, gT_of (List.mem_of_getElem? (i := 652) rfl) rfl, gT_of (List.mem_of_getElem? (i := 654) rfl) rfl, gT_of (List.mem_of_getElem? (i := 18) rfl) rfl⟩
set_option maxRecDepth 100000 in
theorem LX5_9 : lI RX5 9 mX8_init 1 := ⟨lcX8_init, gT_of (List.mem_of_getElem? (i := 145) rfl) rfl, gT_of (List.mem_of_getElem? (i := 146) rfl) rfl, rfl, rfl⟩
set_option maxRecDepth 100000 in
theorem LX5_20 : lI RX5 20 mX6_init 0 := ⟨lcX6_init, gT_of (List.mem_of_getElem? (i := 174) rfl) rfl, gT_of (List.mem_of_getElem? (i := 175) rfl) rfl, rfl, rfl⟩
set_option maxRecDepth 100000 in
theorem LX5_29 : lV RX5 29 mX6_clear 0 := ⟨lcX6_clear, gT_of (List.mem_of_getElem? (i := 448) rfl) rfl, gT_of (List.mem_of_getElem? (i := 449) rfl) rfl, gT_of (List.mem_of_getElem? (i := 450) rfl) rfl⟩
set_option maxRecDepth 100000 in
theorem LX5_32 : lV RX5 32 mX8_begin 0 := ⟨lcX8_begin, gT_of (List.mem_of_getElem? (i := 452) rfl) rfl, gT_of (List.mem_of_getElem? (i := 150) rfl) rfl, gT_of (List.mem_of_getElem? (i := 151) rfl) rfl⟩
set_option maxRecDepth 100000 in
theorem LX5_35 : lV RX5 35 mX8_advance 0 := ⟨lcX8_advance, gT_of (List.mem_of_getElem? (i := 453) rfl) rfl, gT_of (List.mem_of_getElem? (i := 454) rfl) rfl, gT_of (List.mem_of_getElem? (i := 455) rfl) rfl⟩
set_option maxRecDepth 100000 in
theorem LX5_41 : lV RX5 41 mX5_readLine 0 := ⟨lcX5_readLine, gT_of (List.mem_of_getElem? (i := 548) rfl) rfl, gT_of (List.mem_of_getElem? (i := 550) rfl) rfl, gT_of (List.mem_of_getElem? (i := 7) rfl) rfl⟩
set_option maxRecDepth 100000 in
theorem LX5_48 : lV RX5 48 mX5_wrong 1 := ⟨lcX5_wrong, gT_of (List.mem_of_getElem? (i := 552) rfl) rfl, gT_of (List.mem_of_getElem? (i := 554) rfl) rfl, gT_of (List.mem_of_getElem? (i := 8) rfl) rfl⟩
set_option maxRecDepth 100000 in
theorem LX5_58 : lV RX5 58 mX5_passAmount 0 := ⟨lcX5_passAmount, gT_of (List.mem_of_getElem? (i := 556) rfl) rfl, gT_of (List.mem_of_getElem? (i := 558) rfl) rfl, gT_of (List.mem_of_getElem? (i := 9) rfl) rfl⟩
set_option maxRecDepth 100000 in
theorem LX5_61 : lV RX5 61 mX5_pass 1 := ⟨lcX5_pass, gT_of (List.mem_of_getElem? (i := 560) rfl) rfl, gT_of (List.mem_of_getElem? (i := 562) rfl) rfl, gT_of (List.mem_of_getElem? (i := 10) rfl) rfl⟩
set_option maxRecDepth 100000 in
theorem LX5_64 : lV RX5 64 mX5_readTests 1 := ⟨lcX5_readTests, gT_of (List.mem_of_getElem? (i := 564) rfl) rfl, gT_of (List.mem_of_getElem? (i := 566) rfl) rfl, gT_of (List.mem_of_getElem? (i := 11) rfl) rfl⟩
set_option maxRecDepth 100000 in
theorem LX5_67 : lV RX5 67 mX6_endLine 2 := ⟨lcX6_endLine, gT_of (List.mem_of_getElem? (i := 596) rfl) rfl, gT_of (List.mem_of_getElem? (i := 597) rfl) rfl, gT_of (List.mem_of_getElem? (i := 598) rfl) rfl⟩
set_option maxRecDepth 100000 in
theorem LX5_71 : lV RX5 71 mX5_readTest 1 := ⟨lcX5_readTest, gT_of (List.mem_of_getElem? (i := 568) rfl) rfl, gT_of (List.mem_of_getElem? (i := 570) rfl) rfl, gT_of (List.mem_of_getElem? (i := 12) rfl) rfl⟩
set_option maxRecDepth 100000 in
theorem LX5_76 : lV RX5 76 mX6_addKind 1 := ⟨lcX6_addKind, gT_of (List.mem_of_getElem? (i := 588) rfl) rfl, gT_of (List.mem_of_getElem? (i := 589) rfl) rfl, gT_of (List.mem_of_getElem? (i := 590) rfl) rfl⟩
set_option maxRecDepth 100000 in
theorem LX5_80 : lV RX5 80 mX5_readSum 1 := ⟨lcX5_readSum, gT_of (List.mem_of_getElem? (i := 572) rfl) rfl, gT_of (List.mem_of_getElem? (i := 574) rfl) rfl, gT_of (List.mem_of_getElem? (i := 13) rfl) rfl⟩
set_option maxRecDepth 100000 in
theorem LX5_83 : lV RX5 83 mX5_readPart 1 := ⟨lcX5_readPart, gT_of (List.mem_of_getElem? (i := 576) rfl) rfl, gT_of (List.mem_of_getElem? (i := 578) rfl) rfl, gT_of (List.mem_of_getElem? (i := 14) rfl) rfl⟩
set_option maxRecDepth 100000 in
theorem LX5_86 : lS RX5 86 mX5_isPlusOrMinus 1 ∨ lN2 RX5 86 mX5_isPlusOrMinus 1 := Or.inl ⟨lcX5_isPlusOrMinus, gT_of (List.mem_of_getElem? (i := 593) rfl) rfl, gT_of (List.mem_of_getElem? (i := 594) rfl) rfl⟩
set_option maxRecDepth 100000 in
theorem LX5_89 : lS RX5 89 mX5_isName 1 ∨ lN2 RX5 89 mX5_isName 1 := Or.inl ⟨lcX5_isName, gT_of (List.mem_of_getElem? (i := 580) rfl) rfl, gT_of (List.mem_of_getElem? (i := 581) rfl) rfl⟩
set_option maxRecDepth 100000 in
theorem LX5_92 : lV RX5 92 mX6_addNumber 1 := ⟨lcX6_addNumber, gT_of (List.mem_of_getElem? (i := 584) rfl) rfl, gT_of (List.mem_of_getElem? (i := 585) rfl) rfl, gT_of (List.mem_of_getElem? (i := 586) rfl) rfl⟩
set_option maxRecDepth 100000 in
theorem LX5_95 : lS RX5 95 mX9_within 3 ∨ lN2 RX5 95 mX9_within 3 := Or.inr ⟨lcX9_within, by decide +kernel, rfl, gT_of (List.mem_of_getElem? (i := 408) rfl) rfl⟩
set_option maxRecDepth 100000 in
theorem LX6_37 : lV RX6 37 mX6_addNumber 1 := ⟨lcX6_addNumber, gT_of (List.mem_of_getElem? (i := 592) rfl) rfl, gT_of (List.mem_of_getElem? (i := 585) rfl) rfl, gT_of (List.mem_of_getElem? (i := 586) rfl) rfl⟩
set_option maxRecDepth 100000 in
theorem LX6_41 : lV RX6 41 mX6_push 1 := ⟨lcX6_push, gT_of (List.mem_of_getElem? (i := 633) rfl) rfl, gT_of (List.mem_of_getElem? (i := 635) rfl) rfl, gT_of (List.mem_of_getElem? (i := 16) rfl) rfl⟩
set_option maxRecDepth 100000 in
theorem LX6_44 : lS RX6 44 mX6_joins 1 ∨ lN2 RX6 44 mX6_joins 1 := Or.inl ⟨lcX6_joins, gT_of (List.mem_of_getElem? (i := 637) rfl) rfl, gT_of (List.mem_of_getElem? (i := 638) rfl) rfl⟩
set_option maxRecDepth 100000 in
theorem LX6_48 : lV RX6 48 mX6_pop 0 := ⟨lcX6_pop, gT_of (List.mem_of_getElem? (i := 641) rfl) rfl, gT_of (List.mem_of_getElem? (i := 643) rfl) rfl, gT_of (List.mem_of_getElem? (i := 17) rfl) rfl⟩
set_option maxRecDepth 100000 in
theorem LX6_52 : lS RX6 52 mX6_joined 3 ∨ lN2 RX6 52 mX6_joined 3 := Or.inl ⟨lcX6_joined, gT_of (List.mem_of_getElem? (i := 645) rfl) rfl, gT_of (List.mem_of_getElem? (i := 646) rfl) rfl⟩
set_option maxRecDepth 100000 in
theorem LX6_56 : lV RX6 56 mX4_valueNow 1 := ⟨lcX4_valueNow, gT_of (List.mem_of_getElem? (i := 648) rfl) rfl, gT_of (List.mem_of_getElem? (i := 649) rfl) rfl, gT_of (List.mem_of_getElem? (i := 650) rfl) rfl⟩
set_option maxRecDepth 100000 in
theorem LX6_64 : lS RX6 64 mX9_within 3 ∨ lN2 RX6 64 mX9_within 3 := Or.inr ⟨lcX9_within, by decide +kernel, rfl, gT_of (List.mem_of_getElem? (i := 408) rfl) rfl⟩
set_option maxRecDepth 100000 in
theorem LX7_17 : lV RX7 17 mX7_addSign 1 := ⟨lcX7_addSign, gT_of (List.mem_of_getElem? (i := 435) rfl) rfl, gT_of (List.mem_of_getElem? (i := 437) rfl) rfl, gT_of (List.mem_of_getElem? (i := 1) rfl) rfl⟩
set_option maxRecDepth 100000 in
theorem LX7_21 : lS RX7 21 mX9_within 3 ∨ lN2 RX7 21 mX9_within 3 := Or.inr ⟨lcX9_within, by decide +kernel, rfl, gT_of (List.mem_of_getElem? (i := 408) rfl) rfl⟩
set_option maxRecDepth 100000 in
theorem LX8_13 : lV RX8 13 mX8_begin 0 := ⟨lcX8_begin, gT_of (List.mem_of_getElem? (i := 149) rfl) rfl, gT_of (List.mem_of_getElem? (i := 150) rfl) rfl, gT_of (List.mem_of_getElem? (i := 151) rfl) rfl⟩
set_option maxRecDepth 100000 in
theorem LX8_29 : lV RX8 29 mX8_skipBlanks 0 := ⟨lcX8_skipBlanks, gT_of (List.mem_of_getElem? (i := 457) rfl) rfl, gT_of (List.mem_of_getElem? (i := 459) rfl) rfl, gT_of (List.mem_of_getElem? (i := 2) rfl) rfl⟩
set_option maxRecDepth 100000 in
theorem LX8_41 : lS RX8 41 mX8_isLetter 1 ∨ lN2 RX8 41 mX8_isLetter 1 := Or.inl ⟨lcX8_isLetter, gT_of (List.mem_of_getElem? (i := 464) rfl) rfl, gT_of (List.mem_of_getElem? (i := 465) rfl) rfl⟩
set_option maxRecDepth 100000 in
theorem LX8_45 : lV RX8 45 mX8_goBehindWord 0 := ⟨lcX8_goBehindWord, gT_of (List.mem_of_getElem? (i := 468) rfl) rfl, gT_of (List.mem_of_getElem? (i := 470) rfl) rfl, gT_of (List.mem_of_getElem? (i := 3) rfl) rfl⟩
set_option maxRecDepth 100000 in
theorem LX8_48 : lV RX8 48 mX8_kindOfWord 1 := ⟨lcX8_kindOfWord, gT_of (List.mem_of_getElem? (i := 472) rfl) rfl, gT_of (List.mem_of_getElem? (i := 474) rfl) rfl, gT_of (List.mem_of_getElem? (i := 4) rfl) rfl⟩
set_option maxRecDepth 100000 in
theorem LX8_52 : lS RX8 52 mX8_isDigit 1 ∨ lN2 RX8 52 mX8_isDigit 1 := Or.inl ⟨lcX8_isDigit, gT_of (List.mem_of_getElem? (i := 538) rfl) rfl, gT_of (List.mem_of_getElem? (i := 539) rfl) rfl⟩
set_option maxRecDepth 100000 in
theorem LX8_55 : lV RX8 55 mX8_readNumber 0 := ⟨lcX8_readNumber, gT_of (List.mem_of_getElem? (i := 541) rfl) rfl, gT_of (List.mem_of_getElem? (i := 543) rfl) rfl, gT_of (List.mem_of_getElem? (i := 6) rfl) rfl⟩
set_option maxRecDepth 100000 in
theorem LX8_58 : lS RX8 58 mX8_kindOfSign 1 ∨ lN2 RX8 58 mX8_kindOfSign 1 := Or.inl ⟨lcX8_kindOfSign, gT_of (List.mem_of_getElem? (i := 545) rfl) rfl, gT_of (List.mem_of_getElem? (i := 546) rfl) rfl⟩
set_option maxRecDepth 100000 in
theorem LX8_61 : lS RX8 61 mX8_isBlank 1 ∨ lN2 RX8 61 mX8_isBlank 1 := Or.inl ⟨lcX8_isBlank, gT_of (List.mem_of_getElem? (i := 461) rfl) rfl, gT_of (List.mem_of_getElem? (i := 462) rfl) rfl⟩
set_option maxRecDepth 100000 in
theorem LX8_66 : lV RX8 66 mX8_isWord 1 := ⟨lcX8_isWord, gT_of (List.mem_of_getElem? (i := 477) rfl) rfl, gT_of (List.mem_of_getElem? (i := 479) rfl) rfl, gT_of (List.mem_of_getElem? (i := 5) rfl) rfl⟩
set_option maxRecDepth 100000 in
theorem LX8_97 : lS RX8 97 mX9_within 3 ∨ lN2 RX8 97 mX9_within 3 := Or.inr ⟨lcX9_within, by decide +kernel, rfl, gT_of (List.mem_of_getElem? (i := 408) rfl) rfl⟩
set_option maxRecDepth 100000 in
theorem LX9_9 : lI RX9 9 mX3_init 0 := ⟨lcX3_init, gT_of (List.mem_of_getElem? (i := 96) rfl) rfl, gT_of (List.mem_of_getElem? (i := 97) rfl) rfl, rfl, rfl⟩
set_option maxRecDepth 100000 in
theorem LX9_18 : lI RX9 18 mX7_init 0 := ⟨lcX7_init, gT_of (List.mem_of_getElem? (i := 122) rfl) rfl, gT_of (List.mem_of_getElem? (i := 123) rfl) rfl, rfl, rfl⟩
set_option maxRecDepth 100000 in
theorem LX9_25 : lI RX9 25 mX5_init 1 := ⟨lcX5_init, gT_of (List.mem_of_getElem? (i := 139) rfl) rfl, gT_of (List.mem_of_getElem? (i := 140) rfl) rfl, rfl, rfl⟩
set_option maxRecDepth 100000 in
theorem LX9_34 : lI RX9 34 mX4_init 0 := ⟨lcX4_init, gT_of (List.mem_of_getElem? (i := 220) rfl) rfl, gT_of (List.mem_of_getElem? (i := 221) rfl) rfl, rfl, rfl⟩
set_option maxRecDepth 100000 in
theorem LX9_41 : lI RX9 41 mX0_init 0 := ⟨lcX0_init, gT_of (List.mem_of_getElem? (i := 271) rfl) rfl, gT_of (List.mem_of_getElem? (i := 272) rfl) rfl, rfl, rfl⟩
set_option maxRecDepth 100000 in
theorem LX9_48 : lI RX9 48 mX2_init 0 := ⟨lcX2_init, gT_of (List.mem_of_getElem? (i := 310) rfl) rfl, gT_of (List.mem_of_getElem? (i := 311) rfl) rfl, rfl, rfl⟩
set_option maxRecDepth 100000 in
theorem LX9_55 : lI RX9 55 mX1_init 0 := ⟨lcX1_init, gT_of (List.mem_of_getElem? (i := 330) rfl) rfl, gT_of (List.mem_of_getElem? (i := 331) rfl) rfl, rfl, rfl⟩
set_option maxRecDepth 100000 in
theorem LX9_64 : lS RX9 64 mJ7_fill_53178 2 ∨ lN2 RX9 64 mJ7_fill_53178 2 := Or.inl ⟨lcJ7_fill_53178, gT_of (List.mem_of_getElem? (i := 368) rfl) rfl, gT_of (List.mem_of_getElem? (i := 225) rfl) rfl⟩
set_option maxRecDepth 100000 in
theorem LX9_72 : lI RX9 72 mX6_init 0 := ⟨lcX6_init, gT_of (List.mem_of_getElem? (i := 370) rfl) rfl, gT_of (List.mem_of_getElem? (i := 175) rfl) rfl, rfl, rfl⟩
set_option maxRecDepth 100000 in
theorem LX9_82 : lS RX9 82 mX9_within 3 ∨ lN2 RX9 82 mX9_within 3 := Or.inl ⟨lcX9_within, gT_of (List.mem_of_getElem? (i := 407) rfl) rfl, gT_of (List.mem_of_getElem? (i := 408) rfl) rfl⟩
set_option maxRecDepth 100000 in
theorem LX9_89 : lV RX9 89 mX3_add 5 := ⟨lcX3_add, gT_of (List.mem_of_getElem? (i := 410) rfl) rfl, gT_of (List.mem_of_getElem? (i := 411) rfl) rfl, gT_of (List.mem_of_getElem? (i := 412) rfl) rfl⟩
set_option maxRecDepth 100000 in
theorem LX9_93 : lV RX9 93 mX4_tellCurve 2 := ⟨lcX4_tellCurve, gT_of (List.mem_of_getElem? (i := 422) rfl) rfl, gT_of (List.mem_of_getElem? (i := 423) rfl) rfl, gT_of (List.mem_of_getElem? (i := 424) rfl) rfl⟩
set_option maxRecDepth 100000 in
theorem LX9_97 : lV RX9 97 mX7_addBytes 1 := ⟨lcX7_addBytes, gT_of (List.mem_of_getElem? (i := 431) rfl) rfl, gT_of (List.mem_of_getElem? (i := 432) rfl) rfl, gT_of (List.mem_of_getElem? (i := 433) rfl) rfl⟩
set_option maxRecDepth 100000 in
theorem LX9_104 : lV RX9 104 mX5_readTape 0 := ⟨lcX5_readTape, gT_of (List.mem_of_getElem? (i := 444) rfl) rfl, gT_of (List.mem_of_getElem? (i := 445) rfl) rfl, gT_of (List.mem_of_getElem? (i := 446) rfl) rfl⟩
set_option maxRecDepth 100000 in
theorem LX9_108 : lV RX9 108 mX5_exchange 1 := ⟨lcX5_exchange, gT_of (List.mem_of_getElem? (i := 600) rfl) rfl, gT_of (List.mem_of_getElem? (i := 601) rfl) rfl, gT_of (List.mem_of_getElem? (i := 602) rfl) rfl⟩
set_option maxRecDepth 100000 in
theorem LX9_112 : lV RX9 112 mX3_has 1 := ⟨lcX3_has, gT_of (List.mem_of_getElem? (i := 608) rfl) rfl, gT_of (List.mem_of_getElem? (i := 609) rfl) rfl, gT_of (List.mem_of_getElem? (i := 610) rfl) rfl⟩
set_option maxRecDepth 100000 in
theorem LX9_119 : lS RX9 119 mJ9_min_7cf53 2 ∨ lN2 RX9 119 mJ9_min_7cf53 2 := Or.inl ⟨lcJ9_min_7cf53, gT_of (List.mem_of_getElem? (i := 612) rfl) rfl, gT_of (List.mem_of_getElem? (i := 613) rfl) rfl⟩
set_option maxRecDepth 100000 in
theorem LX9_126 : lV RX9 126 mX4_run 2 := ⟨lcX4_run, gT_of (List.mem_of_getElem? (i := 615) rfl) rfl, gT_of (List.mem_of_getElem? (i := 616) rfl) rfl, gT_of (List.mem_of_getElem? (i := 617) rfl) rfl⟩
set_option maxRecDepth 100000 in
theorem LX9_133 : lV RX9 133 mX0_addOfOneLot 3 := ⟨lcX0_addOfOneLot, gT_of (List.mem_of_getElem? (i := 661) rfl) rfl, gT_of (List.mem_of_getElem? (i := 662) rfl) rfl, gT_of (List.mem_of_getElem? (i := 663) rfl) rfl⟩
set_option maxRecDepth 100000 in
theorem LX9_137 : lV RX9 137 mX4_tell 1 := ⟨lcX4_tell, gT_of (List.mem_of_getElem? (i := 673) rfl) rfl, gT_of (List.mem_of_getElem? (i := 674) rfl) rfl, gT_of (List.mem_of_getElem? (i := 675) rfl) rfl⟩
set_option maxRecDepth 100000 in
theorem LX9_141 : lV RX9 141 mX0_tellForBlend 2 := ⟨lcX0_tellForBlend, gT_of (List.mem_of_getElem? (i := 681) rfl) rfl, gT_of (List.mem_of_getElem? (i := 682) rfl) rfl, gT_of (List.mem_of_getElem? (i := 683) rfl) rfl⟩
set_option maxRecDepth 100000 in
theorem LX9_144 : lV RX9 144 mX0_blendTaken 0 := ⟨lcX0_blendTaken, gT_of (List.mem_of_getElem? (i := 694) rfl) rfl, gT_of (List.mem_of_getElem? (i := 695) rfl) rfl, gT_of (List.mem_of_getElem? (i := 696) rfl) rfl⟩
set_option maxRecDepth 100000 in
theorem LX9_147 : lV RX9 147 mX0_has 1 := ⟨lcX0_has, gT_of (List.mem_of_getElem? (i := 720) rfl) rfl, gT_of (List.mem_of_getElem? (i := 686) rfl) rfl, gT_of (List.mem_of_getElem? (i := 687) rfl) rfl⟩
set_option maxRecDepth 100000 in
theorem LX9_160 : lV RX9 160 mX0_lotsIn 1 := ⟨lcX0_lotsIn, gT_of (List.mem_of_getElem? (i := 943) rfl) rfl, gT_of (List.mem_of_getElem? (i := 944) rfl) rfl, gT_of (List.mem_of_getElem? (i := 945) rfl) rfl⟩
set_option maxRecDepth 100000 in
theorem LX9_163 : lV RX9 163 mX0_partOf 2 := ⟨lcX0_partOf, gT_of (List.mem_of_getElem? (i := 721) rfl) rfl, gT_of (List.mem_of_getElem? (i := 708) rfl) rfl, gT_of (List.mem_of_getElem? (i := 709) rfl) rfl⟩
set_option maxRecDepth 100000 in
theorem LX9_166 : lV RX9 166 mX2_giveMark 3 := ⟨lcX2_giveMark, gT_of (List.mem_of_getElem? (i := 726) rfl) rfl, gT_of (List.mem_of_getElem? (i := 727) rfl) rfl, gT_of (List.mem_of_getElem? (i := 728) rfl) rfl⟩
set_option maxRecDepth 100000 in
theorem LX9_169 : lV RX9 169 mX2_tellWorth 2 := ⟨lcX2_tellWorth, gT_of (List.mem_of_getElem? (i := 738) rfl) rfl, gT_of (List.mem_of_getElem? (i := 739) rfl) rfl, gT_of (List.mem_of_getElem? (i := 740) rfl) rfl⟩
set_option maxRecDepth 100000 in
theorem LX9_172 : lV RX9 172 mX2_compare 2 := ⟨lcX2_compare, gT_of (List.mem_of_getElem? (i := 746) rfl) rfl, gT_of (List.mem_of_getElem? (i := 747) rfl) rfl, gT_of (List.mem_of_getElem? (i := 748) rfl) rfl⟩
set_option maxRecDepth 100000 in
theorem LX9_175 : lV RX9 175 mX2_thousandths 1 := ⟨lcX2_thousandths, gT_of (List.mem_of_getElem? (i := 773) rfl) rfl, gT_of (List.mem_of_getElem? (i := 774) rfl) rfl, gT_of (List.mem_of_getElem? (i := 775) rfl) rfl⟩
set_option maxRecDepth 100000 in
theorem LX9_178 : lV RX9 178 mX1_setSpan 3 := ⟨lcX1_setSpan, gT_of (List.mem_of_getElem? (i := 786) rfl) rfl, gT_of (List.mem_of_getElem? (i := 787) rfl) rfl, gT_of (List.mem_of_getElem? (i := 788) rfl) rfl⟩
set_option maxRecDepth 100000 in
theorem LX9_181 : lV RX9 181 mX1_search 3 := ⟨lcX1_search, gT_of (List.mem_of_getElem? (i := 795) rfl) rfl, gT_of (List.mem_of_getElem? (i := 796) rfl) rfl, gT_of (List.mem_of_getElem? (i := 797) rfl) rfl⟩
set_option maxRecDepth 100000 in
theorem LX9_192 : lV RX9 192 mX0_sendTo 2 := ⟨lcX0_sendTo, gT_of (List.mem_of_getElem? (i := 834) rfl) rfl, gT_of (List.mem_of_getElem? (i := 835) rfl) rfl, gT_of (List.mem_of_getElem? (i := 836) rfl) rfl⟩
set_option maxRecDepth 100000 in
theorem LX9_195 : lV RX9 195 mX0_olderIn 2 := ⟨lcX0_olderIn, gT_of (List.mem_of_getElem? (i := 846) rfl) rfl, gT_of (List.mem_of_getElem? (i := 847) rfl) rfl, gT_of (List.mem_of_getElem? (i := 848) rfl) rfl⟩
set_option maxRecDepth 100000 in
theorem LX9_198 : lV RX9 198 mX0_bagWith 2 := ⟨lcX0_bagWith, gT_of (List.mem_of_getElem? (i := 854) rfl) rfl, gT_of (List.mem_of_getElem? (i := 855) rfl) rfl, gT_of (List.mem_of_getElem? (i := 856) rfl) rfl⟩
set_option maxRecDepth 100000 in
theorem LX9_201 : lV RX9 201 mX0_gramsIn 2 := ⟨lcX0_gramsIn, gT_of (List.mem_of_getElem? (i := 862) rfl) rfl, gT_of (List.mem_of_getElem? (i := 863) rfl) rfl, gT_of (List.mem_of_getElem? (i := 864) rfl) rfl⟩
set_option maxRecDepth 100000 in
theorem LX9_210 : lV RX9 210 mX0_allGrams 0 := ⟨lcX0_allGrams, gT_of (List.mem_of_getElem? (i := 870) rfl) rfl, gT_of (List.mem_of_getElem? (i := 871) rfl) rfl, gT_of (List.mem_of_getElem? (i := 872) rfl) rfl⟩
set_option maxRecDepth 100000 in
theorem LX10_7 : lV RX10 7 mX10_lay 1 := ⟨lcX10_lay, gT_of (List.mem_of_getElem? (i := 955) rfl) rfl, gT_of (List.mem_of_getElem? (i := 957) rfl) rfl, gT_of (List.mem_of_getElem? (i := 33) rfl) rfl⟩
set_option maxRecDepth 100000 in
theorem LX10_141 : lS RX10 141 mX10_isLetter 1 ∨ lN2 RX10 141 mX10_isLetter 1 := Or.inl ⟨lcX10_isLetter, gT_of (List.mem_of_getElem? (i := 1165) rfl) rfl, gT_of (List.mem_of_getElem? (i := 1166) rfl) rfl⟩
set_option maxRecDepth 100000 in
theorem LX10_150 : lS RX10 150 mX10_rank 1 ∨ lN2 RX10 150 mX10_rank 1 := Or.inl ⟨lcX10_rank, gT_of (List.mem_of_getElem? (i := 1169) rfl) rfl, gT_of (List.mem_of_getElem? (i := 1170) rfl) rfl⟩
set_option maxRecDepth 100000 in
theorem LX10_154 : lS RX10 154 mX10_isDigit 1 ∨ lN2 RX10 154 mX10_isDigit 1 := Or.inl ⟨lcX10_isDigit, gT_of (List.mem_of_getElem? (i := 1172) rfl) rfl, gT_of (List.mem_of_getElem? (i := 1173) rfl) rfl⟩
set_option maxRecDepth 100000 in
theorem LX10_161 : lS RX10 161 mX10_isSignOf 1 ∨ lN2 RX10 161 mX10_isSignOf 1 := Or.inl ⟨lcX10_isSignOf, gT_of (List.mem_of_getElem? (i := 1177) rfl) rfl, gT_of (List.mem_of_getElem? (i := 1178) rfl) rfl⟩
set_option maxRecDepth 100000 in
theorem LX10_170 : lV RX10 170 mX10_isSign 1 := ⟨lcX10_isSign, gT_of (List.mem_of_getElem? (i := 1213) rfl) rfl, gT_of (List.mem_of_getElem? (i := 1215) rfl) rfl, gT_of (List.mem_of_getElem? (i := 43) rfl) rfl⟩
set_option maxRecDepth 100000 in
theorem LX10_173 : lV RX10 173 mX10_wrong 1 := ⟨lcX10_wrong, gT_of (List.mem_of_getElem? (i := 1188) rfl) rfl, gT_of (List.mem_of_getElem? (i := 1190) rfl) rfl, gT_of (List.mem_of_getElem? (i := 37) rfl) rfl⟩
set_option maxRecDepth 100000 in
theorem LX10_177 : lV RX10 177 mX10_isWord 1 := ⟨lcX10_isWord, gT_of (List.mem_of_getElem? (i := 1184) rfl) rfl, gT_of (List.mem_of_getElem? (i := 1186) rfl) rfl, gT_of (List.mem_of_getElem? (i := 36) rfl) rfl⟩
set_option maxRecDepth 100000 in
theorem LX10_180 : lV RX10 180 mX10_hasWord 1 := ⟨lcX10_hasWord, gT_of (List.mem_of_getElem? (i := 1197) rfl) rfl, gT_of (List.mem_of_getElem? (i := 1199) rfl) rfl, gT_of (List.mem_of_getElem? (i := 39) rfl) rfl⟩
set_option maxRecDepth 100000 in
theorem LX10_189 : lV RX10 189 mX10_cutAll 0 := ⟨lcX10_cutAll, gT_of (List.mem_of_getElem? (i := 1161) rfl) rfl, gT_of (List.mem_of_getElem? (i := 1163) rfl) rfl, gT_of (List.mem_of_getElem? (i := 34) rfl) rfl⟩
set_option maxRecDepth 100000 in
theorem LX10_195 : lV RX10 195 mX10_line 0 := ⟨lcX10_line, gT_of (List.mem_of_getElem? (i := 1180) rfl) rfl, gT_of (List.mem_of_getElem? (i := 1182) rfl) rfl, gT_of (List.mem_of_getElem? (i := 35) rfl) rfl⟩
set_option maxRecDepth 100000 in
theorem LX10_200 : lV RX10 200 mX10_takeWord 1 := ⟨lcX10_takeWord, gT_of (List.mem_of_getElem? (i := 1193) rfl) rfl, gT_of (List.mem_of_getElem? (i := 1195) rfl) rfl, gT_of (List.mem_of_getElem? (i := 38) rfl) rfl⟩
set_option maxRecDepth 100000 in
theorem LX10_206 : lV RX10 206 mX10_opens 0 := ⟨lcX10_opens, gT_of (List.mem_of_getElem? (i := 1201) rfl) rfl, gT_of (List.mem_of_getElem? (i := 1203) rfl) rfl, gT_of (List.mem_of_getElem? (i := 40) rfl) rfl⟩
set_option maxRecDepth 100000 in
theorem LX10_209 : lV RX10 209 mX10_part 0 := ⟨lcX10_part, gT_of (List.mem_of_getElem? (i := 1205) rfl) rfl, gT_of (List.mem_of_getElem? (i := 1207) rfl) rfl, gT_of (List.mem_of_getElem? (i := 41) rfl) rfl⟩
set_option maxRecDepth 100000 in
theorem LX10_213 : lV RX10 213 mX10_goesOnBehind 0 := ⟨lcX10_goesOnBehind, gT_of (List.mem_of_getElem? (i := 1225) rfl) rfl, gT_of (List.mem_of_getElem? (i := 1227) rfl) rfl, gT_of (List.mem_of_getElem? (i := 46) rfl) rfl⟩
set_option maxRecDepth 100000 in
theorem LX10_216 : lV RX10 216 mX10_emit 2 := ⟨lcX10_emit, gT_of (List.mem_of_getElem? (i := 1221) rfl) rfl, gT_of (List.mem_of_getElem? (i := 1223) rfl) rfl, gT_of (List.mem_of_getElem? (i := 45) rfl) rfl⟩
set_option maxRecDepth 100000 in
theorem LX10_220 : lV RX10 220 mX10_takeSign 1 := ⟨lcX10_takeSign, gT_of (List.mem_of_getElem? (i := 1229) rfl) rfl, gT_of (List.mem_of_getElem? (i := 1231) rfl) rfl, gT_of (List.mem_of_getElem? (i := 47) rfl) rfl⟩
set_option maxRecDepth 100000 in
theorem LX10_223 : lV RX10 223 mX10_partWord 0 := ⟨lcX10_partWord, gT_of (List.mem_of_getElem? (i := 1209) rfl) rfl, gT_of (List.mem_of_getElem? (i := 1211) rfl) rfl, gT_of (List.mem_of_getElem? (i := 42) rfl) rfl⟩
set_option maxRecDepth 100000 in
theorem LX10_227 : lV RX10 227 mX10_hasSign 1 := ⟨lcX10_hasSign, gT_of (List.mem_of_getElem? (i := 1217) rfl) rfl, gT_of (List.mem_of_getElem? (i := 1219) rfl) rfl, gT_of (List.mem_of_getElem? (i := 44) rfl) rfl⟩
set_option maxRecDepth 100000 in
theorem LX10_231 : lS RX10 231 mX10_isTaste 1 ∨ lN2 RX10 231 mX10_isTaste 1 := Or.inl ⟨lcX10_isTaste, gT_of (List.mem_of_getElem? (i := 1238) rfl) rfl, gT_of (List.mem_of_getElem? (i := 1239) rfl) rfl⟩
set_option maxRecDepth 100000 in
theorem LX10_262 : lV RX10 262 mX10_valueOf 1 := ⟨lcX10_valueOf, gT_of (List.mem_of_getElem? (i := 1265) rfl) rfl, gT_of (List.mem_of_getElem? (i := 1267) rfl) rfl, gT_of (List.mem_of_getElem? (i := 51) rfl) rfl⟩
set_option maxRecDepth 100000 in
theorem LX10_268 : lV RX10 268 mX10_actsBy 1 := ⟨lcX10_actsBy, gT_of (List.mem_of_getElem? (i := 1261) rfl) rfl, gT_of (List.mem_of_getElem? (i := 1263) rfl) rfl, gT_of (List.mem_of_getElem? (i := 50) rfl) rfl⟩
set_option maxRecDepth 100000 in
theorem LX10_274 : lV RX10 274 mX10_isLot 1 := ⟨lcX10_isLot, gT_of (List.mem_of_getElem? (i := 1253) rfl) rfl, gT_of (List.mem_of_getElem? (i := 1255) rfl) rfl, gT_of (List.mem_of_getElem? (i := 48) rfl) rfl⟩
set_option maxRecDepth 100000 in
theorem LX10_280 : lV RX10 280 mX10_goes 1 := ⟨lcX10_goes, gT_of (List.mem_of_getElem? (i := 1257) rfl) rfl, gT_of (List.mem_of_getElem? (i := 1259) rfl) rfl, gT_of (List.mem_of_getElem? (i := 49) rfl) rfl⟩
set_option maxRecDepth 100000 in
theorem LX10_283 : lV RX10 283 mX10_newBag 1 := ⟨lcX10_newBag, gT_of (List.mem_of_getElem? (i := 1269) rfl) rfl, gT_of (List.mem_of_getElem? (i := 1271) rfl) rfl, gT_of (List.mem_of_getElem? (i := 52) rfl) rfl⟩
set_option maxRecDepth 100000 in
theorem LX10_286 : lV RX10 286 mX10_isBag 1 := ⟨lcX10_isBag, gT_of (List.mem_of_getElem? (i := 1281) rfl) rfl, gT_of (List.mem_of_getElem? (i := 1283) rfl) rfl, gT_of (List.mem_of_getElem? (i := 53) rfl) rfl⟩
set_option maxRecDepth 100000 in
theorem LX10_289 : lV RX10 289 mX10_gramsIn 1 := ⟨lcX10_gramsIn, gT_of (List.mem_of_getElem? (i := 1285) rfl) rfl, gT_of (List.mem_of_getElem? (i := 1287) rfl) rfl, gT_of (List.mem_of_getElem? (i := 54) rfl) rfl⟩
set_option maxRecDepth 100000 in
theorem LX10_295 : lV RX10 295 mX10_gives 4 := ⟨lcX10_gives, gT_of (List.mem_of_getElem? (i := 1297) rfl) rfl, gT_of (List.mem_of_getElem? (i := 1299) rfl) rfl, gT_of (List.mem_of_getElem? (i := 56) rfl) rfl⟩
set_option maxRecDepth 100000 in
theorem LX10_299 : lV RX10 299 mX10_moves 3 := ⟨lcX10_moves, gT_of (List.mem_of_getElem? (i := 1293) rfl) rfl, gT_of (List.mem_of_getElem? (i := 1295) rfl) rfl, gT_of (List.mem_of_getElem? (i := 55) rfl) rfl⟩
set_option maxRecDepth 100000 in
theorem LX10_303 : lS RX10 303 mX10_isSample 1 ∨ lN2 RX10 303 mX10_isSample 1 := Or.inl ⟨lcX10_isSample, gT_of (List.mem_of_getElem? (i := 1313) rfl) rfl, gT_of (List.mem_of_getElem? (i := 1314) rfl) rfl⟩
set_option maxRecDepth 100000 in
theorem LX10_313 : lV RX10 313 mX10_weighs 1 := ⟨lcX10_weighs, gT_of (List.mem_of_getElem? (i := 1324) rfl) rfl, gT_of (List.mem_of_getElem? (i := 1326) rfl) rfl, gT_of (List.mem_of_getElem? (i := 57) rfl) rfl⟩
set_option maxRecDepth 100000 in
theorem LX10_319 : lS RX10 319 mJ9_floorDiv_f86c9 2 ∨ lN2 RX10 319 mJ9_floorDiv_f86c9 2 := Or.inl ⟨lcJ9_floorDiv_f86c9, gT_of (List.mem_of_getElem? (i := 1334) rfl) rfl, gT_of (List.mem_of_getElem? (i := 780) rfl) rfl⟩
set_option maxRecDepth 100000 in
theorem LX10_328 : lV RX10 328 mX10_asks 1 := ⟨lcX10_asks, gT_of (List.mem_of_getElem? (i := 1347) rfl) rfl, gT_of (List.mem_of_getElem? (i := 1349) rfl) rfl, gT_of (List.mem_of_getElem? (i := 59) rfl) rfl⟩
set_option maxRecDepth 100000 in
theorem LX10_331 : lV RX10 331 mX10_tries 3 := ⟨lcX10_tries, gT_of (List.mem_of_getElem? (i := 1343) rfl) rfl, gT_of (List.mem_of_getElem? (i := 1345) rfl) rfl, gT_of (List.mem_of_getElem? (i := 58) rfl) rfl⟩
set_option maxRecDepth 100000 in
theorem LX10_337 : lV RX10 337 mX10_isInSpans 0 := ⟨lcX10_isInSpans, gT_of (List.mem_of_getElem? (i := 1351) rfl) rfl, gT_of (List.mem_of_getElem? (i := 1353) rfl) rfl, gT_of (List.mem_of_getElem? (i := 60) rfl) rfl⟩
set_option maxRecDepth 100000 in
theorem LX10_343 : lS RX10 343 mX10_isHouse 1 ∨ lN2 RX10 343 mX10_isHouse 1 := Or.inl ⟨lcX10_isHouse, gT_of (List.mem_of_getElem? (i := 1363) rfl) rfl, gT_of (List.mem_of_getElem? (i := 1364) rfl) rfl⟩
end
section
/-! the world of the law: cell 0 the RoastHouse (1 .. 42 what it holds), cell 43 the reference (44 .. 76 its arrays), cell 77 the long[1]; xs: exceptions that were thrown -/
def rl : Bool → Nat
  | false => 37
  | true => 9
def tg : Bool → Nat
  | false => 9
  | true => 37
def SH (b : Bool) (xs : sh_T) : sh_T :=
  .inr (9, [.ref 1, .ref 5, .ref 7, .ref 15, .ref 17, .ref 25, .ref 28, .ref 36, .ref (rl b), .int 0]) ::
  .inr (3, [.int 0, .ref 2, .ref 3, .ref 4]) ::
  .inl (.int, 12) ::
  .inl (.int, 12) ::
  .inl (.int, 36) ::
  .inr (7, [.ref 6, .int 0]) ::
  .inl (.byte, 600) ::
  .inr (5, [.ref 8, .ref (tg b), .int 0]) ::
  .inr (8, [.ref 5, .int 0, .int 0, .int 0, .int 0]) ::
  .inr (6, [.int 0, .ref 10, .ref 11, .ref 12, .ref 13, .int 0, .ref 14, .int 0]) ::
  .inl (.int, 16) ::
  .inl (.int, 16) ::
  .inl (.int, 16) ::
  .inl (.int, 600) ::
  .inl (.int, 16) ::
  .inr (4, [.int 0, .ref 16, .int 0, .int 0, .int 0, .int 0, .int 0, .int 0, .int 0, .int 0, .int 0, .int 0]) ::
  .inl (.int, 20) ::
  .inr (0, [.int 0, .int 0, .ref 18, .ref 19, .ref 20, .ref 21, .ref 22, .ref 23, .ref 24]) ::
  .inl (.int, 60) ::
  .inl (.int, 60) ::
  .inl (.int, 60) ::
  .inl (.int, 60) ::
  .inl (.int, 720) ::
  .inl (.int, 12) ::
  .inl (.int, 12) ::
  .inr (2, [.ref 26, .ref 27, .long 0, .long 0]) ::
  .inl (.int, 100) ::
  .inl (.int, 20) ::
  .inr (1, [.int 0, .ref 29, .ref 30, .ref 31, .int 0, .ref 32, .ref 33, .ref 34, .ref 35, .int 0]) ::
  .inl (.int, 12) ::
  .inl (.int, 3) ::
  .inl (.int, 3) ::
  .inl (.int, 6) ::
  .inl (.int, 6) ::
  .inl (.int, 6) ::
  .inl (.int, 6) ::
  .inl (.int, 10) ::
  .inr (6, [.int 0, .ref 38, .ref 39, .ref 40, .ref 41, .int 0, .ref 42, .int 0]) ::
  .inl (.int, 16) ::
  .inl (.int, 16) ::
  .inl (.int, 16) ::
  .inl (.int, 600) ::
  .inl (.int, 16) ::
  .inr (10, [.int 0, .ref 44, .int 0, .int 0, .ref 45, .ref 46, .ref 47, .int 0, .int 0, .ref 48, .ref 49, .ref 50, .ref 51, .ref 52, .ref 53, .ref 54, .int 0, .int 0, .int 0, .int 0, .ref 55, .ref 56, .ref 57, .ref 58, .ref 59, .int 0, .int 0, .ref 60, .ref 61, .ref 62, .int 0, .ref 63, .ref 64, .ref 65, .ref 66, .int 0, .int 0, .int 0, .int 0, .int 0, .int 0, .int 0, .int 0, .int 0, .int 0, .ref 67, .ref 68, .ref 69, .ref 70, .long 0, .long 0, .ref 71, .ref 72, .ref 73, .ref 74, .ref 75, .int 0, .int 0, .int 0, .ref 76]) ::
  .inl (.int, 600) ::
  .inl (.int, 602) ::
  .inl (.int, 602) ::
  .inl (.long, 602) ::
  .inl (.long, 10) ::
  .inl (.int, 2) ::
  .inl (.int, 32) ::
  .inl (.int, 32) ::
  .inl (.int, 32) ::
  .inl (.int, 1320) ::
  .inl (.int, 1320) ::
  .inl (.int, 7) ::
  .inl (.int, 7) ::
  .inl (.int, 7) ::
  .inl (.int, 7) ::
  .inl (.int, 660) ::
  .inl (.int, 12) ::
  .inl (.int, 12) ::
  .inl (.int, 36) ::
  .inl (.int, 720) ::
  .inl (.int, 60) ::
  .inl (.int, 60) ::
  .inl (.int, 20) ::
  .inl (.int, 60) ::
  .inl (.int, 12) ::
  .inl (.int, 100) ::
  .inl (.int, 20) ::
  .inl (.int, 3) ::
  .inl (.int, 3) ::
  .inl (.int, 6) ::
  .inl (.int, 6) ::
  .inl (.int, 12) ::
  .inl (.int, 10) ::
  .inl (.long, 1) :: xs
end
section
/-! single steps -/
section GS
variable {y : mt_T} {d mc ms : Nat} {Q : zt} {cells slots : Nat} {pc : Nat} {lo st : List Value} {sh : sh_T} {hp : hp_T}
theorem cv_cat (E : en_T) (v : Value) : (cv E v).category = v.category := by cases v <;> rfl
theorem al_at {E : en_T} {ls : Array Slot} {n i : Nat} {v : Value} (h : lv_has ls n (al E lo)) (hv : lo[i]? = some v) (hs : isV v = true) : ls[i]? = some (.val (cv E v)) := h.2.2 (i, cv E v) (al_mem.mpr ⟨v, hv, hs, rfl⟩)
theorem hs_sub {ls : Array Slot} {n : Nat} {l l' : List (Nat × Value)} (h : lv_has ls n l) (hs : ∀ q ∈ l', q ∈ l) : lv_has ls n l' := ⟨h.1, h.2.1, fun q hq => h.2.2 q (hs q hq)⟩
def notL (lo : List Value) (i : Nat) : Bool := match i with
  | 0 => true
  | k + 1 => match lo[k]? with
    | some v => Nat.beq v.category 1
    | none => true
theorem al_set1 {E : en_T} {i : Nat} {x : Value} (hn : notL lo i = true) (hx : x.category = 1) : ∀ q ∈ al E (lo.set i x), q ∈ (i, cv E x) :: (al E lo).filter (fun q => !(q.1 == i) && !(q.1 + 1 == i && q.2.category == 2)) := by
  rintro ⟨j, w⟩ hq
  obtain ⟨v, hv, hs, rfl⟩ := al_mem.mp hq
  by_cases hj : j = i
  · subst hj
    rw [List.getElem?_set] at hv
    simp at hv
    rw [← hv.2]
    exact List.mem_cons_self
  · rw [List.getElem?_set_ne (Ne.symm hj)] at hv
    refine List.mem_cons_of_mem _ (List.mem_filter.mpr ⟨al_mem.mpr ⟨v, hv, hs, rfl⟩, ?_⟩)
    simp only [Bool.and_eq_true, Bool.not_eq_true', beq_eq_false_iff_ne, Bool.and_eq_false_imp, beq_iff_eq]
    refine ⟨by simpa using hj, ?_⟩
    intro h1
    subst h1
    simp only [notL, hv] at hn
    rw [cv_cat, Nat.eq_of_beq_eq_true hn]
    decide
theorem al_set2 {E : en_T} {i : Nat} {x u : Value} (hn : notL lo i = true) (hu : isV u = false) : ∀ q ∈ al E ((lo.set i x).set (i + 1) u), q ∈ (i, cv E x) :: (al E lo).filter (fun q => !(q.1 == i) && (!(q.1 == i + 1) && !(q.1 + 1 == i && q.2.category == 2))) := by
  rintro ⟨j, w⟩ hq
  obtain ⟨v, hv, hs, rfl⟩ := al_mem.mp hq
  by_cases hj2 : j = i + 1
  · subst hj2
    rw [List.getElem?_set] at hv
    simp at hv
    rw [← hv.2, hu] at hs
    cases hs
  · rw [List.getElem?_set_ne (Ne.symm hj2)] at hv
    by_cases hj : j = i
    · subst hj
      rw [List.getElem?_set] at hv
      simp at hv
      rw [← hv.2]
      exact List.mem_cons_self
    · rw [List.getElem?_set_ne (Ne.symm hj)] at hv
      refine List.mem_cons_of_mem _ (List.mem_filter.mpr ⟨al_mem.mpr ⟨v, hv, hs, rfl⟩, ?_⟩)
      simp only [Bool.and_eq_true, Bool.not_eq_true', beq_eq_false_iff_ne, Bool.and_eq_false_imp, beq_iff_eq]
      refine ⟨by simpa using hj, by simpa using hj2, ?_⟩
      intro h1
      subst h1
      simp only [notL, hv] at hn
      rw [cv_cat, Nat.eq_of_beq_eq_true hn]
      decide
theorem g1_iadd {x z : Int32} (hd : decode y.2.1 pc = .ok (.iadd, 1)) (k : gG y d mc ms Q cells slots (pc + 1, lo, .int (x + z) :: st, sh, hp)) : gG y d mc ms Q cells slots (pc, lo, .int z :: .int x :: st, sh, hp) := fun ok p l e s m args below meth c E H locs ls C hX hw hL hl => lv_iadd C.1 C.2.1 hd (k ok p l e s m args below meth c E H locs ls C hX hw hL hl)
theorem g1_isub {x z : Int32} (hd : decode y.2.1 pc = .ok (.isub, 1)) (k : gG y d mc ms Q cells slots (pc + 1, lo, .int (x - z) :: st, sh, hp)) : gG y d mc ms Q cells slots (pc, lo, .int z :: .int x :: st, sh, hp) := fun ok p l e s m args below meth c E H locs ls C hX hw hL hl => lv_isub C.1 C.2.1 hd (k ok p l e s m args below meth c E H locs ls C hX hw hL hl)
theorem g1_imul {x z : Int32} (hd : decode y.2.1 pc = .ok (.imul, 1)) (k : gG y d mc ms Q cells slots (pc + 1, lo, .int (x * z) :: st, sh, hp)) : gG y d mc ms Q cells slots (pc, lo, .int z :: .int x :: st, sh, hp) := fun ok p l e s m args below meth c E H locs ls C hX hw hL hl => lv_imul C.1 C.2.1 hd (k ok p l e s m args below meth c E H locs ls C hX hw hL hl)
theorem g1_iand {x z : Int32} (hd : decode y.2.1 pc = .ok (.iand, 1)) (k : gG y d mc ms Q cells slots (pc + 1, lo, .int (x &&& z) :: st, sh, hp)) : gG y d mc ms Q cells slots (pc, lo, .int z :: .int x :: st, sh, hp) := fun ok p l e s m args below meth c E H locs ls C hX hw hL hl => lv_iand C.1 C.2.1 hd (k ok p l e s m args below meth c E H locs ls C hX hw hL hl)
theorem g1_ior {x z : Int32} (hd : decode y.2.1 pc = .ok (.ior, 1)) (k : gG y d mc ms Q cells slots (pc + 1, lo, .int (x ||| z) :: st, sh, hp)) : gG y d mc ms Q cells slots (pc, lo, .int z :: .int x :: st, sh, hp) := fun ok p l e s m args below meth c E H locs ls C hX hw hL hl => lv_ior C.1 C.2.1 hd (k ok p l e s m args below meth c E H locs ls C hX hw hL hl)
theorem g1_ixor {x z : Int32} (hd : decode y.2.1 pc = .ok (.ixor, 1)) (k : gG y d mc ms Q cells slots (pc + 1, lo, .int (x ^^^ z) :: st, sh, hp)) : gG y d mc ms Q cells slots (pc, lo, .int z :: .int x :: st, sh, hp) := fun ok p l e s m args below meth c E H locs ls C hX hw hL hl => lv_ixor C.1 C.2.1 hd (k ok p l e s m args below meth c E H locs ls C hX hw hL hl)
theorem g1_ladd {x z : Int64} (hd : decode y.2.1 pc = .ok (.ladd, 1)) (k : gG y d mc ms Q cells slots (pc + 1, lo, .long (x + z) :: st, sh, hp)) : gG y d mc ms Q cells slots (pc, lo, .long z :: .long x :: st, sh, hp) := fun ok p l e s m args below meth c E H locs ls C hX hw hL hl => lv_ladd C.1 C.2.1 hd (k ok p l e s m args below meth c E H locs ls C hX hw hL hl)
theorem g1_lsub {x z : Int64} (hd : decode y.2.1 pc = .ok (.lsub, 1)) (k : gG y d mc ms Q cells slots (pc + 1, lo, .long (x - z) :: st, sh, hp)) : gG y d mc ms Q cells slots (pc, lo, .long z :: .long x :: st, sh, hp) := fun ok p l e s m args below meth c E H locs ls C hX hw hL hl => lv_lsub C.1 C.2.1 hd (k ok p l e s m args below meth c E H locs ls C hX hw hL hl)
theorem g1_lmul {x z : Int64} (hd : decode y.2.1 pc = .ok (.lmul, 1)) (k : gG y d mc ms Q cells slots (pc + 1, lo, .long (x * z) :: st, sh, hp)) : gG y d mc ms Q cells slots (pc, lo, .long z :: .long x :: st, sh, hp) := fun ok p l e s m args below meth c E H locs ls C hX hw hL hl => lv_lmul C.1 C.2.1 hd (k ok p l e s m args below meth c E H locs ls C hX hw hL hl)
theorem g1_land {x z : Int64} (hd : decode y.2.1 pc = .ok (.land, 1)) (k : gG y d mc ms Q cells slots (pc + 1, lo, .long (x &&& z) :: st, sh, hp)) : gG y d mc ms Q cells slots (pc, lo, .long z :: .long x :: st, sh, hp) := fun ok p l e s m args below meth c E H locs ls C hX hw hL hl => lv_land C.1 C.2.1 hd (k ok p l e s m args below meth c E H locs ls C hX hw hL hl)
theorem g1_lor {x z : Int64} (hd : decode y.2.1 pc = .ok (.lor, 1)) (k : gG y d mc ms Q cells slots (pc + 1, lo, .long (x ||| z) :: st, sh, hp)) : gG y d mc ms Q cells slots (pc, lo, .long z :: .long x :: st, sh, hp) := fun ok p l e s m args below meth c E H locs ls C hX hw hL hl => lv_lor C.1 C.2.1 hd (k ok p l e s m args below meth c E H locs ls C hX hw hL hl)
theorem g1_lxor {x z : Int64} (hd : decode y.2.1 pc = .ok (.lxor, 1)) (k : gG y d mc ms Q cells slots (pc + 1, lo, .long (x ^^^ z) :: st, sh, hp)) : gG y d mc ms Q cells slots (pc, lo, .long z :: .long x :: st, sh, hp) := fun ok p l e s m args below meth c E H locs ls C hX hw hL hl => lv_lxor C.1 C.2.1 hd (k ok p l e s m args below meth c E H locs ls C hX hw hL hl)
theorem g1_i2l {x : Int32} (hd : decode y.2.1 pc = .ok (.i2l, 1)) (k : gG y d mc ms Q cells slots (pc + 1, lo, .long x.toInt64 :: st, sh, hp)) : gG y d mc ms Q cells slots (pc, lo, .int x :: st, sh, hp) := fun ok p l e s m args below meth c E H locs ls C hX hw hL hl => lv_i2l C.1 C.2.1 hd rfl (k ok p l e s m args below meth c E H locs ls C hX hw hL hl)
theorem g1_l2i {x : Int64} (hd : decode y.2.1 pc = .ok (.l2i, 1)) (k : gG y d mc ms Q cells slots (pc + 1, lo, .int x.toInt32 :: st, sh, hp)) : gG y d mc ms Q cells slots (pc, lo, .long x :: st, sh, hp) := fun ok p l e s m args below meth c E H locs ls C hX hw hL hl => lv_l2i C.1 C.2.1 hd rfl (k ok p l e s m args below meth c E H locs ls C hX hw hL hl)
theorem g1_i2b {x : Int32} (hd : decode y.2.1 pc = .ok (.i2b, 1)) (k : gG y d mc ms Q cells slots (pc + 1, lo, .int x.toInt8.toInt32 :: st, sh, hp)) : gG y d mc ms Q cells slots (pc, lo, .int x :: st, sh, hp) := fun ok p l e s m args below meth c E H locs ls C hX hw hL hl => lv_i2b C.1 C.2.1 hd rfl (k ok p l e s m args below meth c E H locs ls C hX hw hL hl)
theorem g1_i2c {x : Int32} (hd : decode y.2.1 pc = .ok (.i2c, 1)) (k : gG y d mc ms Q cells slots (pc + 1, lo, .int (x.toUInt32 % 65536).toInt32 :: st, sh, hp)) : gG y d mc ms Q cells slots (pc, lo, .int x :: st, sh, hp) := fun ok p l e s m args below meth c E H locs ls C hX hw hL hl => lv_i2c C.1 C.2.1 hd rfl (k ok p l e s m args below meth c E H locs ls C hX hw hL hl)
theorem g1_iushr {x z : Int32} (hd : decode y.2.1 pc = .ok (.iushr, 1)) (k : gG y d mc ms Q cells slots (pc + 1, lo, .int (x.toUInt32 >>> (z.toUInt32 &&& Int32.toUInt32 31)).toInt32 :: st, sh, hp)) : gG y d mc ms Q cells slots (pc, lo, .int z :: .int x :: st, sh, hp) := fun ok p l e s m args below meth c E H locs ls C hX hw hL hl => lv_iushr C.1 C.2.1 hd rfl (k ok p l e s m args below meth c E H locs ls C hX hw hL hl)
theorem g1_lushr {x : Int64} {z : Int32} (hd : decode y.2.1 pc = .ok (.lushr, 1)) (k : gG y d mc ms Q cells slots (pc + 1, lo, .long (x.toUInt64 >>> (z.toInt64.toUInt64 &&& Int64.toUInt64 63)).toInt64 :: st, sh, hp)) : gG y d mc ms Q cells slots (pc, lo, .int z :: .long x :: st, sh, hp) := fun ok p l e s m args below meth c E H locs ls C hX hw hL hl => lv_lushr C.1 C.2.1 hd rfl (k ok p l e s m args below meth c E H locs ls C hX hw hL hl)
theorem g1_lshl {x : Int64} {z : Int32} (hd : decode y.2.1 pc = .ok (.lshl, 1)) (k : gG y d mc ms Q cells slots (pc + 1, lo, .long (x <<< (z.toInt64 &&& 63)) :: st, sh, hp)) : gG y d mc ms Q cells slots (pc, lo, .int z :: .long x :: st, sh, hp) := fun ok p l e s m args below meth c E H locs ls C hX hw hL hl => lv_lshl C.1 C.2.1 hd rfl (k ok p l e s m args below meth c E H locs ls C hX hw hL hl)
theorem g1_lshr {x : Int64} {z : Int32} (hd : decode y.2.1 pc = .ok (.lshr, 1)) (k : gG y d mc ms Q cells slots (pc + 1, lo, .long (x >>> (z.toInt64 &&& 63)) :: st, sh, hp)) : gG y d mc ms Q cells slots (pc, lo, .int z :: .long x :: st, sh, hp) := fun ok p l e s m args below meth c E H locs ls C hX hw hL hl => lv_lshr C.1 C.2.1 hd rfl (k ok p l e s m args below meth c E H locs ls C hX hw hL hl)
theorem g1_lcmp {x z : Int64} (hd : decode y.2.1 pc = .ok (.lcmp, 1)) (k : gG y d mc ms Q cells slots (pc + 1, lo, .int (lg_cmp x z) :: st, sh, hp)) : gG y d mc ms Q cells slots (pc, lo, .long z :: .long x :: st, sh, hp) := fun ok p l e s m args below meth c E H locs ls C hX hw hL hl => W.lcmp C.1 C.2.1 hd (k ok p l e s m args below meth c E H locs ls C hX hw hL hl)
theorem g1_idiv {x z : Int32} (hz : ¬ z = 0) (hd : decode y.2.1 pc = .ok (.idiv, 1)) (k : gG y d mc ms Q cells slots (pc + 1, lo, .int (x / z) :: st, sh, hp)) : gG y d mc ms Q cells slots (pc, lo, .int z :: .int x :: st, sh, hp) := fun ok p l e s m args below meth c E H locs ls C hX hw hL hl => lv_idiv C.1 C.2.1 hd hz (k ok p l e s m args below meth c E H locs ls C hX hw hL hl)
theorem g1_irem {x z : Int32} (hz : ¬ z = 0) (hd : decode y.2.1 pc = .ok (.irem, 1)) (k : gG y d mc ms Q cells slots (pc + 1, lo, .int (x - x / z * z) :: st, sh, hp)) : gG y d mc ms Q cells slots (pc, lo, .int z :: .int x :: st, sh, hp) := fun ok p l e s m args below meth c E H locs ls C hX hw hL hl => lv_irem C.1 C.2.1 hd hz (k ok p l e s m args below meth c E H locs ls C hX hw hL hl)
theorem g1_ldiv {x z : Int64} (hz : ¬ z = 0) (hd : decode y.2.1 pc = .ok (.ldiv, 1)) (k : gG y d mc ms Q cells slots (pc + 1, lo, .long (x / z) :: st, sh, hp)) : gG y d mc ms Q cells slots (pc, lo, .long z :: .long x :: st, sh, hp) := fun ok p l e s m args below meth c E H locs ls C hX hw hL hl => lv_ldiv C.1 C.2.1 hd hz (k ok p l e s m args below meth c E H locs ls C hX hw hL hl)
theorem g1_lrem {x z : Int64} (hz : ¬ z = 0) (hd : decode y.2.1 pc = .ok (.lrem, 1)) (k : gG y d mc ms Q cells slots (pc + 1, lo, .long (x - x / z * z) :: st, sh, hp)) : gG y d mc ms Q cells slots (pc, lo, .long z :: .long x :: st, sh, hp) := fun ok p l e s m args below meth c E H locs ls C hX hw hL hl => lv_lrem C.1 C.2.1 hd hz (k ok p l e s m args below meth c E H locs ls C hX hw hL hl)
theorem g1_ineg {x : Int32} (hd : decode y.2.1 pc = .ok (.ineg, 1)) (k : gG y d mc ms Q cells slots (pc + 1, lo, .int (-x) :: st, sh, hp)) : gG y d mc ms Q cells slots (pc, lo, .int x :: st, sh, hp) := fun ok p l e s m args below meth c E H locs ls C hX hw hL hl => lv_ineg C.1 C.2.1 hd (k ok p l e s m args below meth c E H locs ls C hX hw hL hl)
theorem g1_ishl {x z : Int32} (hd : decode y.2.1 pc = .ok (.ishl, 1)) (k : gG y d mc ms Q cells slots (pc + 1, lo, .int (x <<< (z &&& 31)) :: st, sh, hp)) : gG y d mc ms Q cells slots (pc, lo, .int z :: .int x :: st, sh, hp) := fun ok p l e s m args below meth c E H locs ls C hX hw hL hl => lv_ishl C.1 C.2.1 hd (k ok p l e s m args below meth c E H locs ls C hX hw hL hl)
theorem g1_ishr {x z : Int32} (hd : decode y.2.1 pc = .ok (.ishr, 1)) (k : gG y d mc ms Q cells slots (pc + 1, lo, .int (x >>> (z &&& 31)) :: st, sh, hp)) : gG y d mc ms Q cells slots (pc, lo, .int z :: .int x :: st, sh, hp) := fun ok p l e s m args below meth c E H locs ls C hX hw hL hl => lv_ishr C.1 C.2.1 hd (k ok p l e s m args below meth c E H locs ls C hX hw hL hl)
theorem g1_dup {v : Value} (hv : v.category = 1) (hd : decode y.2.1 pc = .ok (.dup, 1)) (k : gG y d mc ms Q cells slots (pc + 1, lo, v :: v :: st, sh, hp)) : gG y d mc ms Q cells slots (pc, lo, v :: st, sh, hp) := fun ok p l e s m args below meth c E H locs ls C hX hw hL hl => lv_dup C.1 C.2.1 hd ((cv_cat E v).trans hv) (k ok p l e s m args below meth c E H locs ls C hX hw hL hl)
theorem g1_pop {v : Value} (hv : v.category = 1) (hd : decode y.2.1 pc = .ok (.pop, 1)) (k : gG y d mc ms Q cells slots (pc + 1, lo, st, sh, hp)) : gG y d mc ms Q cells slots (pc, lo, v :: st, sh, hp) := fun ok p l e s m args below meth c E H locs ls C hX hw hL hl => lv_pop C.1 C.2.1 hd ((cv_cat E v).trans hv) (k ok p l e s m args below meth c E H locs ls C hX hw hL hl)
theorem g1_dup2 {v u : Value} (hv : v.category = 1) (hu : u.category = 1) (hd : decode y.2.1 pc = .ok (.dup2, 1)) (k : gG y d mc ms Q cells slots (pc + 1, lo, v :: u :: v :: u :: st, sh, hp)) : gG y d mc ms Q cells slots (pc, lo, v :: u :: st, sh, hp) := fun ok p l e s m args below meth c E H locs ls C hX hw hL hl => lv_dup2_11 C.1 C.2.1 hd ((cv_cat E v).trans hv) ((cv_cat E u).trans hu) (k ok p l e s m args below meth c E H locs ls C hX hw hL hl)
theorem g1_iconst {n : Int} {v : Int32} (hd : decode y.2.1 pc = .ok (.iconst n, 1)) (hv : Int32.ofInt n = v) (k : gG y d mc ms Q cells slots (pc + 1, lo, .int v :: st, sh, hp)) : gG y d mc ms Q cells slots (pc, lo, st, sh, hp) := fun ok p l e s m args below meth c E H locs ls C hX hw hL hl => lv_iconst C.1 C.2.1 hd hv (k ok p l e s m args below meth c E H locs ls C hX hw hL hl)
theorem g1_bipush {n : Int} {v : Int32} (hd : decode y.2.1 pc = .ok (.bipush n, 2)) (hv : (Int8.ofInt n).toInt32 = v) (k : gG y d mc ms Q cells slots (pc + 2, lo, .int v :: st, sh, hp)) : gG y d mc ms Q cells slots (pc, lo, st, sh, hp) := fun ok p l e s m args below meth c E H locs ls C hX hw hL hl => lv_bipush C.1 C.2.1 hd hv (k ok p l e s m args below meth c E H locs ls C hX hw hL hl)
theorem g1_sipush {n : Int} {v : Int32} (hd : decode y.2.1 pc = .ok (.sipush n, 3)) (hv : (Int16.ofInt n).toInt32 = v) (k : gG y d mc ms Q cells slots (pc + 3, lo, .int v :: st, sh, hp)) : gG y d mc ms Q cells slots (pc, lo, st, sh, hp) := fun ok p l e s m args below meth c E H locs ls C hX hw hL hl => lv_sipush C.1 C.2.1 hd hv (k ok p l e s m args below meth c E H locs ls C hX hw hL hl)
theorem g1_ldc {x : Nat} {v : Int32} (hd : decode y.2.1 pc = .ok (.ldc x, 2)) (hv : Cond.constant y.1.cls x v ∈ gT) (k : gG y d mc ms Q cells slots (pc + 2, lo, .int v :: st, sh, hp)) : gG y d mc ms Q cells slots (pc, lo, st, sh, hp) := fun ok p l e s m args below meth c E H locs ls C hX hw hL hl => lv_ldc C.1 C.2.1 C.2.2.2.2.1 (C.2.2.2.2.2.1 _ hv) hd (k ok p l e s m args below meth c E H locs ls C hX hw hL hl)
theorem g1_ldcw {x : Nat} {v : Int32} (hd : decode y.2.1 pc = .ok (.ldc_w x, 3)) (hv : Cond.constant y.1.cls x v ∈ gT) (k : gG y d mc ms Q cells slots (pc + 3, lo, .int v :: st, sh, hp)) : gG y d mc ms Q cells slots (pc, lo, st, sh, hp) := fun ok p l e s m args below meth c E H locs ls C hX hw hL hl => lv_ldcw C.1 C.2.1 C.2.2.2.2.1 (C.2.2.2.2.2.1 _ hv) hd (k ok p l e s m args below meth c E H locs ls C hX hw hL hl)
theorem g1_ldc2 {x : Nat} {v : Int64} (hd : decode y.2.1 pc = .ok (.ldc2_w x, 3)) (hv : Cond.constantLong y.1.cls x v ∈ gT) (k : gG y d mc ms Q cells slots (pc + 3, lo, .long v :: st, sh, hp)) : gG y d mc ms Q cells slots (pc, lo, st, sh, hp) := fun ok p l e s m args below meth c E H locs ls C hX hw hL hl => lv_ldc2 C.1 C.2.1 C.2.2.2.2.1 (C.2.2.2.2.2.1 _ hv) hd (k ok p l e s m args below meth c E H locs ls C hX hw hL hl)
theorem g1_lconst {n : Fin 2} {v : Int64} (hd : decode y.2.1 pc = .ok (.lconst n, 1)) (hv : Int64.ofNat (n : Nat) = v) (k : gG y d mc ms Q cells slots (pc + 1, lo, .long v :: st, sh, hp)) : gG y d mc ms Q cells slots (pc, lo, st, sh, hp) := fun ok p l e s m args below meth c E H locs ls C hX hw hL hl => lv_lconst C.1 C.2.1 hd hv (k ok p l e s m args below meth c E H locs ls C hX hw hL hl)
theorem g1_goto {off : Int} {tgt : Nat} (hd : decode y.2.1 pc = .ok (.goto off, 3)) (ht : (pc : Int) + off = (tgt : Int)) (k : gG y d mc ms Q cells slots (tgt, lo, st, sh, hp)) : gG y d mc ms Q cells slots (pc, lo, st, sh, hp) := fun ok p l e s m args below meth c E H locs ls C hX hw hL hl => lv_goto C.1 C.2.1 hd ht (k ok p l e s m args below meth c E H locs ls C hX hw hL hl)
theorem g1_iload {i b : Nat} {x : Int32} (hd : (decode y.2.1 pc = .ok (.iload i, 2) ∧ b = 2) ∨ (decode y.2.1 pc = .ok (.iload_n (Fin.ofNat 4 i), 1) ∧ b = 1 ∧ i < 4)) (hx : lo[i]? = some (.int x)) (k : gG y d mc ms Q cells slots (pc + b, lo, .int x :: st, sh, hp)) : gG y d mc ms Q cells slots (pc, lo, st, sh, hp) := by
  intro ok p l e s m args below meth c E H locs ls C hX hw hL hl
  have k := k ok p l e s m args below meth c E H locs ls C hX hw hL hl
  rcases hd with ⟨hd, rfl⟩ | ⟨hd, rfl, hi⟩
  · exact lv_iload C.1 C.2.1 hd (al_at hl hx rfl) k
  · exact lv_iload_n C.1 C.2.1 hd (Nat.mod_eq_of_lt hi) (al_at hl hx rfl) k
theorem g1_lload {i b : Nat} {x : Int64} (hd : (decode y.2.1 pc = .ok (.lload i, 2) ∧ b = 2) ∨ (decode y.2.1 pc = .ok (.lload_n (Fin.ofNat 4 i), 1) ∧ b = 1 ∧ i < 4)) (hx : lo[i]? = some (.long x)) (k : gG y d mc ms Q cells slots (pc + b, lo, .long x :: st, sh, hp)) : gG y d mc ms Q cells slots (pc, lo, st, sh, hp) := by
  intro ok p l e s m args below meth c E H locs ls C hX hw hL hl
  have k := k ok p l e s m args below meth c E H locs ls C hX hw hL hl
  rcases hd with ⟨hd, rfl⟩ | ⟨hd, rfl, hi⟩
  · exact lv_lload C.1 C.2.1 hd (al_at hl hx rfl) k
  · exact lv_lload_n C.1 C.2.1 hd (Nat.mod_eq_of_lt hi) (al_at hl hx rfl) k
def isR : Value → Bool
  | .ref _ => true
  | .float _ => true
  | _ => false
theorem isR_cv {E : en_T} {v : Value} (h : isR v = true) : isV v = true ∧ v.category = 1 ∧ ∃ q, cv E v = .ref q := by
  cases v <;> first | exact ⟨rfl, rfl, _, rfl⟩ | cases h
theorem g1_aload {i b : Nat} {x : Value} (hd : (decode y.2.1 pc = .ok (.aload i, 2) ∧ b = 2) ∨ (decode y.2.1 pc = .ok (.aload_n (Fin.ofNat 4 i), 1) ∧ b = 1 ∧ i < 4)) (hx : lo[i]? = some x) (hr : isR x = true) (k : gG y d mc ms Q cells slots (pc + b, lo, x :: st, sh, hp)) : gG y d mc ms Q cells slots (pc, lo, st, sh, hp) := by
  intro ok p l e s m args below meth c E H locs ls C hX hw hL hl
  have k := k ok p l e s m args below meth c E H locs ls C hX hw hL hl
  obtain ⟨h1, -, q, hq⟩ := isR_cv (E := E) hr
  have hx' := al_at hl hx h1
  simp only [List.map_cons] at k
  rw [hq] at hx' k
  rcases hd with ⟨hd, rfl⟩ | ⟨hd, rfl, hi⟩
  · exact lv_aload C.1 C.2.1 hd hx' k
  · exact lv_aload_n C.1 C.2.1 hd (Nat.mod_eq_of_lt hi) hx' k
theorem g1_istore {i b : Nat} {x : Int32} (hd : (decode y.2.1 pc = .ok (.istore i, 2) ∧ b = 2) ∨ (decode y.2.1 pc = .ok (.istore_n (Fin.ofNat 4 i), 1) ∧ b = 1 ∧ i < 4)) (hn : i < y.2.2.1) (hN : notL lo i = true) (k : gG y d mc ms Q cells slots (pc + b, lo.set i (.int x), st, sh, hp)) : gG y d mc ms Q cells slots (pc, lo, .int x :: st, sh, hp) := by
  intro ok p l e s m args below meth c E H locs ls C hX hw hL hl
  rcases hd with ⟨hd, rfl⟩ | ⟨hd, rfl, hi⟩
  · exact lv_istore C.1 C.2.1 hd hl hn rfl (fun ls' h' => k ok p l e s m args below meth c E H locs ls' C hX hw hL (hs_sub h' (al_set1 hN rfl)))
  · exact lv_istore_n C.1 C.2.1 hd (Nat.mod_eq_of_lt hi) hl hn rfl (fun ls' h' => k ok p l e s m args below meth c E H locs ls' C hX hw hL (hs_sub h' (al_set1 hN rfl)))
theorem g1_astore {i b : Nat} {x : Value} (hd : (decode y.2.1 pc = .ok (.astore i, 2) ∧ b = 2) ∨ (decode y.2.1 pc = .ok (.astore_n (Fin.ofNat 4 i), 1) ∧ b = 1 ∧ i < 4)) (hn : i < y.2.2.1) (hN : notL lo i = true) (hr : isR x = true) (k : gG y d mc ms Q cells slots (pc + b, lo.set i x, st, sh, hp)) : gG y d mc ms Q cells slots (pc, lo, x :: st, sh, hp) := by
  intro ok p l e s m args below meth c E H locs ls C hX hw hL hl
  obtain ⟨h1, h2, q, hq⟩ := isR_cv (E := E) hr
  simp only [List.map_cons]
  rw [hq]
  rcases hd with ⟨hd, rfl⟩ | ⟨hd, rfl, hi⟩
  · exact lv_astore C.1 C.2.1 hd hl hn rfl (fun ls' h' => k ok p l e s m args below meth c E H locs ls' C hX hw hL (hs_sub h' (by rw [← hq]; exact al_set1 hN h2)))
  · exact lv_astore_n C.1 C.2.1 hd (Nat.mod_eq_of_lt hi) hl hn rfl (fun ls' h' => k ok p l e s m args below meth c E H locs ls' C hX hw hL (hs_sub h' (by rw [← hq]; exact al_set1 hN h2)))
theorem g1_lstore {i b : Nat} {x : Int64} (hd : (decode y.2.1 pc = .ok (.lstore i, 2) ∧ b = 2) ∨ (decode y.2.1 pc = .ok (.lstore_n (Fin.ofNat 4 i), 1) ∧ b = 1 ∧ i < 4)) (hn : i + 1 < y.2.2.1) (hN : notL lo i = true) (k : gG y d mc ms Q cells slots (pc + b, (lo.set i (.long x)).set (i + 1) (.retAddr 0), st, sh, hp)) : gG y d mc ms Q cells slots (pc, lo, .long x :: st, sh, hp) := by
  intro ok p l e s m args below meth c E H locs ls C hX hw hL hl
  rcases hd with ⟨hd, rfl⟩ | ⟨hd, rfl, hi⟩
  · exact lv_lstore C.1 C.2.1 hd hl hn rfl (fun ls' h' => k ok p l e s m args below meth c E H locs ls' C hX hw hL (hs_sub h' (al_set2 hN rfl)))
  · exact lv_lstore_n C.1 C.2.1 hd (Nat.mod_eq_of_lt hi) hl hn rfl (fun ls' h' => k ok p l e s m args below meth c E H locs ls' C hX hw hL (hs_sub h' (al_set2 hN rfl)))
theorem g1_iinc {i : Nat} {n : Int} {x v : Int32} (hd : decode y.2.1 pc = .ok (.iinc i n, 3)) (hv : Int32.ofInt n = v) (hx : lo[i]? = some (.int x)) (hn : i < y.2.2.1) (hN : notL lo i = true) (k : gG y d mc ms Q cells slots (pc + 3, lo.set i (.int (x + v)), st, sh, hp)) : gG y d mc ms Q cells slots (pc, lo, st, sh, hp) := by
  intro ok p l e s m args below meth c E H locs ls C hX hw hL hl
  subst hv
  obtain ⟨kk, hk⟩ := List.getElem?_of_mem (al_mem.mpr ⟨_, hx, rfl, rfl⟩ : (i, cv E (.int x)) ∈ al E lo)
  exact lv_iinc C.1 C.2.1 hd hl hk rfl hn rfl (fun ls' h' => k ok p l e s m args below meth c E H locs ls' C hX hw hL (hs_sub h' (al_set1 hN rfl)))
theorem g_icmp_eq {x z : Int32} {ia : Instr} {off : Int} {nx tg b j : Nat} {v : Int32} {w : Int64} (h : lk pc y.2.2.2.2 = some (pc, ia, .if_icmp .eq off, nx, tg, b, v, w, j)) (kt : x = z → gG y d mc ms Q cells slots (tg, lo, st, sh, hp)) (kf : ¬ x = z → gG y d mc ms Q cells slots (nx, lo, st, sh, hp)) : gG y d mc ms Q cells slots (pc, lo, .int z :: .int x :: st, sh, hp) := by
  intro ok p l e s m args below meth c E H locs ls C hX hw hL hl
  have h1 := (lk_ok ok h).1
  simp only [okb, Bool.and_eq_true, decide_eq_true_eq] at h1
  obtain ⟨hd, ⟨⟨h2, h3⟩, h4⟩, h5⟩ := h1
  have h2 := Nat.eq_of_beq_eq_true h2
  have h4 := Nat.eq_of_beq_eq_true h4
  subst h2; subst h3; subst h4
  exact lv_icmp_eq C.1 C.2.1 (dec_of hd) h5 (fun q => kt q ok p l e s m args below meth c E H locs ls C hX hw hL hl) (fun q => kf q ok p l e s m args below meth c E H locs ls C hX hw hL hl)
theorem g_if_eq {x : Int32} {ia : Instr} {off : Int} {nx tg b j : Nat} {v : Int32} {w : Int64} (h : lk pc y.2.2.2.2 = some (pc, ia, .ifCond .eq off, nx, tg, b, v, w, j)) (kt : x = 0 → gG y d mc ms Q cells slots (tg, lo, st, sh, hp)) (kf : ¬ x = 0 → gG y d mc ms Q cells slots (nx, lo, st, sh, hp)) : gG y d mc ms Q cells slots (pc, lo, .int x :: st, sh, hp) := by
  intro ok p l e s m args below meth c E H locs ls C hX hw hL hl
  have h1 := (lk_ok ok h).1
  simp only [okb, Bool.and_eq_true, decide_eq_true_eq] at h1
  obtain ⟨hd, ⟨⟨h2, h3⟩, h4⟩, h5⟩ := h1
  have h2 := Nat.eq_of_beq_eq_true h2
  have h4 := Nat.eq_of_beq_eq_true h4
  subst h2; subst h3; subst h4
  exact lv_if_eq C.1 C.2.1 (dec_of hd) h5 (fun q => kt q ok p l e s m args below meth c E H locs ls C hX hw hL hl) (fun q => kf q ok p l e s m args below meth c E H locs ls C hX hw hL hl)
theorem g_icmp_ne {x z : Int32} {ia : Instr} {off : Int} {nx tg b j : Nat} {v : Int32} {w : Int64} (h : lk pc y.2.2.2.2 = some (pc, ia, .if_icmp .ne off, nx, tg, b, v, w, j)) (kt : ¬ x = z → gG y d mc ms Q cells slots (tg, lo, st, sh, hp)) (kf : x = z → gG y d mc ms Q cells slots (nx, lo, st, sh, hp)) : gG y d mc ms Q cells slots (pc, lo, .int z :: .int x :: st, sh, hp) := by
  intro ok p l e s m args below meth c E H locs ls C hX hw hL hl
  have h1 := (lk_ok ok h).1
  simp only [okb, Bool.and_eq_true, decide_eq_true_eq] at h1
  obtain ⟨hd, ⟨⟨h2, h3⟩, h4⟩, h5⟩ := h1
  have h2 := Nat.eq_of_beq_eq_true h2
  have h4 := Nat.eq_of_beq_eq_true h4
  subst h2; subst h3; subst h4
  exact lv_icmp_ne C.1 C.2.1 (dec_of hd) h5 (fun q => kt q ok p l e s m args below meth c E H locs ls C hX hw hL hl) (fun q => kf q ok p l e s m args below meth c E H locs ls C hX hw hL hl)
theorem g_if_ne {x : Int32} {ia : Instr} {off : Int} {nx tg b j : Nat} {v : Int32} {w : Int64} (h : lk pc y.2.2.2.2 = some (pc, ia, .ifCond .ne off, nx, tg, b, v, w, j)) (kt : ¬ x = 0 → gG y d mc ms Q cells slots (tg, lo, st, sh, hp)) (kf : x = 0 → gG y d mc ms Q cells slots (nx, lo, st, sh, hp)) : gG y d mc ms Q cells slots (pc, lo, .int x :: st, sh, hp) := by
  intro ok p l e s m args below meth c E H locs ls C hX hw hL hl
  have h1 := (lk_ok ok h).1
  simp only [okb, Bool.and_eq_true, decide_eq_true_eq] at h1
  obtain ⟨hd, ⟨⟨h2, h3⟩, h4⟩, h5⟩ := h1
  have h2 := Nat.eq_of_beq_eq_true h2
  have h4 := Nat.eq_of_beq_eq_true h4
  subst h2; subst h3; subst h4
  exact lv_if_ne C.1 C.2.1 (dec_of hd) h5 (fun q => kt q ok p l e s m args below meth c E H locs ls C hX hw hL hl) (fun q => kf q ok p l e s m args below meth c E H locs ls C hX hw hL hl)
theorem g_icmp_lt {x z : Int32} {ia : Instr} {off : Int} {nx tg b j : Nat} {v : Int32} {w : Int64} (h : lk pc y.2.2.2.2 = some (pc, ia, .if_icmp .lt off, nx, tg, b, v, w, j)) (kt : x < z → gG y d mc ms Q cells slots (tg, lo, st, sh, hp)) (kf : ¬ x < z → gG y d mc ms Q cells slots (nx, lo, st, sh, hp)) : gG y d mc ms Q cells slots (pc, lo, .int z :: .int x :: st, sh, hp) := by
  intro ok p l e s m args below meth c E H locs ls C hX hw hL hl
  have h1 := (lk_ok ok h).1
  simp only [okb, Bool.and_eq_true, decide_eq_true_eq] at h1
  obtain ⟨hd, ⟨⟨h2, h3⟩, h4⟩, h5⟩ := h1
  have h2 := Nat.eq_of_beq_eq_true h2
  have h4 := Nat.eq_of_beq_eq_true h4
  subst h2; subst h3; subst h4
  exact lv_icmp_lt C.1 C.2.1 (dec_of hd) h5 (fun q => kt q ok p l e s m args below meth c E H locs ls C hX hw hL hl) (fun q => kf q ok p l e s m args below meth c E H locs ls C hX hw hL hl)
theorem g_if_lt {x : Int32} {ia : Instr} {off : Int} {nx tg b j : Nat} {v : Int32} {w : Int64} (h : lk pc y.2.2.2.2 = some (pc, ia, .ifCond .lt off, nx, tg, b, v, w, j)) (kt : x < 0 → gG y d mc ms Q cells slots (tg, lo, st, sh, hp)) (kf : ¬ x < 0 → gG y d mc ms Q cells slots (nx, lo, st, sh, hp)) : gG y d mc ms Q cells slots (pc, lo, .int x :: st, sh, hp) := by
  intro ok p l e s m args below meth c E H locs ls C hX hw hL hl
  have h1 := (lk_ok ok h).1
  simp only [okb, Bool.and_eq_true, decide_eq_true_eq] at h1
  obtain ⟨hd, ⟨⟨h2, h3⟩, h4⟩, h5⟩ := h1
  have h2 := Nat.eq_of_beq_eq_true h2
  have h4 := Nat.eq_of_beq_eq_true h4
  subst h2; subst h3; subst h4
  exact lv_if_lt C.1 C.2.1 (dec_of hd) h5 (fun q => kt q ok p l e s m args below meth c E H locs ls C hX hw hL hl) (fun q => kf q ok p l e s m args below meth c E H locs ls C hX hw hL hl)
theorem g_icmp_ge {x z : Int32} {ia : Instr} {off : Int} {nx tg b j : Nat} {v : Int32} {w : Int64} (h : lk pc y.2.2.2.2 = some (pc, ia, .if_icmp .ge off, nx, tg, b, v, w, j)) (kt : z ≤ x → gG y d mc ms Q cells slots (tg, lo, st, sh, hp)) (kf : ¬ z ≤ x → gG y d mc ms Q cells slots (nx, lo, st, sh, hp)) : gG y d mc ms Q cells slots (pc, lo, .int z :: .int x :: st, sh, hp) := by
  intro ok p l e s m args below meth c E H locs ls C hX hw hL hl
  have h1 := (lk_ok ok h).1
  simp only [okb, Bool.and_eq_true, decide_eq_true_eq] at h1
  obtain ⟨hd, ⟨⟨h2, h3⟩, h4⟩, h5⟩ := h1
  have h2 := Nat.eq_of_beq_eq_true h2
  have h4 := Nat.eq_of_beq_eq_true h4
  subst h2; subst h3; subst h4
  exact lv_icmp_ge C.1 C.2.1 (dec_of hd) h5 (fun q => kt q ok p l e s m args below meth c E H locs ls C hX hw hL hl) (fun q => kf q ok p l e s m args below meth c E H locs ls C hX hw hL hl)
theorem g_if_ge {x : Int32} {ia : Instr} {off : Int} {nx tg b j : Nat} {v : Int32} {w : Int64} (h : lk pc y.2.2.2.2 = some (pc, ia, .ifCond .ge off, nx, tg, b, v, w, j)) (kt : 0 ≤ x → gG y d mc ms Q cells slots (tg, lo, st, sh, hp)) (kf : ¬ 0 ≤ x → gG y d mc ms Q cells slots (nx, lo, st, sh, hp)) : gG y d mc ms Q cells slots (pc, lo, .int x :: st, sh, hp) := by
  intro ok p l e s m args below meth c E H locs ls C hX hw hL hl
  have h1 := (lk_ok ok h).1
  simp only [okb, Bool.and_eq_true, decide_eq_true_eq] at h1
  obtain ⟨hd, ⟨⟨h2, h3⟩, h4⟩, h5⟩ := h1
  have h2 := Nat.eq_of_beq_eq_true h2
  have h4 := Nat.eq_of_beq_eq_true h4
  subst h2; subst h3; subst h4
  exact lv_if_ge C.1 C.2.1 (dec_of hd) h5 (fun q => kt q ok p l e s m args below meth c E H locs ls C hX hw hL hl) (fun q => kf q ok p l e s m args below meth c E H locs ls C hX hw hL hl)
theorem g_icmp_gt {x z : Int32} {ia : Instr} {off : Int} {nx tg b j : Nat} {v : Int32} {w : Int64} (h : lk pc y.2.2.2.2 = some (pc, ia, .if_icmp .gt off, nx, tg, b, v, w, j)) (kt : z < x → gG y d mc ms Q cells slots (tg, lo, st, sh, hp)) (kf : ¬ z < x → gG y d mc ms Q cells slots (nx, lo, st, sh, hp)) : gG y d mc ms Q cells slots (pc, lo, .int z :: .int x :: st, sh, hp) := by
  intro ok p l e s m args below meth c E H locs ls C hX hw hL hl
  have h1 := (lk_ok ok h).1
  simp only [okb, Bool.and_eq_true, decide_eq_true_eq] at h1
  obtain ⟨hd, ⟨⟨h2, h3⟩, h4⟩, h5⟩ := h1
  have h2 := Nat.eq_of_beq_eq_true h2
  have h4 := Nat.eq_of_beq_eq_true h4
  subst h2; subst h3; subst h4
  exact lv_icmp_gt C.1 C.2.1 (dec_of hd) h5 (fun q => kt q ok p l e s m args below meth c E H locs ls C hX hw hL hl) (fun q => kf q ok p l e s m args below meth c E H locs ls C hX hw hL hl)
theorem g_if_gt {x : Int32} {ia : Instr} {off : Int} {nx tg b j : Nat} {v : Int32} {w : Int64} (h : lk pc y.2.2.2.2 = some (pc, ia, .ifCond .gt off, nx, tg, b, v, w, j)) (kt : 0 < x → gG y d mc ms Q cells slots (tg, lo, st, sh, hp)) (kf : ¬ 0 < x → gG y d mc ms Q cells slots (nx, lo, st, sh, hp)) : gG y d mc ms Q cells slots (pc, lo, .int x :: st, sh, hp) := by
  intro ok p l e s m args below meth c E H locs ls C hX hw hL hl
  have h1 := (lk_ok ok h).1
  simp only [okb, Bool.and_eq_true, decide_eq_true_eq] at h1
  obtain ⟨hd, ⟨⟨h2, h3⟩, h4⟩, h5⟩ := h1
  have h2 := Nat.eq_of_beq_eq_true h2
  have h4 := Nat.eq_of_beq_eq_true h4
  subst h2; subst h3; subst h4
  exact lv_if_gt C.1 C.2.1 (dec_of hd) h5 (fun q => kt q ok p l e s m args below meth c E H locs ls C hX hw hL hl) (fun q => kf q ok p l e s m args below meth c E H locs ls C hX hw hL hl)
theorem g_icmp_le {x z : Int32} {ia : Instr} {off : Int} {nx tg b j : Nat} {v : Int32} {w : Int64} (h : lk pc y.2.2.2.2 = some (pc, ia, .if_icmp .le off, nx, tg, b, v, w, j)) (kt : x ≤ z → gG y d mc ms Q cells slots (tg, lo, st, sh, hp)) (kf : ¬ x ≤ z → gG y d mc ms Q cells slots (nx, lo, st, sh, hp)) : gG y d mc ms Q cells slots (pc, lo, .int z :: .int x :: st, sh, hp) := by
  intro ok p l e s m args below meth c E H locs ls C hX hw hL hl
  have h1 := (lk_ok ok h).1
  simp only [okb, Bool.and_eq_true, decide_eq_true_eq] at h1
  obtain ⟨hd, ⟨⟨h2, h3⟩, h4⟩, h5⟩ := h1
  have h2 := Nat.eq_of_beq_eq_true h2
  have h4 := Nat.eq_of_beq_eq_true h4
  subst h2; subst h3; subst h4
  exact lv_icmp_le C.1 C.2.1 (dec_of hd) h5 (fun q => kt q ok p l e s m args below meth c E H locs ls C hX hw hL hl) (fun q => kf q ok p l e s m args below meth c E H locs ls C hX hw hL hl)
theorem g_if_le {x : Int32} {ia : Instr} {off : Int} {nx tg b j : Nat} {v : Int32} {w : Int64} (h : lk pc y.2.2.2.2 = some (pc, ia, .ifCond .le off, nx, tg, b, v, w, j)) (kt : x ≤ 0 → gG y d mc ms Q cells slots (tg, lo, st, sh, hp)) (kf : ¬ x ≤ 0 → gG y d mc ms Q cells slots (nx, lo, st, sh, hp)) : gG y d mc ms Q cells slots (pc, lo, .int x :: st, sh, hp) := by
  intro ok p l e s m args below meth c E H locs ls C hX hw hL hl
  have h1 := (lk_ok ok h).1
  simp only [okb, Bool.and_eq_true, decide_eq_true_eq] at h1
  obtain ⟨hd, ⟨⟨h2, h3⟩, h4⟩, h5⟩ := h1
  have h2 := Nat.eq_of_beq_eq_true h2
  have h4 := Nat.eq_of_beq_eq_true h4
  subst h2; subst h3; subst h4
  exact lv_if_le C.1 C.2.1 (dec_of hd) h5 (fun q => kt q ok p l e s m args below meth c E H locs ls C hX hw hL hl) (fun q => kf q ok p l e s m args below meth c E H locs ls C hX hw hL hl)
end GS
end
section
/-! the world under gets, puts, loads and stores -/
def sI (hp : hp_T) (c i : Nat) (x : Int32) : hp_T := (va_up hp.1 c (va_up (hp.1 c) i x), hp.2)
def sL (hp : hp_T) (c i : Nat) (x : Int64) : hp_T := (hp.1, va_up hp.2 c (va_up (hp.2 c) i x))
theorem sI_at (hp : hp_T) (c i : Nat) (x : Int32) : (sI hp c i x).1 c = va_up (hp.1 c) i x := by simp [sI, va_up]
theorem sI_ne {hp : hp_T} {c i k : Nat} {x : Int32} (h : k ≠ c) : (sI hp c i x).1 k = hp.1 k := by simp [sI, va_up, h]
theorem sI_2 (hp : hp_T) (c i : Nat) (x : Int32) : (sI hp c i x).2 = hp.2 := rfl
theorem sL_at (hp : hp_T) (c i : Nat) (x : Int64) : (sL hp c i x).2 c = va_up (hp.2 c) i x := by simp [sL, va_up]
theorem sL_ne {hp : hp_T} {c i k : Nat} {x : Int64} (h : k ≠ c) : (sL hp c i x).2 k = hp.2 k := by simp [sL, va_up, h]
theorem sL_1 (hp : hp_T) (c i : Nat) (x : Int64) : (sL hp c i x).1 = hp.1 := rfl
theorem av_row {hp hp' : hp_T} {c : Nat} (h1 : hp'.1 c = hp.1 c) (h2 : hp'.2 c = hp.2 c) (i : Nat) (v : Value) : av hp' c i v = av hp c i v := by cases v <;> simp [av, h1, h2]
theorem ce_row {E : en_T} {hp hp' : hp_T} {c : Nat} (h1 : hp'.1 c = hp.1 c) (h2 : hp'.2 c = hp.2 c) (e : sh_E) : ce E hp' c e = ce E hp c e := by
  rcases e with ⟨ty, n⟩ | ⟨ci, ks⟩
  · simp only [ce, arc]
    split <;> simp [h1, h2]
  · simp only [ce, fs_of]
    have hf : (fun (i : Nat) (v : Value) => cv E (av hp' c i v)) = (fun i v => cv E (av hp c i v)) := by
      funext i v
      rw [av_row h1 h2]
    rw [hf]
theorem wd_at {E : en_T} {sh : sh_T} {hp : hp_T} {H : Heap} (h : wd E sh hp H) {k : Nat} {e : sh_E} (hk : sh[k]? = some e) (hg : gar e = false) : va_at E.2.2.1 kcls (E.1 + k, ce E hp k e) H := h.2.2 k e hk hg
theorem wd_put {E : en_T} {sh sh' : sh_T} {hp hp' : hp_T} {H H1 : Heap} {c : Nat} (h : wd E sh hp H) (hlen : sh'.length = sh.length) (hz : H1.size = H.size) (ho : ∀ q, q ≠ E.1 + c → H1[q]? = H[q]?) (hn : ∀ e, sh'[c]? = some e → gar e = false → va_at E.2.2.1 kcls (E.1 + c, ce E hp' c e) H1) (hs : ∀ k e, k ≠ c → sh'[k]? = some e → sh[k]? = some e) (hr : ∀ k, k ≠ c → hp'.1 k = hp.1 k ∧ hp'.2 k = hp.2 k) : wd E sh' hp' H1 := by
  refine ⟨by rw [hz, h.1, hlen], fun q hq => by rw [ho q (by omega)]; exact h.2.1 q hq, fun k e hk hg => ?_⟩
  by_cases hkc : k = c
  · subst hkc; exact hn e hk hg
  · rw [ce_row (hr k hkc).1 (hr k hkc).2]
    exact (h.2.2 k e (hs k e hkc hk) hg).kept (ho _ (by simp; omega))
theorem fs_get {E : en_T} {hp : hp_T} {c k : Nat} {ks : List Value} {v : Value} (h : ks[k]? = some v) : (fs_of E hp c ks)[k]? = some (cv E (av hp c k v)) := by
  simp [fs_of, h]
theorem fs_len {E : en_T} {hp : hp_T} {c : Nat} {ks : List Value} : (fs_of E hp c ks).length = ks.length := by simp [fs_of]
theorem fs_set {E : en_T} {hp hp' : hp_T} {c k : Nat} {ks ks' : List Value} {w : Value} (hl : ks'.length = ks.length) (h1 : ∀ i v, ks'[i]? = some v → (i = k → cv E (av hp' c i v) = w) ∧ (i ≠ k → ∃ v', ks[i]? = some v' ∧ cv E (av hp' c i v) = cv E (av hp c i v'))) : fs_of E hp' c ks' = (fs_of E hp c ks).set k w := by
  apply List.ext_getElem?
  intro i
  rw [List.getElem?_set]
  by_cases hi : i < ks.length
  · have hv : ks'[i]? = some (ks'[i]'(by omega)) := List.getElem?_eq_getElem (by omega)
    have hx := h1 i _ hv
    rw [fs_get hv]
    by_cases hik : k = i
    · subst hik
      simp [fs_len, hi, hx.1 rfl]
    · obtain ⟨v', e1, e2⟩ := hx.2 (Ne.symm hik)
      simp [hik, fs_get e1, e2]
  · have a1 : (fs_of E hp' c ks')[i]? = none := by rw [List.getElem?_eq_none_iff, fs_len]; omega
    have a2 : (fs_of E hp c ks)[i]? = none := by rw [List.getElem?_eq_none_iff, fs_len]; omega
    rw [a1, a2]
    split
    · next h => subst h; simp [fs_len, hi]
    · rfl
theorem fk_of {ci k : Nat} {q : vw_C} (hq : kcls[ci]? = some q) (hk : k < q.2.2) : fk ci k = q.2.1 k := by simp [fk, hq, hk]
section PUT
variable {p : Program} {l : Launch} {e : Env} {R : Room} {s : State} {m : MethodId} {args : Array Value} {below : List Frame} {meth : Method} {c0 : Code} {H : Heap} {locs : List Loc} {cells slots : Nat} {QQ : State → Prop} {pc : Nat} {ls : Array Slot} {rest : List Value}
theorem put_core {y : mt_T} {E : en_T} {ws : Nat × va_E} {a ci k x : Nat} {q : vw_C} {fs : List Value} {v : Value} {ty : FieldType} (C : cx y E p s m args meth c0) (hat : va_at E.2.2.1 kcls (a, .inr (ci, fs)) H) (hq : kcls[ci]? = some q) (hk : k < q.2.2) (hl : Cond.fieldLink y.1.cls x (q.2.1 k).1 (q.2.1 k).2.1 (q.2.1 k).2.2.1 ∈ gT) (hfin : (q.2.1 k).2.2.2 = false ∨ ((q.2.1 k).2.2.2 = true ∧ y.1.name = "<init>" ∧ (q.2.1 k).1 = y.1.cls)) (hd : parseFieldDescriptor (q.2.1 k).2.2.1 = some ty) (hn : narrow ty v = v) (hfit : fits ty v = true) (hln : k < fs.length) (hbase : E.1 ≤ a) (hL : ∀ q ∈ locs, E.1 ≤ q.base)
    (hdg : decode y.2.1 pc = .ok (.putfield x, 3)) (kk : ∀ (H1 : Heap) (locs1 : List Loc), H1.size = H.size → (∀ z, z ≠ a → H1[z]? = H[z]?) → va_at E.2.2.1 kcls (a, .inr (ci, fs.set k v)) H1 → (∀ q ∈ locs1, E.1 ≤ q.base) → W p l e R s m args below meth c0 H1 locs1 cells slots QQ (F0 m (pc + 3) ls rest)) : W p l e R s m args below meth c0 H locs cells slots QQ (F0 m pc ls (v :: .ref a :: rest)) := by
  obtain ⟨hexec, hb, -, -, hown, hts, -, hname, hKx⟩ := C
  have hK := hKx.1
  have hin := kin_ok ci q hq
  have hap := va_apart (own := y.1.cls) (C := q.1) (T := q.2.1) (N := q.2.2) hts hin (ktyp ci) (kty_ok ci q hq) (knm_ok ci q hq) hK hq
  obtain ⟨r, h1, cell, q1, q2, q3, q4⟩ := hat
  have hr : r = q := Option.some.inj (h1.symm.trans hq)
  subst hr
  obtain ⟨hS, hfc, kC, hkC, hkind⟩ := hK.1 ci _ hq
  obtain ⟨cf, kf, fi, f, hi, hsl⟩ := hS k hk
  have hlay := hts _ (hin _ (u_in_lay hk))
  unfold u_lay at hlay
  have hst := (u_facts hfc hkC (u_lays hts hin hk) hi).1
  have hbs : ∀ z ∈ locs ++ [(⟨a, f.slot⟩ : Loc)], E.1 ≤ z.base := by
    intro z hz
    rcases List.mem_append.mp hz with h | h
    · exact hL z h
    · rw [List.mem_singleton.mp h]; exact hbase
  rcases hfin with hfin | ⟨hfin, hini, hdecl⟩
  · rw [if_neg (by rw [hfin]; decide)] at hlay
    have h6 := u_store hfc hkC hkind hlay hi hd hn hfit
    refine W.putK hexec hb (f := f) ⟨hown, hts _ hl, ⟨_, _, _, hi⟩, hst⟩ (by rw [q2]; exact h6) q1 q3 (by rw [hsl]; exact k2_hasslot (q4 k hk)) rfl rfl hdg fun H' e1 e2 e3 => ?_
    refine kk H' _ e2 e3 ?_ hbs
    rw [hsl] at e1
    exact ⟨_, hq, t_OB.to (V := updV (vp_V fs) k v) ⟨_, e1, q2, q3, t_set q4 hap hk v⟩ (fun j _ => vp_updV_set hln v j)⟩
  · rw [if_pos hfin] at hlay
    have hcf : m.cls = cf := by
      obtain ⟨_, _, c', _, _, _, -, -, hf', -, -, -, hown2, -⟩ := Cond.laysFinal_spec hlay
      have e1 : c' = cf := by have := hi.symm.trans hf'; simp at this; exact this.1.symm
      rw [hdecl] at hown2
      rw [← e1]; exact Option.some.inj (hown.symm.trans hown2)
    have h6 := u_fits hfc hkC hkind (Or.inr hlay) hi hd hn hfit
    refine W.putFinK hexec hb hown (hts _ hl) hi hst hcf (hname.trans hini) (by rw [q2]; exact h6) q1 q3 (by rw [hsl]; exact k2_hasslot (q4 k hk)) rfl rfl hdg fun H' e1 e2 e3 => ?_
    refine kk H' _ e2 e3 ?_ hbs
    rw [hsl] at e1
    exact ⟨_, hq, t_OB.to (V := updV (vp_V fs) k v) ⟨_, e1, q2, q3, t_set q4 hap hk v⟩ (fun j _ => vp_updV_set hln v j)⟩
theorem get_core {y : mt_T} {E : en_T} {a ci k x : Nat} {q : vw_C} {fs : List Value} {v : Value} (C : cx y E p s m args meth c0) (hat : va_at E.2.2.1 kcls (a, .inr (ci, fs)) H) (hq : kcls[ci]? = some q) (hk : k < q.2.2) (hl : Cond.fieldLink y.1.cls x (q.2.1 k).1 (q.2.1 k).2.1 (q.2.1 k).2.2.1 ∈ gT) (hv : fs[k]? = some v) (hdg : decode y.2.1 pc = .ok (.getfield x, 3))
    (kk : W p l e R s m args below meth c0 H locs cells slots QQ (F0 m (pc + 3) ls (v :: rest))) : W p l e R s m args below meth c0 H locs cells slots QQ (F0 m pc ls (.ref a :: rest)) := by
  obtain ⟨hexec, hb, -, -, hown, hts, -, hname, hKx⟩ := C
  refine va_get (C := q.1) (T := q.2.1) (N := q.2.2) (ci := ci) (D := E.2.2.1) (cl := kcls) (ws := [(a, .inr (ci, fs))]) hexec hb hts (kin_ok ci q hq) hown hKx.1 (fun j z hz => ?_) 0 rfl hq k hk (hts _ hl) (fun _ h => h) hv hdg kk
  match j, hz with
  | 0, hz => cases hz; exact hat
  | j + 1, hz => simp at hz
end PUT
section GH
variable {y : mt_T} {d mc ms : Nat} {Q : zt} {cells slots : Nat} {pc : Nat} {lo st : List Value} {sh : sh_T} {hp : hp_T}
theorem g1_get {c ci k x : Nat} {q : vw_C} {ks : List Value} {v : Value} (hd : decode y.2.1 pc = .ok (.getfield x, 3)) (hc : sh[c]? = some (.inr (ci, ks))) (hq : kcls[ci]? = some q) (hk : k < q.2.2) (hl : Cond.fieldLink y.1.cls x (q.2.1 k).1 (q.2.1 k).2.1 (q.2.1 k).2.2.1 ∈ gT) (hv : ks[k]? = some v) (kk : gG y d mc ms Q cells slots (pc + 3, lo, av hp c k v :: st, sh, hp)) : gG y d mc ms Q cells slots (pc, lo, .ref c :: st, sh, hp) :=
  fun ok p l e s m args below meth c0 E H locs ls C hX hw hL hl2 => get_core C (wd_at hw hc rfl) hq hk hl (fs_get hv) hd (kk ok p l e s m args below meth c0 E H locs ls C hX hw hL hl2)
theorem g1_put {c ci k x : Nat} {q : vw_C} {ks : List Value} {v : Value} {sh' : sh_T} {hp' : hp_T} {ty : FieldType} (hd : decode y.2.1 pc = .ok (.putfield x, 3)) (hc : sh[c]? = some (.inr (ci, ks))) (hq : kcls[ci]? = some q) (hk : k < q.2.2) (hl : Cond.fieldLink y.1.cls x (q.2.1 k).1 (q.2.1 k).2.1 (q.2.1 k).2.2.1 ∈ gT) (hfin : (q.2.1 k).2.2.2 = false ∨ ((q.2.1 k).2.2.2 = true ∧ y.1.name = "<init>" ∧ (q.2.1 k).1 = y.1.cls)) (hty : parseFieldDescriptor (q.2.1 k).2.2.1 = some ty) (hn : ∀ E, narrow ty (cv E v) = cv E v) (hfit : ∀ E, fits ty (cv E v) = true) (hkl : k < ks.length)
    (hsh : ∃ ks', sh' = sh.set c (.inr (ci, ks')) ∧ ks'.length = ks.length ∧ ∀ (E : en_T) (i : Nat) (w : Value), ks'[i]? = some w → (i = k → cv E (av hp' c i w) = cv E v) ∧ (i ≠ k → ∃ w', ks[i]? = some w' ∧ cv E (av hp' c i w) = cv E (av hp c i w'))) (hr : ∀ j, j ≠ c → hp'.1 j = hp.1 j ∧ hp'.2 j = hp.2 j)
    (kk : gG y d mc ms Q cells slots (pc + 3, lo, st, sh', hp')) : gG y d mc ms Q cells slots (pc, lo, v :: .ref c :: st, sh, hp) := by
  intro ok p l e s m args below meth c0 E H locs ls C hX hw hL hl2
  obtain ⟨ks', rfl, hlen, hks⟩ := hsh
  have hcl : c < sh.length := (List.getElem?_eq_some_iff.mp hc).1
  refine put_core (ws := (0, .inr (0, []))) C (wd_at hw hc rfl) hq hk hl hfin hty (hn E) (hfit E) (by rw [fs_len]; exact hkl) (Nat.le_add_right _ _) hL hd (fun H1 locs1 z1 o1 hat hL1 => ?_)
  refine kk ok p l e s m args below meth c0 E H1 locs1 ls C hX ?_ hL1 hl2
  refine wd_put (c := c) hw (by simp) z1 o1 (fun e he _ => ?_) (fun j e hj he => ?_) hr
  · rw [List.getElem?_set_self hcl] at he
    cases he
    simp only [ce]
    rw [fs_set hlen (hks E)]
    exact hat
  · rwa [List.getElem?_set_ne (Ne.symm hj)] at he
theorem sh_same {c : Nat} {e : sh_E} (h : sh[c]? = some e) : sh.set c e = sh := by
  apply List.ext_getElem?
  intro i
  rw [List.getElem?_set]
  split
  · next hi => subst hi; rw [h]; simp [(List.getElem?_eq_some_iff.mp h).1]
  · rfl
theorem g1_putI {c ci k x : Nat} {q : vw_C} {ks : List Value} {v0 v : Int32} {ty : FieldType} (hd : decode y.2.1 pc = .ok (.putfield x, 3)) (hc : sh[c]? = some (.inr (ci, ks))) (hq : kcls[ci]? = some q) (hk : k < q.2.2) (hl : Cond.fieldLink y.1.cls x (q.2.1 k).1 (q.2.1 k).2.1 (q.2.1 k).2.2.1 ∈ gT) (hfin : (q.2.1 k).2.2.2 = false) (hty : parseFieldDescriptor (q.2.1 k).2.2.1 = some ty) (hn : narrow ty (.int v) = .int v) (hfit : fits ty (.int v) = true) (hv : ks[k]? = some (.int v0))
    (kk : gG y d mc ms Q cells slots (pc + 3, lo, st, sh, sI hp c k v)) : gG y d mc ms Q cells slots (pc, lo, .int v :: .ref c :: st, sh, hp) := by
  refine g1_put (sh' := sh) (hp' := sI hp c k v) hd hc hq hk hl (Or.inl hfin) hty (fun E => hn) (fun E => hfit) (List.getElem?_eq_some_iff.mp hv).1 ⟨ks, (sh_same hc).symm, rfl, fun E i w hw => ⟨fun hi => ?_, fun hi => ⟨w, hw, ?_⟩⟩⟩ (fun j hj => ⟨sI_ne hj, rfl⟩) kk
  · subst hi
    rw [hv] at hw; cases hw
    simp [av, sI_at, va_up, cv]
  · cases w <;> simp [av, sI_at, va_up, hi, sI_2]
theorem g1_putL {c ci k x : Nat} {q : vw_C} {ks : List Value} {v0 v : Int64} (hd : decode y.2.1 pc = .ok (.putfield x, 3)) (hc : sh[c]? = some (.inr (ci, ks))) (hq : kcls[ci]? = some q) (hk : k < q.2.2) (hl : Cond.fieldLink y.1.cls x (q.2.1 k).1 (q.2.1 k).2.1 (q.2.1 k).2.2.1 ∈ gT) (hfin : (q.2.1 k).2.2.2 = false) (hty : parseFieldDescriptor (q.2.1 k).2.2.1 = some .long) (hv : ks[k]? = some (.long v0))
    (kk : gG y d mc ms Q cells slots (pc + 3, lo, st, sh, sL hp c k v)) : gG y d mc ms Q cells slots (pc, lo, .long v :: .ref c :: st, sh, hp) := by
  refine g1_put (sh' := sh) (hp' := sL hp c k v) hd hc hq hk hl (Or.inl hfin) hty (fun E => rfl) (fun E => rfl) (List.getElem?_eq_some_iff.mp hv).1 ⟨ks, (sh_same hc).symm, rfl, fun E i w hw => ⟨fun hi => ?_, fun hi => ⟨w, hw, ?_⟩⟩⟩ (fun j hj => ⟨rfl, sL_ne hj⟩) kk
  · subst hi
    rw [hv] at hw; cases hw
    simp [av, sL_at, va_up, cv]
  · cases w <;> simp [av, sL_at, va_up, hi, sL_1]
/-- a reference is put: the shape changes -/
theorem g1_putR {c ci k x : Nat} {q : vw_C} {ks : List Value} {v : Value} {ty : FieldType} (hd : decode y.2.1 pc = .ok (.putfield x, 3)) (hc : sh[c]? = some (.inr (ci, ks))) (hq : kcls[ci]? = some q) (hk : k < q.2.2) (hl : Cond.fieldLink y.1.cls x (q.2.1 k).1 (q.2.1 k).2.1 (q.2.1 k).2.2.1 ∈ gT) (hfin : (q.2.1 k).2.2.2 = false ∨ ((q.2.1 k).2.2.2 = true ∧ y.1.name = "<init>" ∧ (q.2.1 k).1 = y.1.cls)) (hty : parseFieldDescriptor (q.2.1 k).2.2.1 = some ty) (hn : ∀ E, narrow ty (cv E v) = cv E v) (hfit : ∀ E, fits ty (cv E v) = true) (hkl : k < ks.length) (hr : isR v = true)
    (kk : gG y d mc ms Q cells slots (pc + 3, lo, st, sh.set c (.inr (ci, ks.set k v)), hp)) : gG y d mc ms Q cells slots (pc, lo, v :: .ref c :: st, sh, hp) := by
  refine g1_put (hp' := hp) hd hc hq hk hl hfin hty hn hfit hkl ⟨_, rfl, by simp, fun E i w hw => ⟨fun hi => ?_, fun hi => ⟨w, ?_, rfl⟩⟩⟩ (fun j hj => ⟨rfl, rfl⟩) kk
  · subst hi
    rw [List.getElem?_set_self hkl] at hw; cases hw
    cases v <;> first | rfl | cases hr
  · rwa [List.getElem?_set_ne (Ne.symm hi)] at hw
theorem cl_of {i : Int32} {j : Nat} (h : i.toInt = (j : Int)) : i.toNatClampNeg = j := by
  show i.toInt.toNat = j
  omega
theorem in_of {i : Int32} {j n : Nat} (h : i.toInt = (j : Int)) (hj : j < n) : vp_in i n := vp_in_iff.mpr ⟨by omega, by omega⟩
theorem ty_at {E : en_T} {s : State} (h : kx E s) : ArrOfT s (E.2.2.2.1 .int) .int ∧ ArrOfT s (E.2.2.2.1 .byte) .byte ∧ ArrOfT s (E.2.2.2.1 .long) .long := ⟨(h.1.2 0 _ rfl).1, (h.1.2 1 _ rfl).1, (h.1.2 2 _ rfl).1⟩
theorem wd_i {E : en_T} {H : Heap} {c n : Nat} {ty : FieldType} (hw : wd E sh hp H) (hc : sh[c]? = some (.inl (ty, n))) (ht : ty = .int ∨ ty = .byte) : H[E.1 + c]? = some (arrV (E.2.2.2.1 ty) n (fun j => .int (hp.1 c j))) := by
  rcases ht with rfl | rfl <;> exact wd_at hw hc rfl
theorem wd_l {E : en_T} {H : Heap} {c n : Nat} (hw : wd E sh hp H) (hc : sh[c]? = some (.inl (.long, n))) : H[E.1 + c]? = some (arrV (E.2.2.2.1 .long) n (fun j => .long (hp.2 c j))) := wd_at hw hc rfl
theorem g1_iald {c n j : Nat} {i : Int32} (hd : decode y.2.1 pc = .ok (.iaload, 1)) (hc : sh[c]? = some (.inl (.int, n))) (hi : i.toInt = (j : Int)) (hj : j < n) (kk : gG y d mc ms Q cells slots (pc + 1, lo, .int (hp.1 c j) :: st, sh, hp)) : gG y d mc ms Q cells slots (pc, lo, .int i :: .ref c :: st, sh, hp) := by
  intro ok p l e s m args below meth c0 E H locs ls C hX hw hL hl2
  have k := kk ok p l e s m args below meth c0 E H locs ls C hX hw hL hl2
  refine W.iald (v := .int (hp.1 c j)) C.1 C.2.1 (wd_i hw hc (Or.inl rfl)) ((ty_at C.2.2.2.2.2.2.2.2).1 n (fun j => .int (hp.1 c j))) (fun q => by cases q) (by show ¬ (i < 0 ∨ (arrV _ _ _).slots.size ≤ _); rw [arrV_size]; exact in_of hi hj) (by show (arrV _ _ _).slots[_]? = _; rw [cl_of hi, arrV_read _ _ hj]) rfl rfl hd k
theorem g1_bald {c n j : Nat} {i : Int32} (hd : decode y.2.1 pc = .ok (.baload, 1)) (hc : sh[c]? = some (.inl (.byte, n))) (hi : i.toInt = (j : Int)) (hj : j < n) (kk : gG y d mc ms Q cells slots (pc + 1, lo, .int (hp.1 c j) :: st, sh, hp)) : gG y d mc ms Q cells slots (pc, lo, .int i :: .ref c :: st, sh, hp) := by
  intro ok p l e s m args below meth c0 E H locs ls C hX hw hL hl2
  have k := kk ok p l e s m args below meth c0 E H locs ls C hX hw hL hl2
  refine W.bald (v := .int (hp.1 c j)) C.1 C.2.1 (wd_i hw hc (Or.inr rfl)) ((ty_at C.2.2.2.2.2.2.2.2).2.1 n (fun j => .int (hp.1 c j))) (fun q => by cases q) (by show ¬ (i < 0 ∨ (arrV _ _ _).slots.size ≤ _); rw [arrV_size]; exact in_of hi hj) (by show (arrV _ _ _).slots[_]? = _; rw [cl_of hi, arrV_read _ _ hj]) rfl rfl hd k
theorem g1_lald {c n j : Nat} {i : Int32} (hd : decode y.2.1 pc = .ok (.laload, 1)) (hc : sh[c]? = some (.inl (.long, n))) (hi : i.toInt = (j : Int)) (hj : j < n) (kk : gG y d mc ms Q cells slots (pc + 1, lo, .long (hp.2 c j) :: st, sh, hp)) : gG y d mc ms Q cells slots (pc, lo, .int i :: .ref c :: st, sh, hp) := by
  intro ok p l e s m args below meth c0 E H locs ls C hX hw hL hl2
  have k := kk ok p l e s m args below meth c0 E H locs ls C hX hw hL hl2
  refine W.lald (v := .long (hp.2 c j)) C.1 C.2.1 (wd_l hw hc) ((ty_at C.2.2.2.2.2.2.2.2).2.2 n (fun j => .long (hp.2 c j))) (fun q => by cases q) (by show ¬ (i < 0 ∨ (arrV _ _ _).slots.size ≤ _); rw [arrV_size]; exact in_of hi hj) (by show (arrV _ _ _).slots[_]? = _; rw [cl_of hi, arrV_read _ _ hj]) rfl rfl hd k
theorem g1_iast {c n j : Nat} {i x : Int32} (hd : decode y.2.1 pc = .ok (.iastore, 1)) (hc : sh[c]? = some (.inl (.int, n))) (hi : i.toInt = (j : Int)) (hj : j < n) (kk : gG y d mc ms Q cells slots (pc + 1, lo, st, sh, sI hp c j x)) : gG y d mc ms Q cells slots (pc, lo, .int x :: .int i :: .ref c :: st, sh, hp) := by
  intro ok p l e s m args below meth c0 E H locs ls C hX hw hL hl2
  refine W.iast C.1 C.2.1 (wd_i hw hc (Or.inl rfl)) ((ty_at C.2.2.2.2.2.2.2.2).1 n (fun j => .int (hp.1 c j))) (fun q => by cases q) (by show ¬ (i < 0 ∨ (arrV _ _ _).slots.size ≤ _); rw [arrV_size]; exact in_of hi hj) rfl rfl hd fun H1 e1 z oq => ?_
  refine kk ok p l e s m args below meth c0 E H1 _ ls C hX (wd_put (c := c) hw rfl z oq (fun e2 he _ => ?_) (fun j e hj he => he) (fun j hj => ⟨sI_ne hj, rfl⟩)) ?_ hl2
  · rw [hc] at he; cases he
    show H1[E.1 + c]? = some (vp_cell _ _)
    rw [e1]
    simp only [arc, vp_cell_i, arrV_store, sI_at]
    congr 2
    funext q
    rw [cl_of hi]
    by_cases hq : q = j
    · subst hq; simp [updV, va_up]
    · simp [updV, va_up, hq]
  · intro q hq
    rcases List.mem_append.mp hq with h | h
    · exact hL q h
    · rw [List.mem_singleton.mp h]; exact Nat.le_add_right _ _
theorem g1_bast {c n j : Nat} {i x : Int32} (hd : decode y.2.1 pc = .ok (.bastore, 1)) (hc : sh[c]? = some (.inl (.byte, n))) (hi : i.toInt = (j : Int)) (hj : j < n) (kk : gG y d mc ms Q cells slots (pc + 1, lo, st, sh, sI hp c j (vp_nar .byte x))) : gG y d mc ms Q cells slots (pc, lo, .int x :: .int i :: .ref c :: st, sh, hp) := by
  intro ok p l e s m args below meth c0 E H locs ls C hX hw hL hl2
  refine W.bast C.1 C.2.1 (wd_i hw hc (Or.inr rfl)) ((ty_at C.2.2.2.2.2.2.2.2).2.1 n (fun j => .int (hp.1 c j))) (fun q => by cases q) (by show ¬ (i < 0 ∨ (arrV _ _ _).slots.size ≤ _); rw [arrV_size]; exact in_of hi hj) rfl rfl hd fun H1 e1 z oq => ?_
  refine kk ok p l e s m args below meth c0 E H1 _ ls C hX (wd_put (c := c) hw rfl z oq (fun e2 he _ => ?_) (fun j e hj he => he) (fun j hj => ⟨sI_ne hj, rfl⟩)) ?_ hl2
  · rw [hc] at he; cases he
    show H1[E.1 + c]? = some (vp_cell _ _)
    rw [e1]
    simp only [arc, vp_cell_i, arrV_store, sI_at]
    congr 2
    funext q
    rw [cl_of hi]
    by_cases hq : q = j
    · subst hq
      simp [updV, va_up, vp_nar]
      try rfl
    · simp [updV, va_up, hq]
  · intro q hq
    rcases List.mem_append.mp hq with h | h
    · exact hL q h
    · rw [List.mem_singleton.mp h]; exact Nat.le_add_right _ _
theorem g1_last {c n j : Nat} {i : Int32} {x : Int64} (hd : decode y.2.1 pc = .ok (.lastore, 1)) (hc : sh[c]? = some (.inl (.long, n))) (hi : i.toInt = (j : Int)) (hj : j < n) (kk : gG y d mc ms Q cells slots (pc + 1, lo, st, sh, sL hp c j x)) : gG y d mc ms Q cells slots (pc, lo, .long x :: .int i :: .ref c :: st, sh, hp) := by
  intro ok p l e s m args below meth c0 E H locs ls C hX hw hL hl2
  refine W.last C.1 C.2.1 (wd_l hw hc) ((ty_at C.2.2.2.2.2.2.2.2).2.2 n (fun j => .long (hp.2 c j))) (fun q => by cases q) (by show ¬ (i < 0 ∨ (arrV _ _ _).slots.size ≤ _); rw [arrV_size]; exact in_of hi hj) rfl rfl hd fun H1 e1 z oq => ?_
  refine kk ok p l e s m args below meth c0 E H1 _ ls C hX (wd_put (c := c) hw rfl z oq (fun e2 he _ => ?_) (fun j e hj he => he) (fun j hj => ⟨rfl, sL_ne hj⟩)) ?_ hl2
  · rw [hc] at he; cases he
    show H1[E.1 + c]? = some (vp_cell _ _)
    rw [e1]
    simp only [arc, vp_cell_l, arrV_store, sL_at]
    congr 2
    funext q
    rw [cl_of hi]
    by_cases hq : q = j
    · subst hq; simp [updV, va_up]
    · simp [updV, va_up, hq]
  · intro q hq
    rcases List.mem_append.mp hq with h | h
    · exact hL q h
    · rw [List.mem_singleton.mp h]; exact Nat.le_add_right _ _
theorem g1_alen {c n : Nat} {ty : FieldType} (hd : decode y.2.1 pc = .ok (.arraylength, 1)) (hc : sh[c]? = some (.inl (ty, n))) (ht : ty = .int ∨ ty = .byte ∨ ty = .long) (kk : gG y d mc ms Q cells slots (pc + 1, lo, .int (nI n) :: st, sh, hp)) : gG y d mc ms Q cells slots (pc, lo, .ref c :: st, sh, hp) := by
  intro ok p l e s m args below meth c0 E H locs ls C hX hw hL hl2
  have k := kk ok p l e s m args below meth c0 E H locs ls C hX hw hL hl2
  rcases ht with rfl | rfl | rfl
  · exact W.alen C.1 C.2.1 (wd_at hw hc rfl) ((ty_at C.2.2.2.2.2.2.2.2).1 n (fun j => .int (hp.1 c j))) (by show (arrV _ _ _).slots.size.toInt32 = _; rw [arrV_size]; rfl) rfl rfl hd k
  · exact W.alen C.1 C.2.1 (wd_at hw hc rfl) ((ty_at C.2.2.2.2.2.2.2.2).2.1 n (fun j => .int (hp.1 c j))) (by show (arrV _ _ _).slots.size.toInt32 = _; rw [arrV_size]; rfl) rfl rfl hd k
  · exact W.alen C.1 C.2.1 (wd_at hw hc rfl) ((ty_at C.2.2.2.2.2.2.2.2).2.2 n (fun j => .long (hp.2 c j))) (by show (arrV _ _ _).slots.size.toInt32 = _; rw [arrV_size]; rfl) rfl rfl hd k
end GH
end
section
/-! many steps at once, by computing -/
def nth {α : Type} : List α → Nat → Option α
  | [], _ => none
  | a :: _, 0 => some a
  | _ :: r, i + 1 => nth r i
theorem nth_eq {α : Type} : ∀ (l : List α) (i : Nat), nth l i = l[i]?
  | [], i => by simp [nth]
  | a :: r, 0 => by simp [nth]
  | a :: r, i + 1 => by simp [nth, nth_eq r i]
def stL {α : Type} : List Value → Nat → Value → (List Value → Option α) → Option α
  | [], _, _, _ => none
  | _ :: r, 0, v, k => k (v :: r)
  | a :: r, i + 1, v, k => stL r i v (fun r' => k (a :: r'))
theorem stL_ok {α : Type} : ∀ (l : List Value) (i : Nat) (v : Value) (k : List Value → Option α) (z : α), stL l i v k = some z → k (l.set i v) = some z
  | [], _, _, _, _, h => by simp [stL] at h
  | _ :: r, 0, v, k, z, h => by simpa [stL] using h
  | a :: r, i + 1, v, k, z, h => by
    have := stL_ok r i v (fun r' => k (a :: r')) z (by simpa [stL] using h)
    simpa using this
def notLb (lo : List Value) (i : Nat) : Bool := match i with
  | 0 => true
  | k + 1 => match nth lo k with
    | some v => Nat.beq v.category 1
    | none => true
theorem notLb_ok {lo : List Value} {i : Nat} (h : notLb lo i = true) : notL lo i = true := by
  cases i with
  | zero => rfl
  | succ k =>
    have e := nth_eq lo k
    simp only [notLb, e] at h
    simp only [notL]
    revert h
    cases lo[k]? <;> exact id
/-- one step that asks for nothing: the next state -/
def s1 (nL : Nat) (e : ie_T) (S : st_T) : Option st_T := match e with
  | (_, _, ic, nx, a, _, v, w, _) => match S with
    | (_, lo, st, sh, hp) => match ic with
      | .iconst _ => some (nx, lo, .int v :: st, sh, hp)
      | .lconst _ => some (nx, lo, .long w :: st, sh, hp)
      | .ldc2_w _ => some (nx, lo, .long w :: st, sh, hp)
      | .iload i => match nth lo i with
        | some (.int x) => some (nx, lo, .int x :: st, sh, hp)
        | _ => none
      | .lload i => match nth lo i with
        | some (.long x) => some (nx, lo, .long x :: st, sh, hp)
        | _ => none
      | .aload i => match nth lo i with
        | some (.ref x) => some (nx, lo, .ref x :: st, sh, hp)
        | some (.float x) => some (nx, lo, .float x :: st, sh, hp)
        | _ => none
      | .istore i => match st with
        | .int x :: r => match Nat.blt i nL && notLb lo i with
          | true => stL lo i (.int x) (fun lo' => some (nx, lo', r, sh, hp))
          | false => none
        | _ => none
      | .astore i => match st with
        | .ref x :: r => match Nat.blt i nL && notLb lo i with
          | true => stL lo i (.ref x) (fun lo' => some (nx, lo', r, sh, hp))
          | false => none
        | _ => none
      | .lstore i => match st with
        | .long x :: r => match Nat.blt (i + 1) nL && notLb lo i with
          | true => stL lo i (.long x) (fun lo' => stL lo' (i + 1) (.retAddr 0) (fun lo2 => some (nx, lo2, r, sh, hp)))
          | false => none
        | _ => none
      | .iinc i _ => match nth lo i with
        | some (.int x) => match Nat.blt i nL && notLb lo i with
          | true => stL lo i (.int (x + v)) (fun lo' => some (nx, lo', st, sh, hp))
          | false => none
        | _ => none
      | .goto _ => some (nx, lo, st, sh, hp)
      | .iadd => match st with
        | .int z :: .int x :: r => some (nx, lo, .int (x + z) :: r, sh, hp)
        | _ => none
      | .isub => match st with
        | .int z :: .int x :: r => some (nx, lo, .int (x - z) :: r, sh, hp)
        | _ => none
      | .imul => match st with
        | .int z :: .int x :: r => some (nx, lo, .int (x * z) :: r, sh, hp)
        | _ => none
      | .iand => match st with
        | .int z :: .int x :: r => some (nx, lo, .int (x &&& z) :: r, sh, hp)
        | _ => none
      | .ishl => match st with
        | .int z :: .int x :: r => some (nx, lo, .int (x <<< (z &&& 31)) :: r, sh, hp)
        | _ => none
      | .ishr => match st with
        | .int z :: .int x :: r => some (nx, lo, .int (x >>> (z &&& 31)) :: r, sh, hp)
        | _ => none
      | .iushr => match st with
        | .int z :: .int x :: r => some (nx, lo, .int (x.toUInt32 >>> (z.toUInt32 &&& Int32.toUInt32 31)).toInt32 :: r, sh, hp)
        | _ => none
      | .ineg => match st with
        | .int x :: r => some (nx, lo, .int (-x) :: r, sh, hp)
        | _ => none
      | .ladd => match st with
        | .long z :: .long x :: r => some (nx, lo, .long (x + z) :: r, sh, hp)
        | _ => none
      | .lsub => match st with
        | .long z :: .long x :: r => some (nx, lo, .long (x - z) :: r, sh, hp)
        | _ => none
      | .lmul => match st with
        | .long z :: .long x :: r => some (nx, lo, .long (x * z) :: r, sh, hp)
        | _ => none
      | .land => match st with
        | .long z :: .long x :: r => some (nx, lo, .long (x &&& z) :: r, sh, hp)
        | _ => none
      | .lor => match st with
        | .long z :: .long x :: r => some (nx, lo, .long (x ||| z) :: r, sh, hp)
        | _ => none
      | .lxor => match st with
        | .long z :: .long x :: r => some (nx, lo, .long (x ^^^ z) :: r, sh, hp)
        | _ => none
      | .lcmp => match st with
        | .long z :: .long x :: r => some (nx, lo, .int (lg_cmp x z) :: r, sh, hp)
        | _ => none
      | .lshl => match st with
        | .int z :: .long x :: r => some (nx, lo, .long (x <<< (z.toInt64 &&& 63)) :: r, sh, hp)
        | _ => none
      | .lshr => match st with
        | .int z :: .long x :: r => some (nx, lo, .long (x >>> (z.toInt64 &&& 63)) :: r, sh, hp)
        | _ => none
      | .lushr => match st with
        | .int z :: .long x :: r => some (nx, lo, .long (x.toUInt64 >>> (z.toInt64.toUInt64 &&& Int64.toUInt64 63)).toInt64 :: r, sh, hp)
        | _ => none
      | .i2l => match st with
        | .int x :: r => some (nx, lo, .long x.toInt64 :: r, sh, hp)
        | _ => none
      | .l2i => match st with
        | .long x :: r => some (nx, lo, .int x.toInt32 :: r, sh, hp)
        | _ => none
      | .i2b => match st with
        | .int x :: r => some (nx, lo, .int x.toInt8.toInt32 :: r, sh, hp)
        | _ => none
      | .dup => match st with
        | .int x :: r => some (nx, lo, .int x :: .int x :: r, sh, hp)
        | .ref x :: r => some (nx, lo, .ref x :: .ref x :: r, sh, hp)
        | _ => none
      | .dup2 => match st with
        | .int x :: .ref z :: r => some (nx, lo, .int x :: .ref z :: .int x :: .ref z :: r, sh, hp)
        | _ => none
      | .getfield k => match st with
        | .ref c :: r => match nth sh c with
          | some (.inr (ci, ks)) => match Nat.beq ci a with
            | true => match nth ks k with
              | some (.int _) => some (nx, lo, .int (hp.1 c k) :: r, sh, hp)
              | some (.long _) => some (nx, lo, .long (hp.2 c k) :: r, sh, hp)
              | some (.ref q) => some (nx, lo, .ref q :: r, sh, hp)
              | _ => none
            | false => none
          | _ => none
        | _ => none
      | .putfield k => match st with
        | .int x :: .ref c :: r => match nth sh c with
          | some (.inr (ci, ks)) => match Nat.beq ci a && decide ((fk a k).2.2 = ("I", false)) with
            | true => match nth ks k with
              | some (.int _) => some (nx, lo, r, sh, sI hp c k x)
              | _ => none
            | false => none
          | _ => none
        | .long x :: .ref c :: r => match nth sh c with
          | some (.inr (ci, ks)) => match Nat.beq ci a && decide ((fk a k).2.2 = ("J", false)) with
            | true => match nth ks k with
              | some (.long _) => some (nx, lo, r, sh, sL hp c k x)
              | _ => none
            | false => none
          | _ => none
        | _ => none
      | .arraylength => match st with
        | .ref c :: r => match nth sh c with
          | some (.inl (.int, n)) => some (nx, lo, .int (nI n) :: r, sh, hp)
          | some (.inl (.byte, n)) => some (nx, lo, .int (nI n) :: r, sh, hp)
          | _ => none
        | _ => none
      | _ => none
section GR
variable {y : mt_T} {d mc ms : Nat} {Q : zt} {cells slots : Nat} {pc : Nat} {lo st : List Value} {sh : sh_T} {hp : hp_T}
theorem ld_of {cc : ByteArray} {i2 i1 ia : Instr} {i b : Nat} (hd : dec cc pc ia b = true) (h : ((decide (ia = i2) && Nat.beq b 2) || (decide (ia = i1) && Nat.beq b 1 && Nat.blt i 4)) = true) : (decode cc pc = .ok (i2, 2) ∧ b = 2) ∨ (decode cc pc = .ok (i1, 1) ∧ b = 1 ∧ i < 4) := by
  simp only [Bool.or_eq_true, Bool.and_eq_true, decide_eq_true_eq] at h
  rcases h with ⟨h1, h2⟩ | ⟨⟨h1, h2⟩, h3⟩
  · have h2 := Nat.eq_of_beq_eq_true h2
    subst h1; subst h2
    exact Or.inl ⟨dec_of hd, rfl⟩
  · have h2 := Nat.eq_of_beq_eq_true h2
    subst h1; subst h2
    exact Or.inr ⟨dec_of hd, rfl, Nat.lt_of_le_of_lt (by simpa [Nat.blt] using h3) (by decide : 3 < 4)⟩
theorem df_of {cc : ByteArray} {i ia : Instr} {b nx n : Nat} (hn : il i = n) (h0 : n ≠ 0) (hd : dec cc pc ia b = true) (h : (decide (ia = i) && (if il i = 0 then true else Nat.beq b (il i) && Nat.beq nx (pc + il i))) = true) : decode cc pc = .ok (i, n) ∧ nx = pc + n := by
  simp only [Bool.and_eq_true, decide_eq_true_eq] at h
  obtain ⟨h1, h2⟩ := h
  rw [hn, if_neg h0] at h2
  simp only [Bool.and_eq_true] at h2
  have e1 := Nat.eq_of_beq_eq_true h2.1
  have e2 := Nat.eq_of_beq_eq_true h2.2
  subst h1; subst e1
  exact ⟨dec_of hd, e2⟩
theorem bl_of {i n : Nat} (h : Nat.blt i n = true) : i < n := by
  have h9 : i + 1 ≤ n := by simpa [Nat.blt] using h
  omega
theorem ld_blt {cc : ByteArray} {i2 i1 ia : Instr} {i b nx : Nat} (hd : dec cc pc ia b = true) (h : (Nat.beq nx (pc + b) && ((decide (ia = i2) && Nat.beq b 2) || (decide (ia = i1) && Nat.beq b 1 && Nat.blt i 4))) = true) : nx = pc + b ∧ ((decode cc pc = .ok (i2, 2) ∧ b = 2) ∨ (decode cc pc = .ok (i1, 1) ∧ b = 1 ∧ i < 4)) := by
  rw [Bool.and_eq_true] at h
  exact ⟨Nat.eq_of_beq_eq_true h.1, ld_of hd h.2⟩
set_option maxHeartbeats 4000000 in
theorem s1_ok {e : ie_T} (ok : okm y = true) (hl : lk pc y.2.2.2.2 = some e) {S' : st_T} (h : s1 y.2.2.1 e (pc, lo, st, sh, hp) = some S') (k : gG y d mc ms Q cells slots S') : gG y d mc ms Q cells slots (pc, lo, st, sh, hp) := by
  obtain ⟨hb, he⟩ := lk_ok ok hl
  obtain ⟨pc0, ia, ic, nx, a, b, v, w, j⟩ := e
  change pc0 = pc at he
  subst he
  unfold okb at hb
  rw [Bool.and_eq_true] at hb
  obtain ⟨hd, hb⟩ := hb
  cases ic <;> first | (change (none : Option st_T) = some S' at h; cases h; done) | skip
  case iadd =>
    obtain ⟨hd, rfl⟩ := df_of rfl (by decide) hd hb
    simp only [s1] at h
    split at h
    · cases h; exact g1_iadd hd k
    · cases h
  case isub =>
    obtain ⟨hd, rfl⟩ := df_of rfl (by decide) hd hb
    simp only [s1] at h
    split at h
    · cases h; exact g1_isub hd k
    · cases h
  case imul =>
    obtain ⟨hd, rfl⟩ := df_of rfl (by decide) hd hb
    simp only [s1] at h
    split at h
    · cases h; exact g1_imul hd k
    · cases h
  case iand =>
    obtain ⟨hd, rfl⟩ := df_of rfl (by decide) hd hb
    simp only [s1] at h
    split at h
    · cases h; exact g1_iand hd k
    · cases h
  case ishl =>
    obtain ⟨hd, rfl⟩ := df_of rfl (by decide) hd hb
    simp only [s1] at h
    split at h
    · cases h; exact g1_ishl hd k
    · cases h
  case ishr =>
    obtain ⟨hd, rfl⟩ := df_of rfl (by decide) hd hb
    simp only [s1] at h
    split at h
    · cases h; exact g1_ishr hd k
    · cases h
  case iushr =>
    obtain ⟨hd, rfl⟩ := df_of rfl (by decide) hd hb
    simp only [s1] at h
    split at h
    · cases h; exact g1_iushr hd k
    · cases h
  case ineg =>
    obtain ⟨hd, rfl⟩ := df_of rfl (by decide) hd hb
    simp only [s1] at h
    split at h
    · cases h; exact g1_ineg hd k
    · cases h
  case ladd =>
    obtain ⟨hd, rfl⟩ := df_of rfl (by decide) hd hb
    simp only [s1] at h
    split at h
    · cases h; exact g1_ladd hd k
    · cases h
  case lsub =>
    obtain ⟨hd, rfl⟩ := df_of rfl (by decide) hd hb
    simp only [s1] at h
    split at h
    · cases h; exact g1_lsub hd k
    · cases h
  case lmul =>
    obtain ⟨hd, rfl⟩ := df_of rfl (by decide) hd hb
    simp only [s1] at h
    split at h
    · cases h; exact g1_lmul hd k
    · cases h
  case land =>
    obtain ⟨hd, rfl⟩ := df_of rfl (by decide) hd hb
    simp only [s1] at h
    split at h
    · cases h; exact g1_land hd k
    · cases h
  case lor =>
    obtain ⟨hd, rfl⟩ := df_of rfl (by decide) hd hb
    simp only [s1] at h
    split at h
    · cases h; exact g1_lor hd k
    · cases h
  case lxor =>
    obtain ⟨hd, rfl⟩ := df_of rfl (by decide) hd hb
    simp only [s1] at h
    split at h
    · cases h; exact g1_lxor hd k
    · cases h
  case lcmp =>
    obtain ⟨hd, rfl⟩ := df_of rfl (by decide) hd hb
    simp only [s1] at h
    split at h
    · cases h; exact g1_lcmp hd k
    · cases h
  case lshl =>
    obtain ⟨hd, rfl⟩ := df_of rfl (by decide) hd hb
    simp only [s1] at h
    split at h
    · cases h; exact g1_lshl hd k
    · cases h
  case lshr =>
    obtain ⟨hd, rfl⟩ := df_of rfl (by decide) hd hb
    simp only [s1] at h
    split at h
    · cases h; exact g1_lshr hd k
    · cases h
  case lushr =>
    obtain ⟨hd, rfl⟩ := df_of rfl (by decide) hd hb
    simp only [s1] at h
    split at h
    · cases h; exact g1_lushr hd k
    · cases h
  case i2l =>
    obtain ⟨hd, rfl⟩ := df_of rfl (by decide) hd hb
    simp only [s1] at h
    split at h
    · cases h; exact g1_i2l hd k
    · cases h
  case l2i =>
    obtain ⟨hd, rfl⟩ := df_of rfl (by decide) hd hb
    simp only [s1] at h
    split at h
    · cases h; exact g1_l2i hd k
    · cases h
  case i2b =>
    obtain ⟨hd, rfl⟩ := df_of rfl (by decide) hd hb
    simp only [s1] at h
    split at h
    · cases h; exact g1_i2b hd k
    · cases h
  case dup =>
    obtain ⟨hd, rfl⟩ := df_of rfl (by decide) hd hb
    simp only [s1] at h
    split at h
    · cases h; exact g1_dup rfl hd k
    · cases h; exact g1_dup rfl hd k
    · cases h
  case dup2 =>
    obtain ⟨hd, rfl⟩ := df_of rfl (by decide) hd hb
    simp only [s1] at h
    split at h
    · cases h; exact g1_dup2 rfl rfl hd k
    · cases h
  case lconst n =>
    simp only [Bool.and_eq_true, decide_eq_true_eq] at hb
    obtain ⟨⟨⟨h1, h2⟩, h3⟩, h4⟩ := hb
    have h1 := Nat.eq_of_beq_eq_true h1
    have h3 := Nat.eq_of_beq_eq_true h3
    subst h1; subst h2; subst h3
    cases h
    exact g1_lconst (dec_of hd) h4 k
  case ldc2_w n =>
    simp only [Bool.and_eq_true, decide_eq_true_eq] at hb
    obtain ⟨⟨⟨h1, h2⟩, h3⟩, h4⟩ := hb
    have h1 := Nat.eq_of_beq_eq_true h1
    have h3 := Nat.eq_of_beq_eq_true h3
    subst h1; subst h2; subst h3
    cases h
    exact g1_ldc2 (dec_of hd) (tb_of h4) k
  case iconst n =>
    simp only [Bool.and_eq_true, Bool.or_eq_true, decide_eq_true_eq] at hb
    obtain ⟨h1, hb⟩ := hb
    have h1 := Nat.eq_of_beq_eq_true h1
    subst h1
    cases h
    rcases hb with (((⟨⟨h2, h3⟩, h4⟩ | ⟨⟨h2, h3⟩, h4⟩) | ⟨⟨h2, h3⟩, h4⟩) | ⟨⟨h2, h4⟩, h3⟩) | ⟨⟨h2, h4⟩, h3⟩ <;> (have h4 := Nat.eq_of_beq_eq_true h4; subst h2; subst h4)
    · exact g1_iconst (dec_of hd) h3 k
    · exact g1_bipush (dec_of hd) h3 k
    · exact g1_sipush (dec_of hd) h3 k
    · exact g1_ldc (dec_of hd) (tb_of h3) k
    · exact g1_ldcw (dec_of hd) (tb_of h3) k
  case goto off =>
    simp only [Bool.and_eq_true, decide_eq_true_eq] at hb
    obtain ⟨⟨h2, h3⟩, h4⟩ := hb
    have h3 := Nat.eq_of_beq_eq_true h3
    subst h2; subst h3
    cases h
    exact g1_goto (dec_of hd) h4 k
  case iload i =>
    obtain ⟨rfl, hd⟩ := ld_blt hd hb
    simp only [s1] at h
    split at h
    · next x hx => cases h; exact g1_iload hd (by rw [← nth_eq]; exact hx) k
    · cases h
  case lload i =>
    obtain ⟨rfl, hd⟩ := ld_blt hd hb
    simp only [s1] at h
    split at h
    · next x hx => cases h; exact g1_lload hd (by rw [← nth_eq]; exact hx) k
    · cases h
  case aload i =>
    obtain ⟨rfl, hd⟩ := ld_blt hd hb
    simp only [s1] at h
    split at h
    · next x hx => cases h; exact g1_aload hd (by rw [← nth_eq]; exact hx) rfl k
    · next x hx => cases h; exact g1_aload hd (by rw [← nth_eq]; exact hx) rfl k
    · cases h
  case istore i =>
    obtain ⟨rfl, hd⟩ := ld_blt hd hb
    simp only [s1] at h
    split at h
    · split at h
      · next x r hx =>
        rw [Bool.and_eq_true] at hx
        have h := stL_ok _ _ _ _ _ h
        cases h
        exact g1_istore hd (bl_of hx.1) (notLb_ok hx.2) k
      · cases h
    · cases h
  case astore i =>
    obtain ⟨rfl, hd⟩ := ld_blt hd hb
    simp only [s1] at h
    split at h
    · split at h
      · next x r hx =>
        rw [Bool.and_eq_true] at hx
        have h := stL_ok _ _ _ _ _ h
        cases h
        exact g1_astore hd (bl_of hx.1) (notLb_ok hx.2) rfl k
      · cases h
    · cases h
  case lstore i =>
    obtain ⟨rfl, hd⟩ := ld_blt hd hb
    simp only [s1] at h
    split at h
    · split at h
      · next x r hx =>
        rw [Bool.and_eq_true] at hx
        have h := stL_ok _ _ _ _ _ h
        have h := stL_ok _ _ _ _ _ h
        cases h
        exact g1_lstore hd (bl_of hx.1) (notLb_ok hx.2) k
      · cases h
    · cases h
  case iinc i n =>
    simp only [Bool.and_eq_true, decide_eq_true_eq] at hb
    obtain ⟨⟨⟨h1, h2⟩, h3⟩, h4⟩ := hb
    have h1 := Nat.eq_of_beq_eq_true h1
    have h3 := Nat.eq_of_beq_eq_true h3
    subst h1; subst h2; subst h3
    simp only [s1] at h
    split at h
    · next x hx =>
      split at h
      · next hy =>
        rw [Bool.and_eq_true] at hy
        have h := stL_ok _ _ _ _ _ h
        cases h
        exact g1_iinc (dec_of hd) h4 (by rw [← nth_eq]; exact hx) (bl_of hy.1) (notLb_ok hy.2) k
      · cases h
    · cases h
  case arraylength =>
    obtain ⟨hd, rfl⟩ := df_of rfl (by decide) hd hb
    simp only [s1] at h
    split at h
    · split at h
      · next c r n hx => cases h; exact g1_alen hd (by rw [← nth_eq]; exact hx) (Or.inl rfl) k
      · next c r n hx => cases h; exact g1_alen hd (by rw [← nth_eq]; exact hx) (Or.inr (Or.inl rfl)) k
      · cases h
    · cases h
  case getfield kf =>
    rw [Bool.and_eq_true, Bool.and_eq_true] at hb
    obtain ⟨⟨h1, h2⟩, h3⟩ := hb
    have h1 := Nat.eq_of_beq_eq_true h1
    have h2 := Nat.eq_of_beq_eq_true h2
    subst h1; subst h2
    split at h3
    · next x =>
      rw [Bool.and_eq_true] at h3
      obtain ⟨h4, h5⟩ := h3
      split at h5
      · next q hq =>
        have hk := bl_of h5
        have h6 := tb_of h4
        rw [fk_of hq hk] at h6
        simp only [s1] at h
        split at h
        · next c r =>
          split at h
          · next ci ks hc =>
            split at h
            · next hci =>
              have hci := Nat.eq_of_beq_eq_true hci
              subst hci
              rw [nth_eq] at hc
              split at h
              · next z hz => cases h; rw [nth_eq] at hz; exact g1_get (dec_of hd) hc hq hk h6 hz k
              · next z hz => cases h; rw [nth_eq] at hz; exact g1_get (dec_of hd) hc hq hk h6 hz k
              · next z hz => cases h; rw [nth_eq] at hz; exact g1_get (dec_of hd) hc hq hk h6 hz k
              · cases h
            · cases h
          · cases h
        · cases h
      · cases h5
    · cases h3
  case putfield kf =>
    rw [Bool.and_eq_true, Bool.and_eq_true] at hb
    obtain ⟨⟨h1, h2⟩, h3⟩ := hb
    have h1 := Nat.eq_of_beq_eq_true h1
    have h2 := Nat.eq_of_beq_eq_true h2
    subst h1; subst h2
    split at h3
    · next x =>
      rw [Bool.and_eq_true] at h3
      obtain ⟨h4, h5⟩ := h3
      split at h5
      · next q hq =>
        have hk := bl_of h5
        have h6 := tb_of h4
        rw [fk_of hq hk] at h6
        simp only [s1] at h
        split at h
        · next x2 c r =>
          split at h
          · next ci ks hc =>
            split at h
            · next hci =>
              rw [Bool.and_eq_true, decide_eq_true_eq, fk_of hq hk] at hci
              obtain ⟨hci, hty⟩ := hci
              have hci := Nat.eq_of_beq_eq_true hci
              subst hci
              rw [nth_eq] at hc
              split at h
              · next z hz =>
                cases h
                rw [nth_eq] at hz
                refine g1_putI (ty := .int) (dec_of hd) hc hq hk h6 (by rw [hty]) (by rw [hty]; decide +kernel) rfl rfl hz k
              · cases h
            · cases h
          · cases h
        · next x2 c r =>
          split at h
          · next ci ks hc =>
            split at h
            · next hci =>
              rw [Bool.and_eq_true, decide_eq_true_eq, fk_of hq hk] at hci
              obtain ⟨hci, hty⟩ := hci
              have hci := Nat.eq_of_beq_eq_true hci
              subst hci
              rw [nth_eq] at hc
              split at h
              · next z hz =>
                cases h
                rw [nth_eq] at hz
                refine g1_putL (dec_of hd) hc hq hk h6 (by rw [hty]) (by rw [hty]; decide +kernel) hz k
              · cases h
            · cases h
          · cases h
        · cases h
      · cases h5
    · cases h3
/-- n steps -/
def rn (y : mt_T) : Nat → st_T → Option st_T
  | 0, S => some S
  | n + 1, S => match lk S.1 y.2.2.2.2 with
    | some e => match s1 y.2.2.1 e S with
      | some S' => rn y n S'
      | none => none
    | none => none
theorem g_run (n : Nat) {S S' : st_T} (h : rn y n S = some S') (k : gG y d mc ms Q cells slots S') : gG y d mc ms Q cells slots S := by
  induction n generalizing S with
  | zero => cases h; exact k
  | succ n ih =>
    unfold rn at h
    split at h
    · next e he =>
      split at h
      · next S1 h1 =>
        have k1 := ih h
        obtain ⟨pc0, lo0, st0, sh0, hp0⟩ := S
        exact fun ok => s1_ok ok he h1 k1 ok
      · cases h
    · cases h
end GR
end
section
/-! the other steps: array places, divisions, ends, calls, entry -/
section GU
variable {y : mt_T} {d mc ms : Nat} {Q : zt} {cells slots : Nat} {pc : Nat} {lo st : List Value} {sh : sh_T} {hp : hp_T} {ia : Instr} {nx a b j0 : Nat} {v0 : Int32} {w0 : Int64}
theorem dflt_of {i : Instr} {n : Nat} (hn : il i = n) (h0 : n ≠ 0) (hm : okb y.1.cls y.2.1 (pc, ia, i, nx, a, b, v0, w0, j0) = (dec y.2.1 pc ia b && (decide (ia = i) && (if il i = 0 then true else Nat.beq b (il i) && Nat.beq nx (pc + il i))))) (ok : okm y = true) (h : lk pc y.2.2.2.2 = some (pc, ia, i, nx, a, b, v0, w0, j0)) : decode y.2.1 pc = .ok (i, n) ∧ nx = pc + n := by
  have h1 := (lk_ok ok h).1
  rw [hm, Bool.and_eq_true] at h1
  exact df_of hn h0 h1.1 h1.2
theorem g_iald {c n j : Nat} {i : Int32} (h : lk pc y.2.2.2.2 = some (pc, ia, .iaload, nx, a, b, v0, w0, j0)) (hc : nth sh c = some (.inl (.int, n))) (hi : i.toInt = (j : Int)) (hj : j < n) (kk : gG y d mc ms Q cells slots (nx, lo, .int (hp.1 c j) :: st, sh, hp)) : gG y d mc ms Q cells slots (pc, lo, .int i :: .ref c :: st, sh, hp) := by
  intro ok
  obtain ⟨hd, rfl⟩ := dflt_of rfl (by decide) rfl ok h
  exact g1_iald hd (by rw [← nth_eq]; exact hc) hi hj kk ok
theorem g_bald {c n j : Nat} {i : Int32} (h : lk pc y.2.2.2.2 = some (pc, ia, .baload, nx, a, b, v0, w0, j0)) (hc : nth sh c = some (.inl (.byte, n))) (hi : i.toInt = (j : Int)) (hj : j < n) (kk : gG y d mc ms Q cells slots (nx, lo, .int (hp.1 c j) :: st, sh, hp)) : gG y d mc ms Q cells slots (pc, lo, .int i :: .ref c :: st, sh, hp) := by
  intro ok
  obtain ⟨hd, rfl⟩ := dflt_of rfl (by decide) rfl ok h
  exact g1_bald hd (by rw [← nth_eq]; exact hc) hi hj kk ok
theorem g_lald {c n j : Nat} {i : Int32} (h : lk pc y.2.2.2.2 = some (pc, ia, .laload, nx, a, b, v0, w0, j0)) (hc : nth sh c = some (.inl (.long, n))) (hi : i.toInt = (j : Int)) (hj : j < n) (kk : gG y d mc ms Q cells slots (nx, lo, .long (hp.2 c j) :: st, sh, hp)) : gG y d mc ms Q cells slots (pc, lo, .int i :: .ref c :: st, sh, hp) := by
  intro ok
  obtain ⟨hd, rfl⟩ := dflt_of rfl (by decide) rfl ok h
  exact g1_lald hd (by rw [← nth_eq]; exact hc) hi hj kk ok
theorem g_iast {c n j : Nat} {i x : Int32} (h : lk pc y.2.2.2.2 = some (pc, ia, .iastore, nx, a, b, v0, w0, j0)) (hc : nth sh c = some (.inl (.int, n))) (hi : i.toInt = (j : Int)) (hj : j < n) (kk : gG y d mc ms Q cells slots (nx, lo, st, sh, sI hp c j x)) : gG y d mc ms Q cells slots (pc, lo, .int x :: .int i :: .ref c :: st, sh, hp) := by
  intro ok
  obtain ⟨hd, rfl⟩ := dflt_of rfl (by decide) rfl ok h
  exact g1_iast hd (by rw [← nth_eq]; exact hc) hi hj kk ok
theorem g_bast {c n j : Nat} {i x : Int32} (h : lk pc y.2.2.2.2 = some (pc, ia, .bastore, nx, a, b, v0, w0, j0)) (hc : nth sh c = some (.inl (.byte, n))) (hi : i.toInt = (j : Int)) (hj : j < n) (kk : gG y d mc ms Q cells slots (nx, lo, st, sh, sI hp c j (vp_nar .byte x))) : gG y d mc ms Q cells slots (pc, lo, .int x :: .int i :: .ref c :: st, sh, hp) := by
  intro ok
  obtain ⟨hd, rfl⟩ := dflt_of rfl (by decide) rfl ok h
  exact g1_bast hd (by rw [← nth_eq]; exact hc) hi hj kk ok
theorem g_last {c n j : Nat} {i : Int32} {x : Int64} (h : lk pc y.2.2.2.2 = some (pc, ia, .lastore, nx, a, b, v0, w0, j0)) (hc : nth sh c = some (.inl (.long, n))) (hi : i.toInt = (j : Int)) (hj : j < n) (kk : gG y d mc ms Q cells slots (nx, lo, st, sh, sL hp c j x)) : gG y d mc ms Q cells slots (pc, lo, .long x :: .int i :: .ref c :: st, sh, hp) := by
  intro ok
  obtain ⟨hd, rfl⟩ := dflt_of rfl (by decide) rfl ok h
  exact g1_last hd (by rw [← nth_eq]; exact hc) hi hj kk ok
theorem g_idiv {x z : Int32} (h : lk pc y.2.2.2.2 = some (pc, ia, .idiv, nx, a, b, v0, w0, j0)) (hz : ¬ z = 0) (kk : gG y d mc ms Q cells slots (nx, lo, .int (x / z) :: st, sh, hp)) : gG y d mc ms Q cells slots (pc, lo, .int z :: .int x :: st, sh, hp) := by
  intro ok
  obtain ⟨hd, rfl⟩ := dflt_of rfl (by decide) rfl ok h
  exact g1_idiv hz hd kk ok
theorem g_irem {x z : Int32} (h : lk pc y.2.2.2.2 = some (pc, ia, .irem, nx, a, b, v0, w0, j0)) (hz : ¬ z = 0) (kk : gG y d mc ms Q cells slots (nx, lo, .int (x - x / z * z) :: st, sh, hp)) : gG y d mc ms Q cells slots (pc, lo, .int z :: .int x :: st, sh, hp) := by
  intro ok
  obtain ⟨hd, rfl⟩ := dflt_of rfl (by decide) rfl ok h
  exact g1_irem hz hd kk ok
theorem g_ldiv {x z : Int64} (h : lk pc y.2.2.2.2 = some (pc, ia, .ldiv, nx, a, b, v0, w0, j0)) (hz : ¬ z = 0) (kk : gG y d mc ms Q cells slots (nx, lo, .long (x / z) :: st, sh, hp)) : gG y d mc ms Q cells slots (pc, lo, .long z :: .long x :: st, sh, hp) := by
  intro ok
  obtain ⟨hd, rfl⟩ := dflt_of rfl (by decide) rfl ok h
  exact g1_ldiv hz hd kk ok
theorem g_lrem {x z : Int64} (h : lk pc y.2.2.2.2 = some (pc, ia, .lrem, nx, a, b, v0, w0, j0)) (hz : ¬ z = 0) (kk : gG y d mc ms Q cells slots (nx, lo, .long (x - x / z * z) :: st, sh, hp)) : gG y d mc ms Q cells slots (pc, lo, .long z :: .long x :: st, sh, hp) := by
  intro ok
  obtain ⟨hd, rfl⟩ := dflt_of rfl (by decide) rfl ok h
  exact g1_lrem hz hd kk ok
/-- a switch: the place by computing on what is known of the value -/
theorem g_tabIn {dflt l0 h0 off : Int} {offs : Array Int} {x : Int32} {tgt i : Nat} (h : lk pc y.2.2.2.2 = some (pc, ia, .tableswitch dflt l0 h0 offs, nx, a, b, v0, w0, j0)) (hx : x.toInt = l0 + (i : Int)) (hh : l0 + (i : Int) ≤ h0) (ho : offs[i]? = some off) (ht : (pc : Int) + off = (tgt : Int)) (kk : gG y d mc ms Q cells slots (tgt, lo, st, sh, hp)) : gG y d mc ms Q cells slots (pc, lo, .int x :: st, sh, hp) := by
  intro ok p l e s m args below meth c E H locs ls C hX hw hL hl
  have h1 := (lk_ok ok h).1
  change (dec y.2.1 pc ia b && (decide (ia = .tableswitch dflt l0 h0 offs) && (if il (.tableswitch dflt l0 h0 offs) = 0 then true else _))) = true at h1
  simp only [Bool.and_eq_true, decide_eq_true_eq] at h1
  obtain ⟨h2, h3, -⟩ := h1
  subst h3
  exact lv_tableIn C.1 C.2.1 (dec_of h2) (by omega) (by omega) (by rw [hx, show l0 + (i : Int) - l0 = (i : Int) by omega, Int.toNat_natCast]; exact ho) ht (kk ok p l e s m args below meth c E H locs ls C hX hw hL hl)
theorem g_tabOut {dflt l0 h0 : Int} {offs : Array Int} {x : Int32} {tgt : Nat} (h : lk pc y.2.2.2.2 = some (pc, ia, .tableswitch dflt l0 h0 offs, nx, a, b, v0, w0, j0)) (hx : x.toInt < l0 ∨ h0 < x.toInt) (ht : (pc : Int) + dflt = (tgt : Int)) (kk : gG y d mc ms Q cells slots (tgt, lo, st, sh, hp)) : gG y d mc ms Q cells slots (pc, lo, .int x :: st, sh, hp) := by
  intro ok p l e s m args below meth c E H locs ls C hX hw hL hl
  have h1 := (lk_ok ok h).1
  change (dec y.2.1 pc ia b && (decide (ia = .tableswitch dflt l0 h0 offs) && (if il (.tableswitch dflt l0 h0 offs) = 0 then true else _))) = true at h1
  simp only [Bool.and_eq_true, decide_eq_true_eq] at h1
  obtain ⟨h2, h3, -⟩ := h1
  subst h3
  exact lv_tableOut C.1 C.2.1 (dec_of h2) hx ht (kk ok p l e s m args below meth c E H locs ls C hX hw hL hl)
theorem g_look {dflt off : Int} {ps : Array (Int × Int)} {x : Int32} {tgt : Nat} (h : lk pc y.2.2.2.2 = some (pc, ia, .lookupswitch dflt ps, nx, a, b, v0, w0, j0)) (hp1 : (ps.toList.zip (ps.toList.drop 1)).all (fun (a, next) => a.1 < next.1) = true) (ho : Op.lookupswitch.offset ps.toList dflt x.toInt = off) (ht : (pc : Int) + off = (tgt : Int)) (kk : gG y d mc ms Q cells slots (tgt, lo, st, sh, hp)) : gG y d mc ms Q cells slots (pc, lo, .int x :: st, sh, hp) := by
  intro ok p l e s m args below meth c E H locs ls C hX hw hL hl
  have h1 := (lk_ok ok h).1
  change (dec y.2.1 pc ia b && (decide (ia = .lookupswitch dflt ps) && (if il (.lookupswitch dflt ps) = 0 then true else _))) = true at h1
  simp only [Bool.and_eq_true, decide_eq_true_eq] at h1
  obtain ⟨h2, h3, -⟩ := h1
  subst h3
  exact lv_lookup C.1 C.2.1 (dec_of h2) hp1 ho ht (kk ok p l e s m args below meth c E H locs ls C hX hw hL hl)
/-! ends -/
theorem g_iret {Q : Option Value → sh_T → hp_T → Prop} {v : Int32} (h : lk pc y.2.2.2.2 = some (pc, ia, .ireturn, nx, a, b, v0, w0, j0)) (hr : y.2.2.2.1 = some .int) (hq : Q (some (.int v)) sh hp) (h1 : cells ≤ mc := by decide) (h2 : slots ≤ ms := by decide) : gG y d mc ms (zQ mc ms Q) cells slots (pc, lo, [.int v], sh, hp) := by
  intro ok p l e s m args below meth c E H locs ls C hX hw hL hl
  obtain ⟨hd, -⟩ := dflt_of rfl (by decide) rfl ok h
  have hlocks := C.2.2.2.2.2.2.1
  exact W.widen h1 h2 (W.iret (v := v) C.1 C.2.1 (C.2.2.1.trans hr) (fun t ht hW => ⟨some (.int v), sh, hp, rfl, hq, by rw [ht]; exact hw⟩) hL hd hlocks)
theorem g_zret {Q : Option Value → sh_T → hp_T → Prop} {v : Int32} (h : lk pc y.2.2.2.2 = some (pc, ia, .ireturn, nx, a, b, v0, w0, j0)) (hr : y.2.2.2.1 = some .boolean) (hv : v = 0 ∨ v = 1) (hq : Q (some (.int v)) sh hp) (h1 : cells ≤ mc := by decide) (h2 : slots ≤ ms := by decide) : gG y d mc ms (zQ mc ms Q) cells slots (pc, lo, [.int v], sh, hp) := by
  intro ok p l e s m args below meth c E H locs ls C hX hw hL hl
  obtain ⟨hd, -⟩ := dflt_of rfl (by decide) rfl ok h
  have hlocks := C.2.2.2.2.2.2.1
  exact W.widen h1 h2 (W.zret (v := v) C.1 C.2.1 (C.2.2.1.trans hr) (by rcases hv with rfl | rfl <;> decide +kernel) (fun t ht hW => ⟨some (.int v), sh, hp, rfl, hq, by rw [ht]; exact hw⟩) hL hd hlocks)
theorem g_lret {Q : Option Value → sh_T → hp_T → Prop} {v : Int64} (h : lk pc y.2.2.2.2 = some (pc, ia, .lreturn, nx, a, b, v0, w0, j0)) (hr : y.2.2.2.1 = some .long) (hq : Q (some (.long v)) sh hp) (h1 : cells ≤ mc := by decide) (h2 : slots ≤ ms := by decide) : gG y d mc ms (zQ mc ms Q) cells slots (pc, lo, [.long v], sh, hp) := by
  intro ok p l e s m args below meth c E H locs ls C hX hw hL hl
  obtain ⟨hd, -⟩ := dflt_of rfl (by decide) rfl ok h
  have hlocks := C.2.2.2.2.2.2.1
  exact W.widen h1 h2 (W.lret (v := v) C.1 C.2.1 (C.2.2.1.trans hr) (fun t ht hW => ⟨some (.long v), sh, hp, rfl, hq, by rw [ht]; exact hw⟩) hL hd hlocks)
theorem g_vret {Q : Option Value → sh_T → hp_T → Prop} (h : lk pc y.2.2.2.2 = some (pc, ia, .return_, nx, a, b, v0, w0, j0)) (hr : y.2.2.2.1 = none) (hq : Q none sh hp) (h1 : cells ≤ mc := by decide) (h2 : slots ≤ ms := by decide) : gG y d mc ms (zQ mc ms Q) cells slots (pc, lo, [], sh, hp) := by
  intro ok p l e s m args below meth c E H locs ls C hX hw hL hl
  obtain ⟨hd, -⟩ := dflt_of rfl (by decide) rfl ok h
  have hlocks := C.2.2.2.2.2.2.1
  exact W.widen h1 h2 (W.vret C.1 C.2.1 (C.2.2.1.trans hr) (fun t ht hW => ⟨none, sh, hp, rfl, hq, by rw [ht]; exact hw⟩) hL hd hlocks)
theorem g_aret {Q : Option Value → sh_T → hp_T → Prop} {k : Nat} {nm : String} (h : lk pc y.2.2.2.2 = some (pc, ia, .areturn, nx, a, b, v0, w0, j0)) (hr : y.2.2.2.1 = some (.object nm)) (hq : Q (some (.ref k)) sh hp) (h1 : cells ≤ mc := by decide) (h2 : slots ≤ ms := by decide) : gG y d mc ms (zQ mc ms Q) cells slots (pc, lo, [.ref k], sh, hp) := by
  intro ok p l e s m args below meth c E H locs ls C hX hw hL hl
  obtain ⟨hd, -⟩ := dflt_of rfl (by decide) rfl ok h
  have hlocks := C.2.2.2.2.2.2.1
  exact W.widen h1 h2 (W.aret (v := .ref (E.1 + k)) C.1 C.2.1 (C.2.2.1.trans hr) (Or.inl ⟨_, rfl⟩) (Or.inr ⟨_, rfl⟩) (fun t ht hW => ⟨some (.ref k), sh, hp, rfl, hq, by rw [ht]; exact hw⟩) hL hd hlocks)
/-! calls -/
def cut : Nat → List Value → List Value → Option (List Value × List Value)
  | 0, as, r => some (as, r)
  | n + 1, as, v :: r => cut n (v :: as) r
  | _ + 1, _, [] => none
theorem cut_ok : ∀ (n : Nat) (as r bs r' : List Value), cut n as r = some (bs, r') → ∃ cs, bs = cs ++ as ∧ cs.length = n ∧ r = cs.reverse ++ r'
  | 0, as, r, bs, r', h => by cases h; exact ⟨[], rfl, rfl, rfl⟩
  | n + 1, as, v :: r, bs, r', h => by
    obtain ⟨cs, h1, h2, h3⟩ := cut_ok n (v :: as) r bs r' h
    exact ⟨cs ++ [v], by rw [h1]; simp, by simp [h2], by rw [h3]; simp⟩
  | n + 1, as, [], bs, r', h => by cases h
def cats : List Value → Nat
  | [] => 0
  | v :: r => v.category + cats r
theorem cats_eq (E : en_T) : ∀ st : List Value, ((st.map (cv E)).map fun v => v.category).sum = cats st
  | [] => rfl
  | v :: r => by simp [cats, cv_cat, ← cats_eq E r]
theorem kx_move {E : en_T} {s U : State} (hW : s.WarmedH U.vm) (h : kx E s) : kx E U := ⟨va_K.moved hW.alike h.1, fun q hq => va_Nw.warmM hW (h.2.1 q hq), fun i hi => (h.2.2.1 i hi).warm hW, fun H h1 h2 => ⟨vk_S.moved hW.alike (h.2.2.2 H h1 h2).1, va_Z.moved hW.alike (h.2.2.2 H h1 h2).2⟩⟩
theorem pcc_blind {E : en_T} {as : List Value} : FrameBlind (pcc E as sh hp) := fun _ U g mk ⟨h1, h2, h3⟩ => ⟨h1, h2, ⟨va_K.moved (u := U) (U := U.calling g mk _) (Vm.Alike.refl U.vm) h3.1, fun q hq => va_Nw.same rfl (u := U) rfl (h3.2.1 q hq), fun i hi => vk_R.same (u := U) rfl (h3.2.2.1 i hi), fun H h1 h2 => ⟨vk_S.moved (u := U) (Vm.Alike.refl U.vm) (h3.2.2.2 H h1 h2).1, va_Z.moved (u := U) (Vm.Alike.refl U.vm) (h3.2.2.2 H h1 h2).2⟩⟩⟩
theorem wsm_good {y' : mt_T} {Ts : List Cond} (hT : ∀ w ∈ gT, w ∈ Ts) (hc : Cond.code y'.1 y'.2.1 y'.2.2.1 y'.2.2.2.1 ∈ gT) : GoodIn Ts (wsm y') := fun w hw => (List.mem_cons.mp hw).elim (fun e => by subst e; exact ⟨hT _ hc, (gT_good _ hc).2⟩) (fun h => ⟨hT _ h, (gT_good _ h).2⟩)
theorem run_go {p : Program} {l : Launch} {e : Env} {R : Room} {s : State} {m : MethodId} {args : Array Value} {below : List Frame} {meth : Method} {c : Code} {H : Heap} {locs : List Loc} {ls : Array Slot} {st0 rest : List Value} {QQ : State → Prop} {E : en_T} {Q' : Option Value → sh_T → hp_T → Prop} {mc' ms' : Nat} {av : Array Value} (hr : va_Run p l e R s m args below meth c H locs cells slots mc' ms' (F0 m pc ls st0) rest (qcc E Q' av) (fun q => E.1 ≤ q)) (hL : ∀ q ∈ locs, E.1 ≤ q.base)
    (kk : ∀ (r : Option Value) (sh : sh_T) (hp : hp_T) (H1 : Heap) (locs1 : List Loc), Q' r sh hp → wd E sh hp H1 → (∀ q ∈ locs1, E.1 ≤ q.base) → W p l e R s m args below meth c H1 locs1 (cells + mc') (slots + ms') QQ (F0 m (pc + 3) ls ((r.map (cv E)).toList ++ rest))) : W p l e R s m args below meth c H locs cells slots QQ (F0 m pc ls st0) := by
  intro T hT X
  obtain ⟨v, st₀, t, T', L, h0, X', hL', e1, e2, ⟨r, sh, hp, hv, hq, hw⟩, st⟩ := hr T hT X
  cases hv
  obtain ⟨t2, a1, b1⟩ := kk r sh hp T'.heap (locs ++ L) hq (by rw [e1]; exact hw) (fun q hq => (List.mem_append.mp hq).elim (hL q) (hL' q)) T' rfl X'
  exact ⟨t2, st t2 a1, b1⟩
theorem g_callV {y' : mt_T} {x n mc' ms' bb ci : Nat} {bs as r ks : List Value} (h : lk pc y.2.2.2.2 = some (pc, ia, .invokevirtual x, nx, a, b, v0, w0, j0)) (hl : lV y.1.cls x y' n) (hcut : cut n [] st = some (as, .ref bb :: r)) (hb : nth sh bb = some (.inr (ci, ks))) (hcls : (kcls[ci]?).map (fun q => q.1) = some y'.1.cls) (hW : Nat.ble (cats r) 8 = true)
    (kk : gC y' d mc' ms' (.ref bb :: as) sh hp (fun ans sh' hp' => gG y (d + 1) mc ms Q (cells + mc') (slots + ms') (nx, lo, ans.toList ++ r, sh', hp'))) (h1 : cells + mc' ≤ mc := by decide) (h2 : slots + ms' ≤ ms := by decide) : gG y (d + 1) mc ms Q cells slots (pc, lo, st, sh, hp) := by
  intro ok p l e s m args below meth c E H locs ls C hX hw hL hlv
  obtain ⟨hd, rfl⟩ := dflt_of (n := 3) rfl (by decide) rfl ok h
  obtain ⟨⟨hcode, hini, hdd, hml⟩, hlink, hin, hsel⟩ := hl
  obtain ⟨cs, e1, e2, e3⟩ := cut_ok n [] st as _ hcut
  rw [List.append_nil] at e1
  subst e1
  have hts := C.2.2.2.2.2.1
  cases hq : kcls[ci]? with
  | none => rw [hq] at hcls; cases hcls
  | some q =>
    rw [hq] at hcls
    have hcls : q.1 = y'.1.cls := Option.some.inj hcls
    have hrecv := va_recv (D := E.2.2.1) (cl := kcls) (ws := [(E.1 + bb, .inr (ci, fs_of E hp bb ks))]) C.2.2.2.2.2.2.2.2.1 (fun j z hz => by
      match j, hz with
      | 0, hz => cases hz; exact wd_at hw (by rw [← nth_eq]; exact hb) rfl
      | j + 1, hz => simp at hz) hq (q0 := 0) rfl
    rw [hcls] at hrecv
    have hcw : CallW (rm (d + 1) mc ms) s args y.1.cls y'.1.cls x y'.1 y'.2.1 y'.2.2.1 y'.2.2.2.1 (wsm y') (rm d mc' ms') mc' ms' n := ⟨callB_of n hts (wsm_good (fun w hw => hw) hcode) rfl rfl rfl (hts _ hini) (hts _ hlink) hdd ⟨Nat.le_refl _, by show 8 + (y'.2.2.1 + 11) + (40 * d + 2080) ≤ 40 * (d + 1) + 2080; omega⟩, hts _ hin, hts _ hsel⟩
    refine run_go (Q' := fun ans sh' hp' => gG y (d + 1) mc ms Q (cells + mc') (slots + ms') (pc + 3, lo, ans.toList ++ r, sh', hp')) (va_runV (As := as.map (cv E)) (rest := r.map (cv E)) (b := E.1 + bb) ⟨C.1, C.2.1, C.2.2.2.1, C.2.2.2.2.1, hts⟩ (kk l E) hcw ⟨pcc_blind, hrecv, fun U hU hWU => ⟨rfl, by rw [hU]; exact hw, kx_move hWU C.2.2.2.2.2.2.2.2⟩⟩ rfl (by simp [e2]) hlv.1 ?_ (lv_room (by rw [cats_eq]; exact Nat.le_of_ble_eq_true hW)) hd ⟨h1, h2⟩) hL (fun ans sh' hp' H1 locs1 hk hw1 hL1 => ?_)
    · show List.map (cv E) st = _
      rw [e3]
      simp [List.map_reverse]
      rfl
    · have := hk ok p l e s m args below meth c E H1 locs1 ls C hX hw1 hL1 hlv
      have e9 : List.map (cv E) (ans.toList ++ r) = (ans.map (cv E)).toList ++ r.map (cv E) := by cases ans <;> simp
      simp only [e9] at this
      exact this
theorem g_callS {y' : mt_T} {x n mc' ms' : Nat} {as r : List Value} (h : lk pc y.2.2.2.2 = some (pc, ia, .invokestatic x, nx, a, b, v0, w0, j0)) (hl : lS y.1.cls x y' n ∨ lN2 y.1.cls x y' n) (hcut : cut n [] st = some (as, r)) (hW : Nat.ble (cats r) 8 = true)
    (kk : gC y' d mc' ms' as sh hp (fun ans sh' hp' => gG y (d + 1) mc ms Q (cells + mc') (slots + ms') (nx, lo, ans.toList ++ r, sh', hp'))) (h1 : cells + mc' ≤ mc := by decide) (h2 : slots + ms' ≤ ms := by decide) : gG y (d + 1) mc ms Q cells slots (pc, lo, st, sh, hp) := by
  intro ok p l e s m args below meth c E H locs ls C hX hw hL hlv
  obtain ⟨hd, rfl⟩ := dflt_of (n := 3) rfl (by decide) rfl ok h
  obtain ⟨cs, e1, e2, e3⟩ := cut_ok n [] st as _ hcut
  rw [List.append_nil] at e1
  subst e1
  have hts := C.2.2.2.2.2.1
  have hrun : va_Run p l e (rm (d + 1) mc ms) s m args below meth c H locs cells slots mc' ms' (F0 m pc ls (st.map (cv E))) (r.map (cv E)) (qcc E (fun ans sh' hp' => gG y (d + 1) mc ms Q (cells + mc') (slots + ms') (pc + 3, lo, ans.toList ++ r, sh', hp')) (as.map (cv E)).toArray) (fun q => E.1 ≤ q) := by
    have hstk : List.map (cv E) st = (as.map (cv E)).reverse ++ r.map (cv E) := by rw [e3]; simp [List.map_reverse]
    rcases hl with ⟨⟨hcode, hini, hdd, hml⟩, hlink, hstt⟩ | ⟨⟨hcode, hini, hdd, hml⟩, hnest, hyw, hstt⟩
    · exact va_runS (As := as.map (cv E)) (rest := r.map (cv E)) ⟨C.1, C.2.1, C.2.2.2.1, C.2.2.2.2.1, hts⟩ (kk l E) ⟨callB_of n hts (wsm_good (fun w hw => hw) hcode) rfl rfl rfl (hts _ hini) (hts _ hlink) hdd ⟨Nat.le_refl _, by show 8 + (y'.2.2.1 + 11) + (40 * d + 2080) ≤ 40 * (d + 1) + 2080; omega⟩, hts _ hstt⟩ ⟨pcc_blind, fun U hU hWU => ⟨rfl, by rw [hU]; exact hw, kx_move hWU C.2.2.2.2.2.2.2.2⟩⟩ rfl (by simp [e2]) hlv.1 hstk (lv_room (by rw [cats_eq]; exact Nat.le_of_ble_eq_true hW)) hd ⟨h1, h2⟩
    · exact va_runSN (host := "RoastHouse") (As := as.map (cv E)) (rest := r.map (cv E)) ⟨C.1, C.2.1, C.2.2.2.1, C.2.2.2.2.1, hts⟩ (kk l E) ⟨va_cnB n hts (wsm_good (fun w hw => hw) hcode) rfl rfl rfl (by rw [hyw]; exact C.2.2.2.2.2.2.2.2.2.1 _ hnest) (hts _ hini) hdd ⟨Nat.le_refl _, by show 8 + (y'.2.2.1 + 11) + (40 * d + 2080) ≤ 40 * (d + 1) + 2080; omega⟩, hts _ hstt, trivial⟩ ⟨pcc_blind, fun U hU hWU => ⟨rfl, by rw [hU]; exact hw, kx_move hWU C.2.2.2.2.2.2.2.2⟩⟩ rfl (by simp [e2]) hlv.1 hstk (lv_room (by rw [cats_eq]; exact Nat.le_of_ble_eq_true hW)) hd ⟨h1, h2⟩
  refine run_go hrun hL (fun ans sh' hp' H1 locs1 hk hw1 hL1 => ?_)
  have := hk ok p l e s m args below meth c E H1 locs1 ls C hX hw1 hL1 hlv
  have e9 : List.map (cv E) (ans.toList ++ r) = (ans.map (cv E)).toList ++ r.map (cv E) := by cases ans <;> simp
  simp only [e9] at this
  exact this
theorem g_callI {y' : mt_T} {x n mc' ms' bb : Nat} {as r : List Value} (h : lk pc y.2.2.2.2 = some (pc, ia, .invokespecial x, nx, a, b, v0, w0, j0)) (hl : lI y.1.cls x y' n) (hcut : cut n [] st = some (as, .ref bb :: r)) (hW : Nat.ble (cats r) 8 = true)
    (kk : gC y' d mc' ms' (.ref bb :: as) sh hp (fun ans sh' hp' => gG y (d + 1) mc ms Q (cells + mc') (slots + ms') (nx, lo, ans.toList ++ r, sh', hp'))) (h1 : cells + mc' ≤ mc := by decide) (h2 : slots + ms' ≤ ms := by decide) : gG y (d + 1) mc ms Q cells slots (pc, lo, st, sh, hp) := by
  intro ok p l e s m args below meth c E H locs ls C hX hw hL hlv
  obtain ⟨hd, rfl⟩ := dflt_of (n := 3) rfl (by decide) rfl ok h
  obtain ⟨⟨hcode, hini, hdd, hml⟩, hlink, hin, hname, hret⟩ := hl
  obtain ⟨cs, e1, e2, e3⟩ := cut_ok n [] st as _ hcut
  rw [List.append_nil] at e1
  subst e1
  have hts := C.2.2.2.2.2.1
  refine run_go (Q' := fun ans sh' hp' => gG y (d + 1) mc ms Q (cells + mc') (slots + ms') (pc + 3, lo, ans.toList ++ r, sh', hp')) (va_runI (As := as.map (cv E)) (rest := r.map (cv E)) (b := E.1 + bb) ⟨C.1, C.2.1, C.2.2.2.1, C.2.2.2.2.1, hts⟩ (kk l E) (cwI (bytes := y'.2.1) (maxL := y'.2.2.1) (ws' := gT) n hts (wsm_good (fun w hw => hw) hcode) (by simp [wsm, hret]) rfl rfl (hts _ hini) (hts _ hlink) (hts _ hin) hname hdd ⟨Nat.le_refl _, by show 8 + (y'.2.2.1 + 11) + (40 * d + 2080) ≤ 40 * (d + 1) + 2080; omega⟩) ⟨pcc_blind, fun U hU hWU => ⟨rfl, by rw [hU]; exact hw, kx_move hWU C.2.2.2.2.2.2.2.2⟩⟩ rfl (by simp [e2]) hlv.1 ?_ (lv_room (by rw [cats_eq]; exact Nat.le_of_ble_eq_true hW)) hd ⟨h1, h2⟩) hL (fun ans sh' hp' H1 locs1 hk hw1 hL1 => ?_)
  · show List.map (cv E) st = _
    rw [e3]
    simp [List.map_reverse]
    rfl
  · have := hk ok p l e s m args below meth c E H1 locs1 ls C hX hw1 hL1 hlv
    have e9 : List.map (cv E) (ans.toList ++ r) = (ans.map (cv E)).toList ++ r.map (cv E) := by cases ans <;> simp
    simp only [e9] at this
    exact this
/-! entry -/
def entK {α : Type} : List Value → Nat → (List Value → Option α) → Option α
  | [], 0, k => k []
  | [], n + 1, k => entK [] n (fun r => k (.retAddr 0 :: r))
  | .long x :: vs, n + 2, k => entK vs n (fun r => k (.long x :: .retAddr 0 :: r))
  | .int x :: vs, n + 1, k => entK vs n (fun r => k (.int x :: r))
  | .ref x :: vs, n + 1, k => entK vs n (fun r => k (.ref x :: r))
  | .float x :: vs, n + 1, k => entK vs n (fun r => k (.float x :: r))
  | _, _, _ => none
theorem lgc (v : Value) (vs : List Value) : (lg_sl (v :: vs)).length = (if v.category = 2 then 2 else 1) + (lg_sl vs).length := by
  simp only [lg_sl, List.flatMap_cons, List.length_append]
  split <;> rfl
theorem entK_ok {α : Type} (E : en_T) : ∀ (n : Nat) (vs : List Value) (k : List Value → Option α) (z : α), entK vs n k = some z → ∃ lo, k lo = some z ∧ (lg_sl (vs.map (cv E))).length ≤ n ∧ ∀ (off i : Nat) (v : Value), lo[i]? = some v → isV v = true → (off + i, cv E v) ∈ lv_args off (vs.map (cv E))
  | 0, [], k, z, h => ⟨[], by simpa [entK] using h, by simp [lg_sl], fun off i v hv => by simp at hv⟩
  | n + 1, [], k, z, h => by
    obtain ⟨lo, h1, h2, h3⟩ := entK_ok E n [] _ z (by simpa [entK] using h)
    refine ⟨_, h1, by simp [lg_sl], fun off i v hv hs => ?_⟩
    cases i with
    | zero => simp at hv; subst hv; cases hs
    | succ i => simp at hv; have := h3 (off + 1) i v hv hs; simp [lv_args] at this
  | n + 2, .long x :: vs, k, z, h => by
    obtain ⟨lo, h1, h2, h3⟩ := entK_ok E n vs _ z (by simpa [entK] using h)
    refine ⟨_, h1, by rw [List.map_cons, lgc]; simp only [cv, Value.category]; simp; omega, fun off i v hv hs => ?_⟩
    match i, hv with
    | 0, hv => simp at hv; subst hv; exact List.mem_cons_self
    | 1, hv => simp at hv; subst hv; cases hs
    | i + 2, hv =>
      simp at hv
      have := h3 (off + 2) i v hv hs
      rw [show off + 2 + i = off + (i + 2) by omega] at this
      exact List.mem_cons_of_mem _ this
  | n + 1, .int x :: vs, k, z, h => by
    obtain ⟨lo, h1, h2, h3⟩ := entK_ok E n vs _ z (by simpa [entK] using h)
    refine ⟨_, h1, by rw [List.map_cons, lgc]; simp only [cv, Value.category]; simp; omega, fun off i v hv hs => ?_⟩
    match i, hv with
    | 0, hv => simp at hv; subst hv; exact List.mem_cons_self
    | i + 1, hv =>
      simp at hv
      have := h3 (off + 1) i v hv hs
      rw [show off + 1 + i = off + (i + 1) by omega] at this
      exact List.mem_cons_of_mem _ this
  | n + 1, .ref x :: vs, k, z, h => by
    obtain ⟨lo, h1, h2, h3⟩ := entK_ok E n vs _ z (by simpa [entK] using h)
    refine ⟨_, h1, by rw [List.map_cons, lgc]; simp only [cv, Value.category]; simp; omega, fun off i v hv hs => ?_⟩
    match i, hv with
    | 0, hv => simp at hv; subst hv; exact List.mem_cons_self
    | i + 1, hv =>
      simp at hv
      have := h3 (off + 1) i v hv hs
      rw [show off + 1 + i = off + (i + 1) by omega] at this
      exact List.mem_cons_of_mem _ this
  | n + 1, .float x :: vs, k, z, h => by
    obtain ⟨lo, h1, h2, h3⟩ := entK_ok E n vs _ z (by simpa [entK] using h)
    refine ⟨_, h1, by rw [List.map_cons, lgc]; simp only [cv, Value.category]; simp; omega, fun off i v hv hs => ?_⟩
    match i, hv with
    | 0, hv => simp at hv; subst hv; exact List.mem_cons_self
    | i + 1, hv =>
      simp at hv
      have := h3 (off + 1) i v hv hs
      rw [show off + 1 + i = off + (i + 1) by omega] at this
      exact List.mem_cons_of_mem _ this
  | 0, .long x :: vs, k, z, h => by simp [entK] at h
  | 1, .long x :: vs, k, z, h => by simp [entK] at h
  | 0, .int x :: vs, k, z, h => by simp [entK] at h
  | 0, .ref x :: vs, k, z, h => by simp [entK] at h
  | 0, .float x :: vs, k, z, h => by simp [entK] at h
  | n, .null :: vs, k, z, h => by simp [entK] at h
  | n, .double x :: vs, k, z, h => by simp [entK] at h
  | n, .retAddr x :: vs, k, z, h => by simp [entK] at h
theorem met_ofF {l : Launch} {y : MethodName} {ws ws' : List Cond} {rm : Room} {Pc : Array Value → State → Prop} {Qc : Array Value → State → Outcome → State → Prop} {mc ms : Nat} {free : Addr → Prop} {cc : ByteArray} {maxL : Nat} {ret : Option FieldType}
    (hy : plainFor y = true) (hw : ws = Cond.code y cc maxL ret :: ws')
    (body : ∀ p e s m args below meth c s₁, BodyLoose p l y (headSpec ws rm) cc maxL ret e s m args below meth c s₁ → c.maxLocals = maxL → Pc args s →
      W p l e (headSpec ws rm).room s m args below meth c s.heap [] 0 0 (MQ below Qc args s mc ms free) (entryFrame m args maxL)) : Met l y ws rm Pc Qc mc ms free := by
  refine MetFree.of_bodySF (code := cc) (maxLocals := maxL) (ret := ret) hy ?_ ?_
  · intro args s m h hn
    obtain ⟨meth, c, h1, h2, h3, h4, h5, h6, -, -⟩ := Cond.code_spec hn (atoms_spec (ws := ws) h _ (by rw [hw]; exact List.mem_cons_self))
    exact ⟨meth, c, h1, h2, h3, h4, h5, h6⟩
  · intro p e s m args below meth c s₁ B hml hP _
    have hh0 : s₁.heap = s.heap := by rw [B.state]; rfl
    obtain ⟨t, a1, o, b1, b2, b3⟩ := body p e s m args below meth c s₁ B hml hP s₁ hh0 (Stand.of_body B)
    exact ⟨t, o, a1, b1, b2, ⟨b3.1, b3.2⟩⟩
theorem g_enter {Q : Option Value → sh_T → hp_T → Prop} {as : List Value} (ok : okm y = true) (hy : plainFor y.1 = true) (hlo : entK as y.2.2.1 some = some lo) (k : gG y d mc ms (zQ mc ms Q) 0 0 (0, lo, [], sh, hp)) : gC y d mc ms as sh hp Q := by
  intro l E
  refine met_ofF (cc := y.2.1) (maxL := y.2.2.1) (ret := y.2.2.2.1) hy rfl ?_
  intro p e s m args below meth c s₁ B hml hv
  obtain ⟨rfl, hw, hK⟩ := hv
  have hts := atoms_spec (ws := wsm y) B.pre
  obtain ⟨lo', h1, h2, h3⟩ := entK_ok E y.2.2.1 as some lo hlo
  cases h1
  have hl := lv_entry (as.map (cv E)) (n := y.2.2.1) h2
  rw [lg_entry_eq]
  refine k ok p l e s m _ below meth c E s.heap [] _ ⟨B.exec, B.bytes, B.returns, hml, findClass_of_methodNamed B.named, fun w hw => hts w (List.mem_cons_of_mem _ hw), B.notSynchronized, (name_of_methodNamed B.named B.method).1, hK⟩ trivial hw (fun _ h => by cases h) (hs_sub hl ?_)
  rintro ⟨i, w⟩ hq
  obtain ⟨v, hv, hs, rfl⟩ := al_mem.mp hq
  simpa using h3 0 i v hv hs
end GU
end
section
/-! numbers -/
theorem ia_add {a b : Int32} (h1 : -2147483648 ≤ a.toInt + b.toInt) (h2 : a.toInt + b.toInt < 2147483648) : (a + b).toInt = a.toInt + b.toInt := by
  rw [Int32.toInt_add, Int.bmod_eq_of_le (by omega) (by omega)]
theorem ia_sub {a b : Int32} (h1 : -2147483648 ≤ a.toInt - b.toInt) (h2 : a.toInt - b.toInt < 2147483648) : (a - b).toInt = a.toInt - b.toInt := by
  rw [Int32.toInt_sub, Int.bmod_eq_of_le (by omega) (by omega)]
theorem ia_mul {a b : Int32} (h1 : -2147483648 ≤ a.toInt * b.toInt) (h2 : a.toInt * b.toInt < 2147483648) : (a * b).toInt = a.toInt * b.toInt := by
  rw [Int32.toInt_mul, Int.bmod_eq_of_le (by omega) (by omega)]
theorem ia_add2 {a b : Int32} {x y : Int} (ha : a.toInt = x) (hb : b.toInt = y) (h1 : -2147483648 ≤ x + y) (h2 : x + y < 2147483648) : (a + b).toInt = x + y := by subst ha; subst hb; exact ia_add h1 h2
theorem ia_sub2 {a b : Int32} {x y : Int} (ha : a.toInt = x) (hb : b.toInt = y) (h1 : -2147483648 ≤ x - y) (h2 : x - y < 2147483648) : (a - b).toInt = x - y := by subst ha; subst hb; exact ia_sub h1 h2
theorem ia_mul2 {a b : Int32} {x y : Int} (ha : a.toInt = x) (hb : b.toInt = y) (h1 : -2147483648 ≤ x * y) (h2 : x * y < 2147483648) : (a * b).toInt = x * y := by subst ha; subst hb; exact ia_mul h1 h2
theorem ia_lt (a b : Int32) : a < b ↔ a.toInt < b.toInt := Int32.lt_iff_toInt_lt
theorem ia_le (a b : Int32) : a ≤ b ↔ a.toInt ≤ b.toInt := Int32.le_iff_toInt_le
theorem ia_eq (a b : Int32) : a = b ↔ a.toInt = b.toInt := Int32.toInt_inj.symm
theorem ia_bd (a : Int32) : -2147483648 ≤ a.toInt ∧ a.toInt < 2147483648 := ⟨Int32.le_toInt a, Int32.toInt_lt a⟩
theorem ia_ofI {x : Int} (h1 : -2147483648 ≤ x) (h2 : x < 2147483648) : (Int32.ofInt x).toInt = x := by
  rw [Int32.toInt_ofInt]
  exact Int.bmod_eq_of_le (by simp [Int32.size]; omega) (by simp [Int32.size]; omega)
section GJ
variable {y : mt_T} {d mc ms : Nat} {Q : zt} {cells slots : Nat} {pc : Nat} {lo st : List Value} {sh : sh_T} {hp : hp_T} {ia : Instr} {nx tg b j : Nat} {v : Int32} {w : Int64} {off : Int} {x z : Int32} {kx kz : Int}
theorem gj_eq (h : lk pc y.2.2.2.2 = some (pc, ia, .if_icmp .eq off, nx, tg, b, v, w, j)) (hx : x.toInt = kx) (hz : z.toInt = kz) (kt : kx = kz → gG y d mc ms Q cells slots (tg, lo, st, sh, hp)) (kf : kx ≠ kz → gG y d mc ms Q cells slots (nx, lo, st, sh, hp)) : gG y d mc ms Q cells slots (pc, lo, .int z :: .int x :: st, sh, hp) := by
  refine g_icmp_eq h (fun q => kt ?_) (fun q => kf ?_) <;> (simp only [ia_lt, ia_le, ia_eq, ne_eq, Decidable.not_not] at q; omega)
theorem gz_eq (h : lk pc y.2.2.2.2 = some (pc, ia, .ifCond .eq off, nx, tg, b, v, w, j)) (hx : x.toInt = kx) (kt : kx = 0 → gG y d mc ms Q cells slots (tg, lo, st, sh, hp)) (kf : kx ≠ 0 → gG y d mc ms Q cells slots (nx, lo, st, sh, hp)) : gG y d mc ms Q cells slots (pc, lo, .int x :: st, sh, hp) := by
  have h0 : (0 : Int32).toInt = 0 := by decide
  refine g_if_eq h (fun q => kt ?_) (fun q => kf ?_) <;> (simp only [ia_lt, ia_le, ia_eq, ne_eq, Decidable.not_not] at q; omega)
theorem gj_ne (h : lk pc y.2.2.2.2 = some (pc, ia, .if_icmp .ne off, nx, tg, b, v, w, j)) (hx : x.toInt = kx) (hz : z.toInt = kz) (kt : kx ≠ kz → gG y d mc ms Q cells slots (tg, lo, st, sh, hp)) (kf : kx = kz → gG y d mc ms Q cells slots (nx, lo, st, sh, hp)) : gG y d mc ms Q cells slots (pc, lo, .int z :: .int x :: st, sh, hp) := by
  refine g_icmp_ne h (fun q => kt ?_) (fun q => kf ?_) <;> (simp only [ia_lt, ia_le, ia_eq, ne_eq, Decidable.not_not] at q; omega)
theorem gz_ne (h : lk pc y.2.2.2.2 = some (pc, ia, .ifCond .ne off, nx, tg, b, v, w, j)) (hx : x.toInt = kx) (kt : kx ≠ 0 → gG y d mc ms Q cells slots (tg, lo, st, sh, hp)) (kf : kx = 0 → gG y d mc ms Q cells slots (nx, lo, st, sh, hp)) : gG y d mc ms Q cells slots (pc, lo, .int x :: st, sh, hp) := by
  have h0 : (0 : Int32).toInt = 0 := by decide
  refine g_if_ne h (fun q => kt ?_) (fun q => kf ?_) <;> (simp only [ia_lt, ia_le, ia_eq, ne_eq, Decidable.not_not] at q; omega)
theorem gj_lt (h : lk pc y.2.2.2.2 = some (pc, ia, .if_icmp .lt off, nx, tg, b, v, w, j)) (hx : x.toInt = kx) (hz : z.toInt = kz) (kt : kx < kz → gG y d mc ms Q cells slots (tg, lo, st, sh, hp)) (kf : kz ≤ kx → gG y d mc ms Q cells slots (nx, lo, st, sh, hp)) : gG y d mc ms Q cells slots (pc, lo, .int z :: .int x :: st, sh, hp) := by
  refine g_icmp_lt h (fun q => kt ?_) (fun q => kf ?_) <;> (simp only [ia_lt, ia_le, ia_eq, ne_eq, Decidable.not_not] at q; omega)
theorem gz_lt (h : lk pc y.2.2.2.2 = some (pc, ia, .ifCond .lt off, nx, tg, b, v, w, j)) (hx : x.toInt = kx) (kt : kx < 0 → gG y d mc ms Q cells slots (tg, lo, st, sh, hp)) (kf : 0 ≤ kx → gG y d mc ms Q cells slots (nx, lo, st, sh, hp)) : gG y d mc ms Q cells slots (pc, lo, .int x :: st, sh, hp) := by
  have h0 : (0 : Int32).toInt = 0 := by decide
  refine g_if_lt h (fun q => kt ?_) (fun q => kf ?_) <;> (simp only [ia_lt, ia_le, ia_eq, ne_eq, Decidable.not_not] at q; omega)
theorem gj_ge (h : lk pc y.2.2.2.2 = some (pc, ia, .if_icmp .ge off, nx, tg, b, v, w, j)) (hx : x.toInt = kx) (hz : z.toInt = kz) (kt : kz ≤ kx → gG y d mc ms Q cells slots (tg, lo, st, sh, hp)) (kf : kx < kz → gG y d mc ms Q cells slots (nx, lo, st, sh, hp)) : gG y d mc ms Q cells slots (pc, lo, .int z :: .int x :: st, sh, hp) := by
  refine g_icmp_ge h (fun q => kt ?_) (fun q => kf ?_) <;> (simp only [ia_lt, ia_le, ia_eq, ne_eq, Decidable.not_not] at q; omega)
theorem gz_ge (h : lk pc y.2.2.2.2 = some (pc, ia, .ifCond .ge off, nx, tg, b, v, w, j)) (hx : x.toInt = kx) (kt : 0 ≤ kx → gG y d mc ms Q cells slots (tg, lo, st, sh, hp)) (kf : kx < 0 → gG y d mc ms Q cells slots (nx, lo, st, sh, hp)) : gG y d mc ms Q cells slots (pc, lo, .int x :: st, sh, hp) := by
  have h0 : (0 : Int32).toInt = 0 := by decide
  refine g_if_ge h (fun q => kt ?_) (fun q => kf ?_) <;> (simp only [ia_lt, ia_le, ia_eq, ne_eq, Decidable.not_not] at q; omega)
theorem gj_gt (h : lk pc y.2.2.2.2 = some (pc, ia, .if_icmp .gt off, nx, tg, b, v, w, j)) (hx : x.toInt = kx) (hz : z.toInt = kz) (kt : kz < kx → gG y d mc ms Q cells slots (tg, lo, st, sh, hp)) (kf : kx ≤ kz → gG y d mc ms Q cells slots (nx, lo, st, sh, hp)) : gG y d mc ms Q cells slots (pc, lo, .int z :: .int x :: st, sh, hp) := by
  refine g_icmp_gt h (fun q => kt ?_) (fun q => kf ?_) <;> (simp only [ia_lt, ia_le, ia_eq, ne_eq, Decidable.not_not] at q; omega)
theorem gz_gt (h : lk pc y.2.2.2.2 = some (pc, ia, .ifCond .gt off, nx, tg, b, v, w, j)) (hx : x.toInt = kx) (kt : 0 < kx → gG y d mc ms Q cells slots (tg, lo, st, sh, hp)) (kf : kx ≤ 0 → gG y d mc ms Q cells slots (nx, lo, st, sh, hp)) : gG y d mc ms Q cells slots (pc, lo, .int x :: st, sh, hp) := by
  have h0 : (0 : Int32).toInt = 0 := by decide
  refine g_if_gt h (fun q => kt ?_) (fun q => kf ?_) <;> (simp only [ia_lt, ia_le, ia_eq, ne_eq, Decidable.not_not] at q; omega)
theorem gj_le (h : lk pc y.2.2.2.2 = some (pc, ia, .if_icmp .le off, nx, tg, b, v, w, j)) (hx : x.toInt = kx) (hz : z.toInt = kz) (kt : kx ≤ kz → gG y d mc ms Q cells slots (tg, lo, st, sh, hp)) (kf : kz < kx → gG y d mc ms Q cells slots (nx, lo, st, sh, hp)) : gG y d mc ms Q cells slots (pc, lo, .int z :: .int x :: st, sh, hp) := by
  refine g_icmp_le h (fun q => kt ?_) (fun q => kf ?_) <;> (simp only [ia_lt, ia_le, ia_eq, ne_eq, Decidable.not_not] at q; omega)
theorem gz_le (h : lk pc y.2.2.2.2 = some (pc, ia, .ifCond .le off, nx, tg, b, v, w, j)) (hx : x.toInt = kx) (kt : kx ≤ 0 → gG y d mc ms Q cells slots (tg, lo, st, sh, hp)) (kf : 0 < kx → gG y d mc ms Q cells slots (nx, lo, st, sh, hp)) : gG y d mc ms Q cells slots (pc, lo, .int x :: st, sh, hp) := by
  have h0 : (0 : Int32).toInt = 0 := by decide
  refine g_if_le h (fun q => kt ?_) (fun q => kf ?_) <;> (simp only [ia_lt, ia_le, ia_eq, ne_eq, Decidable.not_not] at q; omega)
theorem g_putZ {c k a : Nat} {ks : List Value} {v0 : Int32} (h : lk pc y.2.2.2.2 = some (pc, ia, .putfield k, nx, a, b, v, w, j)) (hc : nth sh c = some (.inr (a, ks))) (hv : nth ks k = some (.int v0)) (hty : (fk a k).2.2 = ("Z", false)) (h01 : x = 0 ∨ x = 1) (kk : gG y d mc ms Q cells slots (nx, lo, st, sh, sI hp c k x)) : gG y d mc ms Q cells slots (pc, lo, .int x :: .ref c :: st, sh, hp) := by
  intro ok
  have hb := (lk_ok ok h).1
  unfold okb at hb
  rw [Bool.and_eq_true, Bool.and_eq_true, Bool.and_eq_true] at hb
  obtain ⟨hd, ⟨h1, h2⟩, h3⟩ := hb
  have h1 := Nat.eq_of_beq_eq_true h1
  have h2 := Nat.eq_of_beq_eq_true h2
  subst h1; subst h2
  split at h3
  · next x2 =>
    rw [Bool.and_eq_true] at h3
    obtain ⟨h4, h5⟩ := h3
    split at h5
    · next q hq =>
      have hk := bl_of h5
      have h6 := tb_of h4
      rw [fk_of hq hk] at h6 hty
      rw [nth_eq] at hc hv
      exact g1_putI (ty := .boolean) (dec_of hd) hc hq hk h6 (by rw [hty]) (by rw [hty]; decide +kernel) (by rcases h01 with rfl | rfl <;> decide +kernel) (by rcases h01 with rfl | rfl <;> decide +kernel) hv kk ok
    · cases h5
  · cases h3
end GJ

section GC0
variable {y : mt_T} {d mc ms : Nat} {Q : zt} {cells slots : Nat} {pc : Nat} {lo st : List Value} {sh : sh_T} {hp : hp_T} {ia : Instr} {nx a b j0 : Nat} {v0 : Int32} {w0 : Int64}
theorem g_callV0 {y' : mt_T} {x n bb ci : Nat} {as r ks : List Value} (h : lk pc y.2.2.2.2 = some (pc, ia, .invokevirtual x, nx, a, b, v0, w0, j0)) (hl : lV y.1.cls x y' n) (hcut : cut n [] st = some (as, .ref bb :: r)) (hb : nth sh bb = some (.inr (ci, ks))) (hcls : (kcls[ci]?).map (fun q => q.1) = some y'.1.cls) (hW : Nat.ble (cats r) 8 = true)
    (kk : gC y' d 0 0 (.ref bb :: as) sh hp (fun ans sh' hp' => gG y (d + 1) mc ms Q cells slots (nx, lo, ans.toList ++ r, sh', hp'))) (h1 : cells ≤ mc := by decide) (h2 : slots ≤ ms := by decide) : gG y (d + 1) mc ms Q cells slots (pc, lo, st, sh, hp) := g_callV (bs := []) (mc' := 0) (ms' := 0) h hl hcut hb hcls hW kk h1 h2
theorem g_callS0 {y' : mt_T} {x n : Nat} {as r : List Value} (h : lk pc y.2.2.2.2 = some (pc, ia, .invokestatic x, nx, a, b, v0, w0, j0)) (hl : lS y.1.cls x y' n ∨ lN2 y.1.cls x y' n) (hcut : cut n [] st = some (as, r)) (hW : Nat.ble (cats r) 8 = true)
    (kk : gC y' d 0 0 as sh hp (fun ans sh' hp' => gG y (d + 1) mc ms Q cells slots (nx, lo, ans.toList ++ r, sh', hp'))) (h1 : cells ≤ mc := by decide) (h2 : slots ≤ ms := by decide) : gG y (d + 1) mc ms Q cells slots (pc, lo, st, sh, hp) := g_callS (mc' := 0) (ms' := 0) h hl hcut hW kk h1 h2
end GC0
end
section
/-! simple calls: contracts (rows printed by my own program) -/
section S13
variable {d : Nat} {sh : sh_T} {hp : hp_T} {Q : Option Value → sh_T → hp_T → Prop} {b : Bool} {xs : sh_T}
theorem c_X9_within {n : Int32} {nI : Int} {l : Int32} {lI : Int} {u : Int32} {uI : Int} (nE : n.toInt = nI) (lE : l.toInt = lI) (uE : u.toInt = uI) (h1 : lI ≤ nI ∧ nI ≤ uI → Q (some (.int 1)) sh hp) (h0 : nI < lI ∨ uI < nI → Q (some (.int 0)) sh hp) : gC mX9_within d 0 0 [.int n, .int l, .int u] sh hp Q := by
  refine g_enter okX9_within (plainFor_of_name rfl) rfl ?_
  refine g_run 2 rfl ?_
  refine gj_lt (kx := nI) (kz := lI) rfl nE lE (fun k1 => ?_) (fun k1 => ?_)
  · refine g_run 1 rfl ?_
    exact g_zret rfl rfl (Or.inl rfl) (by first | exact h1 (by omega) | exact h0 (by omega))
  · refine g_run 2 rfl ?_
    refine gj_gt (kx := nI) (kz := uI) rfl nE uE (fun k2 => ?_) (fun k2 => ?_)
    · refine g_run 1 rfl ?_
      exact g_zret rfl rfl (Or.inl rfl) (by first | exact h1 (by omega) | exact h0 (by omega))
    · refine g_run 2 rfl ?_
      exact g_zret rfl rfl (Or.inr rfl) (by first | exact h1 (by omega) | exact h0 (by omega))
theorem c_X10_isTaste {n : Int32} {nI : Int} (nE : n.toInt = nI) (h1 : 0 ≤ nI ∧ nI ≤ 100 → Q (some (.int 1)) sh hp) (h0 : nI < 0 ∨ 100 < nI → Q (some (.int 0)) sh hp) : gC mX10_isTaste d 0 0 [.int n] sh hp Q := by
  refine g_enter okX10_isTaste (plainFor_of_name rfl) rfl ?_
  refine g_run 1 rfl ?_
  refine gz_lt (kx := nI) rfl nE (fun k1 => ?_) (fun k1 => ?_)
  · refine g_run 1 rfl ?_
    exact g_zret rfl rfl (Or.inl rfl) (by first | exact h1 (by omega) | exact h0 (by omega))
  · refine g_run 2 rfl ?_
    refine gj_gt (kx := nI) (kz := 100) rfl nE (by decide) (fun k2 => ?_) (fun k2 => ?_)
    · refine g_run 1 rfl ?_
      exact g_zret rfl rfl (Or.inl rfl) (by first | exact h1 (by omega) | exact h0 (by omega))
    · refine g_run 2 rfl ?_
      exact g_zret rfl rfl (Or.inr rfl) (by first | exact h1 (by omega) | exact h0 (by omega))
theorem c_X10_isSample {n : Int32} {nI : Int} (nE : n.toInt = nI) (h1 : 0 ≤ nI ∧ nI < 20 → Q (some (.int 1)) sh hp) (h0 : nI < 0 ∨ 20 ≤ nI → Q (some (.int 0)) sh hp) : gC mX10_isSample d 0 0 [.int n] sh hp Q := by
  refine g_enter okX10_isSample (plainFor_of_name rfl) rfl ?_
  refine g_run 1 rfl ?_
  refine gz_lt (kx := nI) rfl nE (fun k1 => ?_) (fun k1 => ?_)
  · refine g_run 1 rfl ?_
    exact g_zret rfl rfl (Or.inl rfl) (by first | exact h1 (by omega) | exact h0 (by omega))
  · refine g_run 2 rfl ?_
    refine gj_ge (kx := nI) (kz := 20) rfl nE (by decide) (fun k2 => ?_) (fun k2 => ?_)
    · refine g_run 1 rfl ?_
      exact g_zret rfl rfl (Or.inl rfl) (by first | exact h1 (by omega) | exact h0 (by omega))
    · refine g_run 2 rfl ?_
      exact g_zret rfl rfl (Or.inr rfl) (by first | exact h1 (by omega) | exact h0 (by omega))
theorem c_X10_isHouse {n : Int32} {nI : Int} (nE : n.toInt = nI) (h1 : 0 ≤ nI ∧ nI < 10 → Q (some (.int 1)) sh hp) (h0 : nI < 0 ∨ 10 ≤ nI → Q (some (.int 0)) sh hp) : gC mX10_isHouse d 0 0 [.int n] sh hp Q := by
  refine g_enter okX10_isHouse (plainFor_of_name rfl) rfl ?_
  refine g_run 1 rfl ?_
  refine gz_lt (kx := nI) rfl nE (fun k1 => ?_) (fun k1 => ?_)
  · refine g_run 1 rfl ?_
    exact g_zret rfl rfl (Or.inl rfl) (by first | exact h1 (by omega) | exact h0 (by omega))
  · refine g_run 2 rfl ?_
    refine gj_ge (kx := nI) (kz := 10) rfl nE (by decide) (fun k2 => ?_) (fun k2 => ?_)
    · refine g_run 1 rfl ?_
      exact g_zret rfl rfl (Or.inl rfl) (by first | exact h1 (by omega) | exact h0 (by omega))
    · refine g_run 2 rfl ?_
      exact g_zret rfl rfl (Or.inr rfl) (by first | exact h1 (by omega) | exact h0 (by omega))
theorem c_X10_isLetter {n : Int32} {nI : Int} (nE : n.toInt = nI) (h1 : 97 ≤ nI ∧ nI ≤ 122 → Q (some (.int 1)) sh hp) (h0 : nI < 97 ∨ 122 < nI → Q (some (.int 0)) sh hp) : gC mX10_isLetter d 0 0 [.int n] sh hp Q := by
  refine g_enter okX10_isLetter (plainFor_of_name rfl) rfl ?_
  refine g_run 2 rfl ?_
  refine gj_lt (kx := nI) (kz := 97) rfl nE (by decide) (fun k1 => ?_) (fun k1 => ?_)
  · refine g_run 1 rfl ?_
    exact g_zret rfl rfl (Or.inl rfl) (by first | exact h1 (by omega) | exact h0 (by omega))
  · refine g_run 2 rfl ?_
    refine gj_gt (kx := nI) (kz := 122) rfl nE (by decide) (fun k2 => ?_) (fun k2 => ?_)
    · refine g_run 1 rfl ?_
      exact g_zret rfl rfl (Or.inl rfl) (by first | exact h1 (by omega) | exact h0 (by omega))
    · refine g_run 2 rfl ?_
      exact g_zret rfl rfl (Or.inr rfl) (by first | exact h1 (by omega) | exact h0 (by omega))
theorem c_X10_isDigit {n : Int32} {nI : Int} (nE : n.toInt = nI) (h1 : 48 ≤ nI ∧ nI ≤ 57 → Q (some (.int 1)) sh hp) (h0 : nI < 48 ∨ 57 < nI → Q (some (.int 0)) sh hp) : gC mX10_isDigit d 0 0 [.int n] sh hp Q := by
  refine g_enter okX10_isDigit (plainFor_of_name rfl) rfl ?_
  refine g_run 2 rfl ?_
  refine gj_lt (kx := nI) (kz := 48) rfl nE (by decide) (fun k1 => ?_) (fun k1 => ?_)
  · refine g_run 1 rfl ?_
    exact g_zret rfl rfl (Or.inl rfl) (by first | exact h1 (by omega) | exact h0 (by omega))
  · refine g_run 2 rfl ?_
    refine gj_gt (kx := nI) (kz := 57) rfl nE (by decide) (fun k2 => ?_) (fun k2 => ?_)
    · refine g_run 1 rfl ?_
      exact g_zret rfl rfl (Or.inl rfl) (by first | exact h1 (by omega) | exact h0 (by omega))
    · refine g_run 2 rfl ?_
      exact g_zret rfl rfl (Or.inr rfl) (by first | exact h1 (by omega) | exact h0 (by omega))
theorem c_X2_hasSample {n : Int32} {nI : Int} (nE : n.toInt = nI) (h1 : 0 ≤ nI ∧ nI < 20 → Q (some (.int 1)) sh hp) (h0 : nI < 0 ∨ 20 ≤ nI → Q (some (.int 0)) sh hp) : gC mX2_hasSample (d + 1) 0 0 [.int n] sh hp Q := by
  refine g_enter okX2_hasSample (plainFor_of_name rfl) rfl ?_
  refine g_run 3 rfl ?_
  refine g_callS0 rfl LX2_31 rfl rfl ?_
  refine c_X9_within (nI := nI) (lI := 0) (uI := 19) nE (by decide) (by decide) (fun k1 => ?_) (fun k2 => ?_)
  · exact g_zret rfl rfl (Or.inr rfl) (by first | exact h1 (by omega) | exact h0 (by omega))
  · exact g_zret rfl rfl (Or.inl rfl) (by first | exact h1 (by omega) | exact h0 (by omega))
theorem c_X8_isLetter {n : Int32} {nI : Int} (nE : n.toInt = nI) (h1 : 97 ≤ nI ∧ nI ≤ 122 → Q (some (.int 1)) sh hp) (h0 : nI < 97 ∨ 122 < nI → Q (some (.int 0)) sh hp) : gC mX8_isLetter (d + 1) 0 0 [.int n] sh hp Q := by
  refine g_enter okX8_isLetter (plainFor_of_name rfl) rfl ?_
  refine g_run 3 rfl ?_
  refine g_callS0 rfl LX8_97 rfl rfl ?_
  refine c_X9_within (nI := nI) (lI := 97) (uI := 122) nE (by decide) (by decide) (fun k1 => ?_) (fun k2 => ?_)
  · exact g_zret rfl rfl (Or.inr rfl) (by first | exact h1 (by omega) | exact h0 (by omega))
  · exact g_zret rfl rfl (Or.inl rfl) (by first | exact h1 (by omega) | exact h0 (by omega))
theorem c_X8_isDigit {n : Int32} {nI : Int} (nE : n.toInt = nI) (h1 : 48 ≤ nI ∧ nI ≤ 57 → Q (some (.int 1)) sh hp) (h0 : nI < 48 ∨ 57 < nI → Q (some (.int 0)) sh hp) : gC mX8_isDigit (d + 1) 0 0 [.int n] sh hp Q := by
  refine g_enter okX8_isDigit (plainFor_of_name rfl) rfl ?_
  refine g_run 3 rfl ?_
  refine g_callS0 rfl LX8_97 rfl rfl ?_
  refine c_X9_within (nI := nI) (lI := 48) (uI := 57) nE (by decide) (by decide) (fun k1 => ?_) (fun k2 => ?_)
  · exact g_zret rfl rfl (Or.inr rfl) (by first | exact h1 (by omega) | exact h0 (by omega))
  · exact g_zret rfl rfl (Or.inl rfl) (by first | exact h1 (by omega) | exact h0 (by omega))
theorem c_X0_has {n : Int32} {nI : Int} (nE : n.toInt = nI) {zI : Int} (zE : (hp.1 17 0).toInt = zI) (h1 : 0 ≤ nI ∧ nI < zI → Q (some (.int 1)) (SH b xs) hp) (h0 : nI < 0 ∨ zI ≤ nI → Q (some (.int 0)) (SH b xs) hp) : gC mX0_has d 0 0 [.ref 17, .int n] (SH b xs) hp Q := by
  refine g_enter okX0_has (plainFor_of_name rfl) rfl ?_
  refine g_run 1 rfl ?_
  refine gz_lt (kx := nI) rfl nE (fun k1 => ?_) (fun k1 => ?_)
  · refine g_run 1 rfl ?_
    exact g_zret rfl rfl (Or.inl rfl) (by first | exact h1 (by omega) | exact h0 (by omega))
  · refine g_run 3 rfl ?_
    refine gj_ge (kx := nI) (kz := (hp.1 17 0).toInt) rfl nE rfl (fun k2 => ?_) (fun k2 => ?_)
    · refine g_run 1 rfl ?_
      exact g_zret rfl rfl (Or.inl rfl) (by first | exact h1 (by omega) | exact h0 (by omega))
    · refine g_run 2 rfl ?_
      exact g_zret rfl rfl (Or.inr rfl) (by first | exact h1 (by omega) | exact h0 (by omega))
theorem c_X3_has {n : Int32} {nI : Int} (nE : n.toInt = nI) {zI : Int} (zE : (hp.1 1 0).toInt = zI) (h1 : 0 ≤ nI ∧ nI < zI → Q (some (.int 1)) (SH b xs) hp) (h0 : nI < 0 ∨ zI ≤ nI → Q (some (.int 0)) (SH b xs) hp) : gC mX3_has d 0 0 [.ref 1, .int n] (SH b xs) hp Q := by
  refine g_enter okX3_has (plainFor_of_name rfl) rfl ?_
  refine g_run 1 rfl ?_
  refine gz_lt (kx := nI) rfl nE (fun k1 => ?_) (fun k1 => ?_)
  · refine g_run 1 rfl ?_
    exact g_zret rfl rfl (Or.inl rfl) (by first | exact h1 (by omega) | exact h0 (by omega))
  · refine g_run 3 rfl ?_
    refine gj_ge (kx := nI) (kz := (hp.1 1 0).toInt) rfl nE rfl (fun k2 => ?_) (fun k2 => ?_)
    · refine g_run 1 rfl ?_
      exact g_zret rfl rfl (Or.inl rfl) (by first | exact h1 (by omega) | exact h0 (by omega))
    · refine g_run 2 rfl ?_
      exact g_zret rfl rfl (Or.inr rfl) (by first | exact h1 (by omega) | exact h0 (by omega))
theorem c_X10_isLot {n : Int32} {nI : Int} (nE : n.toInt = nI) {zI : Int} (zE : (hp.1 43 26).toInt = zI) (h1 : 0 ≤ nI ∧ nI < zI → Q (some (.int 1)) (SH b xs) hp) (h0 : nI < 0 ∨ zI ≤ nI → Q (some (.int 0)) (SH b xs) hp) : gC mX10_isLot d 0 0 [.ref 43, .int n] (SH b xs) hp Q := by
  refine g_enter okX10_isLot (plainFor_of_name rfl) rfl ?_
  refine g_run 1 rfl ?_
  refine gz_lt (kx := nI) rfl nE (fun k1 => ?_) (fun k1 => ?_)
  · refine g_run 1 rfl ?_
    exact g_zret rfl rfl (Or.inl rfl) (by first | exact h1 (by omega) | exact h0 (by omega))
  · refine g_run 3 rfl ?_
    refine gj_ge (kx := nI) (kz := (hp.1 43 26).toInt) rfl nE rfl (fun k2 => ?_) (fun k2 => ?_)
    · refine g_run 1 rfl ?_
      exact g_zret rfl rfl (Or.inl rfl) (by first | exact h1 (by omega) | exact h0 (by omega))
    · refine g_run 2 rfl ?_
      exact g_zret rfl rfl (Or.inr rfl) (by first | exact h1 (by omega) | exact h0 (by omega))
theorem c_X10_isBag {n : Int32} {nI : Int} (nE : n.toInt = nI) {zI : Int} (zE : (hp.1 43 30).toInt = zI) (h1 : 0 ≤ nI ∧ nI < zI → Q (some (.int 1)) (SH b xs) hp) (h0 : nI < 0 ∨ zI ≤ nI → Q (some (.int 0)) (SH b xs) hp) : gC mX10_isBag d 0 0 [.ref 43, .int n] (SH b xs) hp Q := by
  refine g_enter okX10_isBag (plainFor_of_name rfl) rfl ?_
  refine g_run 1 rfl ?_
  refine gz_lt (kx := nI) rfl nE (fun k1 => ?_) (fun k1 => ?_)
  · refine g_run 1 rfl ?_
    exact g_zret rfl rfl (Or.inl rfl) (by first | exact h1 (by omega) | exact h0 (by omega))
  · refine g_run 3 rfl ?_
    refine gj_ge (kx := nI) (kz := (hp.1 43 30).toInt) rfl nE rfl (fun k2 => ?_) (fun k2 => ?_)
    · refine g_run 1 rfl ?_
      exact g_zret rfl rfl (Or.inl rfl) (by first | exact h1 (by omega) | exact h0 (by omega))
    · refine g_run 2 rfl ?_
      exact g_zret rfl rfl (Or.inr rfl) (by first | exact h1 (by omega) | exact h0 (by omega))
theorem c_J9_max_7cf53 {x : Int32} {xI : Int} {z : Int32} {zI : Int} (xE : x.toInt = xI) (zE : z.toInt = zI) (h1 : zI ≤ xI → Q (some (.int x)) sh hp) (h0 : xI < zI → Q (some (.int z)) sh hp) : gC mJ9_max_7cf53 d 0 0 [.int x, .int z] sh hp Q := by
  refine g_enter okJ9_max_7cf53 (by decide +kernel) rfl ?_
  refine g_run 2 rfl ?_
  refine gj_lt (kx := xI) (kz := zI) rfl xE zE (fun k1 => ?_) (fun k1 => ?_)
  · refine g_run 1 rfl ?_
    exact g_iret rfl rfl (by first | exact h1 (by omega) | exact h0 (by omega))
  · refine g_run 2 rfl ?_
    exact g_iret rfl rfl (by first | exact h1 (by omega) | exact h0 (by omega))
theorem c_J9_min_7cf53 {x : Int32} {xI : Int} {z : Int32} {zI : Int} (xE : x.toInt = xI) (zE : z.toInt = zI) (h1 : xI ≤ zI → Q (some (.int x)) sh hp) (h0 : zI < xI → Q (some (.int z)) sh hp) : gC mJ9_min_7cf53 d 0 0 [.int x, .int z] sh hp Q := by
  refine g_enter okJ9_min_7cf53 (by decide +kernel) rfl ?_
  refine g_run 2 rfl ?_
  refine gj_gt (kx := xI) (kz := zI) rfl xE zE (fun k1 => ?_) (fun k1 => ?_)
  · refine g_run 1 rfl ?_
    exact g_iret rfl rfl (by first | exact h1 (by omega) | exact h0 (by omega))
  · refine g_run 2 rfl ?_
    exact g_iret rfl rfl (by first | exact h1 (by omega) | exact h0 (by omega))
theorem c_J9_abs_0f7a4 {x : Int32} {xI : Int} (xE : x.toInt = xI) (h1 : 0 ≤ xI → Q (some (.int x)) sh hp) (h0 : xI < 0 → Q (some (.int (-x))) sh hp) : gC mJ9_abs_0f7a4 d 0 0 [.int x] sh hp Q := by
  refine g_enter okJ9_abs_0f7a4 (by decide +kernel) rfl ?_
  refine g_run 1 rfl ?_
  refine gz_ge (kx := xI) rfl xE (fun k1 => ?_) (fun k1 => ?_)
  · refine g_run 1 rfl ?_
    exact g_iret rfl rfl (by first | exact h1 (by omega) | exact h0 (by omega))
  · refine g_run 3 rfl ?_
    exact g_iret rfl rfl (by first | exact h1 (by omega) | exact h0 (by omega))
theorem c_X3_add {g : Int32} {gI : Int} {p : Int32} {pI : Int} {a : Int32} {aI : Int} {bb : Int32} {bbI : Int} {c : Int32} {cI : Int} (gE : g.toInt = gI) (pE : p.toInt = pI) (aE : a.toInt = aI) (bbE : bb.toInt = bbI) (cE : c.toInt = cI) (hs : 0 ≤ (hp.1 1 0).toInt ∧ (hp.1 1 0).toInt < 12) (h1 : Q (some (.int (hp.1 1 0))) (SH b xs) (sI (sI (sI (sI (sI (sI hp 2 (hp.1 1 0).toInt.toNat g) 3 (hp.1 1 0).toInt.toNat p) 4 ((hp.1 1 0).toInt * 3).toNat a) 4 (((hp.1 1 0).toInt * 3) + 1).toNat bb) 4 (((hp.1 1 0).toInt * 3) + 2).toNat c) 1 0 ((hp.1 1 0) + 1))) : gC mX3_add d 0 0 [.ref 1, .int g, .int p, .int a, .int bb, .int c] (SH b xs) hp Q := by
  refine g_enter okX3_add (plainFor_of_name rfl) rfl ?_
  refine g_run 7 rfl ?_
  refine g_iast (j := ((hp.1 1 0).toInt).toNat) rfl rfl ((show _ = (hp.1 1 0).toInt from rfl).trans (by omega)) (by omega) ?_
  refine g_run 4 rfl ?_
  refine g_iast (j := ((hp.1 1 0).toInt).toNat) rfl rfl ((show _ = (hp.1 1 0).toInt from rfl).trans (by omega)) (by omega) ?_
  refine g_run 6 rfl ?_
  refine g_iast (j := ((hp.1 1 0).toInt * 3).toNat) rfl rfl ((show _ = ((hp.1 1 0).toInt * 3) from (ia_mul2 rfl (by decide) (by omega) (by omega))).trans (by omega)) (by omega) ?_
  refine g_run 8 rfl ?_
  refine g_iast (j := (((hp.1 1 0).toInt * 3) + 1).toNat) rfl rfl ((show _ = (((hp.1 1 0).toInt * 3) + 1) from (ia_add2 (ia_mul2 rfl (by decide) (by omega) (by omega)) (by decide) (by omega) (by omega))).trans (by omega)) (by omega) ?_
  refine g_run 8 rfl ?_
  refine g_iast (j := (((hp.1 1 0).toInt * 3) + 2).toNat) rfl rfl ((show _ = (((hp.1 1 0).toInt * 3) + 2) from (ia_add2 (ia_mul2 rfl (by decide) (by omega) (by omega)) (by decide) (by omega) (by omega))).trans (by omega)) (by omega) ?_
  refine g_run 7 rfl ?_
  exact g_iret rfl rfl h1
theorem c_X9_lot {g : Int32} {gI : Int} {p : Int32} {pI : Int} {a : Int32} {aI : Int} {bb : Int32} {bbI : Int} {c : Int32} {cI : Int} (gE : g.toInt = gI) (pE : p.toInt = pI) (aE : a.toInt = aI) (bbE : bb.toInt = bbI) (cE : c.toInt = cI) (hs : 0 ≤ (hp.1 1 0).toInt) (h1 : 1 ≤ gI ∧ gI ≤ 100000 ∧ 1 ≤ pI ∧ pI ≤ 10000 ∧ 0 ≤ aI ∧ aI ≤ 100 ∧ 0 ≤ bbI ∧ bbI ≤ 100 ∧ 0 ≤ cI ∧ cI ≤ 100 ∧ (hp.1 1 0).toInt < 12 → Q (some (.int (hp.1 1 0))) (SH b xs) (sI (sI (sI (sI (sI (sI hp 2 (hp.1 1 0).toInt.toNat g) 3 (hp.1 1 0).toInt.toNat p) 4 ((hp.1 1 0).toInt * 3).toNat a) 4 (((hp.1 1 0).toInt * 3) + 1).toNat bb) 4 (((hp.1 1 0).toInt * 3) + 2).toNat c) 1 0 ((hp.1 1 0) + 1))) (h0 : gI < 1 ∨ 100000 < gI ∨ pI < 1 ∨ 10000 < pI ∨ aI < 0 ∨ 100 < aI ∨ bbI < 0 ∨ 100 < bbI ∨ cI < 0 ∨ 100 < cI ∨ 12 ≤ (hp.1 1 0).toInt → Q (some (.int (-1))) (SH b xs) hp) : gC mX9_lot (d + 1) 0 0 [.ref 0, .int g, .int p, .int a, .int bb, .int c] (SH b xs) hp Q := by
  refine g_enter okX9_lot (plainFor_of_name rfl) rfl ?_
  refine g_run 3 rfl ?_
  refine g_callS0 rfl LX9_82 rfl rfl ?_
  refine c_X9_within (nI := gI) (lI := 1) (uI := 100000) gE (by decide) (by decide) (fun k1 => ?_) (fun k2 => ?_)
  · refine gz_eq (kx := 1) rfl (show (1 : Int32).toInt = 1 from by decide) (fun q => absurd q (by decide)) (fun _ => ?_)
    refine g_run 3 rfl ?_
    refine g_callS0 rfl LX9_82 rfl rfl ?_
    refine c_X9_within (nI := pI) (lI := 1) (uI := 10000) pE (by decide) (by decide) (fun k3 => ?_) (fun k4 => ?_)
    · refine gz_eq (kx := 1) rfl (show (1 : Int32).toInt = 1 from by decide) (fun q => absurd q (by decide)) (fun _ => ?_)
      refine g_run 3 rfl ?_
      refine g_callS0 rfl LX9_82 rfl rfl ?_
      refine c_X9_within (nI := aI) (lI := 0) (uI := 100) aE (by decide) (by decide) (fun k5 => ?_) (fun k6 => ?_)
      · refine gz_eq (kx := 1) rfl (show (1 : Int32).toInt = 1 from by decide) (fun q => absurd q (by decide)) (fun _ => ?_)
        refine g_run 3 rfl ?_
        refine g_callS0 rfl LX9_82 rfl rfl ?_
        refine c_X9_within (nI := bbI) (lI := 0) (uI := 100) bbE (by decide) (by decide) (fun k7 => ?_) (fun k8 => ?_)
        · refine gz_eq (kx := 1) rfl (show (1 : Int32).toInt = 1 from by decide) (fun q => absurd q (by decide)) (fun _ => ?_)
          refine g_run 3 rfl ?_
          refine g_callS0 rfl LX9_82 rfl rfl ?_
          refine c_X9_within (nI := cI) (lI := 0) (uI := 100) cE (by decide) (by decide) (fun k9 => ?_) (fun k10 => ?_)
          · refine gz_eq (kx := 1) rfl (show (1 : Int32).toInt = 1 from by decide) (fun q => absurd q (by decide)) (fun _ => ?_)
            refine g_run 4 rfl ?_
            refine gz_eq (kx := 1) rfl (show (1 : Int32).toInt = 1 from by decide) (fun q => absurd q (by decide)) (fun _ => ?_)
            refine g_run 4 rfl ?_
            refine gj_lt (kx := (hp.1 1 0).toInt) (kz := 12) rfl rfl (by decide) (fun k11 => ?_) (fun k11 => ?_)
            · refine g_run 7 rfl ?_
              refine g_callV0 rfl LX9_89 rfl rfl rfl rfl ?_
              refine c_X3_add gE pE aE bbE cE (by omega) ?_
              exact g_iret rfl rfl (by first | exact h1 (by omega) | exact h0 (by omega))
            · refine g_run 1 rfl ?_
              exact g_iret rfl rfl (by first | exact h1 (by omega) | exact h0 (by omega))
          · refine gz_eq (kx := 0) rfl (show (0 : Int32).toInt = 0 from by decide) (fun _ => ?_) (fun q => absurd q (by decide))
            refine g_run 3 rfl ?_
            refine gz_eq (kx := 0) rfl (show (0 : Int32).toInt = 0 from by decide) (fun _ => ?_) (fun q => absurd q (by decide))
            refine g_run 1 rfl ?_
            exact g_iret rfl rfl (by first | exact h1 (by omega) | exact h0 (by omega))
        · refine gz_eq (kx := 0) rfl (show (0 : Int32).toInt = 0 from by decide) (fun _ => ?_) (fun q => absurd q (by decide))
          refine g_run 3 rfl ?_
          refine gz_eq (kx := 0) rfl (show (0 : Int32).toInt = 0 from by decide) (fun _ => ?_) (fun q => absurd q (by decide))
          refine g_run 1 rfl ?_
          exact g_iret rfl rfl (by first | exact h1 (by omega) | exact h0 (by omega))
      · refine gz_eq (kx := 0) rfl (show (0 : Int32).toInt = 0 from by decide) (fun _ => ?_) (fun q => absurd q (by decide))
        refine g_run 3 rfl ?_
        refine gz_eq (kx := 0) rfl (show (0 : Int32).toInt = 0 from by decide) (fun _ => ?_) (fun q => absurd q (by decide))
        refine g_run 1 rfl ?_
        exact g_iret rfl rfl (by first | exact h1 (by omega) | exact h0 (by omega))
    · refine gz_eq (kx := 0) rfl (show (0 : Int32).toInt = 0 from by decide) (fun _ => ?_) (fun q => absurd q (by decide))
      refine g_run 3 rfl ?_
      refine gz_eq (kx := 0) rfl (show (0 : Int32).toInt = 0 from by decide) (fun _ => ?_) (fun q => absurd q (by decide))
      refine g_run 1 rfl ?_
      exact g_iret rfl rfl (by first | exact h1 (by omega) | exact h0 (by omega))
  · refine gz_eq (kx := 0) rfl (show (0 : Int32).toInt = 0 from by decide) (fun _ => ?_) (fun q => absurd q (by decide))
    refine g_run 3 rfl ?_
    refine gz_eq (kx := 0) rfl (show (0 : Int32).toInt = 0 from by decide) (fun _ => ?_) (fun q => absurd q (by decide))
    refine g_run 1 rfl ?_
    exact g_iret rfl rfl (by first | exact h1 (by omega) | exact h0 (by omega))
theorem c_X10_lot {g : Int32} {gI : Int} {p : Int32} {pI : Int} {a : Int32} {aI : Int} {bb : Int32} {bbI : Int} {c : Int32} {cI : Int} (gE : g.toInt = gI) (pE : p.toInt = pI) (aE : a.toInt = aI) (bbE : bb.toInt = bbI) (cE : c.toInt = cI) (hs : 0 ≤ (hp.1 43 26).toInt ∧ (hp.1 43 26).toInt ≤ 12) (h1 : 1 ≤ gI ∧ gI ≤ 100000 ∧ 1 ≤ pI ∧ pI ≤ 10000 ∧ 0 ≤ aI ∧ aI ≤ 100 ∧ 0 ≤ bbI ∧ bbI ≤ 100 ∧ 0 ≤ cI ∧ cI ≤ 100 ∧ (hp.1 43 26).toInt < 12 → Q (some (.int (hp.1 43 26 + 1 - 1))) (SH b xs) (sI (sI (sI (sI (sI (sI (sI hp 43 0 0) 60 (hp.1 43 26).toInt.toNat g) 61 (hp.1 43 26).toInt.toNat p) 62 (3 * (hp.1 43 26).toInt).toNat a) 62 ((3 * (hp.1 43 26).toInt) + 1).toNat bb) 62 ((3 * (hp.1 43 26).toInt) + 2).toNat c) 43 26 ((hp.1 43 26) + 1))) (h0 : gI < 1 ∨ 100000 < gI ∨ pI < 1 ∨ 10000 < pI ∨ aI < 0 ∨ 100 < aI ∨ bbI < 0 ∨ 100 < bbI ∨ cI < 0 ∨ 100 < cI ∨ (hp.1 43 26).toInt = 12 → Q (some (.int (-1))) (SH b xs) (sI hp 43 0 0)) : gC mX10_lot (d + 1) 0 0 [.ref 43, .int g, .int p, .int a, .int bb, .int c] (SH b xs) hp Q := by
  refine g_enter okX10_lot (plainFor_of_name rfl) rfl ?_
  refine g_run 5 rfl ?_
  refine gj_lt (kx := gI) (kz := 1) rfl gE (by decide) (fun k1 => ?_) (fun k1 => ?_)
  · refine g_run 1 rfl ?_
    exact g_iret rfl rfl (by first | exact h1 (by omega) | exact h0 (by omega))
  · refine g_run 2 rfl ?_
    refine gj_gt (kx := gI) (kz := 100000) rfl gE (by decide) (fun k2 => ?_) (fun k2 => ?_)
    · refine g_run 1 rfl ?_
      exact g_iret rfl rfl (by first | exact h1 (by omega) | exact h0 (by omega))
    · refine g_run 2 rfl ?_
      refine gj_lt (kx := pI) (kz := 1) rfl pE (by decide) (fun k3 => ?_) (fun k3 => ?_)
      · refine g_run 1 rfl ?_
        exact g_iret rfl rfl (by first | exact h1 (by omega) | exact h0 (by omega))
      · refine g_run 2 rfl ?_
        refine gj_gt (kx := pI) (kz := 10000) rfl pE (by decide) (fun k4 => ?_) (fun k4 => ?_)
        · refine g_run 1 rfl ?_
          exact g_iret rfl rfl (by first | exact h1 (by omega) | exact h0 (by omega))
        · refine g_run 1 rfl ?_
          refine g_callS0 rfl LX10_231 rfl rfl ?_
          refine c_X10_isTaste (nI := aI) aE (fun k5 => ?_) (fun k6 => ?_)
          · refine gz_eq (kx := 1) rfl (show (1 : Int32).toInt = 1 from by decide) (fun q => absurd q (by decide)) (fun _ => ?_)
            refine g_run 1 rfl ?_
            refine g_callS0 rfl LX10_231 rfl rfl ?_
            refine c_X10_isTaste (nI := bbI) bbE (fun k7 => ?_) (fun k8 => ?_)
            · refine gz_eq (kx := 1) rfl (show (1 : Int32).toInt = 1 from by decide) (fun q => absurd q (by decide)) (fun _ => ?_)
              refine g_run 1 rfl ?_
              refine g_callS0 rfl LX10_231 rfl rfl ?_
              refine c_X10_isTaste (nI := cI) cE (fun k9 => ?_) (fun k10 => ?_)
              · refine gz_eq (kx := 1) rfl (show (1 : Int32).toInt = 1 from by decide) (fun q => absurd q (by decide)) (fun _ => ?_)
                refine g_run 3 rfl ?_
                refine gj_ne (kx := (hp.1 43 26).toInt) (kz := 12) rfl rfl (by decide) (fun k11 => ?_) (fun k11 => ?_)
                · refine g_run 5 rfl ?_
                  refine g_iast (j := ((hp.1 43 26).toInt).toNat) rfl rfl ((show _ = (hp.1 43 26).toInt from rfl).trans (by omega)) (by omega) ?_
                  refine g_run 5 rfl ?_
                  refine g_iast (j := ((hp.1 43 26).toInt).toNat) rfl rfl ((show _ = (hp.1 43 26).toInt from rfl).trans (by omega)) (by omega) ?_
                  refine g_run 7 rfl ?_
                  refine g_iast (j := (3 * (hp.1 43 26).toInt).toNat) rfl rfl ((show _ = (3 * (hp.1 43 26).toInt) from (ia_mul2 (by decide) rfl (by omega) (by omega))).trans (by omega)) (by omega) ?_
                  refine g_run 9 rfl ?_
                  refine g_iast (j := ((3 * (hp.1 43 26).toInt) + 1).toNat) rfl rfl ((show _ = ((3 * (hp.1 43 26).toInt) + 1) from (ia_add2 (ia_mul2 (by decide) rfl (by omega) (by omega)) (by decide) (by omega) (by omega))).trans (by omega)) (by omega) ?_
                  refine g_run 9 rfl ?_
                  refine g_iast (j := ((3 * (hp.1 43 26).toInt) + 2).toNat) rfl rfl ((show _ = ((3 * (hp.1 43 26).toInt) + 2) from (ia_add2 (ia_mul2 (by decide) rfl (by omega) (by omega)) (by decide) (by omega) (by omega))).trans (by omega)) (by omega) ?_
                  refine g_run 10 rfl ?_
                  exact g_iret rfl rfl (by first | exact h1 (by omega) | exact h0 (by omega))
                · refine g_run 1 rfl ?_
                  exact g_iret rfl rfl (by first | exact h1 (by omega) | exact h0 (by omega))
              · refine gz_eq (kx := 0) rfl (show (0 : Int32).toInt = 0 from by decide) (fun _ => ?_) (fun q => absurd q (by decide))
                refine g_run 1 rfl ?_
                exact g_iret rfl rfl (by first | exact h1 (by omega) | exact h0 (by omega))
            · refine gz_eq (kx := 0) rfl (show (0 : Int32).toInt = 0 from by decide) (fun _ => ?_) (fun q => absurd q (by decide))
              refine g_run 1 rfl ?_
              exact g_iret rfl rfl (by first | exact h1 (by omega) | exact h0 (by omega))
          · refine gz_eq (kx := 0) rfl (show (0 : Int32).toInt = 0 from by decide) (fun _ => ?_) (fun q => absurd q (by decide))
            refine g_run 1 rfl ?_
            exact g_iret rfl rfl (by first | exact h1 (by omega) | exact h0 (by omega))
theorem c_X9_days {n : Int32} {nI : Int} (nE : n.toInt = nI) (hs : 0 ≤ (hp.1 0 9).toInt ∧ (hp.1 0 9).toInt ≤ 999) (h1 : (0 ≤ nI ∧ nI ≤ 100 ∧ (hp.1 0 9).toInt + nI ≤ 999) → Q (some (.int (hp.1 0 9 + n))) (SH b xs) (sI hp 0 9 (hp.1 0 9 + n))) (h0 : (nI < 0 ∨ 100 < nI ∨ 999 < (hp.1 0 9).toInt + nI) → Q (some (.int (-1))) (SH b xs) hp) : gC mX9_days (d + 1) 0 0 [.ref 0, .int n] (SH b xs) hp Q := by
  refine g_enter okX9_days (plainFor_of_name rfl) rfl ?_
  refine g_run 3 rfl ?_
  refine g_callS0 rfl LX9_82 rfl rfl ?_
  refine c_X9_within (nI := nI) (lI := 0) (uI := 100) nE (by decide) (by decide) (fun k1 => ?_) (fun k2 => ?_)
  · refine gz_eq (kx := 1) rfl (show (1 : Int32).toInt = 1 from by decide) (fun q => absurd q (by decide)) (fun _ => ?_)
    refine g_run 5 rfl ?_
    refine gj_le (kx := ((hp.1 0 9).toInt + nI)) (kz := 999) rfl (ia_add2 rfl nE (by omega) (by omega)) (by decide) (fun k3 => ?_) (fun k3 => ?_)
    · refine g_run 8 rfl ?_
      exact g_iret rfl rfl (by first | exact h1 (by omega) | exact h0 (by omega))
    · refine g_run 1 rfl ?_
      exact g_iret rfl rfl (by first | exact h1 (by omega) | exact h0 (by omega))
  · refine gz_eq (kx := 0) rfl (show (0 : Int32).toInt = 0 from by decide) (fun _ => ?_) (fun q => absurd q (by decide))
    refine g_run 1 rfl ?_
    exact g_iret rfl rfl (by first | exact h1 (by omega) | exact h0 (by omega))
theorem c_X10_days {n : Int32} {nI : Int} (nE : n.toInt = nI) (hs : 0 ≤ (hp.1 43 25).toInt ∧ (hp.1 43 25).toInt ≤ 999) (h1 : (0 ≤ nI ∧ nI ≤ 100 ∧ (hp.1 43 25).toInt + nI ≤ 999) → Q (some (.int (hp.1 43 25 + n))) (SH b xs) (sI (sI hp 43 0 0) 43 25 (hp.1 43 25 + n))) (h0 : (nI < 0 ∨ 100 < nI ∨ 999 < (hp.1 43 25).toInt + nI) → Q (some (.int (-1))) (SH b xs) (sI hp 43 0 0)) : gC mX10_days d 0 0 [.ref 43, .int n] (SH b xs) hp Q := by
  refine g_enter okX10_days (plainFor_of_name rfl) rfl ?_
  refine g_run 4 rfl ?_
  refine gz_lt (kx := nI) rfl nE (fun k1 => ?_) (fun k1 => ?_)
  · refine g_run 1 rfl ?_
    exact g_iret rfl rfl (by first | exact h1 (by omega) | exact h0 (by omega))
  · refine g_run 2 rfl ?_
    refine gj_gt (kx := nI) (kz := 100) rfl nE (by decide) (fun k2 => ?_) (fun k2 => ?_)
    · refine g_run 1 rfl ?_
      exact g_iret rfl rfl (by first | exact h1 (by omega) | exact h0 (by omega))
    · refine g_run 5 rfl ?_
      refine gj_le (kx := ((hp.1 43 25).toInt + nI)) (kz := 999) rfl (ia_add2 rfl nE (by omega) (by omega)) (by decide) (fun k3 => ?_) (fun k3 => ?_)
      · refine g_run 8 rfl ?_
        exact g_iret rfl rfl (by first | exact h1 (by omega) | exact h0 (by omega))
      · refine g_run 1 rfl ?_
        exact g_iret rfl rfl (by first | exact h1 (by omega) | exact h0 (by omega))
theorem c_X4_tellCurve {m : Int32} {mI : Int} {w : Int32} {wI : Int} (mE : m.toInt = mI) (wE : w.toInt = wI) (h1 : 0 ≤ mI ∧ mI < 20 ∧ 0 ≤ wI ∧ wI ≤ 400 → Q (some (.int 1)) (SH b xs) (sI hp 16 mI.toNat w)) (h0 : mI < 0 ∨ 20 ≤ mI ∨ wI < 0 ∨ 400 < wI → Q (some (.int 0)) (SH b xs) hp) : gC mX4_tellCurve (d + 1) 0 0 [.ref 15, .int m, .int w] (SH b xs) hp Q := by
  refine g_enter okX4_tellCurve (plainFor_of_name rfl) rfl ?_
  refine g_run 3 rfl ?_
  refine g_callS0 rfl LX4_60 rfl rfl ?_
  refine c_X9_within (nI := mI) (lI := 0) (uI := 19) mE (by decide) (by decide) (fun k1 => ?_) (fun k2 => ?_)
  · refine gz_eq (kx := 1) rfl (show (1 : Int32).toInt = 1 from by decide) (fun q => absurd q (by decide)) (fun _ => ?_)
    refine g_run 3 rfl ?_
    refine g_callS0 rfl LX4_60 rfl rfl ?_
    refine c_X9_within (nI := wI) (lI := 0) (uI := 400) wE (by decide) (by decide) (fun k3 => ?_) (fun k4 => ?_)
    · refine gz_ne (kx := 1) rfl (show (1 : Int32).toInt = 1 from by decide) (fun _ => ?_) (fun q => absurd q (by decide))
      refine g_run 4 rfl ?_
      refine g_iast (j := mI.toNat) rfl rfl ((show _ = mI from mE).trans (by omega)) (by omega) ?_
      refine g_run 1 rfl ?_
      exact g_zret rfl rfl (Or.inr rfl) (by first | exact h1 (by omega) | exact h0 (by omega))
    · refine gz_ne (kx := 0) rfl (show (0 : Int32).toInt = 0 from by decide) (fun q => absurd q (by decide)) (fun _ => ?_)
      refine g_run 1 rfl ?_
      exact g_zret rfl rfl (Or.inl rfl) (by first | exact h1 (by omega) | exact h0 (by omega))
  · refine gz_eq (kx := 0) rfl (show (0 : Int32).toInt = 0 from by decide) (fun _ => ?_) (fun q => absurd q (by decide))
    refine g_run 1 rfl ?_
    exact g_zret rfl rfl (Or.inl rfl) (by first | exact h1 (by omega) | exact h0 (by omega))
theorem c_X9_curve {m : Int32} {mI : Int} {w : Int32} {wI : Int} (mE : m.toInt = mI) (wE : w.toInt = wI) (h1 : 0 ≤ mI ∧ mI < 20 ∧ 0 ≤ wI ∧ wI ≤ 400 → Q (some (.int 1)) (SH b xs) (sI hp 16 mI.toNat w)) (h0 : mI < 0 ∨ 20 ≤ mI ∨ wI < 0 ∨ 400 < wI → Q (some (.int 0)) (SH b xs) hp) : gC mX9_curve (d + 2) 0 0 [.ref 0, .int m, .int w] (SH b xs) hp Q := by
  refine g_enter okX9_curve (plainFor_of_name rfl) rfl ?_
  refine g_run 4 rfl ?_
  refine g_callV0 rfl LX9_93 rfl rfl rfl rfl ?_
  refine c_X4_tellCurve (mI := mI) (wI := wI) mE wE (fun k1 => ?_) (fun k2 => ?_)
  · exact g_zret rfl rfl (Or.inr rfl) (by first | exact h1 (by omega) | exact h0 (by omega))
  · exact g_zret rfl rfl (Or.inl rfl) (by first | exact h1 (by omega) | exact h0 (by omega))
theorem c_X10_curve {m : Int32} {mI : Int} {w : Int32} {wI : Int} (mE : m.toInt = mI) (wE : w.toInt = wI) (h1 : 0 ≤ mI ∧ mI < 20 ∧ 0 ≤ wI ∧ wI ≤ 400 → Q (some (.int 1)) (SH b xs) (sI (sI hp 43 0 0) 66 mI.toNat w)) (h0 : mI < 0 ∨ 20 ≤ mI ∨ wI < 0 ∨ 400 < wI → Q (some (.int 0)) (SH b xs) (sI hp 43 0 0)) : gC mX10_curve d 0 0 [.ref 43, .int m, .int w] (SH b xs) hp Q := by
  refine g_enter okX10_curve (plainFor_of_name rfl) rfl ?_
  refine g_run 4 rfl ?_
  refine gz_lt (kx := mI) rfl mE (fun k1 => ?_) (fun k1 => ?_)
  · refine g_run 1 rfl ?_
    exact g_zret rfl rfl (Or.inl rfl) (by first | exact h1 (by omega) | exact h0 (by omega))
  · refine g_run 2 rfl ?_
    refine gj_gt (kx := mI) (kz := 19) rfl mE (by decide) (fun k2 => ?_) (fun k2 => ?_)
    · refine g_run 1 rfl ?_
      exact g_zret rfl rfl (Or.inl rfl) (by first | exact h1 (by omega) | exact h0 (by omega))
    · refine g_run 1 rfl ?_
      refine gz_lt (kx := wI) rfl wE (fun k3 => ?_) (fun k3 => ?_)
      · refine g_run 1 rfl ?_
        exact g_zret rfl rfl (Or.inl rfl) (by first | exact h1 (by omega) | exact h0 (by omega))
      · refine g_run 2 rfl ?_
        refine gj_le (kx := wI) (kz := 400) rfl wE (by decide) (fun k4 => ?_) (fun k4 => ?_)
        · refine g_run 4 rfl ?_
          refine g_iast (j := mI.toNat) rfl rfl ((show _ = mI from mE).trans (by omega)) (by omega) ?_
          refine g_run 1 rfl ?_
          exact g_zret rfl rfl (Or.inr rfl) (by first | exact h1 (by omega) | exact h0 (by omega))
        · refine g_run 1 rfl ?_
          exact g_zret rfl rfl (Or.inl rfl) (by first | exact h1 (by omega) | exact h0 (by omega))
theorem c_X2_giveMark {j : Int32} {jI : Int} {a : Int32} {aI : Int} {m : Int32} {mI : Int} (jE : j.toInt = jI) (aE : a.toInt = aI) (mE : m.toInt = mI) (h1 : 0 ≤ jI ∧ jI < 5 ∧ 0 ≤ aI ∧ aI < 20 ∧ 0 ≤ mI ∧ mI ≤ 100 → Q (some (.int 1)) (SH b xs) (sI hp 26 ((jI * 20) + aI).toNat m)) (h0 : jI < 0 ∨ 5 ≤ jI ∨ aI < 0 ∨ 20 ≤ aI ∨ mI < 0 ∨ 100 < mI → Q (some (.int 0)) (SH b xs) hp) : gC mX2_giveMark (d + 2) 0 0 [.ref 25, .int j, .int a, .int m] (SH b xs) hp Q := by
  refine g_enter okX2_giveMark (plainFor_of_name rfl) rfl ?_
  refine g_run 3 rfl ?_
  refine g_callS0 rfl LX2_31 rfl rfl ?_
  refine c_X9_within (nI := jI) (lI := 0) (uI := 4) jE (by decide) (by decide) (fun k1 => ?_) (fun k2 => ?_)
  · refine gz_eq (kx := 1) rfl (show (1 : Int32).toInt = 1 from by decide) (fun q => absurd q (by decide)) (fun _ => ?_)
    refine g_run 1 rfl ?_
    refine g_callS0 rfl LX2_35 rfl rfl ?_
    refine c_X2_hasSample (nI := aI) aE (fun k3 => ?_) (fun k4 => ?_)
    · refine gz_eq (kx := 1) rfl (show (1 : Int32).toInt = 1 from by decide) (fun q => absurd q (by decide)) (fun _ => ?_)
      refine g_run 3 rfl ?_
      refine g_callS0 rfl LX2_31 rfl rfl ?_
      refine c_X9_within (nI := mI) (lI := 0) (uI := 100) mE (by decide) (by decide) (fun k5 => ?_) (fun k6 => ?_)
      · refine gz_ne (kx := 1) rfl (show (1 : Int32).toInt = 1 from by decide) (fun _ => ?_) (fun q => absurd q (by decide))
        refine g_run 8 rfl ?_
        refine g_iast (j := ((jI * 20) + aI).toNat) rfl rfl ((show _ = ((jI * 20) + aI) from (ia_add2 (ia_mul2 jE (by decide) (by omega) (by omega)) aE (by omega) (by omega))).trans (by omega)) (by omega) ?_
        refine g_run 1 rfl ?_
        exact g_zret rfl rfl (Or.inr rfl) (by first | exact h1 (by omega) | exact h0 (by omega))
      · refine gz_ne (kx := 0) rfl (show (0 : Int32).toInt = 0 from by decide) (fun q => absurd q (by decide)) (fun _ => ?_)
        refine g_run 1 rfl ?_
        exact g_zret rfl rfl (Or.inl rfl) (by first | exact h1 (by omega) | exact h0 (by omega))
    · refine gz_eq (kx := 0) rfl (show (0 : Int32).toInt = 0 from by decide) (fun _ => ?_) (fun q => absurd q (by decide))
      refine g_run 1 rfl ?_
      exact g_zret rfl rfl (Or.inl rfl) (by first | exact h1 (by omega) | exact h0 (by omega))
  · refine gz_eq (kx := 0) rfl (show (0 : Int32).toInt = 0 from by decide) (fun _ => ?_) (fun q => absurd q (by decide))
    refine g_run 1 rfl ?_
    exact g_zret rfl rfl (Or.inl rfl) (by first | exact h1 (by omega) | exact h0 (by omega))
theorem c_X9_mark {j : Int32} {jI : Int} {a : Int32} {aI : Int} {m : Int32} {mI : Int} (jE : j.toInt = jI) (aE : a.toInt = aI) (mE : m.toInt = mI) (h1 : 0 ≤ jI ∧ jI < 5 ∧ 0 ≤ aI ∧ aI < 20 ∧ 0 ≤ mI ∧ mI ≤ 100 → Q (some (.int 1)) (SH b xs) (sI hp 26 ((jI * 20) + aI).toNat m)) (h0 : jI < 0 ∨ 5 ≤ jI ∨ aI < 0 ∨ 20 ≤ aI ∨ mI < 0 ∨ 100 < mI → Q (some (.int 0)) (SH b xs) hp) : gC mX9_mark (d + 3) 0 0 [.ref 0, .int j, .int a, .int m] (SH b xs) hp Q := by
  refine g_enter okX9_mark (plainFor_of_name rfl) rfl ?_
  refine g_run 5 rfl ?_
  refine g_callV0 rfl LX9_166 rfl rfl rfl rfl ?_
  refine c_X2_giveMark (jI := jI) (aI := aI) (mI := mI) jE aE mE (fun k1 => ?_) (fun k2 => ?_)
  · exact g_zret rfl rfl (Or.inr rfl) (by first | exact h1 (by omega) | exact h0 (by omega))
  · exact g_zret rfl rfl (Or.inl rfl) (by first | exact h1 (by omega) | exact h0 (by omega))
theorem c_X10_mark {j : Int32} {jI : Int} {a : Int32} {aI : Int} {m : Int32} {mI : Int} (jE : j.toInt = jI) (aE : a.toInt = aI) (mE : m.toInt = mI) (h1 : 0 ≤ jI ∧ jI < 5 ∧ 0 ≤ aI ∧ aI < 20 ∧ 0 ≤ mI ∧ mI ≤ 100 → Q (some (.int 1)) (SH b xs) (sI (sI hp 43 0 0) 69 ((20 * jI) + aI).toNat m)) (h0 : jI < 0 ∨ 5 ≤ jI ∨ aI < 0 ∨ 20 ≤ aI ∨ mI < 0 ∨ 100 < mI → Q (some (.int 0)) (SH b xs) (sI hp 43 0 0)) : gC mX10_mark (d + 1) 0 0 [.ref 43, .int j, .int a, .int m] (SH b xs) hp Q := by
  refine g_enter okX10_mark (plainFor_of_name rfl) rfl ?_
  refine g_run 4 rfl ?_
  refine gz_lt (kx := jI) rfl jE (fun k1 => ?_) (fun k1 => ?_)
  · refine g_run 1 rfl ?_
    exact g_zret rfl rfl (Or.inl rfl) (by first | exact h1 (by omega) | exact h0 (by omega))
  · refine g_run 2 rfl ?_
    refine gj_gt (kx := jI) (kz := 4) rfl jE (by decide) (fun k2 => ?_) (fun k2 => ?_)
    · refine g_run 1 rfl ?_
      exact g_zret rfl rfl (Or.inl rfl) (by first | exact h1 (by omega) | exact h0 (by omega))
    · refine g_run 1 rfl ?_
      refine g_callS0 rfl LX10_303 rfl rfl ?_
      refine c_X10_isSample (nI := aI) aE (fun k3 => ?_) (fun k4 => ?_)
      · refine gz_eq (kx := 1) rfl (show (1 : Int32).toInt = 1 from by decide) (fun q => absurd q (by decide)) (fun _ => ?_)
        refine g_run 1 rfl ?_
        refine g_callS0 rfl LX10_231 rfl rfl ?_
        refine c_X10_isTaste (nI := mI) mE (fun k5 => ?_) (fun k6 => ?_)
        · refine gz_ne (kx := 1) rfl (show (1 : Int32).toInt = 1 from by decide) (fun _ => ?_) (fun q => absurd q (by decide))
          refine g_run 8 rfl ?_
          refine g_iast (j := ((20 * jI) + aI).toNat) rfl rfl ((show _ = ((20 * jI) + aI) from (ia_add2 (ia_mul2 (by decide) jE (by omega) (by omega)) aE (by omega) (by omega))).trans (by omega)) (by omega) ?_
          refine g_run 1 rfl ?_
          exact g_zret rfl rfl (Or.inr rfl) (by first | exact h1 (by omega) | exact h0 (by omega))
        · refine gz_ne (kx := 0) rfl (show (0 : Int32).toInt = 0 from by decide) (fun q => absurd q (by decide)) (fun _ => ?_)
          refine g_run 1 rfl ?_
          exact g_zret rfl rfl (Or.inl rfl) (by first | exact h1 (by omega) | exact h0 (by omega))
      · refine gz_eq (kx := 0) rfl (show (0 : Int32).toInt = 0 from by decide) (fun _ => ?_) (fun q => absurd q (by decide))
        refine g_run 1 rfl ?_
        exact g_zret rfl rfl (Or.inl rfl) (by first | exact h1 (by omega) | exact h0 (by omega))
theorem c_X2_tellWorth {a : Int32} {aI : Int} {w : Int32} {wI : Int} (aE : a.toInt = aI) (wE : w.toInt = wI) (h1 : 0 ≤ aI ∧ aI < 20 ∧ -1 ≤ wI ∧ wI ≤ 100 → Q (some (.int 1)) (SH b xs) (sI hp 27 aI.toNat w)) (h0 : aI < 0 ∨ 20 ≤ aI ∨ wI < -1 ∨ 100 < wI → Q (some (.int 0)) (SH b xs) hp) : gC mX2_tellWorth (d + 2) 0 0 [.ref 25, .int a, .int w] (SH b xs) hp Q := by
  refine g_enter okX2_tellWorth (plainFor_of_name rfl) rfl ?_
  refine g_run 1 rfl ?_
  refine g_callS0 rfl LX2_35 rfl rfl ?_
  refine c_X2_hasSample (nI := aI) aE (fun k1 => ?_) (fun k2 => ?_)
  · refine gz_eq (kx := 1) rfl (show (1 : Int32).toInt = 1 from by decide) (fun q => absurd q (by decide)) (fun _ => ?_)
    refine g_run 2 rfl ?_
    refine gj_eq (kx := wI) (kz := (-1)) rfl wE (by decide) (fun k3 => ?_) (fun k3 => ?_)
    · refine g_run 4 rfl ?_
      refine g_iast (j := aI.toNat) rfl rfl ((show _ = aI from aE).trans (by omega)) (by omega) ?_
      refine g_run 1 rfl ?_
      exact g_zret rfl rfl (Or.inr rfl) (by first | exact h1 (by omega) | exact h0 (by omega))
    · refine g_run 3 rfl ?_
      refine g_callS0 rfl LX2_31 rfl rfl ?_
      refine c_X9_within (nI := wI) (lI := 0) (uI := 100) wE (by decide) (by decide) (fun k4 => ?_) (fun k5 => ?_)
      · refine gz_ne (kx := 1) rfl (show (1 : Int32).toInt = 1 from by decide) (fun _ => ?_) (fun q => absurd q (by decide))
        refine g_run 4 rfl ?_
        refine g_iast (j := aI.toNat) rfl rfl ((show _ = aI from aE).trans (by omega)) (by omega) ?_
        refine g_run 1 rfl ?_
        exact g_zret rfl rfl (Or.inr rfl) (by first | exact h1 (by omega) | exact h0 (by omega))
      · refine gz_ne (kx := 0) rfl (show (0 : Int32).toInt = 0 from by decide) (fun q => absurd q (by decide)) (fun _ => ?_)
        refine g_run 1 rfl ?_
        exact g_zret rfl rfl (Or.inl rfl) (by first | exact h1 (by omega) | exact h0 (by omega))
  · refine gz_eq (kx := 0) rfl (show (0 : Int32).toInt = 0 from by decide) (fun _ => ?_) (fun q => absurd q (by decide))
    refine g_run 1 rfl ?_
    exact g_zret rfl rfl (Or.inl rfl) (by first | exact h1 (by omega) | exact h0 (by omega))
theorem c_X9_told {a : Int32} {aI : Int} {w : Int32} {wI : Int} (aE : a.toInt = aI) (wE : w.toInt = wI) (h1 : 0 ≤ aI ∧ aI < 20 ∧ -1 ≤ wI ∧ wI ≤ 100 → Q (some (.int 1)) (SH b xs) (sI hp 27 aI.toNat w)) (h0 : aI < 0 ∨ 20 ≤ aI ∨ wI < -1 ∨ 100 < wI → Q (some (.int 0)) (SH b xs) hp) : gC mX9_told (d + 3) 0 0 [.ref 0, .int a, .int w] (SH b xs) hp Q := by
  refine g_enter okX9_told (plainFor_of_name rfl) rfl ?_
  refine g_run 4 rfl ?_
  refine g_callV0 rfl LX9_169 rfl rfl rfl rfl ?_
  refine c_X2_tellWorth (aI := aI) (wI := wI) aE wE (fun k1 => ?_) (fun k2 => ?_)
  · exact g_zret rfl rfl (Or.inr rfl) (by first | exact h1 (by omega) | exact h0 (by omega))
  · exact g_zret rfl rfl (Or.inl rfl) (by first | exact h1 (by omega) | exact h0 (by omega))
theorem c_X10_told {a : Int32} {aI : Int} {w : Int32} {wI : Int} (aE : a.toInt = aI) (wE : w.toInt = wI) (h1 : 0 ≤ aI ∧ aI < 20 ∧ -1 ≤ wI ∧ wI ≤ 100 → Q (some (.int 1)) (SH b xs) (sI (sI hp 43 0 0) 70 aI.toNat w)) (h0 : aI < 0 ∨ 20 ≤ aI ∨ wI < -1 ∨ 100 < wI → Q (some (.int 0)) (SH b xs) (sI hp 43 0 0)) : gC mX10_told (d + 1) 0 0 [.ref 43, .int a, .int w] (SH b xs) hp Q := by
  refine g_enter okX10_told (plainFor_of_name rfl) rfl ?_
  refine g_run 4 rfl ?_
  refine g_callS0 rfl LX10_303 rfl rfl ?_
  refine c_X10_isSample (nI := aI) aE (fun k1 => ?_) (fun k2 => ?_)
  · refine gz_eq (kx := 1) rfl (show (1 : Int32).toInt = 1 from by decide) (fun q => absurd q (by decide)) (fun _ => ?_)
    refine g_run 2 rfl ?_
    refine gj_eq (kx := wI) (kz := (-1)) rfl wE (by decide) (fun k3 => ?_) (fun k3 => ?_)
    · refine g_run 4 rfl ?_
      refine g_iast (j := aI.toNat) rfl rfl ((show _ = aI from aE).trans (by omega)) (by omega) ?_
      refine g_run 1 rfl ?_
      exact g_zret rfl rfl (Or.inr rfl) (by first | exact h1 (by omega) | exact h0 (by omega))
    · refine g_run 1 rfl ?_
      refine g_callS0 rfl LX10_231 rfl rfl ?_
      refine c_X10_isTaste (nI := wI) wE (fun k4 => ?_) (fun k5 => ?_)
      · refine gz_ne (kx := 1) rfl (show (1 : Int32).toInt = 1 from by decide) (fun _ => ?_) (fun q => absurd q (by decide))
        refine g_run 4 rfl ?_
        refine g_iast (j := aI.toNat) rfl rfl ((show _ = aI from aE).trans (by omega)) (by omega) ?_
        refine g_run 1 rfl ?_
        exact g_zret rfl rfl (Or.inr rfl) (by first | exact h1 (by omega) | exact h0 (by omega))
      · refine gz_ne (kx := 0) rfl (show (0 : Int32).toInt = 0 from by decide) (fun q => absurd q (by decide)) (fun _ => ?_)
        refine g_run 1 rfl ?_
        exact g_zret rfl rfl (Or.inl rfl) (by first | exact h1 (by omega) | exact h0 (by omega))
  · refine gz_eq (kx := 0) rfl (show (0 : Int32).toInt = 0 from by decide) (fun _ => ?_) (fun q => absurd q (by decide))
    refine g_run 1 rfl ?_
    exact g_zret rfl rfl (Or.inl rfl) (by first | exact h1 (by omega) | exact h0 (by omega))
theorem c_X1_setSpan {t : Int32} {tI : Int} {f : Int32} {fI : Int} {u : Int32} {uI : Int} (tE : t.toInt = tI) (fE : f.toInt = fI) (uE : u.toInt = uI) (h1 : 0 ≤ tI ∧ tI < 3 ∧ 0 ≤ fI ∧ fI ≤ uI ∧ uI ≤ 100 → Q (some (.int 1)) (SH b xs) (sI (sI hp 30 tI.toNat f) 31 tI.toNat u)) (h0 : tI < 0 ∨ 3 ≤ tI ∨ fI < 0 ∨ uI < fI ∨ 100 < uI → Q (some (.int 0)) (SH b xs) hp) : gC mX1_setSpan (d + 1) 0 0 [.ref 28, .int t, .int f, .int u] (SH b xs) hp Q := by
  refine g_enter okX1_setSpan (plainFor_of_name rfl) rfl ?_
  refine g_run 3 rfl ?_
  refine g_callS0 rfl LX1_50 rfl rfl ?_
  refine c_X9_within (nI := tI) (lI := 0) (uI := 2) tE (by decide) (by decide) (fun k1 => ?_) (fun k2 => ?_)
  · refine gz_eq (kx := 1) rfl (show (1 : Int32).toInt = 1 from by decide) (fun q => absurd q (by decide)) (fun _ => ?_)
    refine g_run 3 rfl ?_
    refine g_callS0 rfl LX1_50 rfl rfl ?_
    refine c_X9_within (nI := fI) (lI := 0) (uI := 100) fE (by decide) (by decide) (fun k3 => ?_) (fun k4 => ?_)
    · refine gz_eq (kx := 1) rfl (show (1 : Int32).toInt = 1 from by decide) (fun q => absurd q (by decide)) (fun _ => ?_)
      refine g_run 3 rfl ?_
      refine g_callS0 rfl LX1_50 rfl rfl ?_
      refine c_X9_within (nI := uI) (lI := fI) (uI := 100) uE fE (by decide) (fun k5 => ?_) (fun k6 => ?_)
      · refine gz_ne (kx := 1) rfl (show (1 : Int32).toInt = 1 from by decide) (fun _ => ?_) (fun q => absurd q (by decide))
        refine g_run 4 rfl ?_
        refine g_iast (j := tI.toNat) rfl rfl ((show _ = tI from tE).trans (by omega)) (by omega) ?_
        refine g_run 4 rfl ?_
        refine g_iast (j := tI.toNat) rfl rfl ((show _ = tI from tE).trans (by omega)) (by omega) ?_
        refine g_run 1 rfl ?_
        exact g_zret rfl rfl (Or.inr rfl) (by first | exact h1 (by omega) | exact h0 (by omega))
      · refine gz_ne (kx := 0) rfl (show (0 : Int32).toInt = 0 from by decide) (fun q => absurd q (by decide)) (fun _ => ?_)
        refine g_run 1 rfl ?_
        exact g_zret rfl rfl (Or.inl rfl) (by first | exact h1 (by omega) | exact h0 (by omega))
    · refine gz_eq (kx := 0) rfl (show (0 : Int32).toInt = 0 from by decide) (fun _ => ?_) (fun q => absurd q (by decide))
      refine g_run 1 rfl ?_
      exact g_zret rfl rfl (Or.inl rfl) (by first | exact h1 (by omega) | exact h0 (by omega))
  · refine gz_eq (kx := 0) rfl (show (0 : Int32).toInt = 0 from by decide) (fun _ => ?_) (fun q => absurd q (by decide))
    refine g_run 1 rfl ?_
    exact g_zret rfl rfl (Or.inl rfl) (by first | exact h1 (by omega) | exact h0 (by omega))
theorem c_X9_span {t : Int32} {tI : Int} {f : Int32} {fI : Int} {u : Int32} {uI : Int} (tE : t.toInt = tI) (fE : f.toInt = fI) (uE : u.toInt = uI) (h1 : 0 ≤ tI ∧ tI < 3 ∧ 0 ≤ fI ∧ fI ≤ uI ∧ uI ≤ 100 → Q (some (.int 1)) (SH b xs) (sI (sI hp 30 tI.toNat f) 31 tI.toNat u)) (h0 : tI < 0 ∨ 3 ≤ tI ∨ fI < 0 ∨ uI < fI ∨ 100 < uI → Q (some (.int 0)) (SH b xs) hp) : gC mX9_span (d + 2) 0 0 [.ref 0, .int t, .int f, .int u] (SH b xs) hp Q := by
  refine g_enter okX9_span (plainFor_of_name rfl) rfl ?_
  refine g_run 5 rfl ?_
  refine g_callV0 rfl LX9_178 rfl rfl rfl rfl ?_
  refine c_X1_setSpan (tI := tI) (fI := fI) (uI := uI) tE fE uE (fun k1 => ?_) (fun k2 => ?_)
  · exact g_zret rfl rfl (Or.inr rfl) (by first | exact h1 (by omega) | exact h0 (by omega))
  · exact g_zret rfl rfl (Or.inl rfl) (by first | exact h1 (by omega) | exact h0 (by omega))
theorem c_X10_span {t : Int32} {tI : Int} {f : Int32} {fI : Int} {u : Int32} {uI : Int} (tE : t.toInt = tI) (fE : f.toInt = fI) (uE : u.toInt = uI) (h1 : 0 ≤ tI ∧ tI < 3 ∧ 0 ≤ fI ∧ fI ≤ uI ∧ uI ≤ 100 → Q (some (.int 1)) (SH b xs) (sI (sI (sI hp 43 0 0) 71 tI.toNat f) 72 tI.toNat u)) (h0 : tI < 0 ∨ 3 ≤ tI ∨ fI < 0 ∨ uI < fI ∨ 100 < uI → Q (some (.int 0)) (SH b xs) (sI hp 43 0 0)) : gC mX10_span d 0 0 [.ref 43, .int t, .int f, .int u] (SH b xs) hp Q := by
  refine g_enter okX10_span (plainFor_of_name rfl) rfl ?_
  refine g_run 4 rfl ?_
  refine gz_lt (kx := tI) rfl tE (fun k1 => ?_) (fun k1 => ?_)
  · refine g_run 1 rfl ?_
    exact g_zret rfl rfl (Or.inl rfl) (by first | exact h1 (by omega) | exact h0 (by omega))
  · refine g_run 2 rfl ?_
    refine gj_gt (kx := tI) (kz := 2) rfl tE (by decide) (fun k2 => ?_) (fun k2 => ?_)
    · refine g_run 1 rfl ?_
      exact g_zret rfl rfl (Or.inl rfl) (by first | exact h1 (by omega) | exact h0 (by omega))
    · refine g_run 1 rfl ?_
      refine gz_lt (kx := fI) rfl fE (fun k3 => ?_) (fun k3 => ?_)
      · refine g_run 1 rfl ?_
        exact g_zret rfl rfl (Or.inl rfl) (by first | exact h1 (by omega) | exact h0 (by omega))
      · refine g_run 2 rfl ?_
        refine gj_gt (kx := uI) (kz := 100) rfl uE (by decide) (fun k4 => ?_) (fun k4 => ?_)
        · refine g_run 1 rfl ?_
          exact g_zret rfl rfl (Or.inl rfl) (by first | exact h1 (by omega) | exact h0 (by omega))
        · refine g_run 2 rfl ?_
          refine gj_le (kx := fI) (kz := uI) rfl fE uE (fun k5 => ?_) (fun k5 => ?_)
          · refine g_run 4 rfl ?_
            refine g_iast (j := tI.toNat) rfl rfl ((show _ = tI from tE).trans (by omega)) (by omega) ?_
            refine g_run 4 rfl ?_
            refine g_iast (j := tI.toNat) rfl rfl ((show _ = tI from tE).trans (by omega)) (by omega) ?_
            refine g_run 1 rfl ?_
            exact g_zret rfl rfl (Or.inr rfl) (by first | exact h1 (by omega) | exact h0 (by omega))
          · refine g_run 1 rfl ?_
            exact g_zret rfl rfl (Or.inl rfl) (by first | exact h1 (by omega) | exact h0 (by omega))
theorem c_X9_keeps {h : Int32} {hI : Int} {n : Int32} {nI : Int} (hE : h.toInt = hI) (nE : n.toInt = nI) (h1 : 0 ≤ hI ∧ hI < 10 ∧ 0 ≤ nI ∧ nI ≤ 999 → Q (some (.int 1)) (SH b xs) (sI hp 36 hI.toNat n)) (h0 : hI < 0 ∨ 10 ≤ hI ∨ nI < 0 ∨ 999 < nI → Q (some (.int 0)) (SH b xs) hp) : gC mX9_keeps (d + 1) 0 0 [.ref 0, .int h, .int n] (SH b xs) hp Q := by
  refine g_enter okX9_keeps (plainFor_of_name rfl) rfl ?_
  refine g_run 3 rfl ?_
  refine g_callS0 rfl LX9_82 rfl rfl ?_
  refine c_X9_within (nI := hI) (lI := 0) (uI := 9) hE (by decide) (by decide) (fun k1 => ?_) (fun k2 => ?_)
  · refine gz_eq (kx := 1) rfl (show (1 : Int32).toInt = 1 from by decide) (fun q => absurd q (by decide)) (fun _ => ?_)
    refine g_run 3 rfl ?_
    refine g_callS0 rfl LX9_82 rfl rfl ?_
    refine c_X9_within (nI := nI) (lI := 0) (uI := 999) nE (by decide) (by decide) (fun k3 => ?_) (fun k4 => ?_)
    · refine gz_ne (kx := 1) rfl (show (1 : Int32).toInt = 1 from by decide) (fun _ => ?_) (fun q => absurd q (by decide))
      refine g_run 4 rfl ?_
      refine g_iast (j := hI.toNat) rfl rfl ((show _ = hI from hE).trans (by omega)) (by omega) ?_
      refine g_run 1 rfl ?_
      exact g_zret rfl rfl (Or.inr rfl) (by first | exact h1 (by omega) | exact h0 (by omega))
    · refine gz_ne (kx := 0) rfl (show (0 : Int32).toInt = 0 from by decide) (fun q => absurd q (by decide)) (fun _ => ?_)
      refine g_run 1 rfl ?_
      exact g_zret rfl rfl (Or.inl rfl) (by first | exact h1 (by omega) | exact h0 (by omega))
  · refine gz_eq (kx := 0) rfl (show (0 : Int32).toInt = 0 from by decide) (fun _ => ?_) (fun q => absurd q (by decide))
    refine g_run 1 rfl ?_
    exact g_zret rfl rfl (Or.inl rfl) (by first | exact h1 (by omega) | exact h0 (by omega))
theorem c_X10_keeps {h : Int32} {hI : Int} {n : Int32} {nI : Int} (hE : h.toInt = hI) (nE : n.toInt = nI) (h1 : 0 ≤ hI ∧ hI < 10 ∧ 0 ≤ nI ∧ nI ≤ 999 → Q (some (.int 1)) (SH b xs) (sI (sI hp 43 0 0) 76 hI.toNat n)) (h0 : hI < 0 ∨ 10 ≤ hI ∨ nI < 0 ∨ 999 < nI → Q (some (.int 0)) (SH b xs) (sI hp 43 0 0)) : gC mX10_keeps (d + 1) 0 0 [.ref 43, .int h, .int n] (SH b xs) hp Q := by
  refine g_enter okX10_keeps (plainFor_of_name rfl) rfl ?_
  refine g_run 4 rfl ?_
  refine g_callS0 rfl LX10_343 rfl rfl ?_
  refine c_X10_isHouse (nI := hI) hE (fun k1 => ?_) (fun k2 => ?_)
  · refine gz_eq (kx := 1) rfl (show (1 : Int32).toInt = 1 from by decide) (fun q => absurd q (by decide)) (fun _ => ?_)
    refine g_run 1 rfl ?_
    refine gz_lt (kx := nI) rfl nE (fun k3 => ?_) (fun k3 => ?_)
    · refine g_run 1 rfl ?_
      exact g_zret rfl rfl (Or.inl rfl) (by first | exact h1 (by omega) | exact h0 (by omega))
    · refine g_run 2 rfl ?_
      refine gj_le (kx := nI) (kz := 999) rfl nE (by decide) (fun k4 => ?_) (fun k4 => ?_)
      · refine g_run 4 rfl ?_
        refine g_iast (j := hI.toNat) rfl rfl ((show _ = hI from hE).trans (by omega)) (by omega) ?_
        refine g_run 1 rfl ?_
        exact g_zret rfl rfl (Or.inr rfl) (by first | exact h1 (by omega) | exact h0 (by omega))
      · refine g_run 1 rfl ?_
        exact g_zret rfl rfl (Or.inl rfl) (by first | exact h1 (by omega) | exact h0 (by omega))
  · refine gz_eq (kx := 0) rfl (show (0 : Int32).toInt = 0 from by decide) (fun _ => ?_) (fun q => absurd q (by decide))
    refine g_run 1 rfl ?_
    exact g_zret rfl rfl (Or.inl rfl) (by first | exact h1 (by omega) | exact h0 (by omega))
end S13
end
section
/-! counts and sums over the bags: contracts (rows printed by my own program) -/
def cntI (p : Nat → Bool) : Nat → Int32
  | 0 => 0
  | k + 1 => if p k = true then cntI p k + 1 else cntI p k
theorem cntI_t {p : Nat → Bool} {k : Nat} (h : p k = true) : cntI p k + 1 = cntI p (k + 1) := by simp [cntI, h]
theorem cntI_f {p : Nat → Bool} {k : Nat} (h : p k = false) : cntI p k = cntI p (k + 1) := by simp [cntI, h]
def sumI (f : Nat → Int32) : Nat → Int32
  | 0 => 0
  | k + 1 => sumI f k + f k
theorem sumI_t {f : Nat → Int32} {k : Nat} {v : Int32} (h : f k = v) : sumI f (k + 1) = sumI f k + v := by simp [sumI, h]
theorem sumI_f {f : Nat → Int32} {k : Nat} (h : f k = 0) : sumI f (k + 1) = sumI f k := by simp [sumI, h]
/-- the q-th place with p from k on, n places to see -/
def fndI (p : Nat → Bool) (q : Int32) : Nat → Nat → Int32
  | 0, _ => -1
  | n + 1, k => if p k = true ∧ cntI p k = q then nI k else fndI p q n (k + 1)
theorem fndI_y {p : Nat → Bool} {q : Int32} {n k : Nat} (h : p k = true) (h2 : cntI p k = q) : fndI p q (n + 1) k = nI k := by simp [fndI, h, h2]
theorem fndI_p {p : Nat → Bool} {q : Int32} {n k : Nat} (h : p k = false) : fndI p q (n + 1) k = fndI p q n (k + 1) := by simp [fndI, h]
theorem fndI_n {p : Nat → Bool} {q : Int32} {n k : Nat} (h : ¬ cntI p k = q) : fndI p q (n + 1) k = fndI p q n (k + 1) := by simp [fndI, h]
theorem eq_nI {i : Int32} {k : Nat} (h : i.toInt = (k : Int)) (hk : k < 2147483648) : i = nI k := by rw [ia_eq, h, nI_toInt (by omega)]
theorem inc1 {i : Int32} {k : Nat} (h : i.toInt = (k : Int)) (hk : k < 2147483647) : (i + 1).toInt = ((k + 1 : Nat) : Int) := by
  rw [ia_add2 (y := 1) h (by decide) (by omega) (by omega)]; omega
theorem dec1 {i : Int32} {k : Nat} (h : i.toInt = ((k + 1 : Nat) : Int)) : (i - 1).toInt = (k : Int) := by
  rw [ia_sub2 (y := 1) h (by decide) (by omega) (by have := ia_bd i; omega)]; omega
theorem sub_s (q c : Int32) : q - c + -1 = q - (c + 1) := by
  rw [Int32.sub_eq_add_neg q c, Int32.sub_eq_add_neg q (c + 1), Int32.neg_add, Int32.sub_eq_add_neg (-c) 1, Int32.add_assoc]
theorem sub_z {q c : Int32} (h : (q - c).toInt = 0) : c = q := by
  have z : q - c = 0 := by rw [ia_eq]; exact h
  have := Int32.sub_add_cancel q c
  rw [z, Int32.zero_add] at this
  exact this
section S14
variable {d : Nat} {sh : sh_T} {hp : hp_T} {Q : Option Value → sh_T → hp_T → Prop} {b : Bool} {xs : sh_T}
theorem c_X0_partOf {n : Int32} {nI : Int} {m : Int32} {mI : Int} (nE : n.toInt = nI) (mE : m.toInt = mI) (hn : 0 ≤ nI ∧ nI < 60) (hm : 0 ≤ mI ∧ mI < 12) (h1 : Q (some (.int (hp.1 22 ((nI * 12) + mI).toNat))) (SH b xs) hp) : gC mX0_partOf d 0 0 [.ref 17, .int n, .int m] (SH b xs) hp Q := by
  refine g_enter okX0_partOf (plainFor_of_name rfl) rfl ?_
  refine g_run 7 rfl ?_
  refine g_iald (j := ((nI * 12) + mI).toNat) rfl rfl ((show _ = ((nI * 12) + mI) from (ia_add2 (ia_mul2 nE (by decide) (by omega) (by omega)) mE (by omega) (by omega))).trans (by omega)) (by omega) ?_
  exact g_iret rfl rfl h1
theorem lp_X0_lotsIn  {n : Int32} {nI : Int} (nE : n.toInt = nI) (hn : 0 ≤ nI ∧ nI < 60) (h1 : Q (some (.int (cntI (fun l => decide (0 < (hp.1 22 ((nI * 12) + (l : Int)).toNat).toInt)) 12))) (SH b xs) hp) : ∀ (f k : Nat) (i : Int32), i.toInt = (k : Int) → k ≤ 12 → 12 - k < f → gG mX0_lotsIn (d + 1) 0 0 (zQ 0 0 Q) 0 0 (4, [.ref 17, .int n, .int (cntI (fun l => decide (0 < (hp.1 22 ((nI * 12) + (l : Int)).toNat).toInt)) k), .int i], [], (SH b xs), hp) := by
  intro f
  induction f with
  | zero => intros; omega
  | succ f ih =>
    intro k i iE hk hf
    refine g_run 2 rfl ?_
    refine gj_ge (kx := (k : Int)) (kz := 12) rfl iE (by decide) (fun k1 => ?_) (fun k1 => ?_)
    · refine g_run 1 rfl ?_
      obtain rfl : k = 12 := by omega
      exact g_iret rfl rfl h1
    · refine g_run 3 rfl ?_
      refine g_callV0 rfl LX0_44 rfl rfl rfl rfl ?_
      refine c_X0_partOf (nI := nI) (mI := (k : Int)) nE iE (by omega) (by omega) ?_
      refine gz_le (kx := (hp.1 22 ((nI * 12) + (k : Int)).toNat).toInt) rfl rfl (fun k2 => ?_) (fun k2 => ?_)
      · refine g_run 2 rfl ?_
        rw [cntI_f (p := (fun l => decide (0 < (hp.1 22 ((nI * 12) + (l : Int)).toNat).toInt))) (k := k) (by simp; omega)]
        exact ih (k + 1) _ (inc1 iE (by omega)) (by omega) (by omega)
      · refine g_run 3 rfl ?_
        rw [cntI_t (p := (fun l => decide (0 < (hp.1 22 ((nI * 12) + (l : Int)).toNat).toInt))) (k := k) (by simp; omega)]
        exact ih (k + 1) _ (inc1 iE (by omega)) (by omega) (by omega)
theorem c_X0_lotsIn {n : Int32} {nI : Int} (nE : n.toInt = nI) (hn : 0 ≤ nI ∧ nI < 60) (h1 : Q (some (.int (cntI (fun l => decide (0 < (hp.1 22 ((nI * 12) + (l : Int)).toNat).toInt)) 12))) (SH b xs) hp) : gC mX0_lotsIn (d + 1) 0 0 [.ref 17, .int n] (SH b xs) hp Q := by
  refine g_enter okX0_lotsIn (plainFor_of_name rfl) rfl ?_
  refine g_run 4 rfl ?_
  exact lp_X0_lotsIn nE hn h1 13 0 0 (by decide) (by omega) (by omega)
theorem lp_X0_allGrams  (hs : 0 ≤ (hp.1 17 0).toInt ∧ (hp.1 17 0).toInt ≤ 60) (h1 : Q (some (.int (sumI (hp.1 18) (hp.1 17 0).toInt.toNat))) (SH b xs) hp) : ∀ (f k : Nat) (i : Int32), i.toInt = (k : Int) → (k : Int) ≤ (hp.1 17 0).toInt → (hp.1 17 0).toInt.toNat - k < f → gG mX0_allGrams d 0 0 (zQ 0 0 Q) 0 0 (4, [.ref 17, .int (sumI (hp.1 18) k), .int i], [], (SH b xs), hp) := by
  intro f
  induction f with
  | zero => intros; omega
  | succ f ih =>
    intro k i iE hk hf
    refine g_run 3 rfl ?_
    refine gj_ge (kx := (k : Int)) (kz := (hp.1 17 0).toInt) rfl iE rfl (fun k1 => ?_) (fun k1 => ?_)
    · refine g_run 1 rfl ?_
      have e : k = (hp.1 17 0).toInt.toNat := by omega
      subst e
      exact g_iret rfl rfl h1
    · refine g_run 4 rfl ?_
      refine g_iald (j := k) rfl rfl ((show _ = (k : Int) from iE).trans (by omega)) (by omega) ?_
      refine g_run 4 rfl ?_
      exact ih (k + 1) _ (inc1 iE (by omega)) (by omega) (by omega)
theorem c_X0_allGrams (hs : 0 ≤ (hp.1 17 0).toInt ∧ (hp.1 17 0).toInt ≤ 60) (h1 : Q (some (.int (sumI (hp.1 18) (hp.1 17 0).toInt.toNat))) (SH b xs) hp) : gC mX0_allGrams d 0 0 [.ref 17] (SH b xs) hp Q := by
  refine g_enter okX0_allGrams (plainFor_of_name rfl) rfl ?_
  refine g_run 4 rfl ?_
  exact lp_X0_allGrams hs h1 61 0 0 (by decide) (by omega) (by omega)
theorem lp_X0_gramsIn  (hs : 0 ≤ (hp.1 17 0).toInt ∧ (hp.1 17 0).toInt ≤ 60) {h l : Int32} {hI lI : Int} (hE : h.toInt = hI) (lE : l.toInt = lI) (hl : 0 ≤ lI ∧ lI < 12) (h1 : Q (some (.int (sumI (fun k => if (hp.1 20 k).toInt = hI then hp.1 22 (((k : Int) * 12) + lI).toNat else 0) (hp.1 17 0).toInt.toNat))) (SH b xs) hp) : ∀ (f k : Nat) (i : Int32), i.toInt = (k : Int) → (k : Int) ≤ (hp.1 17 0).toInt → (hp.1 17 0).toInt.toNat - k < f → gG mX0_gramsIn (d + 1) 0 0 (zQ 0 0 Q) 0 0 (5, [.ref 17, .int h, .int l, .int (sumI (fun k => if (hp.1 20 k).toInt = hI then hp.1 22 (((k : Int) * 12) + lI).toNat else 0) k), .int i], [], (SH b xs), hp) := by
  intro f
  induction f with
  | zero => intros; omega
  | succ f ih =>
    intro k i iE hk hf
    refine g_run 3 rfl ?_
    refine gj_ge (kx := (k : Int)) (kz := (hp.1 17 0).toInt) rfl iE rfl (fun k1 => ?_) (fun k1 => ?_)
    · refine g_run 1 rfl ?_
      have e : k = (hp.1 17 0).toInt.toNat := by omega
      subst e
      exact g_iret rfl rfl h1
    · refine g_run 3 rfl ?_
      refine g_iald (j := k) rfl rfl ((show _ = (k : Int) from iE).trans (by omega)) (by omega) ?_
      refine g_run 1 rfl ?_
      refine gj_ne (kx := (hp.1 20 k).toInt) (kz := hI) rfl rfl hE (fun k2 => ?_) (fun k2 => ?_)
      · refine g_run 2 rfl ?_
        rw [← sumI_f (k := k) (f := (fun k => if (hp.1 20 k).toInt = hI then hp.1 22 (((k : Int) * 12) + lI).toNat else 0)) (by simp [*])]
        exact ih (k + 1) _ (inc1 iE (by omega)) (by omega) (by omega)
      · refine g_run 4 rfl ?_
        refine g_callV0 rfl LX0_44 rfl rfl rfl rfl ?_
        refine c_X0_partOf (nI := (k : Int)) (mI := lI) iE lE (by omega) (by omega) ?_
        refine g_run 4 rfl ?_
        rw [← sumI_t (k := k) (f := (fun k => if (hp.1 20 k).toInt = hI then hp.1 22 (((k : Int) * 12) + lI).toNat else 0)) (v := hp.1 22 (((k : Int) * 12) + lI).toNat) (by simp [*])]
        exact ih (k + 1) _ (inc1 iE (by omega)) (by omega) (by omega)
theorem c_X0_gramsIn {h : Int32} {hI : Int} {l : Int32} {lI : Int} (hE : h.toInt = hI) (lE : l.toInt = lI) (hs : 0 ≤ (hp.1 17 0).toInt ∧ (hp.1 17 0).toInt ≤ 60) (hl : 0 ≤ lI ∧ lI < 12) (h1 : Q (some (.int (sumI (fun k => if (hp.1 20 k).toInt = hI then hp.1 22 (((k : Int) * 12) + lI).toNat else 0) (hp.1 17 0).toInt.toNat))) (SH b xs) hp) : gC mX0_gramsIn (d + 1) 0 0 [.ref 17, .int h, .int l] (SH b xs) hp Q := by
  refine g_enter okX0_gramsIn (plainFor_of_name rfl) rfl ?_
  refine g_run 4 rfl ?_
  exact lp_X0_gramsIn hs hE lE hl h1 61 0 0 (by decide) (by omega) (by omega)
theorem lp_X0_olderIn  (hs : 0 ≤ (hp.1 17 0).toInt ∧ (hp.1 17 0).toInt ≤ 60) {h dd : Int32} {hI dI : Int} (hE : h.toInt = hI) (dE : dd.toInt = dI) (h1 : Q (some (.int (cntI (fun k => decide ((hp.1 20 k).toInt = hI ∧ (hp.1 19 k).toInt < dI)) (hp.1 17 0).toInt.toNat))) (SH b xs) hp) : ∀ (f k : Nat) (i : Int32), i.toInt = (k : Int) → (k : Int) ≤ (hp.1 17 0).toInt → (hp.1 17 0).toInt.toNat - k < f → gG mX0_olderIn d 0 0 (zQ 0 0 Q) 0 0 (5, [.ref 17, .int h, .int dd, .int (cntI (fun k => decide ((hp.1 20 k).toInt = hI ∧ (hp.1 19 k).toInt < dI)) k), .int i], [], (SH b xs), hp) := by
  intro f
  induction f with
  | zero => intros; omega
  | succ f ih =>
    intro k i iE hk hf
    refine g_run 3 rfl ?_
    refine gj_ge (kx := (k : Int)) (kz := (hp.1 17 0).toInt) rfl iE rfl (fun k1 => ?_) (fun k1 => ?_)
    · refine g_run 1 rfl ?_
      have e : k = (hp.1 17 0).toInt.toNat := by omega
      subst e
      exact g_iret rfl rfl h1
    · refine g_run 3 rfl ?_
      refine g_iald (j := k) rfl rfl ((show _ = (k : Int) from iE).trans (by omega)) (by omega) ?_
      refine g_run 1 rfl ?_
      refine gj_ne (kx := (hp.1 20 k).toInt) (kz := hI) rfl rfl hE (fun k2 => ?_) (fun k2 => ?_)
      · refine g_run 2 rfl ?_
        rw [cntI_f (p := (fun k => decide ((hp.1 20 k).toInt = hI ∧ (hp.1 19 k).toInt < dI))) (k := k) (by simp; omega)]
        exact ih (k + 1) _ (inc1 iE (by omega)) (by omega) (by omega)
      · refine g_run 3 rfl ?_
        refine g_iald (j := k) rfl rfl ((show _ = (k : Int) from iE).trans (by omega)) (by omega) ?_
        refine g_run 1 rfl ?_
        refine gj_ge (kx := (hp.1 19 k).toInt) (kz := dI) rfl rfl dE (fun k3 => ?_) (fun k3 => ?_)
        · refine g_run 2 rfl ?_
          rw [cntI_f (p := (fun k => decide ((hp.1 20 k).toInt = hI ∧ (hp.1 19 k).toInt < dI))) (k := k) (by simp; omega)]
          exact ih (k + 1) _ (inc1 iE (by omega)) (by omega) (by omega)
        · refine g_run 3 rfl ?_
          rw [cntI_t (p := (fun k => decide ((hp.1 20 k).toInt = hI ∧ (hp.1 19 k).toInt < dI))) (k := k) (by simp; omega)]
          exact ih (k + 1) _ (inc1 iE (by omega)) (by omega) (by omega)
theorem c_X0_olderIn {h : Int32} {hI : Int} {dd : Int32} {ddI : Int} (hE : h.toInt = hI) (ddE : dd.toInt = ddI) (hs : 0 ≤ (hp.1 17 0).toInt ∧ (hp.1 17 0).toInt ≤ 60) (h1 : Q (some (.int (cntI (fun k => decide ((hp.1 20 k).toInt = hI ∧ (hp.1 19 k).toInt < ddI)) (hp.1 17 0).toInt.toNat))) (SH b xs) hp) : gC mX0_olderIn d 0 0 [.ref 17, .int h, .int dd] (SH b xs) hp Q := by
  refine g_enter okX0_olderIn (plainFor_of_name rfl) rfl ?_
  refine g_run 4 rfl ?_
  exact lp_X0_olderIn hs hE ddE h1 61 0 0 (by decide) (by omega) (by omega)
theorem lp_X0_bagWith  (hs : 0 ≤ (hp.1 17 0).toInt ∧ (hp.1 17 0).toInt ≤ 60) {l q : Int32} {lI : Int} (lE : l.toInt = lI) (hl : 0 ≤ lI ∧ lI < 12) (h1 : Q (some (.int (fndI (fun k => decide (0 < (hp.1 22 (((k : Int) * 12) + lI).toNat).toInt)) q (hp.1 17 0).toInt.toNat 0))) (SH b xs) hp) : ∀ (f k : Nat) (i : Int32), i.toInt = (k : Int) → (k : Int) ≤ (hp.1 17 0).toInt → (hp.1 17 0).toInt.toNat - k < f → fndI (fun k => decide (0 < (hp.1 22 (((k : Int) * 12) + lI).toNat).toInt)) q ((hp.1 17 0).toInt.toNat - k) k = fndI (fun k => decide (0 < (hp.1 22 (((k : Int) * 12) + lI).toNat).toInt)) q (hp.1 17 0).toInt.toNat 0 → gG mX0_bagWith (d + 1) 0 0 (zQ 0 0 Q) 0 0 (5, [.ref 17, .int l, .int q, .int (cntI (fun k => decide (0 < (hp.1 22 (((k : Int) * 12) + lI).toNat).toInt)) k), .int i], [], (SH b xs), hp) := by
  intro f
  induction f with
  | zero => intros; omega
  | succ f ih =>
    intro k i iE hk hf hg
    refine g_run 3 rfl ?_
    refine gj_ge (kx := (k : Int)) (kz := (hp.1 17 0).toInt) rfl iE rfl (fun k1 => ?_) (fun k1 => ?_)
    · refine g_run 1 rfl ?_
      have e : k = (hp.1 17 0).toInt.toNat := by omega
      rw [show (hp.1 17 0).toInt.toNat - k = 0 by omega] at hg
      rw [← hg] at h1
      exact g_iret rfl rfl h1
    · refine g_run 3 rfl ?_
      refine g_callV0 rfl LX0_44 rfl rfl rfl rfl ?_
      refine c_X0_partOf (nI := (k : Int)) (mI := lI) iE lE (by omega) (by omega) ?_
      refine gz_le (kx := (hp.1 22 (((k : Int) * 12) + lI).toNat).toInt) rfl rfl (fun k2 => ?_) (fun k2 => ?_)
      · refine g_run 2 rfl ?_
        have e1 : (hp.1 17 0).toInt.toNat - k = ((hp.1 17 0).toInt.toNat - (k + 1)) + 1 := by omega
        rw [cntI_f (p := (fun k => decide (0 < (hp.1 22 (((k : Int) * 12) + lI).toNat).toInt))) (k := k) (by simp; omega)]
        exact ih (k + 1) _ (inc1 iE (by omega)) (by omega) (by omega) (by rw [← hg, e1, fndI_p (by simp; omega)])
      · refine g_run 2 rfl ?_
        refine gj_ne (kx := (cntI (fun k => decide (0 < (hp.1 22 (((k : Int) * 12) + lI).toNat).toInt)) k).toInt) (kz := q.toInt) rfl rfl rfl (fun k3 => ?_) (fun k3 => ?_)
        · refine g_run 3 rfl ?_
          have e1 : (hp.1 17 0).toInt.toNat - k = ((hp.1 17 0).toInt.toNat - (k + 1)) + 1 := by omega
          rw [cntI_t (p := (fun k => decide (0 < (hp.1 22 (((k : Int) * 12) + lI).toNat).toInt))) (k := k) (by simp; omega)]
          exact ih (k + 1) _ (inc1 iE (by omega)) (by omega) (by omega) (by rw [← hg, e1, fndI_n (fun z => by simp only [ia_eq] at z; omega)])
        · refine g_run 1 rfl ?_
          have e1 : (hp.1 17 0).toInt.toNat - k = ((hp.1 17 0).toInt.toNat - (k + 1)) + 1 := by omega
          rw [e1, fndI_y (by simp; omega) (by rw [ia_eq]; omega)] at hg
          rw [← hg, ← eq_nI iE (by omega)] at h1
          exact g_iret rfl rfl h1
theorem c_X0_bagWith {l : Int32} {lI : Int} {q : Int32} {qI : Int} (lE : l.toInt = lI) (qE : q.toInt = qI) (hs : 0 ≤ (hp.1 17 0).toInt ∧ (hp.1 17 0).toInt ≤ 60) (hl : 0 ≤ lI ∧ lI < 12) (h1 : Q (some (.int (fndI (fun k => decide (0 < (hp.1 22 (((k : Int) * 12) + lI).toNat).toInt)) q (hp.1 17 0).toInt.toNat 0))) (SH b xs) hp) : gC mX0_bagWith (d + 1) 0 0 [.ref 17, .int l, .int q] (SH b xs) hp Q := by
  refine g_enter okX0_bagWith (plainFor_of_name rfl) rfl ?_
  refine g_run 4 rfl ?_
  exact lp_X0_bagWith hs lE hl h1 61 0 0 (by decide) (by omega) (by omega) rfl
end S14
end
section
/-! asking calls of the class -/
section S15
variable {d : Nat} {sh : sh_T} {hp : hp_T} {Q : Option Value → sh_T → hp_T → Prop} {b : Bool} {xs : sh_T}
theorem c_X9_part {n : Int32} {nI : Int} {l : Int32} {lI : Int} (nE : n.toInt = nI) (lE : l.toInt = lI) (hl : 0 ≤ (hp.1 1 0).toInt ∧ (hp.1 1 0).toInt ≤ 12) (hs : 0 ≤ (hp.1 17 0).toInt ∧ (hp.1 17 0).toInt ≤ 60) (h2 : (0 ≤ lI ∧ lI < (hp.1 1 0).toInt ∧ nI = -1) → Q (some (.int (hp.1 2 lI.toNat))) (SH b xs) hp) (h1 : (0 ≤ lI ∧ lI < (hp.1 1 0).toInt ∧ 0 ≤ nI ∧ nI < (hp.1 17 0).toInt) → Q (some (.int (hp.1 22 ((nI * 12) + lI).toNat))) (SH b xs) hp) (h0 : (lI < 0 ∨ (hp.1 1 0).toInt ≤ lI ∨ (nI ≠ -1 ∧ (nI < 0 ∨ (hp.1 17 0).toInt ≤ nI))) → Q (some (.int (-1))) (SH b xs) hp) : gC mX9_part (d + 1) 0 0 [.ref 0, .int n, .int l] (SH b xs) hp Q := by
  refine g_enter okX9_part (plainFor_of_name rfl) rfl ?_
  refine g_run 3 rfl ?_
  refine g_callV0 rfl LX9_112 rfl rfl rfl rfl ?_
  refine c_X3_has (nI := lI) (zI := (hp.1 1 0).toInt) lE rfl (fun k1 => ?_) (fun k2 => ?_)
  · refine gz_ne (kx := 1) rfl (show (1 : Int32).toInt = 1 from by decide) (fun _ => ?_) (fun q => absurd q (by decide))
    refine g_run 2 rfl ?_
    refine gj_ne (kx := nI) (kz := (-1)) rfl nE (by decide) (fun k3 => ?_) (fun k3 => ?_)
    · refine g_run 3 rfl ?_
      refine g_callV0 rfl LX9_147 rfl rfl rfl rfl ?_
      refine c_X0_has (nI := nI) (zI := (hp.1 17 0).toInt) nE rfl (fun k4 => ?_) (fun k5 => ?_)
      · refine gz_eq (kx := 1) rfl (show (1 : Int32).toInt = 1 from by decide) (fun q => absurd q (by decide)) (fun _ => ?_)
        refine g_run 4 rfl ?_
        refine g_callV0 rfl LX9_163 rfl rfl rfl rfl ?_
        refine c_X0_partOf (nI := nI) (mI := lI) nE lE (by omega) (by omega) ?_
        refine g_run 1 rfl ?_
        exact g_iret rfl rfl (by first | exact h2 (by omega) | exact h1 (by omega) | exact h0 (by omega))
      · refine gz_eq (kx := 0) rfl (show (0 : Int32).toInt = 0 from by decide) (fun _ => ?_) (fun q => absurd q (by decide))
        refine g_run 1 rfl ?_
        exact g_iret rfl rfl (by first | exact h2 (by omega) | exact h1 (by omega) | exact h0 (by omega))
    · refine g_run 4 rfl ?_
      refine g_iald (j := lI.toNat) rfl rfl ((show _ = lI from lE).trans (by omega)) (by omega) ?_
      exact g_iret rfl rfl (by first | exact h2 (by omega) | exact h1 (by omega) | exact h0 (by omega))
  · refine gz_ne (kx := 0) rfl (show (0 : Int32).toInt = 0 from by decide) (fun q => absurd q (by decide)) (fun _ => ?_)
    refine g_run 1 rfl ?_
    exact g_iret rfl rfl (by first | exact h2 (by omega) | exact h1 (by omega) | exact h0 (by omega))
theorem c_X0_tellForBlend {n : Int32} {nI : Int} {g : Int32} {gI : Int} (nE : n.toInt = nI) (gE : g.toInt = gI) (hs : 0 ≤ (hp.1 17 0).toInt ∧ (hp.1 17 0).toInt ≤ 60) (h1 : 0 ≤ nI ∧ nI < (hp.1 17 0).toInt ∧ (hp.1 21 nI.toNat).toInt ≤ 0 ∧ (hp.1 20 nI.toNat).toInt = -1 ∧ 1 ≤ gI ∧ gI ≤ (hp.1 18 nI.toNat).toInt → Q (some (.int (hp.1 17 1 + 1))) (SH b xs) (sI (sI hp 21 nI.toNat g) 17 1 (hp.1 17 1 + 1))) (h0 : nI < 0 ∨ (hp.1 17 0).toInt ≤ nI ∨ 0 < (hp.1 21 nI.toNat).toInt ∨ (hp.1 20 nI.toNat).toInt ≠ -1 ∨ gI < 1 ∨ (hp.1 18 nI.toNat).toInt < gI → Q (some (.int (-1))) (SH b xs) hp) : gC mX0_tellForBlend (d + 1) 0 0 [.ref 17, .int n, .int g] (SH b xs) hp Q := by
  refine g_enter okX0_tellForBlend (plainFor_of_name rfl) rfl ?_
  refine g_run 2 rfl ?_
  refine g_callV0 rfl LX0_48 rfl rfl rfl rfl ?_
  refine c_X0_has (nI := nI) (zI := (hp.1 17 0).toInt) nE rfl (fun k1 => ?_) (fun k2 => ?_)
  · refine gz_eq (kx := 1) rfl (show (1 : Int32).toInt = 1 from by decide) (fun q => absurd q (by decide)) (fun _ => ?_)
    refine g_run 3 rfl ?_
    refine g_iald (j := nI.toNat) rfl rfl ((show _ = nI from nE).trans (by omega)) (by omega) ?_
    refine gz_gt (kx := (hp.1 21 nI.toNat).toInt) rfl rfl (fun k3 => ?_) (fun k3 => ?_)
    · refine g_run 1 rfl ?_
      exact g_iret rfl rfl (by first | exact h1 (by omega) | exact h0 (by omega))
    · refine g_run 3 rfl ?_
      refine g_iald (j := nI.toNat) rfl rfl ((show _ = nI from nE).trans (by omega)) (by omega) ?_
      refine g_run 1 rfl ?_
      refine gj_ne (kx := (hp.1 20 nI.toNat).toInt) (kz := (-1)) rfl rfl (by decide) (fun k4 => ?_) (fun k4 => ?_)
      · refine g_run 1 rfl ?_
        exact g_iret rfl rfl (by first | exact h1 (by omega) | exact h0 (by omega))
      · refine g_run 5 rfl ?_
        refine g_iald (j := nI.toNat) rfl rfl ((show _ = nI from nE).trans (by omega)) (by omega) ?_
        refine g_callS0 rfl LX0_52 rfl rfl ?_
        refine c_X9_within (nI := gI) (lI := 1) (uI := (hp.1 18 nI.toNat).toInt) gE (by decide) rfl (fun k5 => ?_) (fun k6 => ?_)
        · refine gz_ne (kx := 1) rfl (show (1 : Int32).toInt = 1 from by decide) (fun _ => ?_) (fun q => absurd q (by decide))
          refine g_run 4 rfl ?_
          refine g_iast (j := nI.toNat) rfl rfl ((show _ = nI from nE).trans (by omega)) (by omega) ?_
          refine g_run 8 rfl ?_
          exact g_iret rfl rfl (by first | exact h1 (by omega) | exact h0 (by omega))
        · refine gz_ne (kx := 0) rfl (show (0 : Int32).toInt = 0 from by decide) (fun q => absurd q (by decide)) (fun _ => ?_)
          refine g_run 1 rfl ?_
          exact g_iret rfl rfl (by first | exact h1 (by omega) | exact h0 (by omega))
  · refine gz_eq (kx := 0) rfl (show (0 : Int32).toInt = 0 from by decide) (fun _ => ?_) (fun q => absurd q (by decide))
    refine g_run 1 rfl ?_
    exact g_iret rfl rfl (by first | exact h1 (by omega) | exact h0 (by omega))
theorem c_X9_take {n : Int32} {nI : Int} {g : Int32} {gI : Int} (nE : n.toInt = nI) (gE : g.toInt = gI) (hs : 0 ≤ (hp.1 17 0).toInt ∧ (hp.1 17 0).toInt ≤ 60) (h1 : 0 ≤ nI ∧ nI < (hp.1 17 0).toInt ∧ (hp.1 21 nI.toNat).toInt ≤ 0 ∧ (hp.1 20 nI.toNat).toInt = -1 ∧ 1 ≤ gI ∧ gI ≤ (hp.1 18 nI.toNat).toInt → Q (some (.int (hp.1 17 1 + 1))) (SH b xs) (sI (sI hp 21 nI.toNat g) 17 1 (hp.1 17 1 + 1))) (h0 : nI < 0 ∨ (hp.1 17 0).toInt ≤ nI ∨ 0 < (hp.1 21 nI.toNat).toInt ∨ (hp.1 20 nI.toNat).toInt ≠ -1 ∨ gI < 1 ∨ (hp.1 18 nI.toNat).toInt < gI → Q (some (.int (-1))) (SH b xs) hp) : gC mX9_take (d + 2) 0 0 [.ref 0, .int n, .int g] (SH b xs) hp Q := by
  refine g_enter okX9_take (plainFor_of_name rfl) rfl ?_
  refine g_run 4 rfl ?_
  refine g_callV0 rfl LX9_141 rfl rfl rfl rfl ?_
  refine c_X0_tellForBlend (nI := nI) (gI := gI) nE gE hs (fun k => ?_) (fun k => ?_)
  · exact g_iret rfl rfl (by first | exact h1 (by omega) | exact h0 (by omega))
  · exact g_iret rfl rfl (by first | exact h1 (by omega) | exact h0 (by omega))
theorem c_X0_sendTo {n : Int32} {nI : Int} {u : Int32} {uI : Int} (nE : n.toInt = nI) (uE : u.toInt = uI) (hs : 0 ≤ (hp.1 17 0).toInt ∧ (hp.1 17 0).toInt ≤ 60) (h1 : 0 ≤ nI ∧ nI < (hp.1 17 0).toInt ∧ (hp.1 20 nI.toNat).toInt = -1 ∧ (hp.1 21 nI.toNat).toInt ≤ 0 ∧ (hp.1 18 nI.toNat).toInt ≠ 0 → Q (some (.int 1)) (SH b xs) (sI hp 20 nI.toNat u)) (h0 : nI < 0 ∨ (hp.1 17 0).toInt ≤ nI ∨ (hp.1 20 nI.toNat).toInt ≠ -1 ∨ 0 < (hp.1 21 nI.toNat).toInt ∨ (hp.1 18 nI.toNat).toInt = 0 → Q (some (.int 0)) (SH b xs) hp) : gC mX0_sendTo (d + 1) 0 0 [.ref 17, .int n, .int u] (SH b xs) hp Q := by
  refine g_enter okX0_sendTo (plainFor_of_name rfl) rfl ?_
  refine g_run 2 rfl ?_
  refine g_callV0 rfl LX0_48 rfl rfl rfl rfl ?_
  refine c_X0_has (nI := nI) (zI := (hp.1 17 0).toInt) nE rfl (fun k1 => ?_) (fun k2 => ?_)
  · refine gz_eq (kx := 1) rfl (show (1 : Int32).toInt = 1 from by decide) (fun q => absurd q (by decide)) (fun _ => ?_)
    refine g_run 3 rfl ?_
    refine g_iald (j := nI.toNat) rfl rfl ((show _ = nI from nE).trans (by omega)) (by omega) ?_
    refine g_run 1 rfl ?_
    refine gj_ne (kx := (hp.1 20 nI.toNat).toInt) (kz := (-1)) rfl rfl (by decide) (fun k3 => ?_) (fun k3 => ?_)
    · refine g_run 1 rfl ?_
      exact g_zret rfl rfl (Or.inl rfl) (by first | exact h1 (by omega) | exact h0 (by omega))
    · refine g_run 3 rfl ?_
      refine g_iald (j := nI.toNat) rfl rfl ((show _ = nI from nE).trans (by omega)) (by omega) ?_
      refine gz_gt (kx := (hp.1 21 nI.toNat).toInt) rfl rfl (fun k4 => ?_) (fun k4 => ?_)
      · refine g_run 1 rfl ?_
        exact g_zret rfl rfl (Or.inl rfl) (by first | exact h1 (by omega) | exact h0 (by omega))
      · refine g_run 3 rfl ?_
        refine g_iald (j := nI.toNat) rfl rfl ((show _ = nI from nE).trans (by omega)) (by omega) ?_
        refine gz_ne (kx := (hp.1 18 nI.toNat).toInt) rfl rfl (fun k5 => ?_) (fun k5 => ?_)
        · refine g_run 4 rfl ?_
          refine g_iast (j := nI.toNat) rfl rfl ((show _ = nI from nE).trans (by omega)) (by omega) ?_
          refine g_run 1 rfl ?_
          exact g_zret rfl rfl (Or.inr rfl) (by first | exact h1 (by omega) | exact h0 (by omega))
        · refine g_run 1 rfl ?_
          exact g_zret rfl rfl (Or.inl rfl) (by first | exact h1 (by omega) | exact h0 (by omega))
  · refine gz_eq (kx := 0) rfl (show (0 : Int32).toInt = 0 from by decide) (fun _ => ?_) (fun q => absurd q (by decide))
    refine g_run 1 rfl ?_
    exact g_zret rfl rfl (Or.inl rfl) (by first | exact h1 (by omega) | exact h0 (by omega))
theorem c_X9_send {n : Int32} {nI : Int} {u : Int32} {uI : Int} (nE : n.toInt = nI) (uE : u.toInt = uI) (hs : 0 ≤ (hp.1 17 0).toInt ∧ (hp.1 17 0).toInt ≤ 60) (h1 : (0 ≤ nI ∧ nI < (hp.1 17 0).toInt ∧ (hp.1 20 nI.toNat).toInt = -1 ∧ (hp.1 21 nI.toNat).toInt ≤ 0 ∧ (hp.1 18 nI.toNat).toInt ≠ 0) ∧ 0 ≤ uI ∧ uI < 10 → Q (some (.int 1)) (SH b xs) (sI hp 20 nI.toNat u)) (h0 : (nI < 0 ∨ (hp.1 17 0).toInt ≤ nI ∨ (hp.1 20 nI.toNat).toInt ≠ -1 ∨ 0 < (hp.1 21 nI.toNat).toInt ∨ (hp.1 18 nI.toNat).toInt = 0) ∨ uI < 0 ∨ 10 ≤ uI → Q (some (.int 0)) (SH b xs) hp) : gC mX9_send (d + 2) 0 0 [.ref 0, .int n, .int u] (SH b xs) hp Q := by
  refine g_enter okX9_send (plainFor_of_name rfl) rfl ?_
  refine g_run 3 rfl ?_
  refine g_callS0 rfl LX9_82 rfl rfl ?_
  refine c_X9_within (nI := uI) (lI := 0) (uI := 9) uE (by decide) (by decide) (fun k1 => ?_) (fun k2 => ?_)
  · refine gz_eq (kx := 1) rfl (show (1 : Int32).toInt = 1 from by decide) (fun q => absurd q (by decide)) (fun _ => ?_)
    refine g_run 4 rfl ?_
    refine g_callV0 rfl LX9_192 rfl rfl rfl rfl ?_
    refine c_X0_sendTo (nI := nI) (uI := uI) nE uE hs (fun k => ?_) (fun k => ?_)
    · refine gz_eq (kx := 1) rfl (show (1 : Int32).toInt = 1 from by decide) (fun q => absurd q (by decide)) (fun _ => ?_)
      refine g_run 2 rfl ?_
      exact g_zret rfl rfl (Or.inr rfl) (by first | exact h1 (by omega) | exact h0 (by omega))
    · refine gz_eq (kx := 0) rfl (show (0 : Int32).toInt = 0 from by decide) (fun _ => ?_) (fun q => absurd q (by decide))
      refine g_run 1 rfl ?_
      exact g_zret rfl rfl (Or.inl rfl) (by first | exact h1 (by omega) | exact h0 (by omega))
  · refine gz_eq (kx := 0) rfl (show (0 : Int32).toInt = 0 from by decide) (fun _ => ?_) (fun q => absurd q (by decide))
    refine g_run 1 rfl ?_
    exact g_zret rfl rfl (Or.inl rfl) (by first | exact h1 (by omega) | exact h0 (by omega))
theorem c_X9_stale {h : Int32} {hI : Int} (hE : h.toInt = hI) (hs : 0 ≤ (hp.1 17 0).toInt ∧ (hp.1 17 0).toInt ≤ 60) (hk : 0 ≤ (hp.1 0 9).toInt ∧ (hp.1 0 9).toInt ≤ 999) (hk2 : ∀ i, i < 10 → 0 ≤ (hp.1 36 i).toInt ∧ (hp.1 36 i).toInt ≤ 999) (h1 : 0 ≤ hI ∧ hI < 10 → Q (some (.int (cntI (fun k => decide ((hp.1 20 k).toInt = hI ∧ (hp.1 19 k).toInt < ((hp.1 0 9).toInt - (hp.1 36 hI.toNat).toInt))) (hp.1 17 0).toInt.toNat))) (SH b xs) hp) (h0 : hI < 0 ∨ 10 ≤ hI → Q (some (.int (-1))) (SH b xs) hp) : gC mX9_stale (d + 1) 0 0 [.ref 0, .int h] (SH b xs) hp Q := by
  refine g_enter okX9_stale (plainFor_of_name rfl) rfl ?_
  refine g_run 3 rfl ?_
  refine g_callS0 rfl LX9_82 rfl rfl ?_
  refine c_X9_within (nI := hI) (lI := 0) (uI := 9) hE (by decide) (by decide) (fun k1 => ?_) (fun k2 => ?_)
  · refine gz_ne (kx := 1) rfl (show (1 : Int32).toInt = 1 from by decide) (fun _ => ?_) (fun q => absurd q (by decide))
    refine g_run 8 rfl ?_
    refine g_iald (j := hI.toNat) rfl rfl ((show _ = hI from hE).trans (by omega)) (by omega) ?_
    refine g_run 1 rfl ?_
    refine g_callV0 rfl LX9_195 rfl rfl rfl rfl ?_
    refine c_X0_olderIn (hI := hI) (ddI := ((hp.1 0 9).toInt - (hp.1 36 hI.toNat).toInt)) hE (by have := hk2 hI.toNat (by omega); exact ia_sub2 rfl rfl (by omega) (by omega)) hs ?_
    exact g_iret rfl rfl (by first | exact h1 (by omega) | exact h0 (by omega))
  · refine gz_ne (kx := 0) rfl (show (0 : Int32).toInt = 0 from by decide) (fun q => absurd q (by decide)) (fun _ => ?_)
    refine g_run 1 rfl ?_
    exact g_iret rfl rfl (by first | exact h1 (by omega) | exact h0 (by omega))
theorem c_X9_found {l : Int32} {lI : Int} {q : Int32} {qI : Int} (lE : l.toInt = lI) (qE : q.toInt = qI) (hs : 0 ≤ (hp.1 17 0).toInt ∧ (hp.1 17 0).toInt ≤ 60) (hl : 0 ≤ (hp.1 1 0).toInt ∧ (hp.1 1 0).toInt ≤ 12) (h1 : 0 ≤ lI ∧ lI < (hp.1 1 0).toInt → Q (some (.int (fndI (fun k => decide (0 < (hp.1 22 (((k : Int) * 12) + lI).toNat).toInt)) q (hp.1 17 0).toInt.toNat 0))) (SH b xs) hp) (h0 : lI < 0 ∨ (hp.1 1 0).toInt ≤ lI → Q (some (.int (-1))) (SH b xs) hp) : gC mX9_found (d + 2) 0 0 [.ref 0, .int l, .int q] (SH b xs) hp Q := by
  refine g_enter okX9_found (plainFor_of_name rfl) rfl ?_
  refine g_run 3 rfl ?_
  refine g_callV0 rfl LX9_112 rfl rfl rfl rfl ?_
  refine c_X3_has (nI := lI) (zI := (hp.1 1 0).toInt) lE rfl (fun k1 => ?_) (fun k2 => ?_)
  · refine gz_eq (kx := 1) rfl (show (1 : Int32).toInt = 1 from by decide) (fun q => absurd q (by decide)) (fun _ => ?_)
    refine g_run 4 rfl ?_
    refine g_callV0 rfl LX9_198 rfl rfl rfl rfl ?_
    refine c_X0_bagWith (lI := lI) lE rfl hs (by omega) ?_
    refine g_run 1 rfl ?_
    exact g_iret rfl rfl (by first | exact h1 (by omega) | exact h0 (by omega))
  · refine gz_eq (kx := 0) rfl (show (0 : Int32).toInt = 0 from by decide) (fun _ => ?_) (fun q => absurd q (by decide))
    refine g_run 1 rfl ?_
    exact g_iret rfl rfl (by first | exact h1 (by omega) | exact h0 (by omega))
theorem c_X9_led {l : Int32} {lI : Int} {h : Int32} {hI : Int} (lE : l.toInt = lI) (hE : h.toInt = hI) (hs : 0 ≤ (hp.1 17 0).toInt ∧ (hp.1 17 0).toInt ≤ 60) (hl : 0 ≤ (hp.1 1 0).toInt ∧ (hp.1 1 0).toInt ≤ 12) (h1 : 0 ≤ lI ∧ lI < (hp.1 1 0).toInt ∧ 0 ≤ hI ∧ hI < 10 → Q (some (.int (sumI (fun k => if (hp.1 20 k).toInt = hI then hp.1 22 (((k : Int) * 12) + lI).toNat else 0) (hp.1 17 0).toInt.toNat))) (SH b xs) hp) (h0 : lI < 0 ∨ (hp.1 1 0).toInt ≤ lI ∨ hI < 0 ∨ 10 ≤ hI → Q (some (.int (-1))) (SH b xs) hp) : gC mX9_led (d + 2) 0 0 [.ref 0, .int l, .int h] (SH b xs) hp Q := by
  refine g_enter okX9_led (plainFor_of_name rfl) rfl ?_
  refine g_run 3 rfl ?_
  refine g_callV0 rfl LX9_112 rfl rfl rfl rfl ?_
  refine c_X3_has (nI := lI) (zI := (hp.1 1 0).toInt) lE rfl (fun k1 => ?_) (fun k2 => ?_)
  · refine gz_eq (kx := 1) rfl (show (1 : Int32).toInt = 1 from by decide) (fun q => absurd q (by decide)) (fun _ => ?_)
    refine g_run 3 rfl ?_
    refine g_callS0 rfl LX9_82 rfl rfl ?_
    refine c_X9_within (nI := hI) (lI := 0) (uI := 9) hE (by decide) (by decide) (fun k3 => ?_) (fun k4 => ?_)
    · refine gz_ne (kx := 1) rfl (show (1 : Int32).toInt = 1 from by decide) (fun _ => ?_) (fun q => absurd q (by decide))
      refine g_run 4 rfl ?_
      refine g_callV0 rfl LX9_201 rfl rfl rfl rfl ?_
      refine c_X0_gramsIn (hI := hI) (lI := lI) hE lE hs (by omega) ?_
      exact g_iret rfl rfl (by first | exact h1 (by omega) | exact h0 (by omega))
    · refine gz_ne (kx := 0) rfl (show (0 : Int32).toInt = 0 from by decide) (fun q => absurd q (by decide)) (fun _ => ?_)
      refine g_run 1 rfl ?_
      exact g_iret rfl rfl (by first | exact h1 (by omega) | exact h0 (by omega))
  · refine gz_eq (kx := 0) rfl (show (0 : Int32).toInt = 0 from by decide) (fun _ => ?_) (fun q => absurd q (by decide))
    refine g_run 1 rfl ?_
    exact g_iret rfl rfl (by first | exact h1 (by omega) | exact h0 (by omega))
theorem c_X9_tenths {l : Int32} {lI : Int} (lE : l.toInt = lI) (hl : 0 ≤ (hp.1 1 0).toInt ∧ (hp.1 1 0).toInt ≤ 12) (h1 : 0 ≤ lI ∧ lI < (hp.1 1 0).toInt ∧ (hp.1 28 0).toInt ≠ 0 → Q (some (.int (hp.1 29 lI.toNat))) (SH b xs) hp) (h0 : lI < 0 ∨ (hp.1 1 0).toInt ≤ lI ∨ (hp.1 28 0).toInt = 0 → Q (some (.int (-1))) (SH b xs) hp) : gC mX9_tenths (d + 1) 0 0 [.ref 0, .int l] (SH b xs) hp Q := by
  refine g_enter okX9_tenths (plainFor_of_name rfl) rfl ?_
  refine g_run 3 rfl ?_
  refine g_callV0 rfl LX9_112 rfl rfl rfl rfl ?_
  refine c_X3_has (nI := lI) (zI := (hp.1 1 0).toInt) lE rfl (fun k1 => ?_) (fun k2 => ?_)
  · refine gz_eq (kx := 1) rfl (show (1 : Int32).toInt = 1 from by decide) (fun q => absurd q (by decide)) (fun _ => ?_)
    refine g_run 3 rfl ?_
    refine gz_eq (kx := (hp.1 28 0).toInt) rfl rfl (fun k3 => ?_) (fun k3 => ?_)
    · refine g_run 1 rfl ?_
      exact g_iret rfl rfl (by first | exact h1 (by omega) | exact h0 (by omega))
    · refine g_run 4 rfl ?_
      refine g_iald (j := lI.toNat) rfl rfl ((show _ = lI from lE).trans (by omega)) (by omega) ?_
      refine g_run 1 rfl ?_
      exact g_iret rfl rfl (by first | exact h1 (by omega) | exact h0 (by omega))
  · refine gz_eq (kx := 0) rfl (show (0 : Int32).toInt = 0 from by decide) (fun _ => ?_) (fun q => absurd q (by decide))
    refine g_run 1 rfl ?_
    exact g_iret rfl rfl (by first | exact h1 (by omega) | exact h0 (by omega))
theorem c_X4_tell {w : Int32} {wI : Int} (wE : w.toInt = wI) (h0 : (hp.1 15 2).toInt ≠ 0 ∧ wI = 0 → Q (some (.int (hp.1 15 9))) (SH b xs) hp) (h1 : (hp.1 15 2).toInt ≠ 0 ∧ wI = 1 → Q (some (.int (hp.1 15 5))) (SH b xs) hp) (h2 : (hp.1 15 2).toInt ≠ 0 ∧ wI = 2 → Q (some (.int (hp.1 15 0))) (SH b xs) hp) (h4 : (hp.1 15 2).toInt ≠ 0 ∧ wI = 4 → Q (some (.int (hp.1 15 11))) (SH b xs) hp) (h3 : (hp.1 15 2).toInt ≠ 0 ∧ wI = 3 ∧ (hp.1 15 10).toInt ≠ 0 → Q (some (.int 1)) (SH b xs) hp) (h5 : (hp.1 15 2).toInt ≠ 0 ∧ wI = 3 ∧ (hp.1 15 10).toInt = 0 → Q (some (.int 0)) (SH b xs) hp) (h6 : (hp.1 15 2).toInt = 0 ∨ wI < 0 ∨ 4 < wI → Q (some (.int (-1))) (SH b xs) hp) : gC mX4_tell d 0 0 [.ref 15, .int w] (SH b xs) hp Q := by
  refine g_enter okX4_tell (plainFor_of_name rfl) rfl ?_
  refine g_run 2 rfl ?_
  refine gz_ne (kx := (hp.1 15 2).toInt) rfl rfl (fun k1 => ?_) (fun k1 => ?_)
  · refine g_run 1 rfl ?_
    rcases (show wI < 0 ∨ 4 < wI ∨ wI = 0 ∨ wI = 1 ∨ wI = 2 ∨ wI = 3 ∨ wI = 4 by omega) with k2 | k2 | k2 | k2 | k2 | k2 | k2
    · refine g_tabOut (tgt := 77) rfl (Or.inl (by rw [show _ = wI from wE]; omega)) (by decide) ?_
      refine g_run 1 rfl ?_
      exact g_iret rfl rfl (by first | exact h0 (by omega) | exact h1 (by omega) | exact h2 (by omega) | exact h4 (by omega) | exact h3 (by omega) | exact h5 (by omega) | exact h6 (by omega))
    · refine g_tabOut (tgt := 77) rfl (Or.inr (by rw [show _ = wI from wE]; omega)) (by decide) ?_
      refine g_run 1 rfl ?_
      exact g_iret rfl rfl (by first | exact h0 (by omega) | exact h1 (by omega) | exact h2 (by omega) | exact h4 (by omega) | exact h3 (by omega) | exact h5 (by omega) | exact h6 (by omega))
    · refine g_tabIn (i := 0) (tgt := 44) rfl ((show _ = wI from wE).trans (by omega)) (by decide) rfl (by decide) ?_
      refine g_run 2 rfl ?_
      exact g_iret rfl rfl (by first | exact h0 (by omega) | exact h1 (by omega) | exact h2 (by omega) | exact h4 (by omega) | exact h3 (by omega) | exact h5 (by omega) | exact h6 (by omega))
    · refine g_tabIn (i := 1) (tgt := 49) rfl ((show _ = wI from wE).trans (by omega)) (by decide) rfl (by decide) ?_
      refine g_run 2 rfl ?_
      exact g_iret rfl rfl (by first | exact h0 (by omega) | exact h1 (by omega) | exact h2 (by omega) | exact h4 (by omega) | exact h3 (by omega) | exact h5 (by omega) | exact h6 (by omega))
    · refine g_tabIn (i := 2) (tgt := 54) rfl ((show _ = wI from wE).trans (by omega)) (by decide) rfl (by decide) ?_
      refine g_run 2 rfl ?_
      exact g_iret rfl rfl (by first | exact h0 (by omega) | exact h1 (by omega) | exact h2 (by omega) | exact h4 (by omega) | exact h3 (by omega) | exact h5 (by omega) | exact h6 (by omega))
    · refine g_tabIn (i := 3) (tgt := 59) rfl ((show _ = wI from wE).trans (by omega)) (by decide) rfl (by decide) ?_
      refine g_run 2 rfl ?_
      refine gz_eq (kx := (hp.1 15 10).toInt) rfl rfl (fun k3 => ?_) (fun k3 => ?_)
      · refine g_run 1 rfl ?_
        exact g_iret rfl rfl (by first | exact h0 (by omega) | exact h1 (by omega) | exact h2 (by omega) | exact h4 (by omega) | exact h3 (by omega) | exact h5 (by omega) | exact h6 (by omega))
      · refine g_run 2 rfl ?_
        exact g_iret rfl rfl (by first | exact h0 (by omega) | exact h1 (by omega) | exact h2 (by omega) | exact h4 (by omega) | exact h3 (by omega) | exact h5 (by omega) | exact h6 (by omega))
    · refine g_tabIn (i := 4) (tgt := 72) rfl ((show _ = wI from wE).trans (by omega)) (by decide) rfl (by decide) ?_
      refine g_run 2 rfl ?_
      exact g_iret rfl rfl (by first | exact h0 (by omega) | exact h1 (by omega) | exact h2 (by omega) | exact h4 (by omega) | exact h3 (by omega) | exact h5 (by omega) | exact h6 (by omega))
  · refine g_run 1 rfl ?_
    exact g_iret rfl rfl (by first | exact h0 (by omega) | exact h1 (by omega) | exact h2 (by omega) | exact h4 (by omega) | exact h3 (by omega) | exact h5 (by omega) | exact h6 (by omega))
theorem c_X9_roasted {w : Int32} {wI : Int} (wE : w.toInt = wI) (h0 : (hp.1 15 2).toInt ≠ 0 ∧ wI = 0 → Q (some (.int (hp.1 15 9))) (SH b xs) hp) (h1 : (hp.1 15 2).toInt ≠ 0 ∧ wI = 1 → Q (some (.int (hp.1 15 5))) (SH b xs) hp) (h2 : (hp.1 15 2).toInt ≠ 0 ∧ wI = 2 → Q (some (.int (hp.1 15 0))) (SH b xs) hp) (h4 : (hp.1 15 2).toInt ≠ 0 ∧ wI = 4 → Q (some (.int (hp.1 15 11))) (SH b xs) hp) (h3 : (hp.1 15 2).toInt ≠ 0 ∧ wI = 3 ∧ (hp.1 15 10).toInt ≠ 0 → Q (some (.int 1)) (SH b xs) hp) (h5 : (hp.1 15 2).toInt ≠ 0 ∧ wI = 3 ∧ (hp.1 15 10).toInt = 0 → Q (some (.int 0)) (SH b xs) hp) (h6 : (hp.1 15 2).toInt = 0 ∨ wI < 0 ∨ 4 < wI → Q (some (.int (-1))) (SH b xs) hp) : gC mX9_roasted (d + 1) 0 0 [.ref 0, .int w] (SH b xs) hp Q := by
  refine g_enter okX9_roasted (plainFor_of_name rfl) rfl ?_
  refine g_run 3 rfl ?_
  refine g_callV0 rfl LX9_137 rfl rfl rfl rfl ?_
  refine c_X4_tell (wI := wI) wE (fun k => ?_) (fun k => ?_) (fun k => ?_) (fun k => ?_) (fun k => ?_) (fun k => ?_) (fun k => ?_)
  · exact g_iret rfl rfl (by first | exact h0 (by omega) | exact h1 (by omega) | exact h2 (by omega) | exact h4 (by omega) | exact h3 (by omega) | exact h5 (by omega) | exact h6 (by omega))
  · exact g_iret rfl rfl (by first | exact h0 (by omega) | exact h1 (by omega) | exact h2 (by omega) | exact h4 (by omega) | exact h3 (by omega) | exact h5 (by omega) | exact h6 (by omega))
  · exact g_iret rfl rfl (by first | exact h0 (by omega) | exact h1 (by omega) | exact h2 (by omega) | exact h4 (by omega) | exact h3 (by omega) | exact h5 (by omega) | exact h6 (by omega))
  · exact g_iret rfl rfl (by first | exact h0 (by omega) | exact h1 (by omega) | exact h2 (by omega) | exact h4 (by omega) | exact h3 (by omega) | exact h5 (by omega) | exact h6 (by omega))
  · exact g_iret rfl rfl (by first | exact h0 (by omega) | exact h1 (by omega) | exact h2 (by omega) | exact h4 (by omega) | exact h3 (by omega) | exact h5 (by omega) | exact h6 (by omega))
  · exact g_iret rfl rfl (by first | exact h0 (by omega) | exact h1 (by omega) | exact h2 (by omega) | exact h4 (by omega) | exact h3 (by omega) | exact h5 (by omega) | exact h6 (by omega))
  · exact g_iret rfl rfl (by first | exact h0 (by omega) | exact h1 (by omega) | exact h2 (by omega) | exact h4 (by omega) | exact h3 (by omega) | exact h5 (by omega) | exact h6 (by omega))
theorem c_X10_roasted {w : Int32} {wI : Int} (wE : w.toInt = wI) (h0 : (hp.1 43 35).toInt ≠ 0 ∧ wI = 0 → Q (some (.int (hp.1 43 36))) (SH b xs) (sI hp 43 0 0)) (h1 : (hp.1 43 35).toInt ≠ 0 ∧ wI = 1 → Q (some (.int (hp.1 43 37))) (SH b xs) (sI hp 43 0 0)) (h2 : (hp.1 43 35).toInt ≠ 0 ∧ wI = 2 → Q (some (.int (hp.1 43 41))) (SH b xs) (sI hp 43 0 0)) (h4 : (hp.1 43 35).toInt ≠ 0 ∧ wI = 4 → Q (some (.int (hp.1 43 43))) (SH b xs) (sI hp 43 0 0)) (h3 : (hp.1 43 35).toInt ≠ 0 ∧ wI = 3 ∧ (hp.1 43 42).toInt ≠ 0 → Q (some (.int 1)) (SH b xs) (sI hp 43 0 0)) (h5 : (hp.1 43 35).toInt ≠ 0 ∧ wI = 3 ∧ (hp.1 43 42).toInt = 0 → Q (some (.int 0)) (SH b xs) (sI hp 43 0 0)) (h6 : (hp.1 43 35).toInt = 0 ∨ wI < 0 ∨ 4 < wI → Q (some (.int (-1))) (SH b xs) (sI hp 43 0 0)) : gC mX10_roasted d 0 0 [.ref 43, .int w] (SH b xs) hp Q := by
  refine g_enter okX10_roasted (plainFor_of_name rfl) rfl ?_
  refine g_run 5 rfl ?_
  refine gz_ne (kx := (hp.1 43 35).toInt) rfl rfl (fun k1 => ?_) (fun k1 => ?_)
  · refine g_run 1 rfl ?_
    refine gz_ne (kx := wI) rfl wE (fun k2 => ?_) (fun k2 => ?_)
    · refine g_run 2 rfl ?_
      refine gj_ne (kx := wI) (kz := 1) rfl wE (by decide) (fun k3 => ?_) (fun k3 => ?_)
      · refine g_run 2 rfl ?_
        refine gj_ne (kx := wI) (kz := 2) rfl wE (by decide) (fun k4 => ?_) (fun k4 => ?_)
        · refine g_run 2 rfl ?_
          refine gj_ne (kx := wI) (kz := 3) rfl wE (by decide) (fun k5 => ?_) (fun k5 => ?_)
          · refine g_run 2 rfl ?_
            refine gj_ne (kx := wI) (kz := 4) rfl wE (by decide) (fun k6 => ?_) (fun k6 => ?_)
            · refine g_run 1 rfl ?_
              exact g_iret rfl rfl (by first | exact h0 (by omega) | exact h1 (by omega) | exact h2 (by omega) | exact h4 (by omega) | exact h3 (by omega) | exact h5 (by omega) | exact h6 (by omega))
            · refine g_run 3 rfl ?_
              exact g_iret rfl rfl (by first | exact h0 (by omega) | exact h1 (by omega) | exact h2 (by omega) | exact h4 (by omega) | exact h3 (by omega) | exact h5 (by omega) | exact h6 (by omega))
          · refine g_run 2 rfl ?_
            refine gz_eq (kx := (hp.1 43 42).toInt) rfl rfl (fun k7 => ?_) (fun k7 => ?_)
            · refine g_run 2 rfl ?_
              exact g_iret rfl rfl (by first | exact h0 (by omega) | exact h1 (by omega) | exact h2 (by omega) | exact h4 (by omega) | exact h3 (by omega) | exact h5 (by omega) | exact h6 (by omega))
            · refine g_run 2 rfl ?_
              exact g_iret rfl rfl (by first | exact h0 (by omega) | exact h1 (by omega) | exact h2 (by omega) | exact h4 (by omega) | exact h3 (by omega) | exact h5 (by omega) | exact h6 (by omega))
        · refine g_run 3 rfl ?_
          exact g_iret rfl rfl (by first | exact h0 (by omega) | exact h1 (by omega) | exact h2 (by omega) | exact h4 (by omega) | exact h3 (by omega) | exact h5 (by omega) | exact h6 (by omega))
      · refine g_run 3 rfl ?_
        exact g_iret rfl rfl (by first | exact h0 (by omega) | exact h1 (by omega) | exact h2 (by omega) | exact h4 (by omega) | exact h3 (by omega) | exact h5 (by omega) | exact h6 (by omega))
    · refine g_run 3 rfl ?_
      exact g_iret rfl rfl (by first | exact h0 (by omega) | exact h1 (by omega) | exact h2 (by omega) | exact h4 (by omega) | exact h3 (by omega) | exact h5 (by omega) | exact h6 (by omega))
  · refine g_run 1 rfl ?_
    exact g_iret rfl rfl (by first | exact h0 (by omega) | exact h1 (by omega) | exact h2 (by omega) | exact h4 (by omega) | exact h3 (by omega) | exact h5 (by omega) | exact h6 (by omega))
theorem c_X10_thrown (h1 : Q (some (.int (hp.1 43 0))) (SH b xs) hp) : gC mX10_thrown d 0 0 [.ref 43] (SH b xs) hp Q := by
  refine g_enter okX10_thrown (plainFor_of_name rfl) rfl ?_
  refine g_run 2 rfl ?_
  exact g_iret rfl rfl h1
theorem c_X9_count_false {w : Int32} {wI : Int} (wE : w.toInt = wI) (hs : 0 ≤ (hp.1 17 0).toInt ∧ (hp.1 17 0).toInt ≤ 60) (h0 : wI = 0 → Q (some (.int (hp.1 1 0))) (SH false xs) hp) (h1 : wI = 1 → Q (some (.int (hp.1 17 0))) (SH false xs) hp) (h2 : wI = 2 → Q (some (.int (hp.1 0 9))) (SH false xs) hp) (h3 : wI = 3 → Q (some (.int (hp.1 (rl false) 0))) (SH false xs) hp) (h4 : wI = 4 → Q (some (.int (hp.1 5 1))) (SH false xs) hp) (h5 : wI = 5 → Q (some (.int (hp.1 17 1))) (SH false xs) hp) (h6 : wI = 6 → Q (some (.int (sumI (hp.1 18) (hp.1 17 0).toInt.toNat))) (SH false xs) hp) (h7 : wI < 0 ∨ 6 < wI → Q (some (.int (-1))) (SH false xs) hp) : gC mX9_count (d + 1) 0 0 [.ref 0, .int w] (SH false xs) hp Q := by
  refine g_enter okX9_count (plainFor_of_name rfl) rfl ?_
  refine g_run 1 rfl ?_
  rcases (show wI < 0 ∨ 6 < wI ∨ wI = 0 ∨ wI = 1 ∨ wI = 2 ∨ wI = 3 ∨ wI = 4 ∨ wI = 5 ∨ wI = 6 by omega) with k1 | k1 | k1 | k1 | k1 | k1 | k1 | k1 | k1
  · refine g_tabOut (tgt := 97) rfl (Or.inl (by rw [show _ = wI from wE]; omega)) (by decide) ?_
    refine g_run 1 rfl ?_
    exact g_iret rfl rfl (by first | exact h0 (by omega) | exact h1 (by omega) | exact h2 (by omega) | exact h3 (by omega) | exact h4 (by omega) | exact h5 (by omega) | exact h6 (by omega) | exact h7 (by omega))
  · refine g_tabOut (tgt := 97) rfl (Or.inr (by rw [show _ = wI from wE]; omega)) (by decide) ?_
    refine g_run 1 rfl ?_
    exact g_iret rfl rfl (by first | exact h0 (by omega) | exact h1 (by omega) | exact h2 (by omega) | exact h3 (by omega) | exact h4 (by omega) | exact h5 (by omega) | exact h6 (by omega) | exact h7 (by omega))
  · refine g_tabIn (i := 0) (tgt := 44) rfl ((show _ = wI from wE).trans (by omega)) (by decide) rfl (by decide) ?_
    refine g_run 3 rfl ?_
    exact g_iret rfl rfl (by first | exact h0 (by omega) | exact h1 (by omega) | exact h2 (by omega) | exact h3 (by omega) | exact h4 (by omega) | exact h5 (by omega) | exact h6 (by omega) | exact h7 (by omega))
  · refine g_tabIn (i := 1) (tgt := 52) rfl ((show _ = wI from wE).trans (by omega)) (by decide) rfl (by decide) ?_
    refine g_run 3 rfl ?_
    exact g_iret rfl rfl (by first | exact h0 (by omega) | exact h1 (by omega) | exact h2 (by omega) | exact h3 (by omega) | exact h4 (by omega) | exact h5 (by omega) | exact h6 (by omega) | exact h7 (by omega))
  · refine g_tabIn (i := 2) (tgt := 60) rfl ((show _ = wI from wE).trans (by omega)) (by decide) rfl (by decide) ?_
    refine g_run 2 rfl ?_
    exact g_iret rfl rfl (by first | exact h0 (by omega) | exact h1 (by omega) | exact h2 (by omega) | exact h3 (by omega) | exact h4 (by omega) | exact h5 (by omega) | exact h6 (by omega) | exact h7 (by omega))
  · refine g_tabIn (i := 3) (tgt := 65) rfl ((show _ = wI from wE).trans (by omega)) (by decide) rfl (by decide) ?_
    refine g_run 3 rfl ?_
    exact g_iret rfl rfl (by first | exact h0 (by omega) | exact h1 (by omega) | exact h2 (by omega) | exact h3 (by omega) | exact h4 (by omega) | exact h5 (by omega) | exact h6 (by omega) | exact h7 (by omega))
  · refine g_tabIn (i := 4) (tgt := 73) rfl ((show _ = wI from wE).trans (by omega)) (by decide) rfl (by decide) ?_
    refine g_run 3 rfl ?_
    exact g_iret rfl rfl (by first | exact h0 (by omega) | exact h1 (by omega) | exact h2 (by omega) | exact h3 (by omega) | exact h4 (by omega) | exact h5 (by omega) | exact h6 (by omega) | exact h7 (by omega))
  · refine g_tabIn (i := 5) (tgt := 81) rfl ((show _ = wI from wE).trans (by omega)) (by decide) rfl (by decide) ?_
    refine g_run 3 rfl ?_
    exact g_iret rfl rfl (by first | exact h0 (by omega) | exact h1 (by omega) | exact h2 (by omega) | exact h3 (by omega) | exact h4 (by omega) | exact h5 (by omega) | exact h6 (by omega) | exact h7 (by omega))
  · refine g_tabIn (i := 6) (tgt := 89) rfl ((show _ = wI from wE).trans (by omega)) (by decide) rfl (by decide) ?_
    refine g_run 2 rfl ?_
    refine g_callV0 rfl LX9_210 rfl rfl rfl rfl ?_
    refine c_X0_allGrams hs ?_
    exact g_iret rfl rfl (by first | exact h0 (by omega) | exact h1 (by omega) | exact h2 (by omega) | exact h3 (by omega) | exact h4 (by omega) | exact h5 (by omega) | exact h6 (by omega) | exact h7 (by omega))
theorem c_X9_count_true {w : Int32} {wI : Int} (wE : w.toInt = wI) (hs : 0 ≤ (hp.1 17 0).toInt ∧ (hp.1 17 0).toInt ≤ 60) (h0 : wI = 0 → Q (some (.int (hp.1 1 0))) (SH true xs) hp) (h1 : wI = 1 → Q (some (.int (hp.1 17 0))) (SH true xs) hp) (h2 : wI = 2 → Q (some (.int (hp.1 0 9))) (SH true xs) hp) (h3 : wI = 3 → Q (some (.int (hp.1 (rl true) 0))) (SH true xs) hp) (h4 : wI = 4 → Q (some (.int (hp.1 5 1))) (SH true xs) hp) (h5 : wI = 5 → Q (some (.int (hp.1 17 1))) (SH true xs) hp) (h6 : wI = 6 → Q (some (.int (sumI (hp.1 18) (hp.1 17 0).toInt.toNat))) (SH true xs) hp) (h7 : wI < 0 ∨ 6 < wI → Q (some (.int (-1))) (SH true xs) hp) : gC mX9_count (d + 1) 0 0 [.ref 0, .int w] (SH true xs) hp Q := by
  refine g_enter okX9_count (plainFor_of_name rfl) rfl ?_
  refine g_run 1 rfl ?_
  rcases (show wI < 0 ∨ 6 < wI ∨ wI = 0 ∨ wI = 1 ∨ wI = 2 ∨ wI = 3 ∨ wI = 4 ∨ wI = 5 ∨ wI = 6 by omega) with k1 | k1 | k1 | k1 | k1 | k1 | k1 | k1 | k1
  · refine g_tabOut (tgt := 97) rfl (Or.inl (by rw [show _ = wI from wE]; omega)) (by decide) ?_
    refine g_run 1 rfl ?_
    exact g_iret rfl rfl (by first | exact h0 (by omega) | exact h1 (by omega) | exact h2 (by omega) | exact h3 (by omega) | exact h4 (by omega) | exact h5 (by omega) | exact h6 (by omega) | exact h7 (by omega))
  · refine g_tabOut (tgt := 97) rfl (Or.inr (by rw [show _ = wI from wE]; omega)) (by decide) ?_
    refine g_run 1 rfl ?_
    exact g_iret rfl rfl (by first | exact h0 (by omega) | exact h1 (by omega) | exact h2 (by omega) | exact h3 (by omega) | exact h4 (by omega) | exact h5 (by omega) | exact h6 (by omega) | exact h7 (by omega))
  · refine g_tabIn (i := 0) (tgt := 44) rfl ((show _ = wI from wE).trans (by omega)) (by decide) rfl (by decide) ?_
    refine g_run 3 rfl ?_
    exact g_iret rfl rfl (by first | exact h0 (by omega) | exact h1 (by omega) | exact h2 (by omega) | exact h3 (by omega) | exact h4 (by omega) | exact h5 (by omega) | exact h6 (by omega) | exact h7 (by omega))
  · refine g_tabIn (i := 1) (tgt := 52) rfl ((show _ = wI from wE).trans (by omega)) (by decide) rfl (by decide) ?_
    refine g_run 3 rfl ?_
    exact g_iret rfl rfl (by first | exact h0 (by omega) | exact h1 (by omega) | exact h2 (by omega) | exact h3 (by omega) | exact h4 (by omega) | exact h5 (by omega) | exact h6 (by omega) | exact h7 (by omega))
  · refine g_tabIn (i := 2) (tgt := 60) rfl ((show _ = wI from wE).trans (by omega)) (by decide) rfl (by decide) ?_
    refine g_run 2 rfl ?_
    exact g_iret rfl rfl (by first | exact h0 (by omega) | exact h1 (by omega) | exact h2 (by omega) | exact h3 (by omega) | exact h4 (by omega) | exact h5 (by omega) | exact h6 (by omega) | exact h7 (by omega))
  · refine g_tabIn (i := 3) (tgt := 65) rfl ((show _ = wI from wE).trans (by omega)) (by decide) rfl (by decide) ?_
    refine g_run 3 rfl ?_
    exact g_iret rfl rfl (by first | exact h0 (by omega) | exact h1 (by omega) | exact h2 (by omega) | exact h3 (by omega) | exact h4 (by omega) | exact h5 (by omega) | exact h6 (by omega) | exact h7 (by omega))
  · refine g_tabIn (i := 4) (tgt := 73) rfl ((show _ = wI from wE).trans (by omega)) (by decide) rfl (by decide) ?_
    refine g_run 3 rfl ?_
    exact g_iret rfl rfl (by first | exact h0 (by omega) | exact h1 (by omega) | exact h2 (by omega) | exact h3 (by omega) | exact h4 (by omega) | exact h5 (by omega) | exact h6 (by omega) | exact h7 (by omega))
  · refine g_tabIn (i := 5) (tgt := 81) rfl ((show _ = wI from wE).trans (by omega)) (by decide) rfl (by decide) ?_
    refine g_run 3 rfl ?_
    exact g_iret rfl rfl (by first | exact h0 (by omega) | exact h1 (by omega) | exact h2 (by omega) | exact h3 (by omega) | exact h4 (by omega) | exact h5 (by omega) | exact h6 (by omega) | exact h7 (by omega))
  · refine g_tabIn (i := 6) (tgt := 89) rfl ((show _ = wI from wE).trans (by omega)) (by decide) rfl (by decide) ?_
    refine g_run 2 rfl ?_
    refine g_callV0 rfl LX9_210 rfl rfl rfl rfl ?_
    refine c_X0_allGrams hs ?_
    exact g_iret rfl rfl (by first | exact h0 (by omega) | exact h1 (by omega) | exact h2 (by omega) | exact h3 (by omega) | exact h4 (by omega) | exact h5 (by omega) | exact h6 (by omega) | exact h7 (by omega))
theorem c_X9_count {w : Int32} {wI : Int} (wE : w.toInt = wI) (hs : 0 ≤ (hp.1 17 0).toInt ∧ (hp.1 17 0).toInt ≤ 60) (h0 : wI = 0 → Q (some (.int (hp.1 1 0))) (SH b xs) hp) (h1 : wI = 1 → Q (some (.int (hp.1 17 0))) (SH b xs) hp) (h2 : wI = 2 → Q (some (.int (hp.1 0 9))) (SH b xs) hp) (h3 : wI = 3 → Q (some (.int (hp.1 (rl b) 0))) (SH b xs) hp) (h4 : wI = 4 → Q (some (.int (hp.1 5 1))) (SH b xs) hp) (h5 : wI = 5 → Q (some (.int (hp.1 17 1))) (SH b xs) hp) (h6 : wI = 6 → Q (some (.int (sumI (hp.1 18) (hp.1 17 0).toInt.toNat))) (SH b xs) hp) (h7 : wI < 0 ∨ 6 < wI → Q (some (.int (-1))) (SH b xs) hp) : gC mX9_count (d + 1) 0 0 [.ref 0, .int w] (SH b xs) hp Q := by
  cases b
  · exact c_X9_count_false wE hs h0 h1 h2 h3 h4 h5 h6 h7
  · exact c_X9_count_true wE hs h0 h1 h2 h3 h4 h5 h6 h7
end S15
end
section
/-! asking calls of the reference -/
section S16
variable {d : Nat} {sh : sh_T} {hp : hp_T} {Q : Option Value → sh_T → hp_T → Prop} {b : Bool} {xs : sh_T}
theorem lp_X10_gramsIn  {n : Int32} {nI : Int} (nE : n.toInt = nI) (hn : 0 ≤ nI ∧ nI < 60) (h1 : Q (some (.int (sumI (fun l => hp.1 63 ((12 * nI) + (l : Int)).toNat) 12))) (SH b xs) hp) : ∀ (f k : Nat) (i : Int32), i.toInt = (k : Int) → k ≤ 12 → 12 - k < f → gG mX10_gramsIn d 0 0 (zQ 0 0 Q) 0 0 (4, [.ref 43, .int n, .int (sumI (fun l => hp.1 63 ((12 * nI) + (l : Int)).toNat) k), .int i], [], (SH b xs), hp) := by
  intro f
  induction f with
  | zero => intros; omega
  | succ f ih =>
    intro k i iE hk hf
    refine g_run 2 rfl ?_
    refine gj_ge (kx := (k : Int)) (kz := 12) rfl iE (by decide) (fun k1 => ?_) (fun k1 => ?_)
    · refine g_run 1 rfl ?_
      obtain rfl : k = 12 := by omega
      exact g_iret rfl rfl h1
    · refine g_run 8 rfl ?_
      refine g_iald (j := ((12 * nI) + (k : Int)).toNat) rfl rfl ((show _ = ((12 * nI) + (k : Int)) from (ia_add2 (ia_mul2 (by decide) nE (by omega) (by omega)) iE (by omega) (by omega))).trans (by omega)) (by omega) ?_
      refine g_run 4 rfl ?_
      exact ih (k + 1) _ (inc1 iE (by omega)) (by omega) (by omega)
theorem c_X10_gramsIn {n : Int32} {nI : Int} (nE : n.toInt = nI) (hn : 0 ≤ nI ∧ nI < 60) (h1 : Q (some (.int (sumI (fun l => hp.1 63 ((12 * nI) + (l : Int)).toNat) 12))) (SH b xs) hp) : gC mX10_gramsIn d 0 0 [.ref 43, .int n] (SH b xs) hp Q := by
  refine g_enter okX10_gramsIn (plainFor_of_name rfl) rfl ?_
  refine g_run 4 rfl ?_
  exact lp_X10_gramsIn nE hn h1 13 0 0 (by decide) (by omega) (by omega)
theorem c_X10_take {n : Int32} {nI : Int} {g : Int32} {gI : Int} (nE : n.toInt = nI) (gE : g.toInt = gI) (ms : 0 ≤ (hp.1 43 30).toInt ∧ (hp.1 43 30).toInt ≤ 60) (h1 : 0 ≤ nI ∧ nI < (hp.1 43 30).toInt ∧ (hp.1 67 nI.toNat).toInt ≤ 0 ∧ (hp.1 65 nI.toNat).toInt < 0 ∧ 1 ≤ gI ∧ gI ≤ (sumI (fun l => hp.1 63 ((12 * nI) + (l : Int)).toNat) 12).toInt → Q (some (.int (hp.1 43 44 + 1))) (SH b xs) (sI (sI (sI hp 43 0 0) 67 nI.toNat g) 43 44 (hp.1 43 44 + 1))) (h0 : nI < 0 ∨ (hp.1 43 30).toInt ≤ nI ∨ 0 < (hp.1 67 nI.toNat).toInt ∨ 0 ≤ (hp.1 65 nI.toNat).toInt ∨ gI < 1 ∨ (sumI (fun l => hp.1 63 ((12 * nI) + (l : Int)).toNat) 12).toInt < gI → Q (some (.int (-1))) (SH b xs) (sI hp 43 0 0)) : gC mX10_take (d + 1) 0 0 [.ref 43, .int n, .int g] (SH b xs) hp Q := by
  refine g_enter okX10_take (plainFor_of_name rfl) rfl ?_
  refine g_run 5 rfl ?_
  refine g_callV0 rfl LX10_286 rfl rfl rfl rfl ?_
  refine c_X10_isBag (nI := nI) (zI := (hp.1 43 30).toInt) nE rfl (fun k1 => ?_) (fun k2 => ?_)
  · refine gz_eq (kx := 1) rfl (show (1 : Int32).toInt = 1 from by decide) (fun q => absurd q (by decide)) (fun _ => ?_)
    refine g_run 2 rfl ?_
    refine gj_lt (kx := gI) (kz := 1) rfl gE (by decide) (fun k3 => ?_) (fun k3 => ?_)
    · refine g_run 1 rfl ?_
      exact g_iret rfl rfl (by first | exact h1 (by omega) | exact h0 (by omega))
    · refine g_run 3 rfl ?_
      refine g_callV0 rfl LX10_289 rfl rfl rfl rfl ?_
      refine c_X10_gramsIn (nI := nI) nE (by omega) ?_
      refine gj_gt (kx := gI) (kz := (sumI (fun l => hp.1 63 ((12 * nI) + (l : Int)).toNat) 12).toInt) rfl gE rfl (fun k4 => ?_) (fun k4 => ?_)
      · refine g_run 1 rfl ?_
        exact g_iret rfl rfl (by first | exact h1 (by omega) | exact h0 (by omega))
      · refine g_run 3 rfl ?_
        refine g_iald (j := nI.toNat) rfl rfl ((show _ = nI from nE).trans (by omega)) (by omega) ?_
        refine gz_gt (kx := (hp.1 67 nI.toNat).toInt) rfl rfl (fun k5 => ?_) (fun k5 => ?_)
        · refine g_run 1 rfl ?_
          exact g_iret rfl rfl (by first | exact h1 (by omega) | exact h0 (by omega))
        · refine g_run 3 rfl ?_
          refine g_iald (j := nI.toNat) rfl rfl ((show _ = nI from nE).trans (by omega)) (by omega) ?_
          refine gz_lt (kx := (hp.1 65 nI.toNat).toInt) rfl rfl (fun k6 => ?_) (fun k6 => ?_)
          · refine g_run 4 rfl ?_
            refine g_iast (j := nI.toNat) rfl rfl ((show _ = nI from nE).trans (by omega)) (by omega) ?_
            refine g_run 8 rfl ?_
            exact g_iret rfl rfl (by first | exact h1 (by omega) | exact h0 (by omega))
          · refine g_run 1 rfl ?_
            exact g_iret rfl rfl (by first | exact h1 (by omega) | exact h0 (by omega))
  · refine gz_eq (kx := 0) rfl (show (0 : Int32).toInt = 0 from by decide) (fun _ => ?_) (fun q => absurd q (by decide))
    refine g_run 1 rfl ?_
    exact g_iret rfl rfl (by first | exact h1 (by omega) | exact h0 (by omega))
theorem c_X10_part_ {n : Int32} {nI : Int} {l : Int32} {lI : Int} (nE : n.toInt = nI) (lE : l.toInt = lI) (ml : 0 ≤ (hp.1 43 26).toInt ∧ (hp.1 43 26).toInt ≤ 12) (ms : 0 ≤ (hp.1 43 30).toInt ∧ (hp.1 43 30).toInt ≤ 60) (h2 : (0 ≤ lI ∧ lI < (hp.1 43 26).toInt ∧ nI = -1) → Q (some (.int (hp.1 60 lI.toNat))) (SH b xs) (sI hp 43 0 0)) (h1 : (0 ≤ lI ∧ lI < (hp.1 43 26).toInt ∧ 0 ≤ nI ∧ nI < (hp.1 43 30).toInt) → Q (some (.int (hp.1 63 ((12 * nI) + lI).toNat))) (SH b xs) (sI hp 43 0 0)) (h0 : (lI < 0 ∨ (hp.1 43 26).toInt ≤ lI ∨ (nI ≠ -1 ∧ (nI < 0 ∨ (hp.1 43 30).toInt ≤ nI))) → Q (some (.int (-1))) (SH b xs) (sI hp 43 0 0)) : gC mX10_part_ (d + 1) 0 0 [.ref 43, .int n, .int l] (SH b xs) hp Q := by
  refine g_enter okX10_part_ (plainFor_of_name rfl) rfl ?_
  refine g_run 5 rfl ?_
  refine g_callV0 rfl LX10_274 rfl rfl rfl rfl ?_
  refine c_X10_isLot (nI := lI) (zI := (hp.1 43 26).toInt) lE rfl (fun k1 => ?_) (fun k2 => ?_)
  · refine gz_eq (kx := 1) rfl (show (1 : Int32).toInt = 1 from by decide) (fun q => absurd q (by decide)) (fun _ => ?_)
    refine g_run 2 rfl ?_
    refine gj_eq (kx := nI) (kz := (-1)) rfl nE (by decide) (fun k3 => ?_) (fun k3 => ?_)
    · refine g_run 2 rfl ?_
      refine gj_ne (kx := nI) (kz := (-1)) rfl nE (by decide) (fun k4 => ?_) (fun k4 => ?_)
      · refine g_run 7 rfl ?_
        refine g_iald (j := ((12 * nI) + lI).toNat) rfl rfl ((show _ = ((12 * nI) + lI) from (ia_add2 (ia_mul2 (by decide) nE (by omega) (by omega)) lE (by omega) (by omega))).trans (by omega)) (by omega) ?_
        exact g_iret rfl rfl (by first | exact h2 (by omega) | exact h1 (by omega) | exact h0 (by omega))
      · refine g_run 3 rfl ?_
        refine g_iald (j := lI.toNat) rfl rfl ((show _ = lI from lE).trans (by omega)) (by omega) ?_
        refine g_run 1 rfl ?_
        exact g_iret rfl rfl (by first | exact h2 (by omega) | exact h1 (by omega) | exact h0 (by omega))
    · refine g_run 2 rfl ?_
      refine g_callV0 rfl LX10_286 rfl rfl rfl rfl ?_
      refine c_X10_isBag (nI := nI) (zI := (hp.1 43 30).toInt) nE rfl (fun k5 => ?_) (fun k6 => ?_)
      · refine gz_ne (kx := 1) rfl (show (1 : Int32).toInt = 1 from by decide) (fun _ => ?_) (fun q => absurd q (by decide))
        refine g_run 2 rfl ?_
        refine gj_ne (kx := nI) (kz := (-1)) rfl nE (by decide) (fun k7 => ?_) (fun k7 => ?_)
        · refine g_run 7 rfl ?_
          refine g_iald (j := ((12 * nI) + lI).toNat) rfl rfl ((show _ = ((12 * nI) + lI) from (ia_add2 (ia_mul2 (by decide) nE (by omega) (by omega)) lE (by omega) (by omega))).trans (by omega)) (by omega) ?_
          exact g_iret rfl rfl (by first | exact h2 (by omega) | exact h1 (by omega) | exact h0 (by omega))
        · refine g_run 3 rfl ?_
          refine g_iald (j := lI.toNat) rfl rfl ((show _ = lI from lE).trans (by omega)) (by omega) ?_
          refine g_run 1 rfl ?_
          exact g_iret rfl rfl (by first | exact h2 (by omega) | exact h1 (by omega) | exact h0 (by omega))
      · refine gz_ne (kx := 0) rfl (show (0 : Int32).toInt = 0 from by decide) (fun q => absurd q (by decide)) (fun _ => ?_)
        refine g_run 2 rfl ?_
        exact g_iret rfl rfl (by first | exact h2 (by omega) | exact h1 (by omega) | exact h0 (by omega))
  · refine gz_eq (kx := 0) rfl (show (0 : Int32).toInt = 0 from by decide) (fun _ => ?_) (fun q => absurd q (by decide))
    refine g_run 2 rfl ?_
    exact g_iret rfl rfl (by first | exact h2 (by omega) | exact h1 (by omega) | exact h0 (by omega))
theorem c_X10_send {n : Int32} {nI : Int} {u : Int32} {uI : Int} (nE : n.toInt = nI) (uE : u.toInt = uI) (ms : 0 ≤ (hp.1 43 30).toInt ∧ (hp.1 43 30).toInt ≤ 60) (h1 : 0 ≤ nI ∧ nI < (hp.1 43 30).toInt ∧ 0 ≤ uI ∧ uI < 10 ∧ (hp.1 65 nI.toNat).toInt < 0 ∧ (hp.1 67 nI.toNat).toInt ≤ 0 ∧ (sumI (fun l => hp.1 63 ((12 * nI) + (l : Int)).toNat) 12).toInt ≠ 0 → Q (some (.int 1)) (SH b xs) (sI (sI hp 43 0 0) 65 nI.toNat u)) (h0 : nI < 0 ∨ (hp.1 43 30).toInt ≤ nI ∨ uI < 0 ∨ 10 ≤ uI ∨ 0 ≤ (hp.1 65 nI.toNat).toInt ∨ 0 < (hp.1 67 nI.toNat).toInt ∨ (sumI (fun l => hp.1 63 ((12 * nI) + (l : Int)).toNat) 12).toInt = 0 → Q (some (.int 0)) (SH b xs) (sI hp 43 0 0)) : gC mX10_send (d + 1) 0 0 [.ref 43, .int n, .int u] (SH b xs) hp Q := by
  refine g_enter okX10_send (plainFor_of_name rfl) rfl ?_
  refine g_run 5 rfl ?_
  refine g_callV0 rfl LX10_286 rfl rfl rfl rfl ?_
  refine c_X10_isBag (nI := nI) (zI := (hp.1 43 30).toInt) nE rfl (fun k1 => ?_) (fun k2 => ?_)
  · refine gz_eq (kx := 1) rfl (show (1 : Int32).toInt = 1 from by decide) (fun q => absurd q (by decide)) (fun _ => ?_)
    refine g_run 1 rfl ?_
    refine g_callS0 rfl LX10_343 rfl rfl ?_
    refine c_X10_isHouse (nI := uI) uE (fun k3 => ?_) (fun k4 => ?_)
    · refine gz_eq (kx := 1) rfl (show (1 : Int32).toInt = 1 from by decide) (fun q => absurd q (by decide)) (fun _ => ?_)
      refine g_run 3 rfl ?_
      refine g_iald (j := nI.toNat) rfl rfl ((show _ = nI from nE).trans (by omega)) (by omega) ?_
      refine gz_ge (kx := (hp.1 65 nI.toNat).toInt) rfl rfl (fun k5 => ?_) (fun k5 => ?_)
      · refine g_run 1 rfl ?_
        exact g_zret rfl rfl (Or.inl rfl) (by first | exact h1 (by omega) | exact h0 (by omega))
      · refine g_run 3 rfl ?_
        refine g_iald (j := nI.toNat) rfl rfl ((show _ = nI from nE).trans (by omega)) (by omega) ?_
        refine gz_gt (kx := (hp.1 67 nI.toNat).toInt) rfl rfl (fun k6 => ?_) (fun k6 => ?_)
        · refine g_run 1 rfl ?_
          exact g_zret rfl rfl (Or.inl rfl) (by first | exact h1 (by omega) | exact h0 (by omega))
        · refine g_run 2 rfl ?_
          refine g_callV0 rfl LX10_289 rfl rfl rfl rfl ?_
          refine c_X10_gramsIn (nI := nI) nE (by omega) ?_
          refine gz_ne (kx := (sumI (fun l => hp.1 63 ((12 * nI) + (l : Int)).toNat) 12).toInt) rfl rfl (fun k7 => ?_) (fun k7 => ?_)
          · refine g_run 4 rfl ?_
            refine g_iast (j := nI.toNat) rfl rfl ((show _ = nI from nE).trans (by omega)) (by omega) ?_
            refine g_run 1 rfl ?_
            exact g_zret rfl rfl (Or.inr rfl) (by first | exact h1 (by omega) | exact h0 (by omega))
          · refine g_run 1 rfl ?_
            exact g_zret rfl rfl (Or.inl rfl) (by first | exact h1 (by omega) | exact h0 (by omega))
    · refine gz_eq (kx := 0) rfl (show (0 : Int32).toInt = 0 from by decide) (fun _ => ?_) (fun q => absurd q (by decide))
      refine g_run 1 rfl ?_
      exact g_zret rfl rfl (Or.inl rfl) (by first | exact h1 (by omega) | exact h0 (by omega))
  · refine gz_eq (kx := 0) rfl (show (0 : Int32).toInt = 0 from by decide) (fun _ => ?_) (fun q => absurd q (by decide))
    refine g_run 1 rfl ?_
    exact g_zret rfl rfl (Or.inl rfl) (by first | exact h1 (by omega) | exact h0 (by omega))
theorem c_X10_tenths {l : Int32} {lI : Int} (lE : l.toInt = lI) (ml : 0 ≤ (hp.1 43 26).toInt ∧ (hp.1 43 26).toInt ≤ 12) (h1 : 0 ≤ lI ∧ lI < (hp.1 43 26).toInt ∧ (hp.1 43 56).toInt ≠ 0 → Q (some (.int (hp.1 75 lI.toNat))) (SH b xs) (sI hp 43 0 0)) (h0 : lI < 0 ∨ (hp.1 43 26).toInt ≤ lI ∨ (hp.1 43 56).toInt = 0 → Q (some (.int (-1))) (SH b xs) (sI hp 43 0 0)) : gC mX10_tenths (d + 1) 0 0 [.ref 43, .int l] (SH b xs) hp Q := by
  refine g_enter okX10_tenths (plainFor_of_name rfl) rfl ?_
  refine g_run 5 rfl ?_
  refine g_callV0 rfl LX10_274 rfl rfl rfl rfl ?_
  refine c_X10_isLot (nI := lI) (zI := (hp.1 43 26).toInt) lE rfl (fun k1 => ?_) (fun k2 => ?_)
  · refine gz_eq (kx := 1) rfl (show (1 : Int32).toInt = 1 from by decide) (fun q => absurd q (by decide)) (fun _ => ?_)
    refine g_run 2 rfl ?_
    refine gz_ne (kx := (hp.1 43 56).toInt) rfl rfl (fun k3 => ?_) (fun k3 => ?_)
    · refine g_run 3 rfl ?_
      refine g_iald (j := lI.toNat) rfl rfl ((show _ = lI from lE).trans (by omega)) (by omega) ?_
      exact g_iret rfl rfl (by first | exact h1 (by omega) | exact h0 (by omega))
    · refine g_run 2 rfl ?_
      exact g_iret rfl rfl (by first | exact h1 (by omega) | exact h0 (by omega))
  · refine gz_eq (kx := 0) rfl (show (0 : Int32).toInt = 0 from by decide) (fun _ => ?_) (fun q => absurd q (by decide))
    refine g_run 2 rfl ?_
    exact g_iret rfl rfl (by first | exact h1 (by omega) | exact h0 (by omega))
theorem lp_X10_stale  (ms : 0 ≤ (hp.1 43 30).toInt ∧ (hp.1 43 30).toInt ≤ 60) (hk : 0 ≤ (hp.1 43 25).toInt ∧ (hp.1 43 25).toInt ≤ 999) (hr : ∀ i, i < 60 → 0 ≤ (hp.1 64 i).toInt ∧ (hp.1 64 i).toInt ≤ 999) {h : Int32} {hI : Int} (hE : h.toInt = hI) (h1 : 0 ≤ hI ∧ hI < 10 → Q (some (.int (cntI (fun k => decide (0 ≤ hI ∧ hI < 10 ∧ (hp.1 65 k).toInt = hI ∧ (hp.1 76 hI.toNat).toInt < (hp.1 43 25).toInt - (hp.1 64 k).toInt)) (hp.1 43 30).toInt.toNat))) (SH b xs) hp) (h0 : hI < 0 ∨ 10 ≤ hI → Q (some (.int (-1))) (SH b xs) hp) : ∀ (f k : Nat) (i : Int32), i.toInt = (k : Int) → (k : Int) ≤ (hp.1 43 30).toInt → (hp.1 43 30).toInt.toNat - k < f → gG mX10_stale (d + 1) 0 0 (zQ 0 0 Q) 0 0 (9, [.ref 43, .int h, .int (cntI (fun k => decide (0 ≤ hI ∧ hI < 10 ∧ (hp.1 65 k).toInt = hI ∧ (hp.1 76 hI.toNat).toInt < (hp.1 43 25).toInt - (hp.1 64 k).toInt)) k), .int i], [], (SH b xs), hp) := by
  intro f
  induction f with
  | zero => intros; omega
  | succ f ih =>
    intro k i iE hk0 hf
    have hrk := fun z : k < 60 => hr k z
    refine g_run 3 rfl ?_
    refine gj_ge (kx := (k : Int)) (kz := (hp.1 43 30).toInt) rfl iE rfl (fun k1 => ?_) (fun k1 => ?_)
    · refine g_run 1 rfl ?_
      refine g_callS0 rfl LX10_343 rfl rfl ?_
      refine c_X10_isHouse (nI := hI) hE (fun k2 => ?_) (fun k3 => ?_)
      · refine gz_eq (kx := 1) rfl (show (1 : Int32).toInt = 1 from by decide) (fun q => absurd q (by decide)) (fun _ => ?_)
        refine g_run 2 rfl ?_
        have e : k = (hp.1 43 30).toInt.toNat := by omega
        subst e
        exact g_iret rfl rfl (h1 (by omega))
      · refine gz_eq (kx := 0) rfl (show (0 : Int32).toInt = 0 from by decide) (fun _ => ?_) (fun q => absurd q (by decide))
        refine g_run 1 rfl ?_
        exact g_iret rfl rfl (h0 (by omega))
    · refine g_run 2 rfl ?_
      refine g_callS0 rfl LX10_343 rfl rfl ?_
      refine c_X10_isHouse (nI := hI) hE (fun k4 => ?_) (fun k5 => ?_)
      · refine gz_eq (kx := 1) rfl (show (1 : Int32).toInt = 1 from by decide) (fun q => absurd q (by decide)) (fun _ => ?_)
        refine g_run 3 rfl ?_
        refine g_iald (j := k) rfl rfl ((show _ = (k : Int) from iE).trans (by omega)) (by omega) ?_
        refine g_run 1 rfl ?_
        refine gj_ne (kx := (hp.1 65 k).toInt) (kz := hI) rfl rfl hE (fun k6 => ?_) (fun k6 => ?_)
        · refine g_run 5 rfl ?_
          rw [Int32.add_zero, cntI_f (p := (fun k => decide (0 ≤ hI ∧ hI < 10 ∧ (hp.1 65 k).toInt = hI ∧ (hp.1 76 hI.toNat).toInt < (hp.1 43 25).toInt - (hp.1 64 k).toInt))) (k := k) (by simp; omega)]
          exact ih (k + 1) _ (inc1 iE (by omega)) (by omega) (by omega)
        · refine g_run 5 rfl ?_
          refine g_iald (j := k) rfl rfl ((show _ = (k : Int) from iE).trans (by omega)) (by omega) ?_
          refine g_run 4 rfl ?_
          refine g_iald (j := hI.toNat) rfl rfl ((show _ = hI from hE).trans (by omega)) (by omega) ?_
          refine gj_le (kx := ((hp.1 43 25).toInt - (hp.1 64 k).toInt)) (kz := (hp.1 76 hI.toNat).toInt) rfl (ia_sub2 rfl rfl (by omega) (by omega)) rfl (fun k7 => ?_) (fun k7 => ?_)
          · refine g_run 5 rfl ?_
            rw [Int32.add_zero, cntI_f (p := (fun k => decide (0 ≤ hI ∧ hI < 10 ∧ (hp.1 65 k).toInt = hI ∧ (hp.1 76 hI.toNat).toInt < (hp.1 43 25).toInt - (hp.1 64 k).toInt))) (k := k) (by simp; omega)]
            exact ih (k + 1) _ (inc1 iE (by omega)) (by omega) (by omega)
          · refine g_run 6 rfl ?_
            rw [cntI_t (p := (fun k => decide (0 ≤ hI ∧ hI < 10 ∧ (hp.1 65 k).toInt = hI ∧ (hp.1 76 hI.toNat).toInt < (hp.1 43 25).toInt - (hp.1 64 k).toInt))) (k := k) (by simp; omega)]
            exact ih (k + 1) _ (inc1 iE (by omega)) (by omega) (by omega)
      · refine gz_eq (kx := 0) rfl (show (0 : Int32).toInt = 0 from by decide) (fun _ => ?_) (fun q => absurd q (by decide))
        refine g_run 5 rfl ?_
        rw [Int32.add_zero, cntI_f (p := (fun k => decide (0 ≤ hI ∧ hI < 10 ∧ (hp.1 65 k).toInt = hI ∧ (hp.1 76 hI.toNat).toInt < (hp.1 43 25).toInt - (hp.1 64 k).toInt))) (k := k) (by simp; omega)]
        exact ih (k + 1) _ (inc1 iE (by omega)) (by omega) (by omega)
theorem c_X10_stale {h : Int32} {hI : Int} (hE : h.toInt = hI) (ms : 0 ≤ (hp.1 43 30).toInt ∧ (hp.1 43 30).toInt ≤ 60) (hk : 0 ≤ (hp.1 43 25).toInt ∧ (hp.1 43 25).toInt ≤ 999) (hr : ∀ i, i < 60 → 0 ≤ (hp.1 64 i).toInt ∧ (hp.1 64 i).toInt ≤ 999) (h1 : 0 ≤ hI ∧ hI < 10 → Q (some (.int (cntI (fun k => decide (0 ≤ hI ∧ hI < 10 ∧ (hp.1 65 k).toInt = hI ∧ (hp.1 76 hI.toNat).toInt < (hp.1 43 25).toInt - (hp.1 64 k).toInt)) (hp.1 43 30).toInt.toNat))) (SH b xs) (sI hp 43 0 0)) (h0 : hI < 0 ∨ 10 ≤ hI → Q (some (.int (-1))) (SH b xs) (sI hp 43 0 0)) : gC mX10_stale (d + 1) 0 0 [.ref 43, .int h] (SH b xs) hp Q := by
  refine g_enter okX10_stale (plainFor_of_name rfl) rfl ?_
  refine g_run 7 rfl ?_
  exact lp_X10_stale (hp := (sI hp 43 0 0)) ms hk hr hE h1 h0 61 0 0 (by decide) (show ((0 : Nat) : Int) ≤ (hp.1 43 30).toInt from by omega) (by have : 0 ≤ (hp.1 43 30).toInt := ms.1; show (hp.1 43 30).toInt.toNat - 0 < 61; omega)
theorem lp_X10_found  (ms : 0 ≤ (hp.1 43 30).toInt ∧ (hp.1 43 30).toInt ≤ 60) (ml : 0 ≤ (hp.1 43 26).toInt ∧ (hp.1 43 26).toInt ≤ 12) {l q : Int32} {lI qI : Int} (lE : l.toInt = lI) (qE : q.toInt = qI) (h1 : 0 ≤ lI ∧ lI < (hp.1 43 26).toInt ∧ 0 ≤ qI → Q (some (.int (fndI (fun k => decide (0 < (hp.1 63 ((12 * (k : Int)) + lI).toNat).toInt)) q (hp.1 43 30).toInt.toNat 0))) (SH b xs) hp) (h0 : lI < 0 ∨ (hp.1 43 26).toInt ≤ lI ∨ qI < 0 → Q (some (.int (-1))) (SH b xs) hp) : ∀ (f k : Nat) (i : Int32), i.toInt = (k : Int) → (k : Int) ≤ (hp.1 43 30).toInt → (hp.1 43 30).toInt.toNat - k < f → fndI (fun k => decide (0 < (hp.1 63 ((12 * (k : Int)) + lI).toNat).toInt)) q ((hp.1 43 30).toInt.toNat - k) k = fndI (fun k => decide (0 < (hp.1 63 ((12 * (k : Int)) + lI).toNat).toInt)) q (hp.1 43 30).toInt.toNat 0 → gG mX10_found (d + 1) 0 0 (zQ 0 0 Q) 0 0 (10, [.ref 43, .int l, .int q, .int (q - cntI (fun k => decide (0 < (hp.1 63 ((12 * (k : Int)) + lI).toNat).toInt)) k), .int i], [], (SH b xs), hp) := by
  intro f
  induction f with
  | zero => intros; omega
  | succ f ih =>
    intro k i iE hk hf hg
    refine g_run 3 rfl ?_
    refine gj_ge (kx := (k : Int)) (kz := (hp.1 43 30).toInt) rfl iE rfl (fun k1 => ?_) (fun k1 => ?_)
    · refine g_run 1 rfl ?_
      by_cases hc : lI < 0 ∨ (hp.1 43 26).toInt ≤ lI ∨ qI < 0
      · exact g_iret rfl rfl (h0 hc)
      · have e : k = (hp.1 43 30).toInt.toNat := by omega
        rw [show (hp.1 43 30).toInt.toNat - k = 0 by omega] at hg
        have h2 := h1 (by omega)
        rw [← hg] at h2
        exact g_iret rfl rfl h2
    · refine g_run 2 rfl ?_
      refine g_callV0 rfl LX10_274 rfl rfl rfl rfl ?_
      refine c_X10_isLot (nI := lI) (zI := (hp.1 43 26).toInt) lE rfl (fun k2 => ?_) (fun k3 => ?_)
      · refine gz_eq (kx := 1) rfl (show (1 : Int32).toInt = 1 from by decide) (fun q => absurd q (by decide)) (fun _ => ?_)
        refine g_run 1 rfl ?_
        refine gz_lt (kx := qI) rfl qE (fun k4 => ?_) (fun k4 => ?_)
        · refine g_run 1 rfl ?_
          by_cases hc : lI < 0 ∨ (hp.1 43 26).toInt ≤ lI ∨ qI < 0
          · exact g_iret rfl rfl (h0 hc)
          · have e : k = (hp.1 43 30).toInt.toNat := by omega
            rw [show (hp.1 43 30).toInt.toNat - k = 0 by omega] at hg
            have h2 := h1 (by omega)
            rw [← hg] at h2
            exact g_iret rfl rfl h2
        · refine g_run 7 rfl ?_
          refine g_iald (j := ((12 * (k : Int)) + lI).toNat) rfl rfl ((show _ = ((12 * (k : Int)) + lI) from (ia_add2 (ia_mul2 (by decide) iE (by omega) (by omega)) lE (by omega) (by omega))).trans (by omega)) (by omega) ?_
          refine gz_le (kx := (hp.1 63 (((12 * (k : Int)) + lI).toNat)).toInt) rfl rfl (fun k5 => ?_) (fun k5 => ?_)
          · refine g_run 2 rfl ?_
            have e1 : (hp.1 43 30).toInt.toNat - k = ((hp.1 43 30).toInt.toNat - (k + 1)) + 1 := by omega
            rw [cntI_f (p := (fun k => decide (0 < (hp.1 63 ((12 * (k : Int)) + lI).toNat).toInt))) (k := k) (by simp; omega)]
            exact ih (k + 1) _ (inc1 iE (by omega)) (by omega) (by omega) (by rw [← hg, e1, fndI_p (by simp; omega)])
          · refine g_run 1 rfl ?_
            refine gz_ne (kx := (q - cntI (fun k => decide (0 < (hp.1 63 ((12 * (k : Int)) + lI).toNat).toInt)) k).toInt) rfl rfl (fun k6 => ?_) (fun k6 => ?_)
            · refine g_run 3 rfl ?_
              have e1 : (hp.1 43 30).toInt.toNat - k = ((hp.1 43 30).toInt.toNat - (k + 1)) + 1 := by omega
              rw [sub_s, cntI_t (p := (fun k => decide (0 < (hp.1 63 ((12 * (k : Int)) + lI).toNat).toInt))) (k := k) (by simp; omega)]
              exact ih (k + 1) _ (inc1 iE (by omega)) (by omega) (by omega) (by rw [← hg, e1, fndI_n (fun z => ‹_ ≠ (0 : Int)› (by rw [z, Int32.sub_self]; decide))])
            · refine g_run 1 rfl ?_
              have e1 : (hp.1 43 30).toInt.toNat - k = ((hp.1 43 30).toInt.toNat - (k + 1)) + 1 := by omega
              rw [e1, fndI_y (by simp; omega) (sub_z (by assumption))] at hg
              have h2 := h1 (by omega)
              rw [← hg, ← eq_nI iE (by omega)] at h2
              exact g_iret rfl rfl h2
      · refine gz_eq (kx := 0) rfl (show (0 : Int32).toInt = 0 from by decide) (fun _ => ?_) (fun q => absurd q (by decide))
        refine g_run 1 rfl ?_
        by_cases hc : lI < 0 ∨ (hp.1 43 26).toInt ≤ lI ∨ qI < 0
        · exact g_iret rfl rfl (h0 hc)
        · have e : k = (hp.1 43 30).toInt.toNat := by omega
          rw [show (hp.1 43 30).toInt.toNat - k = 0 by omega] at hg
          have h2 := h1 (by omega)
          rw [← hg] at h2
          exact g_iret rfl rfl h2
theorem c_X10_found {l : Int32} {lI : Int} {q : Int32} {qI : Int} (lE : l.toInt = lI) (qE : q.toInt = qI) (ms : 0 ≤ (hp.1 43 30).toInt ∧ (hp.1 43 30).toInt ≤ 60) (ml : 0 ≤ (hp.1 43 26).toInt ∧ (hp.1 43 26).toInt ≤ 12) (h1 : 0 ≤ lI ∧ lI < (hp.1 43 26).toInt ∧ 0 ≤ qI → Q (some (.int (fndI (fun k => decide (0 < (hp.1 63 ((12 * (k : Int)) + lI).toNat).toInt)) q (hp.1 43 30).toInt.toNat 0))) (SH b xs) (sI hp 43 0 0)) (h0 : lI < 0 ∨ (hp.1 43 26).toInt ≤ lI ∨ qI < 0 → Q (some (.int (-1))) (SH b xs) (sI hp 43 0 0)) : gC mX10_found (d + 1) 0 0 [.ref 43, .int l, .int q] (SH b xs) hp Q := by
  refine g_enter okX10_found (plainFor_of_name rfl) rfl ?_
  refine g_run 7 rfl ?_
  have e0 : q - cntI (fun k => decide (0 < ((sI hp 43 0 0).1 63 ((12 * (k : Int)) + lI).toNat).toInt)) 0 = q := Int32.sub_zero q
  have := lp_X10_found (d := d) (hp := (sI hp 43 0 0)) (b := b) (xs := xs) ms ml lE qE h1 h0 61 0 0 (by decide) (show ((0 : Nat) : Int) ≤ (hp.1 43 30).toInt from by omega) (by have : 0 ≤ (hp.1 43 30).toInt := ms.1; show (hp.1 43 30).toInt.toNat - 0 < 61; omega) rfl
  rw [e0] at this
  exact this
theorem lp_X10_led  (ms : 0 ≤ (hp.1 43 30).toInt ∧ (hp.1 43 30).toInt ≤ 60) (ml : 0 ≤ (hp.1 43 26).toInt ∧ (hp.1 43 26).toInt ≤ 12) {l h : Int32} {lI hI : Int} (lE : l.toInt = lI) (hE : h.toInt = hI) (h1 : 0 ≤ lI ∧ lI < (hp.1 43 26).toInt ∧ 0 ≤ hI ∧ hI < 10 → Q (some (.int (sumI (fun k => if (hp.1 65 k).toInt = hI then hp.1 63 ((12 * (k : Int)) + lI).toNat else 0) (hp.1 43 30).toInt.toNat))) (SH b xs) hp) (h0 : lI < 0 ∨ (hp.1 43 26).toInt ≤ lI ∨ hI < 0 ∨ 10 ≤ hI → Q (some (.int (-1))) (SH b xs) hp) : ∀ (f k : Nat) (i : Int32), i.toInt = (k : Int) → (k : Int) ≤ (hp.1 43 30).toInt → (hp.1 43 30).toInt.toNat - k < f → gG mX10_led (d + 1) 0 0 (zQ 0 0 Q) 0 0 (10, [.ref 43, .int l, .int h, .int (sumI (fun k => if (hp.1 65 k).toInt = hI then hp.1 63 ((12 * (k : Int)) + lI).toNat else 0) k), .int i], [], (SH b xs), hp) := by
  intro f
  induction f with
  | zero => intros; omega
  | succ f ih =>
    intro k i iE hk hf
    refine g_run 3 rfl ?_
    refine gj_ge (kx := (k : Int)) (kz := (hp.1 43 30).toInt) rfl iE rfl (fun k1 => ?_) (fun k1 => ?_)
    · refine g_run 2 rfl ?_
      refine g_callV0 rfl LX10_274 rfl rfl rfl rfl ?_
      refine c_X10_isLot (nI := lI) (zI := (hp.1 43 26).toInt) lE rfl (fun k2 => ?_) (fun k3 => ?_)
      · refine gz_eq (kx := 1) rfl (show (1 : Int32).toInt = 1 from by decide) (fun q => absurd q (by decide)) (fun _ => ?_)
        refine g_run 1 rfl ?_
        refine g_callS0 rfl LX10_343 rfl rfl ?_
        refine c_X10_isHouse (nI := hI) hE (fun k4 => ?_) (fun k5 => ?_)
        · refine gz_eq (kx := 1) rfl (show (1 : Int32).toInt = 1 from by decide) (fun q => absurd q (by decide)) (fun _ => ?_)
          refine g_run 2 rfl ?_
          have e : k = (hp.1 43 30).toInt.toNat := by omega
          subst e
          exact g_iret rfl rfl (h1 (by omega))
        · refine gz_eq (kx := 0) rfl (show (0 : Int32).toInt = 0 from by decide) (fun _ => ?_) (fun q => absurd q (by decide))
          refine g_run 1 rfl ?_
          exact g_iret rfl rfl (h0 (by omega))
      · refine gz_eq (kx := 0) rfl (show (0 : Int32).toInt = 0 from by decide) (fun _ => ?_) (fun q => absurd q (by decide))
        refine g_run 1 rfl ?_
        exact g_iret rfl rfl (h0 (by omega))
    · refine g_run 2 rfl ?_
      refine g_callV0 rfl LX10_274 rfl rfl rfl rfl ?_
      refine c_X10_isLot (nI := lI) (zI := (hp.1 43 26).toInt) lE rfl (fun k6 => ?_) (fun k7 => ?_)
      · refine gz_eq (kx := 1) rfl (show (1 : Int32).toInt = 1 from by decide) (fun q => absurd q (by decide)) (fun _ => ?_)
        refine g_run 4 rfl ?_
        refine g_iald (j := k) rfl rfl ((show _ = (k : Int) from iE).trans (by omega)) (by omega) ?_
        refine g_run 1 rfl ?_
        refine gj_ne (kx := (hp.1 65 k).toInt) (kz := hI) rfl rfl hE (fun k8 => ?_) (fun k8 => ?_)
        · refine g_run 5 rfl ?_
          rw [Int32.add_zero, ← sumI_f (k := k) (f := (fun k => if (hp.1 65 k).toInt = hI then hp.1 63 ((12 * (k : Int)) + lI).toNat else 0)) (by simp [*])]
          exact ih (k + 1) _ (inc1 iE (by omega)) (by omega) (by omega)
        · refine g_run 7 rfl ?_
          refine g_iald (j := ((12 * (k : Int)) + lI).toNat) rfl rfl ((show _ = ((12 * (k : Int)) + lI) from (ia_add2 (ia_mul2 (by decide) iE (by omega) (by omega)) lE (by omega) (by omega))).trans (by omega)) (by omega) ?_
          refine g_run 5 rfl ?_
          rw [← sumI_t (k := k) (f := (fun k => if (hp.1 65 k).toInt = hI then hp.1 63 ((12 * (k : Int)) + lI).toNat else 0)) (by simp [*])]
          exact ih (k + 1) _ (inc1 iE (by omega)) (by omega) (by omega)
      · refine gz_eq (kx := 0) rfl (show (0 : Int32).toInt = 0 from by decide) (fun _ => ?_) (fun q => absurd q (by decide))
        refine g_run 2 rfl ?_
        refine g_callV0 rfl LX10_274 rfl rfl rfl rfl ?_
        refine c_X10_isLot (nI := lI) (zI := (hp.1 43 26).toInt) lE rfl (fun k9 => ?_) (fun k10 => ?_)
        · refine gz_eq (kx := 1) rfl (show (1 : Int32).toInt = 1 from by decide) (fun q => absurd q (by decide)) (fun _ => ?_)
          refine g_run 1 rfl ?_
          refine g_callS0 rfl LX10_343 rfl rfl ?_
          refine c_X10_isHouse (nI := hI) hE (fun k11 => ?_) (fun k12 => ?_)
          · refine gz_eq (kx := 1) rfl (show (1 : Int32).toInt = 1 from by decide) (fun q => absurd q (by decide)) (fun _ => ?_)
            refine g_run 2 rfl ?_
            have e : k = (hp.1 43 30).toInt.toNat := by omega
            subst e
            exact g_iret rfl rfl (h1 (by omega))
          · refine gz_eq (kx := 0) rfl (show (0 : Int32).toInt = 0 from by decide) (fun _ => ?_) (fun q => absurd q (by decide))
            refine g_run 1 rfl ?_
            exact g_iret rfl rfl (h0 (by omega))
        · refine gz_eq (kx := 0) rfl (show (0 : Int32).toInt = 0 from by decide) (fun _ => ?_) (fun q => absurd q (by decide))
          refine g_run 1 rfl ?_
          exact g_iret rfl rfl (h0 (by omega))
theorem c_X10_led {l : Int32} {lI : Int} {h : Int32} {hI : Int} (lE : l.toInt = lI) (hE : h.toInt = hI) (ms : 0 ≤ (hp.1 43 30).toInt ∧ (hp.1 43 30).toInt ≤ 60) (ml : 0 ≤ (hp.1 43 26).toInt ∧ (hp.1 43 26).toInt ≤ 12) (h1 : 0 ≤ lI ∧ lI < (hp.1 43 26).toInt ∧ 0 ≤ hI ∧ hI < 10 → Q (some (.int (sumI (fun k => if (hp.1 65 k).toInt = hI then hp.1 63 ((12 * (k : Int)) + lI).toNat else 0) (hp.1 43 30).toInt.toNat))) (SH b xs) (sI hp 43 0 0)) (h0 : lI < 0 ∨ (hp.1 43 26).toInt ≤ lI ∨ hI < 0 ∨ 10 ≤ hI → Q (some (.int (-1))) (SH b xs) (sI hp 43 0 0)) : gC mX10_led (d + 1) 0 0 [.ref 43, .int l, .int h] (SH b xs) hp Q := by
  refine g_enter okX10_led (plainFor_of_name rfl) rfl ?_
  refine g_run 7 rfl ?_
  exact lp_X10_led (hp := (sI hp 43 0 0)) ms ml lE hE h1 h0 61 0 0 (by decide) (show ((0 : Nat) : Int) ≤ (hp.1 43 30).toInt from by omega) (by have : 0 ≤ (hp.1 43 30).toInt := ms.1; show (hp.1 43 30).toInt.toNat - 0 < 61; omega)
theorem lp_X10_count  (ms : 0 ≤ (hp.1 43 30).toInt ∧ (hp.1 43 30).toInt ≤ 60) (mh : (hp.1 43 16).toInt = 0 ∨ (hp.1 43 16).toInt = 1) {w : Int32} {wI : Int} (wE : w.toInt = wI) (h0 : wI = 0 → Q (some (.int (hp.1 43 26))) (SH b xs) hp) (h1 : wI = 1 → Q (some (.int (hp.1 43 30))) (SH b xs) hp) (h2 : wI = 2 → Q (some (.int (hp.1 43 25))) (SH b xs) hp) (h3 : wI = 3 → Q (some (.int (hp.1 49 (hp.1 43 16).toInt.toNat))) (SH b xs) hp) (h4 : wI = 4 → Q (some (.int (hp.1 43 2))) (SH b xs) hp) (h5 : wI = 5 → Q (some (.int (hp.1 43 44))) (SH b xs) hp) (h6 : wI = 6 → Q (some (.int (sumI (fun k => sumI (fun l => hp.1 63 ((12 * (k : Int)) + (l : Int)).toNat) 12) (hp.1 43 30).toInt.toNat))) (SH b xs) hp) (h7 : wI < 0 ∨ 6 < wI → Q (some (.int (-1))) (SH b xs) hp) : ∀ (f k : Nat) (i : Int32), i.toInt = (k : Int) → (k : Int) ≤ (hp.1 43 30).toInt → (hp.1 43 30).toInt.toNat - k < f → gG mX10_count (d + 1) 0 0 (zQ 0 0 Q) 0 0 (9, [.ref 43, .int w, .int (sumI (fun k => sumI (fun l => hp.1 63 ((12 * (k : Int)) + (l : Int)).toNat) 12) k), .int i], [], (SH b xs), hp) := by
  intro f
  induction f with
  | zero => intros; omega
  | succ f ih =>
    intro k i iE hk hf
    refine g_run 3 rfl ?_
    refine gj_ge (kx := (k : Int)) (kz := (hp.1 43 30).toInt) rfl iE rfl (fun k1 => ?_) (fun k1 => ?_)
    · refine g_run 1 rfl ?_
      rcases (show wI < 0 ∨ 6 < wI ∨ wI = 0 ∨ wI = 1 ∨ wI = 2 ∨ wI = 3 ∨ wI = 4 ∨ wI = 5 ∨ wI = 6 by omega) with k2 | k2 | k2 | k2 | k2 | k2 | k2 | k2 | k2
      · refine g_tabOut (tgt := 113) rfl (Or.inl (by rw [show _ = wI from wE]; omega)) (by decide) ?_
        refine g_run 1 rfl ?_
        have e : k = (hp.1 43 30).toInt.toNat := by omega
        subst e
        exact g_iret rfl rfl (by first | exact h0 (by omega) | exact h1 (by omega) | exact h2 (by omega) | exact h3 (by omega) | exact h4 (by omega) | exact h5 (by omega) | exact h6 (by omega) | exact h7 (by omega))
      · refine g_tabOut (tgt := 113) rfl (Or.inr (by rw [show _ = wI from wE]; omega)) (by decide) ?_
        refine g_run 1 rfl ?_
        have e : k = (hp.1 43 30).toInt.toNat := by omega
        subst e
        exact g_iret rfl rfl (by first | exact h0 (by omega) | exact h1 (by omega) | exact h2 (by omega) | exact h3 (by omega) | exact h4 (by omega) | exact h5 (by omega) | exact h6 (by omega) | exact h7 (by omega))
      · refine g_tabIn (i := 0) (tgt := 76) rfl ((show _ = wI from wE).trans (by omega)) (by decide) rfl (by decide) ?_
        refine g_run 2 rfl ?_
        have e : k = (hp.1 43 30).toInt.toNat := by omega
        subst e
        exact g_iret rfl rfl (by first | exact h0 (by omega) | exact h1 (by omega) | exact h2 (by omega) | exact h3 (by omega) | exact h4 (by omega) | exact h5 (by omega) | exact h6 (by omega) | exact h7 (by omega))
      · refine g_tabIn (i := 1) (tgt := 81) rfl ((show _ = wI from wE).trans (by omega)) (by decide) rfl (by decide) ?_
        refine g_run 2 rfl ?_
        have e : k = (hp.1 43 30).toInt.toNat := by omega
        subst e
        exact g_iret rfl rfl (by first | exact h0 (by omega) | exact h1 (by omega) | exact h2 (by omega) | exact h3 (by omega) | exact h4 (by omega) | exact h5 (by omega) | exact h6 (by omega) | exact h7 (by omega))
      · refine g_tabIn (i := 2) (tgt := 86) rfl ((show _ = wI from wE).trans (by omega)) (by decide) rfl (by decide) ?_
        refine g_run 2 rfl ?_
        have e : k = (hp.1 43 30).toInt.toNat := by omega
        subst e
        exact g_iret rfl rfl (by first | exact h0 (by omega) | exact h1 (by omega) | exact h2 (by omega) | exact h3 (by omega) | exact h4 (by omega) | exact h5 (by omega) | exact h6 (by omega) | exact h7 (by omega))
      · refine g_tabIn (i := 3) (tgt := 91) rfl ((show _ = wI from wE).trans (by omega)) (by decide) rfl (by decide) ?_
        refine g_run 4 rfl ?_
        refine g_iald (j := ((hp.1 43 16).toInt).toNat) rfl rfl ((show _ = (hp.1 43 16).toInt from rfl).trans (by omega)) (by omega) ?_
        have e : k = (hp.1 43 30).toInt.toNat := by omega
        subst e
        exact g_iret rfl rfl (by first | exact h0 (by omega) | exact h1 (by omega) | exact h2 (by omega) | exact h3 (by omega) | exact h4 (by omega) | exact h5 (by omega) | exact h6 (by omega) | exact h7 (by omega))
      · refine g_tabIn (i := 4) (tgt := 101) rfl ((show _ = wI from wE).trans (by omega)) (by decide) rfl (by decide) ?_
        refine g_run 2 rfl ?_
        have e : k = (hp.1 43 30).toInt.toNat := by omega
        subst e
        exact g_iret rfl rfl (by first | exact h0 (by omega) | exact h1 (by omega) | exact h2 (by omega) | exact h3 (by omega) | exact h4 (by omega) | exact h5 (by omega) | exact h6 (by omega) | exact h7 (by omega))
      · refine g_tabIn (i := 5) (tgt := 106) rfl ((show _ = wI from wE).trans (by omega)) (by decide) rfl (by decide) ?_
        refine g_run 2 rfl ?_
        have e : k = (hp.1 43 30).toInt.toNat := by omega
        subst e
        exact g_iret rfl rfl (by first | exact h0 (by omega) | exact h1 (by omega) | exact h2 (by omega) | exact h3 (by omega) | exact h4 (by omega) | exact h5 (by omega) | exact h6 (by omega) | exact h7 (by omega))
      · refine g_tabIn (i := 6) (tgt := 111) rfl ((show _ = wI from wE).trans (by omega)) (by decide) rfl (by decide) ?_
        refine g_run 1 rfl ?_
        have e : k = (hp.1 43 30).toInt.toNat := by omega
        subst e
        exact g_iret rfl rfl (by first | exact h0 (by omega) | exact h1 (by omega) | exact h2 (by omega) | exact h3 (by omega) | exact h4 (by omega) | exact h5 (by omega) | exact h6 (by omega) | exact h7 (by omega))
    · refine g_run 3 rfl ?_
      refine g_callV0 rfl LX10_289 rfl rfl rfl rfl ?_
      refine c_X10_gramsIn (nI := (k : Int)) iE (by omega) ?_
      refine g_run 4 rfl ?_
      exact ih (k + 1) _ (inc1 iE (by omega)) (by omega) (by omega)
theorem c_X10_count {w : Int32} {wI : Int} (wE : w.toInt = wI) (ms : 0 ≤ (hp.1 43 30).toInt ∧ (hp.1 43 30).toInt ≤ 60) (mh : (hp.1 43 16).toInt = 0 ∨ (hp.1 43 16).toInt = 1) (h0 : wI = 0 → Q (some (.int (hp.1 43 26))) (SH b xs) (sI hp 43 0 0)) (h1 : wI = 1 → Q (some (.int (hp.1 43 30))) (SH b xs) (sI hp 43 0 0)) (h2 : wI = 2 → Q (some (.int (hp.1 43 25))) (SH b xs) (sI hp 43 0 0)) (h3 : wI = 3 → Q (some (.int (hp.1 49 (hp.1 43 16).toInt.toNat))) (SH b xs) (sI hp 43 0 0)) (h4 : wI = 4 → Q (some (.int (hp.1 43 2))) (SH b xs) (sI hp 43 0 0)) (h5 : wI = 5 → Q (some (.int (hp.1 43 44))) (SH b xs) (sI hp 43 0 0)) (h6 : wI = 6 → Q (some (.int (sumI (fun k => sumI (fun l => hp.1 63 ((12 * (k : Int)) + (l : Int)).toNat) 12) (hp.1 43 30).toInt.toNat))) (SH b xs) (sI hp 43 0 0)) (h7 : wI < 0 ∨ 6 < wI → Q (some (.int (-1))) (SH b xs) (sI hp 43 0 0)) : gC mX10_count (d + 1) 0 0 [.ref 43, .int w] (SH b xs) hp Q := by
  refine g_enter okX10_count (plainFor_of_name rfl) rfl ?_
  refine g_run 7 rfl ?_
  exact lp_X10_count (hp := (sI hp 43 0 0)) ms mh wE h0 h1 h2 h3 h4 h5 h6 h7 61 0 0 (by decide) (show ((0 : Nat) : Int) ≤ (hp.1 43 30).toInt from by omega) (by have : 0 ≤ (hp.1 43 30).toInt := ms.1; show (hp.1 43 30).toInt.toNat - 0 < 61; omega)
theorem lp_X10_bag  {n w : Int32} {nI wI : Int} (nE : n.toInt = nI) (wE : w.toInt = wI) (hn : 0 ≤ nI ∧ nI < 60) (hw : 0 ≤ wI ∧ wI ≤ 3) (h0 : wI = 0 → Q (some (.int (sumI (fun l => hp.1 63 ((12 * nI) + (l : Int)).toNat) 12))) (SH b xs) hp) (h1 : wI = 1 → Q (some (.int (hp.1 64 nI.toNat))) (SH b xs) hp) (h2 : wI = 2 → Q (some (.int (hp.1 65 nI.toNat))) (SH b xs) hp) (h3 : wI = 3 → Q (some (.int (cntI (fun l => decide (0 < (hp.1 63 ((12 * nI) + (l : Int)).toNat).toInt)) 12))) (SH b xs) hp) : ∀ (f k : Nat) (i : Int32), i.toInt = (k : Int) → k ≤ 12 → 12 - k < f → gG mX10_bag (d + 1) 0 0 (zQ 0 0 Q) 0 0 (40, [.ref 43, .int n, .int w, .int (cntI (fun l => decide (0 < (hp.1 63 ((12 * nI) + (l : Int)).toNat).toInt)) k), .int i], [], (SH b xs), hp) := by
  intro f
  induction f with
  | zero => intros; omega
  | succ f ih =>
    intro k i iE hk hf
    refine g_run 2 rfl ?_
    refine gj_ge (kx := (k : Int)) (kz := 12) rfl iE (by decide) (fun k1 => ?_) (fun k1 => ?_)
    · refine g_run 1 rfl ?_
      refine gz_ne (kx := wI) rfl wE (fun k2 => ?_) (fun k2 => ?_)
      · refine g_run 2 rfl ?_
        refine gj_ne (kx := wI) (kz := 1) rfl wE (by decide) (fun k3 => ?_) (fun k3 => ?_)
        · refine g_run 2 rfl ?_
          refine gj_ne (kx := wI) (kz := 2) rfl wE (by decide) (fun k4 => ?_) (fun k4 => ?_)
          · refine g_run 1 rfl ?_
            obtain rfl : k = 12 := by omega
            exact g_iret rfl rfl (by first | exact h0 (by omega) | exact h1 (by omega) | exact h2 (by omega) | exact h3 (by omega))
          · refine g_run 3 rfl ?_
            refine g_iald (j := nI.toNat) rfl rfl ((show _ = nI from nE).trans (by omega)) (by omega) ?_
            refine g_run 1 rfl ?_
            obtain rfl : k = 12 := by omega
            exact g_iret rfl rfl (by first | exact h0 (by omega) | exact h1 (by omega) | exact h2 (by omega) | exact h3 (by omega))
        · refine g_run 3 rfl ?_
          refine g_iald (j := nI.toNat) rfl rfl ((show _ = nI from nE).trans (by omega)) (by omega) ?_
          refine g_run 1 rfl ?_
          obtain rfl : k = 12 := by omega
          exact g_iret rfl rfl (by first | exact h0 (by omega) | exact h1 (by omega) | exact h2 (by omega) | exact h3 (by omega))
      · refine g_run 2 rfl ?_
        refine g_callV0 rfl LX10_289 rfl rfl rfl rfl ?_
        refine c_X10_gramsIn (nI := nI) nE (by omega) ?_
        refine g_run 1 rfl ?_
        obtain rfl : k = 12 := by omega
        exact g_iret rfl rfl (by first | exact h0 (by omega) | exact h1 (by omega) | exact h2 (by omega) | exact h3 (by omega))
    · refine g_run 8 rfl ?_
      refine g_iald (j := ((12 * nI) + (k : Int)).toNat) rfl rfl ((show _ = ((12 * nI) + (k : Int)) from (ia_add2 (ia_mul2 (by decide) nE (by omega) (by omega)) iE (by omega) (by omega))).trans (by omega)) (by omega) ?_
      refine gz_le (kx := (hp.1 63 (((12 * nI) + (k : Int)).toNat)).toInt) rfl rfl (fun k5 => ?_) (fun k5 => ?_)
      · refine g_run 5 rfl ?_
        rw [Int32.add_zero, cntI_f (p := (fun l => decide (0 < (hp.1 63 ((12 * nI) + (l : Int)).toNat).toInt))) (k := k) (by simp; omega)]
        exact ih (k + 1) _ (inc1 iE (by omega)) (by omega) (by omega)
      · refine g_run 6 rfl ?_
        rw [cntI_t (p := (fun l => decide (0 < (hp.1 63 ((12 * nI) + (l : Int)).toNat).toInt))) (k := k) (by simp; omega)]
        exact ih (k + 1) _ (inc1 iE (by omega)) (by omega) (by omega)
theorem c_X10_bag {n : Int32} {nI : Int} {w : Int32} {wI : Int} (nE : n.toInt = nI) (wE : w.toInt = wI) (ms : 0 ≤ (hp.1 43 30).toInt ∧ (hp.1 43 30).toInt ≤ 60) (h0 : 0 ≤ nI ∧ nI < (hp.1 43 30).toInt ∧ wI = 0 → Q (some (.int (sumI (fun l => hp.1 63 ((12 * nI) + (l : Int)).toNat) 12))) (SH b xs) (sI hp 43 0 0)) (h1 : 0 ≤ nI ∧ nI < (hp.1 43 30).toInt ∧ wI = 1 → Q (some (.int (hp.1 64 nI.toNat))) (SH b xs) (sI hp 43 0 0)) (h2 : 0 ≤ nI ∧ nI < (hp.1 43 30).toInt ∧ wI = 2 → Q (some (.int (hp.1 65 nI.toNat))) (SH b xs) (sI hp 43 0 0)) (h3 : 0 ≤ nI ∧ nI < (hp.1 43 30).toInt ∧ wI = 3 → Q (some (.int (cntI (fun l => decide (0 < (hp.1 63 ((12 * nI) + (l : Int)).toNat).toInt)) 12))) (SH b xs) (sI hp 43 0 0)) (h4 : nI < 0 ∨ (hp.1 43 30).toInt ≤ nI ∨ wI < 0 ∨ 3 < wI → Q (some (.int 0)) (SH b xs) (sI hp 43 0 1)) : gC mX10_bag (d + 1) 0 0 [.ref 43, .int n, .int w] (SH b xs) hp Q := by
  refine g_enter okX10_bag (plainFor_of_name rfl) rfl ?_
  refine g_run 3 rfl ?_
  refine g_callV0 rfl LX10_286 rfl rfl rfl rfl ?_
  refine c_X10_isBag (nI := nI) (zI := (hp.1 43 30).toInt) nE rfl (fun k1 => ?_) (fun k2 => ?_)
  · refine gz_eq (kx := 1) rfl (show (1 : Int32).toInt = 1 from by decide) (fun q => absurd q (by decide)) (fun _ => ?_)
    refine g_run 1 rfl ?_
    refine gz_lt (kx := wI) rfl wE (fun k3 => ?_) (fun k3 => ?_)
    · refine g_run 4 rfl ?_
      refine gz_le (kx := 1) rfl (show (1 : Int32).toInt = 1 from by decide) (fun q => absurd q (by decide)) (fun _ => ?_)
      refine g_run 1 rfl ?_
      exact g_iret rfl rfl (h4 (by omega))
    · refine g_run 2 rfl ?_
      refine gj_gt (kx := wI) (kz := 3) rfl wE (by decide) (fun k4 => ?_) (fun k4 => ?_)
      · refine g_run 4 rfl ?_
        refine gz_le (kx := 1) rfl (show (1 : Int32).toInt = 1 from by decide) (fun q => absurd q (by decide)) (fun _ => ?_)
        refine g_run 1 rfl ?_
        exact g_iret rfl rfl (h4 (by omega))
      · refine g_run 5 rfl ?_
        refine gz_le (kx := 0) rfl (show (0 : Int32).toInt = 0 from by decide) (fun _ => ?_) (fun q => absurd q (by decide))
        refine g_run 4 rfl ?_
        exact lp_X10_bag (hp := (sI hp 43 0 0)) nE wE (by omega) (by omega) (fun z => h0 (by omega)) (fun z => h1 (by omega)) (fun z => h2 (by omega)) (fun z => h3 (by omega)) 13 0 0 (by decide) (by omega) (by omega)
  · refine gz_eq (kx := 0) rfl (show (0 : Int32).toInt = 0 from by decide) (fun _ => ?_) (fun q => absurd q (by decide))
    refine g_run 4 rfl ?_
    refine gz_le (kx := 1) rfl (show (1 : Int32).toInt = 1 from by decide) (fun q => absurd q (by decide)) (fun _ => ?_)
    refine g_run 1 rfl ?_
    exact g_iret rfl rfl (h4 (by omega))
end S16
end
section
/-! cups: contracts (rows printed by my own program) -/
theorem lgc_gt {x z : Int64} (h : 0 ≤ (lg_cmp x z).toInt) (h2 : (lg_cmp x z).toInt ≠ 0) : z < x := by
  unfold lg_cmp at h h2
  split at h <;> rename_i q
  · exact q
  · split at h <;> rename_i q2
    · simp [q, q2] at h2
    · simp at h
theorem lgc_eq {x z : Int64} (h : (lg_cmp x z).toInt = 0) : x = z := by
  unfold lg_cmp at h
  split at h <;> rename_i q
  · simp at h
  · split at h <;> rename_i q2
    · exact q2
    · simp at h
theorem lgc_lt {x z : Int64} (h : (lg_cmp x z).toInt < 0) : x < z := by
  unfold lg_cmp at h
  split at h <;> rename_i q
  · simp at h
  · split at h <;> rename_i q2
    · simp at h
    · change ¬ z < x at q
      rw [Int64.lt_iff_toInt_lt] at q ⊢
      have : ¬ x.toInt = z.toInt := fun e => q2 (Int64.toInt_inj.mp e)
      omega
def jfd (x z : Int64) : Int64 := if 0 ≤ (lg_cmp (x ^^^ z) 0).toInt then x / z else if (lg_cmp (x / z * z) x).toInt = 0 then x / z else x / z - 1
def cz (p : Nat → Bool) : Nat → Int
  | 0 => 0
  | k + 1 => if p k = true then cz p k + 1 else cz p k
theorem cz_t {p : Nat → Bool} {k : Nat} (h : p k = true) : cz p (k + 1) = cz p k + 1 := by simp [cz, h]
theorem cz_f {p : Nat → Bool} {k : Nat} (h : p k = false) : cz p (k + 1) = cz p k := by simp [cz, h]
theorem cz_bd (p : Nat → Bool) : ∀ k : Nat, 0 ≤ cz p k ∧ cz p k ≤ (k : Int)
  | 0 => by simp [cz]
  | k + 1 => by
    have := cz_bd p k
    unfold cz
    split <;> omega
def oz (p : Nat → Bool) (f : Nat → Int) : Nat → Int
  | 0 => 0
  | k + 1 => if p k = true then oz p f k + f k else oz p f k
theorem oz_t {p : Nat → Bool} {f : Nat → Int} {k : Nat} (h : p k = true) : oz p f (k + 1) = oz p f k + f k := by simp [oz, h]
theorem oz_f {p : Nat → Bool} {f : Nat → Int} {k : Nat} (h : p k = false) : oz p f (k + 1) = oz p f k := by simp [oz, h]
theorem oz_bd {p : Nat → Bool} {f : Nat → Int} {B : Int} {n : Nat} (hB : 0 ≤ B) (h : ∀ s, s < n → -B ≤ f s ∧ f s ≤ B) : ∀ k : Nat, k ≤ n → -(B * (k : Int)) ≤ oz p f k ∧ oz p f k ≤ B * (k : Int)
  | 0, _ => by simp [oz]
  | k + 1, hk => by
    have h1 := oz_bd (p := p) (f := f) hB h k (by omega)
    have h2 := h k (by omega)
    have e : B * ((k + 1 : Nat) : Int) = B * (k : Int) + B := by rw [Int.natCast_add, Int.mul_add]; simp
    unfold oz
    rw [e]
    split <;> omega
theorem la_add2 {a b : Int64} {x y : Int} (ha : a.toInt = x) (hb : b.toInt = y) (h1 : -9223372036854775808 ≤ x + y) (h2 : x + y < 9223372036854775808) : (a + b).toInt = x + y := by
  rw [Int64.toInt_add, ha, hb, Int.bmod_eq_of_le (by omega) (by omega)]
theorem la_sub2 {a b : Int64} {x y : Int} (ha : a.toInt = x) (hb : b.toInt = y) (h1 : -9223372036854775808 ≤ x - y) (h2 : x - y < 9223372036854775808) : (a - b).toInt = x - y := by
  rw [Int64.toInt_sub, ha, hb, Int.bmod_eq_of_le (by omega) (by omega)]
theorem la_mul2 {a b : Int64} {x y : Int} (ha : a.toInt = x) (hb : b.toInt = y) (h1 : -9223372036854775808 ≤ x * y) (h2 : x * y < 9223372036854775808) : (a * b).toInt = x * y := by
  rw [Int64.toInt_mul, ha, hb, Int.bmod_eq_of_le (by omega) (by omega)]
theorem t64 {a : Int32} {x : Int} (h : a.toInt = x) : a.toInt64.toInt = x := by rw [Int32.toInt_toInt64]; exact h
theorem mul_bd {a b A B : Int} (ha : -A ≤ a ∧ a ≤ A) (hb : 0 ≤ b ∧ b ≤ B) : -(A * B) ≤ a * b ∧ a * b ≤ A * B := by
  have h0 : 0 ≤ A := by omega
  have h1 : a * b ≤ A * b := Int.mul_le_mul_of_nonneg_right ha.2 hb.1
  have h2 : A * b ≤ A * B := Int.mul_le_mul_of_nonneg_left hb.2 h0
  have h3 : -A * b ≤ a * b := Int.mul_le_mul_of_nonneg_right ha.1 hb.1
  rw [Int.neg_mul] at h3
  omega
/-- the fraction that is gathered over the judges: numerator, denominator, how many -/
def wz (n g o : Nat → Int) : Nat → Int × Int × Int
  | 0 => (0, 1, 0)
  | k + 1 => if 0 ≤ g k ∧ 0 < n k then ((wz n g o k).1 * n k + (g k * n k - o k) * (wz n g o k).2.1, (wz n g o k).2.1 * n k, (wz n g o k).2.2 + 1) else wz n g o k
theorem wz_t {n g o : Nat → Int} {k : Nat} (h : 0 ≤ g k ∧ 0 < n k) : wz n g o (k + 1) = ((wz n g o k).1 * n k + (g k * n k - o k) * (wz n g o k).2.1, (wz n g o k).2.1 * n k, (wz n g o k).2.2 + 1) := by
  rw [wz, if_pos h]
theorem wz_f {n g o : Nat → Int} {k : Nat} (h : ¬ (0 ≤ g k ∧ 0 < n k)) : wz n g o (k + 1) = wz n g o k := by
  rw [wz, if_neg h]
theorem wz_s {n g o : Nat → Int} {k : Nat} {B C : Int} (hn : 0 ≤ n k ∧ n k ≤ 20) (hg : -1 ≤ g k ∧ g k ≤ 100) (ho : -2020 ≤ o k ∧ o k ≤ 2020) (h : 1 ≤ (wz n g o k).2.1 ∧ (wz n g o k).2.1 ≤ B ∧ -C ≤ (wz n g o k).1 ∧ (wz n g o k).1 ≤ C ∧ 0 ≤ (wz n g o k).2.2 ∧ (wz n g o k).2.2 ≤ (k : Int)) :
    1 ≤ (wz n g o (k + 1)).2.1 ∧ (wz n g o (k + 1)).2.1 ≤ 20 * B ∧ -(20 * C + 5000 * B) ≤ (wz n g o (k + 1)).1 ∧ (wz n g o (k + 1)).1 ≤ 20 * C + 5000 * B ∧ 0 ≤ (wz n g o (k + 1)).2.2 ∧ (wz n g o (k + 1)).2.2 ≤ ((k + 1 : Nat) : Int) := by
  by_cases hc : 0 ≤ g k ∧ 0 < n k
  · rw [wz_t hc]
    dsimp only
    have h1 := mul_bd (a := (wz n g o k).1) (b := n k) (A := C) (B := 20) (by omega) (by omega)
    have h2 := mul_bd (a := (wz n g o k).2.1) (b := n k) (A := B) (B := 20) (by omega) (by omega)
    have h3 := mul_bd (a := g k) (b := n k) (A := 100) (B := 20) (by omega) (by omega)
    have h4 := mul_bd (a := g k * n k - o k) (b := (wz n g o k).2.1) (A := 5000) (B := B) (by omega) (by omega)
    have h5 : 1 * 1 ≤ (wz n g o k).2.1 * n k := Int.mul_le_mul (by omega) (by omega) (by omega) (by omega)
    omega
  · rw [wz_f hc]
    omega
theorem wz_bd {n g o : Nat → Int} (hn : ∀ k, k < 5 → 0 ≤ n k ∧ n k ≤ 20) (hg : ∀ k, k < 5 → -1 ≤ g k ∧ g k ≤ 100) (ho : ∀ k, k < 5 → -2020 ≤ o k ∧ o k ≤ 2020) : ∀ k, k ≤ 5 → 1 ≤ (wz n g o k).2.1 ∧ (wz n g o k).2.1 ≤ 3200000 ∧ -4100000000 ≤ (wz n g o k).1 ∧ (wz n g o k).1 ≤ 4100000000 ∧ 0 ≤ (wz n g o k).2.2 ∧ (wz n g o k).2.2 ≤ (k : Int) := by
  have s0 : 1 ≤ (wz n g o 0).2.1 ∧ (wz n g o 0).2.1 ≤ 1 ∧ -0 ≤ (wz n g o 0).1 ∧ (wz n g o 0).1 ≤ 0 ∧ 0 ≤ (wz n g o 0).2.2 ∧ (wz n g o 0).2.2 ≤ ((0 : Nat) : Int) := by simp [wz]
  have s1 := wz_s (hn 0 (by omega)) (hg 0 (by omega)) (ho 0 (by omega)) s0
  have s2 := wz_s (hn 1 (by omega)) (hg 1 (by omega)) (ho 1 (by omega)) s1
  have s3 := wz_s (hn 2 (by omega)) (hg 2 (by omega)) (ho 2 (by omega)) s2
  have s4 := wz_s (hn 3 (by omega)) (hg 3 (by omega)) (ho 3 (by omega)) s3
  have s5 := wz_s (hn 4 (by omega)) (hg 4 (by omega)) (ho 4 (by omega)) s4
  simp only [Nat.reduceAdd] at s1 s2 s3 s4 s5
  intro k hk
  rcases (show k = 0 ∨ k = 1 ∨ k = 2 ∨ k = 3 ∨ k = 4 ∨ k = 5 by omega) with rfl | rfl | rfl | rfl | rfl | rfl <;> omega
theorem wz_64 {u dd n64 g64 o64 : Int64} {U D N G O : Int} (uE : u.toInt = U) (dE : dd.toInt = D) (nE : n64.toInt = N) (gE : g64.toInt = G) (oE : o64.toInt = O) (bU : -4100000000 ≤ U ∧ U ≤ 4100000000) (bD : 0 ≤ D ∧ D ≤ 3200000) (bN : 0 ≤ N ∧ N ≤ 20) (bG : -1 ≤ G ∧ G ≤ 100) (bO : -2020 ≤ O ∧ O ≤ 2020) :
    (u * n64 + (g64 * n64 - o64) * dd).toInt = U * N + (G * N - O) * D ∧ (dd * n64).toInt = D * N := by
  have h1 := mul_bd (a := U) (b := N) (A := 4100000000) (B := 20) (by omega) (by omega)
  have h2 := mul_bd (a := D) (b := N) (A := 3200000) (B := 20) (by omega) (by omega)
  have h3 := mul_bd (a := G) (b := N) (A := 100) (B := 20) (by omega) (by omega)
  have h4 := mul_bd (a := G * N - O) (b := D) (A := 5000) (B := 3200000) (by omega) (by omega)
  exact ⟨la_add2 (la_mul2 uE nE (by omega) (by omega)) (la_mul2 (la_sub2 (la_mul2 gE nE (by omega) (by omega)) oE (by omega) (by omega)) dE (by omega) (by omega)) (by omega) (by omega), la_mul2 dE nE (by omega) (by omega)⟩
theorem sL_norm {hp : hp_T} {c i j : Nat} {u v u' v' : Int64} (h : i ≠ j) : sL (sL (sL (sL hp c i u) c j v) c i u') c j v' = sL (sL hp c i u') c j v' := by
  simp only [sL]
  congr 1
  funext z q
  simp only [va_up]
  by_cases hz : z = c
  · subst hz
    by_cases h1 : q = j
    · simp [va_up, h1]
    · by_cases h2 : q = i
      · simp [va_up, h2, h]
      · simp [va_up, h1, h2]
  · simp [hz]
theorem sL_same {hp : hp_T} {c i : Nat} {u v : Int64} : sL (sL hp c i u) c i v = sL hp c i v := by
  simp only [sL]
  congr 1
  funext z q
  simp only [va_up]
  by_cases hz : z = c
  · subst hz
    by_cases h1 : q = i <;> simp [va_up, h1]
  · simp [hz]
section S17
variable {d : Nat} {sh : sh_T} {hp : hp_T} {Q : Option Value → sh_T → hp_T → Prop} {b : Bool} {xs : sh_T}
theorem c_J13_compare_74951 {x : Int64} {z : Int64} (h1 : z < x → Q (some (.int 1)) sh hp) (h2 : x = z → Q (some (.int 0)) sh hp) (h0 : x < z → Q (some (.int (-1))) sh hp) : gC mJ13_compare_74951 d 0 0 [.long x, .long z] sh hp Q := by
  refine g_enter okJ13_compare_74951 (by decide +kernel) rfl ?_
  refine g_run 3 rfl ?_
  refine gz_ge (kx := (lg_cmp x z).toInt) rfl rfl (fun k1 => ?_) (fun k1 => ?_)
  · refine g_run 3 rfl ?_
    refine gz_ne (kx := (lg_cmp x z).toInt) rfl rfl (fun k2 => ?_) (fun k2 => ?_)
    · refine g_run 1 rfl ?_
      exact g_iret rfl rfl (by first | exact h1 (lgc_gt (by omega) (by omega)) | exact h2 (lgc_eq (by omega)) | exact h0 (lgc_lt (by omega)))
    · refine g_run 2 rfl ?_
      exact g_iret rfl rfl (by first | exact h1 (lgc_gt (by omega) (by omega)) | exact h2 (lgc_eq (by omega)) | exact h0 (lgc_lt (by omega)))
  · refine g_run 2 rfl ?_
    exact g_iret rfl rfl (by first | exact h1 (lgc_gt (by omega) (by omega)) | exact h2 (lgc_eq (by omega)) | exact h0 (lgc_lt (by omega)))
theorem c_J9_floorDiv_f86c9 {x : Int64} {z : Int64} (hz : ¬ z = 0) (h1 : Q (some (.long (jfd x z))) sh hp) : gC mJ9_floorDiv_f86c9 d 0 0 [.long x, .long z] sh hp Q := by
  refine g_enter okJ9_floorDiv_f86c9 (by decide +kernel) rfl ?_
  refine g_run 2 rfl ?_
  refine g_ldiv rfl (by first | assumption | decide) ?_
  refine g_run 6 rfl ?_
  refine gz_ge (kx := (lg_cmp (x ^^^ z) 0).toInt) rfl rfl (fun k1 => ?_) (fun k1 => ?_)
  · refine g_run 1 rfl ?_
    exact g_lret rfl rfl (by unfold jfd at h1; first | (rw [if_pos (by assumption)] at h1; exact h1) | (rw [if_neg (by omega), if_pos (by assumption)] at h1; exact h1) | (rw [if_neg (by omega), if_neg (by assumption)] at h1; exact h1))
  · refine g_run 5 rfl ?_
    refine gz_eq (kx := (lg_cmp ((x / z) * z) x).toInt) rfl rfl (fun k2 => ?_) (fun k2 => ?_)
    · refine g_run 1 rfl ?_
      exact g_lret rfl rfl (by unfold jfd at h1; first | (rw [if_pos (by assumption)] at h1; exact h1) | (rw [if_neg (by omega), if_pos (by assumption)] at h1; exact h1) | (rw [if_neg (by omega), if_neg (by assumption)] at h1; exact h1))
    · refine g_run 3 rfl ?_
      exact g_lret rfl rfl (by unfold jfd at h1; first | (rw [if_pos (by assumption)] at h1; exact h1) | (rw [if_neg (by omega), if_pos (by assumption)] at h1; exact h1) | (rw [if_neg (by omega), if_neg (by assumption)] at h1; exact h1))
theorem c_X2_isToldAndMarked {j : Int32} {jI : Int} {a : Int32} {aI : Int} (jE : j.toInt = jI) (aE : a.toInt = aI) (hj : 0 ≤ jI ∧ jI < 5) (ha : 0 ≤ aI ∧ aI < 20) (h1 : (hp.1 27 aI.toNat).toInt ≠ -1 ∧ (hp.1 26 ((jI * 20) + aI).toNat).toInt ≠ -1 → Q (some (.int 1)) (SH b xs) hp) (h0 : ¬ ((hp.1 27 aI.toNat).toInt ≠ -1 ∧ (hp.1 26 ((jI * 20) + aI).toNat).toInt ≠ -1) → Q (some (.int 0)) (SH b xs) hp) : gC mX2_isToldAndMarked d 0 0 [.ref 25, .int j, .int a] (SH b xs) hp Q := by
  refine g_enter okX2_isToldAndMarked (plainFor_of_name rfl) rfl ?_
  refine g_run 3 rfl ?_
  refine g_iald (j := aI.toNat) rfl rfl ((show _ = aI from aE).trans (by omega)) (by omega) ?_
  refine g_run 1 rfl ?_
  refine gj_eq (kx := (hp.1 27 aI.toNat).toInt) (kz := (-1)) rfl rfl (by decide) (fun k1 => ?_) (fun k1 => ?_)
  · refine g_run 1 rfl ?_
    exact g_zret rfl rfl (Or.inl rfl) (by first | exact h1 (by omega) | exact h0 (by omega))
  · refine g_run 7 rfl ?_
    refine g_iald (j := ((jI * 20) + aI).toNat) rfl rfl ((show _ = ((jI * 20) + aI) from (ia_add2 (ia_mul2 jE (by decide) (by omega) (by omega)) aE (by omega) (by omega))).trans (by omega)) (by omega) ?_
    refine g_run 1 rfl ?_
    refine gj_eq (kx := (hp.1 26 (((jI * 20) + aI).toNat)).toInt) (kz := (-1)) rfl rfl (by decide) (fun k2 => ?_) (fun k2 => ?_)
    · refine g_run 1 rfl ?_
      exact g_zret rfl rfl (Or.inl rfl) (by first | exact h1 (by omega) | exact h0 (by omega))
    · refine g_run 2 rfl ?_
      exact g_zret rfl rfl (Or.inr rfl) (by first | exact h1 (by omega) | exact h0 (by omega))
theorem lp_X2_toldMarkedBy  {j : Int32} {jI : Int} (jE : j.toInt = jI) (hj : 0 ≤ jI ∧ jI < 5) (h1 : ∀ r : Int32, r.toInt = cz (fun s => decide ((hp.1 27 s).toInt ≠ -1 ∧ (hp.1 26 ((jI * 20) + (s : Int)).toNat).toInt ≠ -1)) 20 → Q (some (.int r)) (SH b xs) hp) : ∀ (f k : Nat) (i acc : Int32), i.toInt = (k : Int) → acc.toInt = cz (fun s => decide ((hp.1 27 s).toInt ≠ -1 ∧ (hp.1 26 ((jI * 20) + (s : Int)).toNat).toInt ≠ -1)) k → k ≤ 20 → 20 - k < f → gG mX2_toldMarkedBy (d + 1) 0 0 (zQ 0 0 Q) 0 0 (4, [.ref 25, .int j, .int acc, .int i], [], (SH b xs), hp) := by
  intro f
  induction f with
  | zero => intros; omega
  | succ f ih =>
    intro k i acc iE aE hk hf
    refine g_run 2 rfl ?_
    refine gj_ge (kx := (k : Int)) (kz := 20) rfl iE (by decide) (fun k1 => ?_) (fun k1 => ?_)
    · refine g_run 1 rfl ?_
      obtain rfl : k = 20 := by omega
      exact g_iret rfl rfl (h1 _ aE)
    · refine g_run 3 rfl ?_
      refine g_callV0 rfl LX2_64 rfl rfl rfl rfl ?_
      refine c_X2_isToldAndMarked (jI := jI) (aI := (k : Int)) jE iE (by omega) (by omega) (fun k2 => ?_) (fun k3 => ?_)
      · refine gz_eq (kx := 1) rfl (show (1 : Int32).toInt = 1 from by decide) (fun q => absurd q (by decide)) (fun _ => ?_)
        refine g_run 3 rfl ?_
        exact ih (k + 1) _ _ (inc1 iE (by omega)) (by rw [cz_t (p := (fun s => decide ((hp.1 27 s).toInt ≠ -1 ∧ (hp.1 26 ((jI * 20) + (s : Int)).toNat).toInt ≠ -1))) (k := k) (by simp only [Int.toNat_natCast] at *; simp; omega)]; exact ia_add2 aE (by decide) (by have := cz_bd (fun s => decide ((hp.1 27 s).toInt ≠ -1 ∧ (hp.1 26 ((jI * 20) + (s : Int)).toNat).toInt ≠ -1)) k; omega) (by have := cz_bd (fun s => decide ((hp.1 27 s).toInt ≠ -1 ∧ (hp.1 26 ((jI * 20) + (s : Int)).toNat).toInt ≠ -1)) k; omega)) (by omega) (by omega)
      · refine gz_eq (kx := 0) rfl (show (0 : Int32).toInt = 0 from by decide) (fun _ => ?_) (fun q => absurd q (by decide))
        refine g_run 2 rfl ?_
        exact ih (k + 1) _ _ (inc1 iE (by omega)) (by rw [cz_f (p := (fun s => decide ((hp.1 27 s).toInt ≠ -1 ∧ (hp.1 26 ((jI * 20) + (s : Int)).toNat).toInt ≠ -1))) (k := k) (by simp only [Int.toNat_natCast] at *; simp; omega)]; exact aE) (by omega) (by omega)
theorem c_X2_toldMarkedBy {j : Int32} {jI : Int} (jE : j.toInt = jI) (hj : 0 ≤ jI ∧ jI < 5) (h1 : ∀ r : Int32, r.toInt = cz (fun s => decide ((hp.1 27 s).toInt ≠ -1 ∧ (hp.1 26 ((jI * 20) + (s : Int)).toNat).toInt ≠ -1)) 20 → Q (some (.int r)) (SH b xs) hp) : gC mX2_toldMarkedBy (d + 1) 0 0 [.ref 25, .int j] (SH b xs) hp Q := by
  refine g_enter okX2_toldMarkedBy (plainFor_of_name rfl) rfl ?_
  refine g_run 4 rfl ?_
  exact lp_X2_toldMarkedBy jE hj h1 21 0 0 0 (by decide) (show (0 : Int32).toInt = 0 from by decide) (by omega) (by omega)
theorem lp_X2_excessOf  (mw : ∀ i, i < 100 → -1 ≤ (hp.1 26 i).toInt ∧ (hp.1 26 i).toInt ≤ 100) (tw : ∀ i, i < 20 → -1 ≤ (hp.1 27 i).toInt ∧ (hp.1 27 i).toInt ≤ 100) {j : Int32} {jI : Int} (jE : j.toInt = jI) (hj : 0 ≤ jI ∧ jI < 5) (h1 : ∀ r : Int32, r.toInt = oz (fun s => decide ((hp.1 27 s).toInt ≠ -1 ∧ (hp.1 26 ((jI * 20) + (s : Int)).toNat).toInt ≠ -1)) (fun s => (hp.1 26 ((jI * 20) + (s : Int)).toNat).toInt - (hp.1 27 s).toInt) 20 → Q (some (.int r)) (SH b xs) hp) : ∀ (f k : Nat) (i acc : Int32), i.toInt = (k : Int) → acc.toInt = oz (fun s => decide ((hp.1 27 s).toInt ≠ -1 ∧ (hp.1 26 ((jI * 20) + (s : Int)).toNat).toInt ≠ -1)) (fun s => (hp.1 26 ((jI * 20) + (s : Int)).toNat).toInt - (hp.1 27 s).toInt) k → k ≤ 20 → 20 - k < f → gG mX2_excessOf (d + 1) 0 0 (zQ 0 0 Q) 0 0 (4, [.ref 25, .int j, .int acc, .int i], [], (SH b xs), hp) := by
  intro f
  induction f with
  | zero => intros; omega
  | succ f ih =>
    intro k i acc iE aE hk hf
    refine g_run 2 rfl ?_
    refine gj_ge (kx := (k : Int)) (kz := 20) rfl iE (by decide) (fun k1 => ?_) (fun k1 => ?_)
    · refine g_run 1 rfl ?_
      obtain rfl : k = 20 := by omega
      exact g_iret rfl rfl (h1 _ aE)
    · refine g_run 3 rfl ?_
      refine g_callV0 rfl LX2_64 rfl rfl rfl rfl ?_
      refine c_X2_isToldAndMarked (jI := jI) (aI := (k : Int)) jE iE (by omega) (by omega) (fun k2 => ?_) (fun k3 => ?_)
      · refine gz_eq (kx := 1) rfl (show (1 : Int32).toInt = 1 from by decide) (fun q => absurd q (by decide)) (fun _ => ?_)
        refine g_run 8 rfl ?_
        refine g_iald (j := ((jI * 20) + (k : Int)).toNat) rfl rfl ((show _ = ((jI * 20) + (k : Int)) from (ia_add2 (ia_mul2 jE (by decide) (by omega) (by omega)) iE (by omega) (by omega))).trans (by omega)) (by omega) ?_
        refine g_run 3 rfl ?_
        refine g_iald (j := k) rfl rfl ((show _ = (k : Int) from iE).trans (by omega)) (by omega) ?_
        refine g_run 5 rfl ?_
        have hb := oz_bd (p := (fun s => decide ((hp.1 27 s).toInt ≠ -1 ∧ (hp.1 26 ((jI * 20) + (s : Int)).toNat).toInt ≠ -1))) (f := (fun s => (hp.1 26 ((jI * 20) + (s : Int)).toNat).toInt - (hp.1 27 s).toInt)) (B := 101) (n := 20) (by omega) (fun s hs => by have := mw ((jI * 20) + (s : Int)).toNat (by omega); have := tw s hs; (try dsimp only); omega) k (by omega)
        have hm := mw ((jI * 20) + (k : Int)).toNat (by omega)
        have ht := tw k (by omega)
        have hkk : (k : Int) ≤ 20 := by omega
        exact ih (k + 1) _ _ (inc1 iE (by omega)) (by rw [oz_t (p := (fun s => decide ((hp.1 27 s).toInt ≠ -1 ∧ (hp.1 26 ((jI * 20) + (s : Int)).toNat).toInt ≠ -1))) (f := (fun s => (hp.1 26 ((jI * 20) + (s : Int)).toNat).toInt - (hp.1 27 s).toInt)) (k := k) (by simp only [Int.toNat_natCast] at *; simp; omega)]; exact ia_add2 aE (ia_sub2 rfl rfl (by omega) (by omega)) (by omega) (by omega)) (by omega) (by omega)
      · refine gz_eq (kx := 0) rfl (show (0 : Int32).toInt = 0 from by decide) (fun _ => ?_) (fun q => absurd q (by decide))
        refine g_run 2 rfl ?_
        exact ih (k + 1) _ _ (inc1 iE (by omega)) (by rw [oz_f (p := (fun s => decide ((hp.1 27 s).toInt ≠ -1 ∧ (hp.1 26 ((jI * 20) + (s : Int)).toNat).toInt ≠ -1))) (f := (fun s => (hp.1 26 ((jI * 20) + (s : Int)).toNat).toInt - (hp.1 27 s).toInt)) (k := k) (by simp only [Int.toNat_natCast] at *; simp; omega)]; exact aE) (by omega) (by omega)
theorem c_X2_excessOf {j : Int32} {jI : Int} (jE : j.toInt = jI) (hj : 0 ≤ jI ∧ jI < 5) (mw : ∀ i, i < 100 → -1 ≤ (hp.1 26 i).toInt ∧ (hp.1 26 i).toInt ≤ 100) (tw : ∀ i, i < 20 → -1 ≤ (hp.1 27 i).toInt ∧ (hp.1 27 i).toInt ≤ 100) (h1 : ∀ r : Int32, r.toInt = oz (fun s => decide ((hp.1 27 s).toInt ≠ -1 ∧ (hp.1 26 ((jI * 20) + (s : Int)).toNat).toInt ≠ -1)) (fun s => (hp.1 26 ((jI * 20) + (s : Int)).toNat).toInt - (hp.1 27 s).toInt) 20 → Q (some (.int r)) (SH b xs) hp) : gC mX2_excessOf (d + 1) 0 0 [.ref 25, .int j] (SH b xs) hp Q := by
  refine g_enter okX2_excessOf (plainFor_of_name rfl) rfl ?_
  refine g_run 4 rfl ?_
  exact lp_X2_excessOf mw tw jE hj h1 21 0 0 0 (by decide) (show (0 : Int32).toInt = 0 from by decide) (by omega) (by omega)
theorem lp_X2_weigh  (mw : ∀ i, i < 100 → -1 ≤ (hp.1 26 i).toInt ∧ (hp.1 26 i).toInt ≤ 100) (tw : ∀ i, i < 20 → -1 ≤ (hp.1 27 i).toInt ∧ (hp.1 27 i).toInt ≤ 100) {a : Int32} {aI : Int} (aE : a.toInt = aI) (ha : 0 ≤ aI ∧ aI < 20) (h1 : 0 ≤ aI ∧ aI < 20 ∧ 0 < (wz (fun jj : Nat => cz (fun s => decide ((hp.1 27 s).toInt ≠ -1 ∧ (hp.1 26 (((jj : Int) * 20) + (s : Int)).toNat).toInt ≠ -1)) 20) (fun jj : Nat => (hp.1 26 (((jj : Int) * 20) + aI).toNat).toInt) (fun jj : Nat => oz (fun s => decide ((hp.1 27 s).toInt ≠ -1 ∧ (hp.1 26 (((jj : Int) * 20) + (s : Int)).toNat).toInt ≠ -1)) (fun s => (hp.1 26 (((jj : Int) * 20) + (s : Int)).toNat).toInt - (hp.1 27 s).toInt) 20) 5).2.2 → ∀ u dd : Int64, u.toInt = (wz (fun jj : Nat => cz (fun s => decide ((hp.1 27 s).toInt ≠ -1 ∧ (hp.1 26 (((jj : Int) * 20) + (s : Int)).toNat).toInt ≠ -1)) 20) (fun jj : Nat => (hp.1 26 (((jj : Int) * 20) + aI).toNat).toInt) (fun jj : Nat => oz (fun s => decide ((hp.1 27 s).toInt ≠ -1 ∧ (hp.1 26 (((jj : Int) * 20) + (s : Int)).toNat).toInt ≠ -1)) (fun s => (hp.1 26 (((jj : Int) * 20) + (s : Int)).toNat).toInt - (hp.1 27 s).toInt) 20) 5).1 → dd.toInt = (wz (fun jj : Nat => cz (fun s => decide ((hp.1 27 s).toInt ≠ -1 ∧ (hp.1 26 (((jj : Int) * 20) + (s : Int)).toNat).toInt ≠ -1)) 20) (fun jj : Nat => (hp.1 26 (((jj : Int) * 20) + aI).toNat).toInt) (fun jj : Nat => oz (fun s => decide ((hp.1 27 s).toInt ≠ -1 ∧ (hp.1 26 (((jj : Int) * 20) + (s : Int)).toNat).toInt ≠ -1)) (fun s => (hp.1 26 (((jj : Int) * 20) + (s : Int)).toNat).toInt - (hp.1 27 s).toInt) 20) 5).2.1 * (wz (fun jj : Nat => cz (fun s => decide ((hp.1 27 s).toInt ≠ -1 ∧ (hp.1 26 (((jj : Int) * 20) + (s : Int)).toNat).toInt ≠ -1)) 20) (fun jj : Nat => (hp.1 26 (((jj : Int) * 20) + aI).toNat).toInt) (fun jj : Nat => oz (fun s => decide ((hp.1 27 s).toInt ≠ -1 ∧ (hp.1 26 (((jj : Int) * 20) + (s : Int)).toNat).toInt ≠ -1)) (fun s => (hp.1 26 (((jj : Int) * 20) + (s : Int)).toNat).toInt - (hp.1 27 s).toInt) 20) 5).2.2 → Q (some (.int 1)) (SH b xs) (sL (sL hp 25 2 u) 25 3 dd)) (h2 : 0 ≤ aI ∧ aI < 20 ∧ (wz (fun jj : Nat => cz (fun s => decide ((hp.1 27 s).toInt ≠ -1 ∧ (hp.1 26 (((jj : Int) * 20) + (s : Int)).toNat).toInt ≠ -1)) 20) (fun jj : Nat => (hp.1 26 (((jj : Int) * 20) + aI).toNat).toInt) (fun jj : Nat => oz (fun s => decide ((hp.1 27 s).toInt ≠ -1 ∧ (hp.1 26 (((jj : Int) * 20) + (s : Int)).toNat).toInt ≠ -1)) (fun s => (hp.1 26 (((jj : Int) * 20) + (s : Int)).toNat).toInt - (hp.1 27 s).toInt) 20) 5).2.2 = 0 → ∀ u dd : Int64, Q (some (.int 0)) (SH b xs) (sL (sL hp 25 2 u) 25 3 dd)) : ∀ (f k : Nat) (i J : Int32) (u dd : Int64) (w4 w5 w6 w7 : Value), i.toInt = (k : Int) → J.toInt = (wz (fun jj : Nat => cz (fun s => decide ((hp.1 27 s).toInt ≠ -1 ∧ (hp.1 26 (((jj : Int) * 20) + (s : Int)).toNat).toInt ≠ -1)) 20) (fun jj : Nat => (hp.1 26 (((jj : Int) * 20) + aI).toNat).toInt) (fun jj : Nat => oz (fun s => decide ((hp.1 27 s).toInt ≠ -1 ∧ (hp.1 26 (((jj : Int) * 20) + (s : Int)).toNat).toInt ≠ -1)) (fun s => (hp.1 26 (((jj : Int) * 20) + (s : Int)).toNat).toInt - (hp.1 27 s).toInt) 20) k).2.2 → u.toInt = (wz (fun jj : Nat => cz (fun s => decide ((hp.1 27 s).toInt ≠ -1 ∧ (hp.1 26 (((jj : Int) * 20) + (s : Int)).toNat).toInt ≠ -1)) 20) (fun jj : Nat => (hp.1 26 (((jj : Int) * 20) + aI).toNat).toInt) (fun jj : Nat => oz (fun s => decide ((hp.1 27 s).toInt ≠ -1 ∧ (hp.1 26 (((jj : Int) * 20) + (s : Int)).toNat).toInt ≠ -1)) (fun s => (hp.1 26 (((jj : Int) * 20) + (s : Int)).toNat).toInt - (hp.1 27 s).toInt) 20) k).1 → dd.toInt = (wz (fun jj : Nat => cz (fun s => decide ((hp.1 27 s).toInt ≠ -1 ∧ (hp.1 26 (((jj : Int) * 20) + (s : Int)).toNat).toInt ≠ -1)) 20) (fun jj : Nat => (hp.1 26 (((jj : Int) * 20) + aI).toNat).toInt) (fun jj : Nat => oz (fun s => decide ((hp.1 27 s).toInt ≠ -1 ∧ (hp.1 26 (((jj : Int) * 20) + (s : Int)).toNat).toInt ≠ -1)) (fun s => (hp.1 26 (((jj : Int) * 20) + (s : Int)).toNat).toInt - (hp.1 27 s).toInt) 20) k).2.1 → k ≤ 5 → 5 - k < f → gG mX2_weigh (d + 2) 0 0 (zQ 0 0 Q) 0 0 (23, [.ref 25, .int a, .int J, .int i, w4, w5, w6, w7], [], (SH b xs), (sL (sL hp 25 2 u) 25 3 dd)) := by
  intro f
  induction f with
  | zero => intros; omega
  | succ f ih =>
    intro k i J u dd w4 w5 w6 w7 iE jE uE dE hk hf
    have hbd := wz_bd (n := (fun jj : Nat => cz (fun s => decide ((hp.1 27 s).toInt ≠ -1 ∧ (hp.1 26 (((jj : Int) * 20) + (s : Int)).toNat).toInt ≠ -1)) 20)) (g := (fun jj : Nat => (hp.1 26 (((jj : Int) * 20) + aI).toNat).toInt)) (o := (fun jj : Nat => oz (fun s => decide ((hp.1 27 s).toInt ≠ -1 ∧ (hp.1 26 (((jj : Int) * 20) + (s : Int)).toNat).toInt ≠ -1)) (fun s => (hp.1 26 (((jj : Int) * 20) + (s : Int)).toNat).toInt - (hp.1 27 s).toInt) 20)) (by intro z hz; have := cz_bd (p := (fun s => decide ((hp.1 27 s).toInt ≠ -1 ∧ (hp.1 26 (((z : Int) * 20) + (s : Int)).toNat).toInt ≠ -1))) 20; (try dsimp only); omega) (by intro z hz; have := mw (((z : Int) * 20) + aI).toNat (by omega); (try dsimp only); omega) (by intro z hz; have := oz_bd (p := (fun s => decide ((hp.1 27 s).toInt ≠ -1 ∧ (hp.1 26 (((z : Int) * 20) + (s : Int)).toNat).toInt ≠ -1))) (f := (fun s => (hp.1 26 (((z : Int) * 20) + (s : Int)).toNat).toInt - (hp.1 27 s).toInt)) (B := 101) (n := 20) (by omega) (fun s hs => by have := mw (((z : Int) * 20) + (s : Int)).toNat (by omega); have := tw s hs; (try dsimp only); omega) 20 (by omega); (try dsimp only); omega)
    refine g_run 2 rfl ?_
    refine gj_ge (kx := (k : Int)) (kz := 5) rfl iE (by decide) (fun k1 => ?_) (fun k1 => ?_)
    · refine g_run 8 rfl ?_
      refine gz_le (kx := (wz (fun jj : Nat => cz (fun s => decide ((hp.1 27 s).toInt ≠ -1 ∧ (hp.1 26 (((jj : Int) * 20) + (s : Int)).toNat).toInt ≠ -1)) 20) (fun jj : Nat => (hp.1 26 (((jj : Int) * 20) + aI).toNat).toInt) (fun jj : Nat => oz (fun s => decide ((hp.1 27 s).toInt ≠ -1 ∧ (hp.1 26 (((jj : Int) * 20) + (s : Int)).toNat).toInt ≠ -1)) (fun s => (hp.1 26 (((jj : Int) * 20) + (s : Int)).toNat).toInt - (hp.1 27 s).toInt) 20) k).2.2) rfl jE (fun k2 => ?_) (fun k2 => ?_)
      · refine g_run 1 rfl ?_
        obtain rfl : k = 5 := by omega
        rw [sL_same]
        have hbk := hbd 5 (by omega)
        exact g_zret rfl rfl (Or.inl rfl) (h2 (by omega) _ _)
      · refine g_run 2 rfl ?_
        obtain rfl : k = 5 := by omega
        rw [sL_same]
        exact g_zret rfl rfl (Or.inr rfl) (h1 (by omega) _ _ uE (by have hbk := hbd 5 (by omega); exact la_mul2 dE (t64 jE) (by have := mul_bd (a := (wz (fun jj : Nat => cz (fun s => decide ((hp.1 27 s).toInt ≠ -1 ∧ (hp.1 26 (((jj : Int) * 20) + (s : Int)).toNat).toInt ≠ -1)) 20) (fun jj : Nat => (hp.1 26 (((jj : Int) * 20) + aI).toNat).toInt) (fun jj : Nat => oz (fun s => decide ((hp.1 27 s).toInt ≠ -1 ∧ (hp.1 26 (((jj : Int) * 20) + (s : Int)).toNat).toInt ≠ -1)) (fun s => (hp.1 26 (((jj : Int) * 20) + (s : Int)).toNat).toInt - (hp.1 27 s).toInt) 20) 5).2.1) (b := (wz (fun jj : Nat => cz (fun s => decide ((hp.1 27 s).toInt ≠ -1 ∧ (hp.1 26 (((jj : Int) * 20) + (s : Int)).toNat).toInt ≠ -1)) 20) (fun jj : Nat => (hp.1 26 (((jj : Int) * 20) + aI).toNat).toInt) (fun jj : Nat => oz (fun s => decide ((hp.1 27 s).toInt ≠ -1 ∧ (hp.1 26 (((jj : Int) * 20) + (s : Int)).toNat).toInt ≠ -1)) (fun s => (hp.1 26 (((jj : Int) * 20) + (s : Int)).toNat).toInt - (hp.1 27 s).toInt) 20) 5).2.2) (A := 3200000) (B := 5) (by omega) (by omega); omega) (by have := mul_bd (a := (wz (fun jj : Nat => cz (fun s => decide ((hp.1 27 s).toInt ≠ -1 ∧ (hp.1 26 (((jj : Int) * 20) + (s : Int)).toNat).toInt ≠ -1)) 20) (fun jj : Nat => (hp.1 26 (((jj : Int) * 20) + aI).toNat).toInt) (fun jj : Nat => oz (fun s => decide ((hp.1 27 s).toInt ≠ -1 ∧ (hp.1 26 (((jj : Int) * 20) + (s : Int)).toNat).toInt ≠ -1)) (fun s => (hp.1 26 (((jj : Int) * 20) + (s : Int)).toNat).toInt - (hp.1 27 s).toInt) 20) 5).2.1) (b := (wz (fun jj : Nat => cz (fun s => decide ((hp.1 27 s).toInt ≠ -1 ∧ (hp.1 26 (((jj : Int) * 20) + (s : Int)).toNat).toInt ≠ -1)) 20) (fun jj : Nat => (hp.1 26 (((jj : Int) * 20) + aI).toNat).toInt) (fun jj : Nat => oz (fun s => decide ((hp.1 27 s).toInt ≠ -1 ∧ (hp.1 26 (((jj : Int) * 20) + (s : Int)).toNat).toInt ≠ -1)) (fun s => (hp.1 26 (((jj : Int) * 20) + (s : Int)).toNat).toInt - (hp.1 27 s).toInt) 20) 5).2.2) (A := 3200000) (B := 5) (by omega) (by omega); omega)))
    · refine g_run 2 rfl ?_
      refine g_callV0 rfl LX2_57 rfl rfl rfl rfl ?_
      refine c_X2_toldMarkedBy (jI := (k : Int)) iE (by omega) (fun nn rN => ?_)
      have rN : nn.toInt = (cz (fun s => decide ((hp.1 27 s).toInt ≠ -1 ∧ (hp.1 26 (((k : Int) * 20) + (s : Int)).toNat).toInt ≠ -1)) 20) := rN
      refine g_run 8 rfl ?_
      refine g_iald (j := (((k : Int) * 20) + aI).toNat) rfl rfl ((show _ = (((k : Int) * 20) + aI) from (ia_add2 (ia_mul2 iE (by decide) (by omega) (by omega)) aE (by omega) (by omega))).trans (by omega)) (by omega) ?_
      refine g_run 3 rfl ?_
      refine gj_eq (kx := (hp.1 26 ((((k : Int) * 20) + aI).toNat)).toInt) (kz := (-1)) rfl rfl (by decide) (fun k3 => ?_) (fun k3 => ?_)
      · refine g_run 2 rfl ?_
        have hmk := mw (((k : Int) * 20) + aI).toNat (by omega)
        have hw := wz_f (n := (fun jj : Nat => cz (fun s => decide ((hp.1 27 s).toInt ≠ -1 ∧ (hp.1 26 (((jj : Int) * 20) + (s : Int)).toNat).toInt ≠ -1)) 20)) (g := (fun jj : Nat => (hp.1 26 (((jj : Int) * 20) + aI).toNat).toInt)) (o := (fun jj : Nat => oz (fun s => decide ((hp.1 27 s).toInt ≠ -1 ∧ (hp.1 26 (((jj : Int) * 20) + (s : Int)).toNat).toInt ≠ -1)) (fun s => (hp.1 26 (((jj : Int) * 20) + (s : Int)).toNat).toInt - (hp.1 27 s).toInt) 20)) (k := k) (by (try dsimp only); omega)
        exact ih (k + 1) _ _ _ _ _ _ _ _ (inc1 iE (by omega)) (by rw [hw]; exact jE) (by rw [hw]; exact uE) (by rw [hw]; exact dE) (by omega) (by omega)
      · refine g_run 1 rfl ?_
        refine gz_le (kx := (cz (fun s => decide ((hp.1 27 s).toInt ≠ -1 ∧ (hp.1 26 (((k : Int) * 20) + (s : Int)).toNat).toInt ≠ -1)) 20)) rfl rN (fun k4 => ?_) (fun k4 => ?_)
        · refine g_run 2 rfl ?_
          have hmk := mw (((k : Int) * 20) + aI).toNat (by omega)
          have hw := wz_f (n := (fun jj : Nat => cz (fun s => decide ((hp.1 27 s).toInt ≠ -1 ∧ (hp.1 26 (((jj : Int) * 20) + (s : Int)).toNat).toInt ≠ -1)) 20)) (g := (fun jj : Nat => (hp.1 26 (((jj : Int) * 20) + aI).toNat).toInt)) (o := (fun jj : Nat => oz (fun s => decide ((hp.1 27 s).toInt ≠ -1 ∧ (hp.1 26 (((jj : Int) * 20) + (s : Int)).toNat).toInt ≠ -1)) (fun s => (hp.1 26 (((jj : Int) * 20) + (s : Int)).toNat).toInt - (hp.1 27 s).toInt) 20)) (k := k) (by (try dsimp only); omega)
          exact ih (k + 1) _ _ _ _ _ _ _ _ (inc1 iE (by omega)) (by rw [hw]; exact jE) (by rw [hw]; exact uE) (by rw [hw]; exact dE) (by omega) (by omega)
        · refine g_run 7 rfl ?_
          refine g_callV0 rfl LX2_61 rfl rfl rfl rfl ?_
          refine c_X2_excessOf (jI := (k : Int)) iE (by omega) mw tw (fun oo rO => ?_)
          have rO : oo.toInt = (oz (fun s => decide ((hp.1 27 s).toInt ≠ -1 ∧ (hp.1 26 (((k : Int) * 20) + (s : Int)).toNat).toInt ≠ -1)) (fun s => (hp.1 26 (((k : Int) * 20) + (s : Int)).toNat).toInt - (hp.1 27 s).toInt) 20) := rO
          refine g_run 25 rfl ?_
          rw [sL_norm (by decide)]
          have hmk := mw (((k : Int) * 20) + aI).toNat (by omega)
          have hbk := hbd k (by omega)
          have hnk := cz_bd (p := (fun s => decide ((hp.1 27 s).toInt ≠ -1 ∧ (hp.1 26 (((k : Int) * 20) + (s : Int)).toNat).toInt ≠ -1))) 20
          have hst := wz_64 uE dE (t64 rN) (t64 rfl) (t64 rO) (by omega) (by omega) (by omega) (by omega) (by have := oz_bd (p := (fun s => decide ((hp.1 27 s).toInt ≠ -1 ∧ (hp.1 26 (((k : Int) * 20) + (s : Int)).toNat).toInt ≠ -1))) (f := (fun s => (hp.1 26 (((k : Int) * 20) + (s : Int)).toNat).toInt - (hp.1 27 s).toInt)) (B := 101) (n := 20) (by omega) (fun s hs => by have := mw (((k : Int) * 20) + (s : Int)).toNat (by omega); have := tw s hs; (try dsimp only); omega) 20 (by omega); omega)
          have hw := wz_t (n := (fun jj : Nat => cz (fun s => decide ((hp.1 27 s).toInt ≠ -1 ∧ (hp.1 26 (((jj : Int) * 20) + (s : Int)).toNat).toInt ≠ -1)) 20)) (g := (fun jj : Nat => (hp.1 26 (((jj : Int) * 20) + aI).toNat).toInt)) (o := (fun jj : Nat => oz (fun s => decide ((hp.1 27 s).toInt ≠ -1 ∧ (hp.1 26 (((jj : Int) * 20) + (s : Int)).toNat).toInt ≠ -1)) (fun s => (hp.1 26 (((jj : Int) * 20) + (s : Int)).toNat).toInt - (hp.1 27 s).toInt) 20)) (k := k) (by (try dsimp only); omega)
          exact ih (k + 1) _ _ _ _ _ _ _ _ (inc1 iE (by omega)) (by rw [hw]; exact ia_add2 jE (by decide) (by omega) (by omega)) (by rw [hw]; exact hst.1) (by rw [hw]; exact hst.2) (by omega) (by omega)
theorem c_X2_weigh {a : Int32} {aI : Int} (aE : a.toInt = aI) (mw : ∀ i, i < 100 → -1 ≤ (hp.1 26 i).toInt ∧ (hp.1 26 i).toInt ≤ 100) (tw : ∀ i, i < 20 → -1 ≤ (hp.1 27 i).toInt ∧ (hp.1 27 i).toInt ≤ 100) (h1 : 0 ≤ aI ∧ aI < 20 ∧ 0 < (wz (fun jj : Nat => cz (fun s => decide ((hp.1 27 s).toInt ≠ -1 ∧ (hp.1 26 (((jj : Int) * 20) + (s : Int)).toNat).toInt ≠ -1)) 20) (fun jj : Nat => (hp.1 26 (((jj : Int) * 20) + aI).toNat).toInt) (fun jj : Nat => oz (fun s => decide ((hp.1 27 s).toInt ≠ -1 ∧ (hp.1 26 (((jj : Int) * 20) + (s : Int)).toNat).toInt ≠ -1)) (fun s => (hp.1 26 (((jj : Int) * 20) + (s : Int)).toNat).toInt - (hp.1 27 s).toInt) 20) 5).2.2 → ∀ u dd : Int64, u.toInt = (wz (fun jj : Nat => cz (fun s => decide ((hp.1 27 s).toInt ≠ -1 ∧ (hp.1 26 (((jj : Int) * 20) + (s : Int)).toNat).toInt ≠ -1)) 20) (fun jj : Nat => (hp.1 26 (((jj : Int) * 20) + aI).toNat).toInt) (fun jj : Nat => oz (fun s => decide ((hp.1 27 s).toInt ≠ -1 ∧ (hp.1 26 (((jj : Int) * 20) + (s : Int)).toNat).toInt ≠ -1)) (fun s => (hp.1 26 (((jj : Int) * 20) + (s : Int)).toNat).toInt - (hp.1 27 s).toInt) 20) 5).1 → dd.toInt = (wz (fun jj : Nat => cz (fun s => decide ((hp.1 27 s).toInt ≠ -1 ∧ (hp.1 26 (((jj : Int) * 20) + (s : Int)).toNat).toInt ≠ -1)) 20) (fun jj : Nat => (hp.1 26 (((jj : Int) * 20) + aI).toNat).toInt) (fun jj : Nat => oz (fun s => decide ((hp.1 27 s).toInt ≠ -1 ∧ (hp.1 26 (((jj : Int) * 20) + (s : Int)).toNat).toInt ≠ -1)) (fun s => (hp.1 26 (((jj : Int) * 20) + (s : Int)).toNat).toInt - (hp.1 27 s).toInt) 20) 5).2.1 * (wz (fun jj : Nat => cz (fun s => decide ((hp.1 27 s).toInt ≠ -1 ∧ (hp.1 26 (((jj : Int) * 20) + (s : Int)).toNat).toInt ≠ -1)) 20) (fun jj : Nat => (hp.1 26 (((jj : Int) * 20) + aI).toNat).toInt) (fun jj : Nat => oz (fun s => decide ((hp.1 27 s).toInt ≠ -1 ∧ (hp.1 26 (((jj : Int) * 20) + (s : Int)).toNat).toInt ≠ -1)) (fun s => (hp.1 26 (((jj : Int) * 20) + (s : Int)).toNat).toInt - (hp.1 27 s).toInt) 20) 5).2.2 → Q (some (.int 1)) (SH b xs) (sL (sL hp 25 2 u) 25 3 dd)) (h2 : 0 ≤ aI ∧ aI < 20 ∧ (wz (fun jj : Nat => cz (fun s => decide ((hp.1 27 s).toInt ≠ -1 ∧ (hp.1 26 (((jj : Int) * 20) + (s : Int)).toNat).toInt ≠ -1)) 20) (fun jj : Nat => (hp.1 26 (((jj : Int) * 20) + aI).toNat).toInt) (fun jj : Nat => oz (fun s => decide ((hp.1 27 s).toInt ≠ -1 ∧ (hp.1 26 (((jj : Int) * 20) + (s : Int)).toNat).toInt ≠ -1)) (fun s => (hp.1 26 (((jj : Int) * 20) + (s : Int)).toNat).toInt - (hp.1 27 s).toInt) 20) 5).2.2 = 0 → ∀ u dd : Int64, Q (some (.int 0)) (SH b xs) (sL (sL hp 25 2 u) 25 3 dd)) (h0 : aI < 0 ∨ 20 ≤ aI → Q (some (.int 0)) (SH b xs) hp) : gC mX2_weigh (d + 2) 0 0 [.ref 25, .int a] (SH b xs) hp Q := by
  refine g_enter okX2_weigh (plainFor_of_name rfl) rfl ?_
  refine g_run 1 rfl ?_
  refine g_callS0 rfl LX2_35 rfl rfl ?_
  refine c_X2_hasSample (nI := aI) aE (fun k1 => ?_) (fun k2 => ?_)
  · refine gz_ne (kx := 1) rfl (show (1 : Int32).toInt = 1 from by decide) (fun _ => ?_) (fun q => absurd q (by decide))
    refine g_run 10 rfl ?_
    exact lp_X2_weigh mw tw aE (by omega) h1 h2 6 0 0 0 0 1 _ _ _ _ (by decide) (show (0 : Int32).toInt = 0 from by decide) (show (0 : Int64).toInt = 0 from by decide) (show (1 : Int64).toInt = 1 from by decide) (by omega) (by omega)
  · refine gz_ne (kx := 0) rfl (show (0 : Int32).toInt = 0 from by decide) (fun q => absurd q (by decide)) (fun _ => ?_)
    refine g_run 1 rfl ?_
    exact g_zret rfl rfl (Or.inl rfl) (h0 (by omega))
end S17
end
section
/-! cups of the reference, order and worth -/
theorem l64_pos {n : Int64} (h : 0 < (lg_cmp n 0).toInt) : 0 < n.toInt := by
  have := lgc_gt (x := n) (z := 0) (by omega) (by omega)
  rw [Int64.lt_iff_toInt_lt] at this
  exact this
theorem l64_npos {n : Int64} (h : (lg_cmp n 0).toInt ≤ 0) : n.toInt ≤ 0 := by
  rcases Int.lt_or_eq_of_le h with h | h
  · have := lgc_lt h
    rw [Int64.lt_iff_toInt_lt] at this
    have e : (0 : Int64).toInt = 0 := by decide
    omega
  · rw [lgc_eq h]; decide
section S18
variable {d : Nat} {sh : sh_T} {hp : hp_T} {Q : Option Value → sh_T → hp_T → Prop} {b : Bool} {xs : sh_T}
theorem lpi_X10_weighs  (mw : ∀ i, i < 100 → -1 ≤ (hp.1 69 i).toInt ∧ (hp.1 69 i).toInt ≤ 100) (tw : ∀ i, i < 20 → -1 ≤ (hp.1 70 i).toInt ∧ (hp.1 70 i).toInt ≤ 100) {a J i : Int32} {jn : Nat} {u dd : Int64} (hj : jn < 5) (iE : i.toInt = (jn : Int)) (hx : ∀ (n64 o64 : Int64) (q : Int32), n64.toInt = cz (fun s => decide ((hp.1 70 s).toInt ≠ -1 ∧ (hp.1 69 ((20 * (jn : Int)) + (s : Int)).toNat).toInt ≠ -1)) 20 → o64.toInt = oz (fun s => decide ((hp.1 70 s).toInt ≠ -1 ∧ (hp.1 69 ((20 * (jn : Int)) + (s : Int)).toNat).toInt ≠ -1)) (fun s => (hp.1 69 ((20 * (jn : Int)) + (s : Int)).toNat).toInt - (hp.1 70 s).toInt) 20 → gG mX10_weighs d 0 0 (zQ 0 0 Q) 0 0 (98, [.ref 43, .int a, .int J, .int i, .long n64, .retAddr 0, .long o64, .retAddr 0, .int q], [], (SH b xs), (sL (sL hp 43 49 u) 43 50 dd))) : ∀ (f k : Nat) (q : Int32) (n64 o64 : Int64), q.toInt = (k : Int) → n64.toInt = cz (fun s => decide ((hp.1 70 s).toInt ≠ -1 ∧ (hp.1 69 ((20 * (jn : Int)) + (s : Int)).toNat).toInt ≠ -1)) k → o64.toInt = oz (fun s => decide ((hp.1 70 s).toInt ≠ -1 ∧ (hp.1 69 ((20 * (jn : Int)) + (s : Int)).toNat).toInt ≠ -1)) (fun s => (hp.1 69 ((20 * (jn : Int)) + (s : Int)).toNat).toInt - (hp.1 70 s).toInt) k → k ≤ 20 → 20 - k < f → gG mX10_weighs d 0 0 (zQ 0 0 Q) 0 0 (28, [.ref 43, .int a, .int J, .int i, .long n64, .retAddr 0, .long o64, .retAddr 0, .int q], [], (SH b xs), (sL (sL hp 43 49 u) 43 50 dd)) := by
  intro f
  induction f with
  | zero => intros; omega
  | succ f ih =>
    intro k q n64 o64 qE nE oE hk hf
    have hmk := fun z : k < 20 => mw ((20 * (jn : Int)) + (k : Int)).toNat (by omega)
    have htk := fun z : k < 20 => tw k z
    refine g_run 2 rfl ?_
    refine gj_ge (kx := (k : Int)) (kz := 20) rfl qE (by decide) (fun k1 => ?_) (fun k1 => ?_)
    · obtain rfl : k = 20 := by omega
      exact hx _ _ _ nE oE
    · refine g_run 3 rfl ?_
      refine g_iald (j := k) rfl rfl ((show _ = (k : Int) from qE).trans (by omega)) (by omega) ?_
      refine gz_lt (kx := (hp.1 70 k).toInt) rfl rfl (fun k2 => ?_) (fun k2 => ?_)
      · refine g_run 2 rfl ?_
        exact ih (k + 1) _ _ _ (inc1 qE (by omega)) (by rw [cz_f (p := (fun s => decide ((hp.1 70 s).toInt ≠ -1 ∧ (hp.1 69 ((20 * (jn : Int)) + (s : Int)).toNat).toInt ≠ -1))) (k := k) (by simp; omega)]; exact nE) (by rw [oz_f (p := (fun s => decide ((hp.1 70 s).toInt ≠ -1 ∧ (hp.1 69 ((20 * (jn : Int)) + (s : Int)).toNat).toInt ≠ -1))) (f := (fun s => (hp.1 69 ((20 * (jn : Int)) + (s : Int)).toNat).toInt - (hp.1 70 s).toInt)) (k := k) (by simp; omega)]; exact oE) (by omega) (by omega)
      · refine g_run 7 rfl ?_
        refine g_iald (j := ((20 * (jn : Int)) + (k : Int)).toNat) rfl rfl ((show _ = ((20 * (jn : Int)) + (k : Int)) from (ia_add2 (ia_mul2 (by decide) iE (by omega) (by omega)) qE (by omega) (by omega))).trans (by omega)) (by omega) ?_
        refine gz_lt (kx := (hp.1 69 (((20 * (jn : Int)) + (k : Int)).toNat)).toInt) rfl rfl (fun k3 => ?_) (fun k3 => ?_)
        · refine g_run 2 rfl ?_
          exact ih (k + 1) _ _ _ (inc1 qE (by omega)) (by rw [cz_f (p := (fun s => decide ((hp.1 70 s).toInt ≠ -1 ∧ (hp.1 69 ((20 * (jn : Int)) + (s : Int)).toNat).toInt ≠ -1))) (k := k) (by simp; omega)]; exact nE) (by rw [oz_f (p := (fun s => decide ((hp.1 70 s).toInt ≠ -1 ∧ (hp.1 69 ((20 * (jn : Int)) + (s : Int)).toNat).toInt ≠ -1))) (f := (fun s => (hp.1 69 ((20 * (jn : Int)) + (s : Int)).toNat).toInt - (hp.1 70 s).toInt)) (k := k) (by simp; omega)]; exact oE) (by omega) (by omega)
        · refine g_run 12 rfl ?_
          refine g_iald (j := ((20 * (jn : Int)) + (k : Int)).toNat) rfl rfl ((show _ = ((20 * (jn : Int)) + (k : Int)) from (ia_add2 (ia_mul2 (by decide) iE (by omega) (by omega)) qE (by omega) (by omega))).trans (by omega)) (by omega) ?_
          refine g_run 3 rfl ?_
          refine g_iald (j := k) rfl rfl ((show _ = (k : Int) from qE).trans (by omega)) (by omega) ?_
          refine g_run 6 rfl ?_
          have hb := oz_bd (p := (fun s => decide ((hp.1 70 s).toInt ≠ -1 ∧ (hp.1 69 ((20 * (jn : Int)) + (s : Int)).toNat).toInt ≠ -1))) (f := (fun s => (hp.1 69 ((20 * (jn : Int)) + (s : Int)).toNat).toInt - (hp.1 70 s).toInt)) (B := 101) (n := 20) (by omega) (fun s hs => by have := mw ((20 * (jn : Int)) + (s : Int)).toNat (by omega); have := tw s hs; (try dsimp only); omega) k (by omega)
          have hkk : (k : Int) ≤ 20 := by omega
          exact ih (k + 1) _ _ _ (inc1 qE (by omega)) (by rw [cz_t (p := (fun s => decide ((hp.1 70 s).toInt ≠ -1 ∧ (hp.1 69 ((20 * (jn : Int)) + (s : Int)).toNat).toInt ≠ -1))) (k := k) (by simp; omega)]; exact la_add2 nE (by decide) (by have := cz_bd (fun s => decide ((hp.1 70 s).toInt ≠ -1 ∧ (hp.1 69 ((20 * (jn : Int)) + (s : Int)).toNat).toInt ≠ -1)) k; omega) (by have := cz_bd (fun s => decide ((hp.1 70 s).toInt ≠ -1 ∧ (hp.1 69 ((20 * (jn : Int)) + (s : Int)).toNat).toInt ≠ -1)) k; omega)) (by rw [oz_t (p := (fun s => decide ((hp.1 70 s).toInt ≠ -1 ∧ (hp.1 69 ((20 * (jn : Int)) + (s : Int)).toNat).toInt ≠ -1))) (f := (fun s => (hp.1 69 ((20 * (jn : Int)) + (s : Int)).toNat).toInt - (hp.1 70 s).toInt)) (k := k) (by simp; omega)]; exact la_add2 oE (t64 (ia_sub2 rfl rfl (by omega) (by omega))) (by omega) (by omega)) (by omega) (by omega)
theorem lp_X10_weighs  (mw : ∀ i, i < 100 → -1 ≤ (hp.1 69 i).toInt ∧ (hp.1 69 i).toInt ≤ 100) (tw : ∀ i, i < 20 → -1 ≤ (hp.1 70 i).toInt ∧ (hp.1 70 i).toInt ≤ 100) {a : Int32} {aI : Int} (aE : a.toInt = aI) (ha : 0 ≤ aI ∧ aI < 20) (h1 : 0 < (wz (fun jj : Nat => cz (fun s => decide ((hp.1 70 s).toInt ≠ -1 ∧ (hp.1 69 ((20 * (jj : Int)) + (s : Int)).toNat).toInt ≠ -1)) 20) (fun jj : Nat => (hp.1 69 ((20 * (jj : Int)) + aI).toNat).toInt) (fun jj : Nat => oz (fun s => decide ((hp.1 70 s).toInt ≠ -1 ∧ (hp.1 69 ((20 * (jj : Int)) + (s : Int)).toNat).toInt ≠ -1)) (fun s => (hp.1 69 ((20 * (jj : Int)) + (s : Int)).toNat).toInt - (hp.1 70 s).toInt) 20) 5).2.2 → ∀ u dd : Int64, u.toInt = (wz (fun jj : Nat => cz (fun s => decide ((hp.1 70 s).toInt ≠ -1 ∧ (hp.1 69 ((20 * (jj : Int)) + (s : Int)).toNat).toInt ≠ -1)) 20) (fun jj : Nat => (hp.1 69 ((20 * (jj : Int)) + aI).toNat).toInt) (fun jj : Nat => oz (fun s => decide ((hp.1 70 s).toInt ≠ -1 ∧ (hp.1 69 ((20 * (jj : Int)) + (s : Int)).toNat).toInt ≠ -1)) (fun s => (hp.1 69 ((20 * (jj : Int)) + (s : Int)).toNat).toInt - (hp.1 70 s).toInt) 20) 5).1 → dd.toInt = (wz (fun jj : Nat => cz (fun s => decide ((hp.1 70 s).toInt ≠ -1 ∧ (hp.1 69 ((20 * (jj : Int)) + (s : Int)).toNat).toInt ≠ -1)) 20) (fun jj : Nat => (hp.1 69 ((20 * (jj : Int)) + aI).toNat).toInt) (fun jj : Nat => oz (fun s => decide ((hp.1 70 s).toInt ≠ -1 ∧ (hp.1 69 ((20 * (jj : Int)) + (s : Int)).toNat).toInt ≠ -1)) (fun s => (hp.1 69 ((20 * (jj : Int)) + (s : Int)).toNat).toInt - (hp.1 70 s).toInt) 20) 5).2.1 * (wz (fun jj : Nat => cz (fun s => decide ((hp.1 70 s).toInt ≠ -1 ∧ (hp.1 69 ((20 * (jj : Int)) + (s : Int)).toNat).toInt ≠ -1)) 20) (fun jj : Nat => (hp.1 69 ((20 * (jj : Int)) + aI).toNat).toInt) (fun jj : Nat => oz (fun s => decide ((hp.1 70 s).toInt ≠ -1 ∧ (hp.1 69 ((20 * (jj : Int)) + (s : Int)).toNat).toInt ≠ -1)) (fun s => (hp.1 69 ((20 * (jj : Int)) + (s : Int)).toNat).toInt - (hp.1 70 s).toInt) 20) 5).2.2 → Q (some (.int 1)) (SH b xs) (sL (sL hp 43 49 u) 43 50 dd)) (h2 : (wz (fun jj : Nat => cz (fun s => decide ((hp.1 70 s).toInt ≠ -1 ∧ (hp.1 69 ((20 * (jj : Int)) + (s : Int)).toNat).toInt ≠ -1)) 20) (fun jj : Nat => (hp.1 69 ((20 * (jj : Int)) + aI).toNat).toInt) (fun jj : Nat => oz (fun s => decide ((hp.1 70 s).toInt ≠ -1 ∧ (hp.1 69 ((20 * (jj : Int)) + (s : Int)).toNat).toInt ≠ -1)) (fun s => (hp.1 69 ((20 * (jj : Int)) + (s : Int)).toNat).toInt - (hp.1 70 s).toInt) 20) 5).2.2 = 0 → ∀ u dd : Int64, Q (some (.int 0)) (SH b xs) (sL (sL hp 43 49 u) 43 50 dd)) : ∀ (f k : Nat) (i J : Int32) (u dd : Int64) (w4 w5 w6 w7 w8 : Value), i.toInt = (k : Int) → J.toInt = (wz (fun jj : Nat => cz (fun s => decide ((hp.1 70 s).toInt ≠ -1 ∧ (hp.1 69 ((20 * (jj : Int)) + (s : Int)).toNat).toInt ≠ -1)) 20) (fun jj : Nat => (hp.1 69 ((20 * (jj : Int)) + aI).toNat).toInt) (fun jj : Nat => oz (fun s => decide ((hp.1 70 s).toInt ≠ -1 ∧ (hp.1 69 ((20 * (jj : Int)) + (s : Int)).toNat).toInt ≠ -1)) (fun s => (hp.1 69 ((20 * (jj : Int)) + (s : Int)).toNat).toInt - (hp.1 70 s).toInt) 20) k).2.2 → u.toInt = (wz (fun jj : Nat => cz (fun s => decide ((hp.1 70 s).toInt ≠ -1 ∧ (hp.1 69 ((20 * (jj : Int)) + (s : Int)).toNat).toInt ≠ -1)) 20) (fun jj : Nat => (hp.1 69 ((20 * (jj : Int)) + aI).toNat).toInt) (fun jj : Nat => oz (fun s => decide ((hp.1 70 s).toInt ≠ -1 ∧ (hp.1 69 ((20 * (jj : Int)) + (s : Int)).toNat).toInt ≠ -1)) (fun s => (hp.1 69 ((20 * (jj : Int)) + (s : Int)).toNat).toInt - (hp.1 70 s).toInt) 20) k).1 → dd.toInt = (wz (fun jj : Nat => cz (fun s => decide ((hp.1 70 s).toInt ≠ -1 ∧ (hp.1 69 ((20 * (jj : Int)) + (s : Int)).toNat).toInt ≠ -1)) 20) (fun jj : Nat => (hp.1 69 ((20 * (jj : Int)) + aI).toNat).toInt) (fun jj : Nat => oz (fun s => decide ((hp.1 70 s).toInt ≠ -1 ∧ (hp.1 69 ((20 * (jj : Int)) + (s : Int)).toNat).toInt ≠ -1)) (fun s => (hp.1 69 ((20 * (jj : Int)) + (s : Int)).toNat).toInt - (hp.1 70 s).toInt) 20) k).2.1 → k ≤ 5 → 5 - k < f → gG mX10_weighs d 0 0 (zQ 0 0 Q) 0 0 (14, [.ref 43, .int a, .int J, .int i, w4, w5, w6, w7, w8], [], (SH b xs), (sL (sL hp 43 49 u) 43 50 dd)) := by
  intro f
  induction f with
  | zero => intros; omega
  | succ f ih =>
    intro k i J u dd w4 w5 w6 w7 w8 iE jE uE dE hk hf
    have hbd := wz_bd (n := (fun jj : Nat => cz (fun s => decide ((hp.1 70 s).toInt ≠ -1 ∧ (hp.1 69 ((20 * (jj : Int)) + (s : Int)).toNat).toInt ≠ -1)) 20)) (g := (fun jj : Nat => (hp.1 69 ((20 * (jj : Int)) + aI).toNat).toInt)) (o := (fun jj : Nat => oz (fun s => decide ((hp.1 70 s).toInt ≠ -1 ∧ (hp.1 69 ((20 * (jj : Int)) + (s : Int)).toNat).toInt ≠ -1)) (fun s => (hp.1 69 ((20 * (jj : Int)) + (s : Int)).toNat).toInt - (hp.1 70 s).toInt) 20)) (by intro z hz; have := cz_bd (p := (fun s => decide ((hp.1 70 s).toInt ≠ -1 ∧ (hp.1 69 ((20 * (z : Int)) + (s : Int)).toNat).toInt ≠ -1))) 20; (try dsimp only); omega) (by intro z hz; have := mw ((20 * (z : Int)) + aI).toNat (by omega); (try dsimp only); omega) (by intro z hz; have := oz_bd (p := (fun s => decide ((hp.1 70 s).toInt ≠ -1 ∧ (hp.1 69 ((20 * (z : Int)) + (s : Int)).toNat).toInt ≠ -1))) (f := (fun s => (hp.1 69 ((20 * (z : Int)) + (s : Int)).toNat).toInt - (hp.1 70 s).toInt)) (B := 101) (n := 20) (by omega) (fun s hs => by have := mw ((20 * (z : Int)) + (s : Int)).toNat (by omega); have := tw s hs; (try dsimp only); omega) 20 (by omega); (try dsimp only); omega)
    refine g_run 2 rfl ?_
    refine gj_ge (kx := (k : Int)) (kz := 5) rfl iE (by decide) (fun k1 => ?_) (fun k1 => ?_)
    · refine g_run 2 rfl ?_
      refine gz_ne (kx := (wz (fun jj : Nat => cz (fun s => decide ((hp.1 70 s).toInt ≠ -1 ∧ (hp.1 69 ((20 * (jj : Int)) + (s : Int)).toNat).toInt ≠ -1)) 20) (fun jj : Nat => (hp.1 69 ((20 * (jj : Int)) + aI).toNat).toInt) (fun jj : Nat => oz (fun s => decide ((hp.1 70 s).toInt ≠ -1 ∧ (hp.1 69 ((20 * (jj : Int)) + (s : Int)).toNat).toInt ≠ -1)) (fun s => (hp.1 69 ((20 * (jj : Int)) + (s : Int)).toNat).toInt - (hp.1 70 s).toInt) 20) k).2.2) rfl jE (fun k2 => ?_) (fun k2 => ?_)
      · refine g_run 7 rfl ?_
        refine gz_le (kx := (wz (fun jj : Nat => cz (fun s => decide ((hp.1 70 s).toInt ≠ -1 ∧ (hp.1 69 ((20 * (jj : Int)) + (s : Int)).toNat).toInt ≠ -1)) 20) (fun jj : Nat => (hp.1 69 ((20 * (jj : Int)) + aI).toNat).toInt) (fun jj : Nat => oz (fun s => decide ((hp.1 70 s).toInt ≠ -1 ∧ (hp.1 69 ((20 * (jj : Int)) + (s : Int)).toNat).toInt ≠ -1)) (fun s => (hp.1 69 ((20 * (jj : Int)) + (s : Int)).toNat).toInt - (hp.1 70 s).toInt) 20) k).2.2) rfl jE (fun k3 => ?_) (fun k3 => ?_)
        · refine g_run 1 rfl ?_
          obtain rfl : k = 5 := by omega
          rw [sL_same]
          have hbk := hbd 5 (by omega)
          exact g_zret rfl rfl (Or.inl rfl) (h2 (by omega) _ _)
        · refine g_run 2 rfl ?_
          obtain rfl : k = 5 := by omega
          rw [sL_same]
          have hbk := hbd 5 (by omega)
          first | (exfalso; omega) | exact g_zret rfl rfl (Or.inr rfl) (h1 (by omega) _ _ uE (by exact la_mul2 dE (t64 jE) (by have := mul_bd (a := (wz (fun jj : Nat => cz (fun s => decide ((hp.1 70 s).toInt ≠ -1 ∧ (hp.1 69 ((20 * (jj : Int)) + (s : Int)).toNat).toInt ≠ -1)) 20) (fun jj : Nat => (hp.1 69 ((20 * (jj : Int)) + aI).toNat).toInt) (fun jj : Nat => oz (fun s => decide ((hp.1 70 s).toInt ≠ -1 ∧ (hp.1 69 ((20 * (jj : Int)) + (s : Int)).toNat).toInt ≠ -1)) (fun s => (hp.1 69 ((20 * (jj : Int)) + (s : Int)).toNat).toInt - (hp.1 70 s).toInt) 20) 5).2.1) (b := (wz (fun jj : Nat => cz (fun s => decide ((hp.1 70 s).toInt ≠ -1 ∧ (hp.1 69 ((20 * (jj : Int)) + (s : Int)).toNat).toInt ≠ -1)) 20) (fun jj : Nat => (hp.1 69 ((20 * (jj : Int)) + aI).toNat).toInt) (fun jj : Nat => oz (fun s => decide ((hp.1 70 s).toInt ≠ -1 ∧ (hp.1 69 ((20 * (jj : Int)) + (s : Int)).toNat).toInt ≠ -1)) (fun s => (hp.1 69 ((20 * (jj : Int)) + (s : Int)).toNat).toInt - (hp.1 70 s).toInt) 20) 5).2.2) (A := 3200000) (B := 5) (by omega) (by omega); omega) (by have := mul_bd (a := (wz (fun jj : Nat => cz (fun s => decide ((hp.1 70 s).toInt ≠ -1 ∧ (hp.1 69 ((20 * (jj : Int)) + (s : Int)).toNat).toInt ≠ -1)) 20) (fun jj : Nat => (hp.1 69 ((20 * (jj : Int)) + aI).toNat).toInt) (fun jj : Nat => oz (fun s => decide ((hp.1 70 s).toInt ≠ -1 ∧ (hp.1 69 ((20 * (jj : Int)) + (s : Int)).toNat).toInt ≠ -1)) (fun s => (hp.1 69 ((20 * (jj : Int)) + (s : Int)).toNat).toInt - (hp.1 70 s).toInt) 20) 5).2.1) (b := (wz (fun jj : Nat => cz (fun s => decide ((hp.1 70 s).toInt ≠ -1 ∧ (hp.1 69 ((20 * (jj : Int)) + (s : Int)).toNat).toInt ≠ -1)) 20) (fun jj : Nat => (hp.1 69 ((20 * (jj : Int)) + aI).toNat).toInt) (fun jj : Nat => oz (fun s => decide ((hp.1 70 s).toInt ≠ -1 ∧ (hp.1 69 ((20 * (jj : Int)) + (s : Int)).toNat).toInt ≠ -1)) (fun s => (hp.1 69 ((20 * (jj : Int)) + (s : Int)).toNat).toInt - (hp.1 70 s).toInt) 20) 5).2.2) (A := 3200000) (B := 5) (by omega) (by omega); omega)))
      · refine g_run 4 rfl ?_
        refine gz_le (kx := (wz (fun jj : Nat => cz (fun s => decide ((hp.1 70 s).toInt ≠ -1 ∧ (hp.1 69 ((20 * (jj : Int)) + (s : Int)).toNat).toInt ≠ -1)) 20) (fun jj : Nat => (hp.1 69 ((20 * (jj : Int)) + aI).toNat).toInt) (fun jj : Nat => oz (fun s => decide ((hp.1 70 s).toInt ≠ -1 ∧ (hp.1 69 ((20 * (jj : Int)) + (s : Int)).toNat).toInt ≠ -1)) (fun s => (hp.1 69 ((20 * (jj : Int)) + (s : Int)).toNat).toInt - (hp.1 70 s).toInt) 20) k).2.2) rfl jE (fun k4 => ?_) (fun k4 => ?_)
        · refine g_run 1 rfl ?_
          obtain rfl : k = 5 := by omega
          rw [sL_same]
          have hbk := hbd 5 (by omega)
          exact g_zret rfl rfl (Or.inl rfl) (h2 (by omega) _ _)
        · refine g_run 2 rfl ?_
          obtain rfl : k = 5 := by omega
          rw [sL_same]
          have hbk := hbd 5 (by omega)
          first | (exfalso; omega) | exact g_zret rfl rfl (Or.inr rfl) (h1 (by omega) _ _ uE (by exact la_mul2 dE (t64 jE) (by have := mul_bd (a := (wz (fun jj : Nat => cz (fun s => decide ((hp.1 70 s).toInt ≠ -1 ∧ (hp.1 69 ((20 * (jj : Int)) + (s : Int)).toNat).toInt ≠ -1)) 20) (fun jj : Nat => (hp.1 69 ((20 * (jj : Int)) + aI).toNat).toInt) (fun jj : Nat => oz (fun s => decide ((hp.1 70 s).toInt ≠ -1 ∧ (hp.1 69 ((20 * (jj : Int)) + (s : Int)).toNat).toInt ≠ -1)) (fun s => (hp.1 69 ((20 * (jj : Int)) + (s : Int)).toNat).toInt - (hp.1 70 s).toInt) 20) 5).2.1) (b := (wz (fun jj : Nat => cz (fun s => decide ((hp.1 70 s).toInt ≠ -1 ∧ (hp.1 69 ((20 * (jj : Int)) + (s : Int)).toNat).toInt ≠ -1)) 20) (fun jj : Nat => (hp.1 69 ((20 * (jj : Int)) + aI).toNat).toInt) (fun jj : Nat => oz (fun s => decide ((hp.1 70 s).toInt ≠ -1 ∧ (hp.1 69 ((20 * (jj : Int)) + (s : Int)).toNat).toInt ≠ -1)) (fun s => (hp.1 69 ((20 * (jj : Int)) + (s : Int)).toNat).toInt - (hp.1 70 s).toInt) 20) 5).2.2) (A := 3200000) (B := 5) (by omega) (by omega); omega) (by have := mul_bd (a := (wz (fun jj : Nat => cz (fun s => decide ((hp.1 70 s).toInt ≠ -1 ∧ (hp.1 69 ((20 * (jj : Int)) + (s : Int)).toNat).toInt ≠ -1)) 20) (fun jj : Nat => (hp.1 69 ((20 * (jj : Int)) + aI).toNat).toInt) (fun jj : Nat => oz (fun s => decide ((hp.1 70 s).toInt ≠ -1 ∧ (hp.1 69 ((20 * (jj : Int)) + (s : Int)).toNat).toInt ≠ -1)) (fun s => (hp.1 69 ((20 * (jj : Int)) + (s : Int)).toNat).toInt - (hp.1 70 s).toInt) 20) 5).2.1) (b := (wz (fun jj : Nat => cz (fun s => decide ((hp.1 70 s).toInt ≠ -1 ∧ (hp.1 69 ((20 * (jj : Int)) + (s : Int)).toNat).toInt ≠ -1)) 20) (fun jj : Nat => (hp.1 69 ((20 * (jj : Int)) + aI).toNat).toInt) (fun jj : Nat => oz (fun s => decide ((hp.1 70 s).toInt ≠ -1 ∧ (hp.1 69 ((20 * (jj : Int)) + (s : Int)).toNat).toInt ≠ -1)) (fun s => (hp.1 69 ((20 * (jj : Int)) + (s : Int)).toNat).toInt - (hp.1 70 s).toInt) 20) 5).2.2) (A := 3200000) (B := 5) (by omega) (by omega); omega)))
    · refine g_run 6 rfl ?_
      refine lpi_X10_weighs mw tw (jn := k) (by omega) iE (fun n64 o64 q rN rO => ?_) 21 0 0 0 0 (by decide) (show (0 : Int64).toInt = 0 from by decide) (show (0 : Int64).toInt = 0 from by decide) (by omega) (by omega)
      refine g_run 7 rfl ?_
      refine g_iald (j := ((20 * (k : Int)) + aI).toNat) rfl rfl ((show _ = ((20 * (k : Int)) + aI) from (ia_add2 (ia_mul2 (by decide) iE (by omega) (by omega)) aE (by omega) (by omega))).trans (by omega)) (by omega) ?_
      refine gz_lt (kx := (hp.1 69 (((20 * (k : Int)) + aI).toNat)).toInt) rfl rfl (fun k5 => ?_) (fun k5 => ?_)
      · refine g_run 2 rfl ?_
        have hmk := mw ((20 * (k : Int)) + aI).toNat (by omega)
        have hw := wz_f (n := (fun jj : Nat => cz (fun s => decide ((hp.1 70 s).toInt ≠ -1 ∧ (hp.1 69 ((20 * (jj : Int)) + (s : Int)).toNat).toInt ≠ -1)) 20)) (g := (fun jj : Nat => (hp.1 69 ((20 * (jj : Int)) + aI).toNat).toInt)) (o := (fun jj : Nat => oz (fun s => decide ((hp.1 70 s).toInt ≠ -1 ∧ (hp.1 69 ((20 * (jj : Int)) + (s : Int)).toNat).toInt ≠ -1)) (fun s => (hp.1 69 ((20 * (jj : Int)) + (s : Int)).toNat).toInt - (hp.1 70 s).toInt) 20)) (k := k) (by (try dsimp only); first | omega | (have := l64_npos (by assumption); rw [rN] at this; omega))
        exact ih (k + 1) _ _ _ _ _ _ _ _ _ (inc1 iE (by omega)) (by rw [hw]; exact jE) (by rw [hw]; exact uE) (by rw [hw]; exact dE) (by omega) (by omega)
      · refine g_run 3 rfl ?_
        refine gz_le (kx := (lg_cmp n64 0).toInt) rfl rfl (fun k6 => ?_) (fun k6 => ?_)
        · refine g_run 2 rfl ?_
          have hmk := mw ((20 * (k : Int)) + aI).toNat (by omega)
          have hw := wz_f (n := (fun jj : Nat => cz (fun s => decide ((hp.1 70 s).toInt ≠ -1 ∧ (hp.1 69 ((20 * (jj : Int)) + (s : Int)).toNat).toInt ≠ -1)) 20)) (g := (fun jj : Nat => (hp.1 69 ((20 * (jj : Int)) + aI).toNat).toInt)) (o := (fun jj : Nat => oz (fun s => decide ((hp.1 70 s).toInt ≠ -1 ∧ (hp.1 69 ((20 * (jj : Int)) + (s : Int)).toNat).toInt ≠ -1)) (fun s => (hp.1 69 ((20 * (jj : Int)) + (s : Int)).toNat).toInt - (hp.1 70 s).toInt) 20)) (k := k) (by (try dsimp only); first | omega | (have := l64_npos (by assumption); rw [rN] at this; omega))
          exact ih (k + 1) _ _ _ _ _ _ _ _ _ (inc1 iE (by omega)) (by rw [hw]; exact jE) (by rw [hw]; exact uE) (by rw [hw]; exact dE) (by omega) (by omega)
        · refine g_run 12 rfl ?_
          refine g_iald (j := ((20 * (k : Int)) + aI).toNat) rfl rfl ((show _ = ((20 * (k : Int)) + aI) from (ia_add2 (ia_mul2 (by decide) iE (by omega) (by omega)) aE (by omega) (by omega))).trans (by omega)) (by omega) ?_
          refine g_run 19 rfl ?_
          rw [sL_norm (by decide)]
          have hmk := mw ((20 * (k : Int)) + aI).toNat (by omega)
          have hbk := hbd k (by omega)
          have hnk := cz_bd (p := (fun s => decide ((hp.1 70 s).toInt ≠ -1 ∧ (hp.1 69 ((20 * (k : Int)) + (s : Int)).toNat).toInt ≠ -1))) 20
          have hn0 : 0 < cz (fun s => decide ((hp.1 70 s).toInt ≠ -1 ∧ (hp.1 69 ((20 * (k : Int)) + (s : Int)).toNat).toInt ≠ -1)) 20 := by rw [← rN]; exact l64_pos (by assumption)
          have hst := wz_64 uE dE rN (t64 rfl) rO (by omega) (by omega) (by omega) (by omega) (by have := oz_bd (p := (fun s => decide ((hp.1 70 s).toInt ≠ -1 ∧ (hp.1 69 ((20 * (k : Int)) + (s : Int)).toNat).toInt ≠ -1))) (f := (fun s => (hp.1 69 ((20 * (k : Int)) + (s : Int)).toNat).toInt - (hp.1 70 s).toInt)) (B := 101) (n := 20) (by omega) (fun s hs => by have := mw ((20 * (k : Int)) + (s : Int)).toNat (by omega); have := tw s hs; (try dsimp only); omega) 20 (by omega); omega)
          have hw := wz_t (n := (fun jj : Nat => cz (fun s => decide ((hp.1 70 s).toInt ≠ -1 ∧ (hp.1 69 ((20 * (jj : Int)) + (s : Int)).toNat).toInt ≠ -1)) 20)) (g := (fun jj : Nat => (hp.1 69 ((20 * (jj : Int)) + aI).toNat).toInt)) (o := (fun jj : Nat => oz (fun s => decide ((hp.1 70 s).toInt ≠ -1 ∧ (hp.1 69 ((20 * (jj : Int)) + (s : Int)).toNat).toInt ≠ -1)) (fun s => (hp.1 69 ((20 * (jj : Int)) + (s : Int)).toNat).toInt - (hp.1 70 s).toInt) 20)) (k := k) (by (try dsimp only); omega)
          exact ih (k + 1) _ _ _ _ _ _ _ _ _ (inc1 iE (by omega)) (by rw [hw]; exact ia_add2 jE (by decide) (by omega) (by omega)) (by rw [hw]; exact hst.1) (by rw [hw]; exact hst.2) (by omega) (by omega)
theorem c_X10_weighs {a : Int32} {aI : Int} (aE : a.toInt = aI) (mw : ∀ i, i < 100 → -1 ≤ (hp.1 69 i).toInt ∧ (hp.1 69 i).toInt ≤ 100) (tw : ∀ i, i < 20 → -1 ≤ (hp.1 70 i).toInt ∧ (hp.1 70 i).toInt ≤ 100) (ha : 0 ≤ aI ∧ aI < 20) (h1 : 0 < (wz (fun jj : Nat => cz (fun s => decide ((hp.1 70 s).toInt ≠ -1 ∧ (hp.1 69 ((20 * (jj : Int)) + (s : Int)).toNat).toInt ≠ -1)) 20) (fun jj : Nat => (hp.1 69 ((20 * (jj : Int)) + aI).toNat).toInt) (fun jj : Nat => oz (fun s => decide ((hp.1 70 s).toInt ≠ -1 ∧ (hp.1 69 ((20 * (jj : Int)) + (s : Int)).toNat).toInt ≠ -1)) (fun s => (hp.1 69 ((20 * (jj : Int)) + (s : Int)).toNat).toInt - (hp.1 70 s).toInt) 20) 5).2.2 → ∀ u dd : Int64, u.toInt = (wz (fun jj : Nat => cz (fun s => decide ((hp.1 70 s).toInt ≠ -1 ∧ (hp.1 69 ((20 * (jj : Int)) + (s : Int)).toNat).toInt ≠ -1)) 20) (fun jj : Nat => (hp.1 69 ((20 * (jj : Int)) + aI).toNat).toInt) (fun jj : Nat => oz (fun s => decide ((hp.1 70 s).toInt ≠ -1 ∧ (hp.1 69 ((20 * (jj : Int)) + (s : Int)).toNat).toInt ≠ -1)) (fun s => (hp.1 69 ((20 * (jj : Int)) + (s : Int)).toNat).toInt - (hp.1 70 s).toInt) 20) 5).1 → dd.toInt = (wz (fun jj : Nat => cz (fun s => decide ((hp.1 70 s).toInt ≠ -1 ∧ (hp.1 69 ((20 * (jj : Int)) + (s : Int)).toNat).toInt ≠ -1)) 20) (fun jj : Nat => (hp.1 69 ((20 * (jj : Int)) + aI).toNat).toInt) (fun jj : Nat => oz (fun s => decide ((hp.1 70 s).toInt ≠ -1 ∧ (hp.1 69 ((20 * (jj : Int)) + (s : Int)).toNat).toInt ≠ -1)) (fun s => (hp.1 69 ((20 * (jj : Int)) + (s : Int)).toNat).toInt - (hp.1 70 s).toInt) 20) 5).2.1 * (wz (fun jj : Nat => cz (fun s => decide ((hp.1 70 s).toInt ≠ -1 ∧ (hp.1 69 ((20 * (jj : Int)) + (s : Int)).toNat).toInt ≠ -1)) 20) (fun jj : Nat => (hp.1 69 ((20 * (jj : Int)) + aI).toNat).toInt) (fun jj : Nat => oz (fun s => decide ((hp.1 70 s).toInt ≠ -1 ∧ (hp.1 69 ((20 * (jj : Int)) + (s : Int)).toNat).toInt ≠ -1)) (fun s => (hp.1 69 ((20 * (jj : Int)) + (s : Int)).toNat).toInt - (hp.1 70 s).toInt) 20) 5).2.2 → Q (some (.int 1)) (SH b xs) (sL (sL hp 43 49 u) 43 50 dd)) (h2 : (wz (fun jj : Nat => cz (fun s => decide ((hp.1 70 s).toInt ≠ -1 ∧ (hp.1 69 ((20 * (jj : Int)) + (s : Int)).toNat).toInt ≠ -1)) 20) (fun jj : Nat => (hp.1 69 ((20 * (jj : Int)) + aI).toNat).toInt) (fun jj : Nat => oz (fun s => decide ((hp.1 70 s).toInt ≠ -1 ∧ (hp.1 69 ((20 * (jj : Int)) + (s : Int)).toNat).toInt ≠ -1)) (fun s => (hp.1 69 ((20 * (jj : Int)) + (s : Int)).toNat).toInt - (hp.1 70 s).toInt) 20) 5).2.2 = 0 → ∀ u dd : Int64, Q (some (.int 0)) (SH b xs) (sL (sL hp 43 49 u) 43 50 dd)) : gC mX10_weighs d 0 0 [.ref 43, .int a] (SH b xs) hp Q := by
  refine g_enter okX10_weighs (plainFor_of_name rfl) rfl ?_
  refine g_run 10 rfl ?_
  exact lp_X10_weighs mw tw aE ha h1 h2 6 0 0 0 0 1 _ _ _ _ _ (by decide) (show (0 : Int32).toInt = 0 from by decide) (show (0 : Int64).toInt = 0 from by decide) (show (1 : Int64).toInt = 1 from by decide) (by omega) (by omega)
end S18
end
section
/-! order and worth -/
def ordV (v : Bool) (A B : Int × Int × Int) : Int32 := if v = true ∧ 0 < A.2.2 ∧ 0 < B.2.2 then (if B.1 * (A.2.1 * A.2.2) < A.1 * (B.2.1 * B.2.2) then 1 else if A.1 * (B.2.1 * B.2.2) = B.1 * (A.2.1 * A.2.2) then 0 else -1) else -2
theorem ordV_n {v : Bool} {A B : Int × Int × Int} (h : ¬ (v = true ∧ 0 < A.2.2 ∧ 0 < B.2.2)) : ordV v A B = -2 := if_neg h
theorem ordV_1 {v : Bool} {A B : Int × Int × Int} (h : v = true) (hA : 0 < A.2.2) (hB : 0 < B.2.2) (k : B.1 * (A.2.1 * A.2.2) < A.1 * (B.2.1 * B.2.2)) : ordV v A B = 1 := by rw [ordV, if_pos ⟨h, hA, hB⟩, if_pos k]
theorem ordV_0 {v : Bool} {A B : Int × Int × Int} (h : v = true) (hA : 0 < A.2.2) (hB : 0 < B.2.2) (k : A.1 * (B.2.1 * B.2.2) = B.1 * (A.2.1 * A.2.2)) : ordV v A B = 0 := by rw [ordV, if_pos ⟨h, hA, hB⟩, if_neg (by omega), if_pos k]
theorem ordV_m {v : Bool} {A B : Int × Int × Int} (h : v = true) (hA : 0 < A.2.2) (hB : 0 < B.2.2) (k : A.1 * (B.2.1 * B.2.2) < B.1 * (A.2.1 * A.2.2)) : ordV v A B = -1 := by rw [ordV, if_pos ⟨h, hA, hB⟩, if_neg (by omega), if_neg (by omega)]
theorem ord_bd {A C : Int × Int × Int} (h1 : -4100000000 ≤ A.1 ∧ A.1 ≤ 4100000000) (h2 : 0 ≤ A.2.1 ∧ A.2.1 ≤ 3200000) (h3 : 0 ≤ A.2.2 ∧ A.2.2 ≤ 5) (h4 : -4100000000 ≤ C.1 ∧ C.1 ≤ 4100000000) (h5 : 0 ≤ C.2.1 ∧ C.2.1 ≤ 3200000) (h6 : 0 ≤ C.2.2 ∧ C.2.2 ≤ 5) :
    (-65600000000000000 ≤ A.1 * (C.2.1 * C.2.2) ∧ A.1 * (C.2.1 * C.2.2) ≤ 65600000000000000) ∧ (-65600000000000000 ≤ C.1 * (A.2.1 * A.2.2) ∧ C.1 * (A.2.1 * A.2.2) ≤ 65600000000000000) ∧ (0 ≤ A.2.1 * A.2.2 ∧ A.2.1 * A.2.2 ≤ 16000000) ∧ (0 ≤ C.2.1 * C.2.2 ∧ C.2.1 * C.2.2 ≤ 16000000) := by
  have a1 := mul_bd (a := A.2.1) (b := A.2.2) (A := 3200000) (B := 5) (by omega) (by omega)
  have a2 : 0 ≤ A.2.1 * A.2.2 := Int.mul_nonneg (by omega) (by omega)
  have c1 := mul_bd (a := C.2.1) (b := C.2.2) (A := 3200000) (B := 5) (by omega) (by omega)
  have c2 : 0 ≤ C.2.1 * C.2.2 := Int.mul_nonneg (by omega) (by omega)
  have b1 := mul_bd (a := A.1) (b := C.2.1 * C.2.2) (A := 4100000000) (B := 16000000) (by omega) (by omega)
  have b2 := mul_bd (a := C.1) (b := A.2.1 * A.2.2) (A := 4100000000) (B := 16000000) (by omega) (by omega)
  omega
theorem ord_64 {u1 v1 u2 v2 : Int64} {A C : Int × Int × Int} (Eu1 : u1.toInt = A.1) (Ev1 : v1.toInt = A.2.1 * A.2.2) (Eu2 : u2.toInt = C.1) (Ev2 : v2.toInt = C.2.1 * C.2.2) (h1 : -4100000000 ≤ A.1 ∧ A.1 ≤ 4100000000) (h2 : 0 ≤ A.2.1 ∧ A.2.1 ≤ 3200000) (h3 : 0 ≤ A.2.2 ∧ A.2.2 ≤ 5) (h4 : -4100000000 ≤ C.1 ∧ C.1 ≤ 4100000000) (h5 : 0 ≤ C.2.1 ∧ C.2.1 ≤ 3200000) (h6 : 0 ≤ C.2.2 ∧ C.2.2 ≤ 5) :
    (u1 * v2).toInt = A.1 * (C.2.1 * C.2.2) ∧ (u2 * v1).toInt = C.1 * (A.2.1 * A.2.2) := by
  have hb := ord_bd (A := A) (C := C) h1 h2 h3 h4 h5 h6
  exact ⟨la_mul2 Eu1 Ev2 (by omega) (by omega), la_mul2 Eu2 Ev1 (by omega) (by omega)⟩
theorem l64_neg {n : Int64} (h : (lg_cmp n 0).toInt < 0) : n.toInt < 0 := by
  have := lgc_lt h
  rw [Int64.lt_iff_toInt_lt] at this
  exact this
theorem l64_zero {n : Int64} (h : (lg_cmp n 0).toInt ≤ 0) (h2 : 0 ≤ (lg_cmp n 0).toInt) : n.toInt = 0 := by
  rw [lgc_eq (x := n) (z := 0) (by omega)]; decide
theorem mul_p1 {a b : Int} (ha : 1 ≤ a) (hb : 1 ≤ b) : 1 ≤ a * b := by
  have := Int.mul_le_mul ha hb (by omega) (by omega)
  omega
def worV (v : Bool) (A : Int × Int × Int) : Int32 := if v = true ∧ 0 < A.2.2 then (jfd (Int64.ofInt A.1 * 1000) (Int64.ofInt (A.2.1 * A.2.2))).toInt32 else -1000000
theorem worV_n {v : Bool} {A : Int × Int × Int} (h : ¬ (v = true ∧ 0 < A.2.2)) : worV v A = -1000000 := if_neg h
theorem worV_y {v : Bool} {A : Int × Int × Int} {u w : Int64} (h : v = true) (hA : 0 < A.2.2) (hu : u.toInt = A.1) (hw : w.toInt = A.2.1 * A.2.2) : worV v A = (jfd (u * 1000) w).toInt32 := by
  rw [worV, if_pos ⟨h, hA⟩, ← hu, ← hw, Int64.ofInt_toInt, Int64.ofInt_toInt]
section S19
variable {d : Nat} {sh : sh_T} {hp : hp_T} {Q : Option Value → sh_T → hp_T → Prop} {b : Bool} {xs : sh_T}
theorem wzX_bd (mw : ∀ i, i < 100 → -1 ≤ (hp.1 26 i).toInt ∧ (hp.1 26 i).toInt ≤ 100) (tw : ∀ i, i < 20 → -1 ≤ (hp.1 27 i).toInt ∧ (hp.1 27 i).toInt ≤ 100) {aI : Int} (ha : 0 ≤ aI ∧ aI < 20) : 1 ≤ (wz (fun jj : Nat => cz (fun s => decide ((hp.1 27 s).toInt ≠ -1 ∧ (hp.1 26 (((jj : Int) * 20) + (s : Int)).toNat).toInt ≠ -1)) 20) (fun jj : Nat => (hp.1 26 (((jj : Int) * 20) + aI).toNat).toInt) (fun jj : Nat => oz (fun s => decide ((hp.1 27 s).toInt ≠ -1 ∧ (hp.1 26 (((jj : Int) * 20) + (s : Int)).toNat).toInt ≠ -1)) (fun s => (hp.1 26 (((jj : Int) * 20) + (s : Int)).toNat).toInt - (hp.1 27 s).toInt) 20) 5).2.1 ∧ (wz (fun jj : Nat => cz (fun s => decide ((hp.1 27 s).toInt ≠ -1 ∧ (hp.1 26 (((jj : Int) * 20) + (s : Int)).toNat).toInt ≠ -1)) 20) (fun jj : Nat => (hp.1 26 (((jj : Int) * 20) + aI).toNat).toInt) (fun jj : Nat => oz (fun s => decide ((hp.1 27 s).toInt ≠ -1 ∧ (hp.1 26 (((jj : Int) * 20) + (s : Int)).toNat).toInt ≠ -1)) (fun s => (hp.1 26 (((jj : Int) * 20) + (s : Int)).toNat).toInt - (hp.1 27 s).toInt) 20) 5).2.1 ≤ 3200000 ∧ -4100000000 ≤ (wz (fun jj : Nat => cz (fun s => decide ((hp.1 27 s).toInt ≠ -1 ∧ (hp.1 26 (((jj : Int) * 20) + (s : Int)).toNat).toInt ≠ -1)) 20) (fun jj : Nat => (hp.1 26 (((jj : Int) * 20) + aI).toNat).toInt) (fun jj : Nat => oz (fun s => decide ((hp.1 27 s).toInt ≠ -1 ∧ (hp.1 26 (((jj : Int) * 20) + (s : Int)).toNat).toInt ≠ -1)) (fun s => (hp.1 26 (((jj : Int) * 20) + (s : Int)).toNat).toInt - (hp.1 27 s).toInt) 20) 5).1 ∧ (wz (fun jj : Nat => cz (fun s => decide ((hp.1 27 s).toInt ≠ -1 ∧ (hp.1 26 (((jj : Int) * 20) + (s : Int)).toNat).toInt ≠ -1)) 20) (fun jj : Nat => (hp.1 26 (((jj : Int) * 20) + aI).toNat).toInt) (fun jj : Nat => oz (fun s => decide ((hp.1 27 s).toInt ≠ -1 ∧ (hp.1 26 (((jj : Int) * 20) + (s : Int)).toNat).toInt ≠ -1)) (fun s => (hp.1 26 (((jj : Int) * 20) + (s : Int)).toNat).toInt - (hp.1 27 s).toInt) 20) 5).1 ≤ 4100000000 ∧ 0 ≤ (wz (fun jj : Nat => cz (fun s => decide ((hp.1 27 s).toInt ≠ -1 ∧ (hp.1 26 (((jj : Int) * 20) + (s : Int)).toNat).toInt ≠ -1)) 20) (fun jj : Nat => (hp.1 26 (((jj : Int) * 20) + aI).toNat).toInt) (fun jj : Nat => oz (fun s => decide ((hp.1 27 s).toInt ≠ -1 ∧ (hp.1 26 (((jj : Int) * 20) + (s : Int)).toNat).toInt ≠ -1)) (fun s => (hp.1 26 (((jj : Int) * 20) + (s : Int)).toNat).toInt - (hp.1 27 s).toInt) 20) 5).2.2 ∧ (wz (fun jj : Nat => cz (fun s => decide ((hp.1 27 s).toInt ≠ -1 ∧ (hp.1 26 (((jj : Int) * 20) + (s : Int)).toNat).toInt ≠ -1)) 20) (fun jj : Nat => (hp.1 26 (((jj : Int) * 20) + aI).toNat).toInt) (fun jj : Nat => oz (fun s => decide ((hp.1 27 s).toInt ≠ -1 ∧ (hp.1 26 (((jj : Int) * 20) + (s : Int)).toNat).toInt ≠ -1)) (fun s => (hp.1 26 (((jj : Int) * 20) + (s : Int)).toNat).toInt - (hp.1 27 s).toInt) 20) 5).2.2 ≤ ((5 : Nat) : Int) := by
  exact wz_bd (n := (fun jj : Nat => cz (fun s => decide ((hp.1 27 s).toInt ≠ -1 ∧ (hp.1 26 (((jj : Int) * 20) + (s : Int)).toNat).toInt ≠ -1)) 20)) (g := (fun jj : Nat => (hp.1 26 (((jj : Int) * 20) + aI).toNat).toInt)) (o := (fun jj : Nat => oz (fun s => decide ((hp.1 27 s).toInt ≠ -1 ∧ (hp.1 26 (((jj : Int) * 20) + (s : Int)).toNat).toInt ≠ -1)) (fun s => (hp.1 26 (((jj : Int) * 20) + (s : Int)).toNat).toInt - (hp.1 27 s).toInt) 20)) (by intro z hz; have := cz_bd (p := (fun s => decide ((hp.1 27 s).toInt ≠ -1 ∧ (hp.1 26 (((z : Int) * 20) + (s : Int)).toNat).toInt ≠ -1))) 20; (try dsimp only); omega) (by intro z hz; have := mw (((z : Int) * 20) + aI).toNat (by omega); (try dsimp only); omega) (by intro z hz; have := oz_bd (p := (fun s => decide ((hp.1 27 s).toInt ≠ -1 ∧ (hp.1 26 (((z : Int) * 20) + (s : Int)).toNat).toInt ≠ -1))) (f := (fun s => (hp.1 26 (((z : Int) * 20) + (s : Int)).toNat).toInt - (hp.1 27 s).toInt)) (B := 101) (n := 20) (by omega) (fun s hs => by have := mw (((z : Int) * 20) + (s : Int)).toNat (by omega); have := tw s hs; (try dsimp only); omega) 20 (by omega); (try dsimp only); omega) 5 (by omega)
theorem wzM_bd (mw : ∀ i, i < 100 → -1 ≤ (hp.1 69 i).toInt ∧ (hp.1 69 i).toInt ≤ 100) (tw : ∀ i, i < 20 → -1 ≤ (hp.1 70 i).toInt ∧ (hp.1 70 i).toInt ≤ 100) {aI : Int} (ha : 0 ≤ aI ∧ aI < 20) : 1 ≤ (wz (fun jj : Nat => cz (fun s => decide ((hp.1 70 s).toInt ≠ -1 ∧ (hp.1 69 ((20 * (jj : Int)) + (s : Int)).toNat).toInt ≠ -1)) 20) (fun jj : Nat => (hp.1 69 ((20 * (jj : Int)) + aI).toNat).toInt) (fun jj : Nat => oz (fun s => decide ((hp.1 70 s).toInt ≠ -1 ∧ (hp.1 69 ((20 * (jj : Int)) + (s : Int)).toNat).toInt ≠ -1)) (fun s => (hp.1 69 ((20 * (jj : Int)) + (s : Int)).toNat).toInt - (hp.1 70 s).toInt) 20) 5).2.1 ∧ (wz (fun jj : Nat => cz (fun s => decide ((hp.1 70 s).toInt ≠ -1 ∧ (hp.1 69 ((20 * (jj : Int)) + (s : Int)).toNat).toInt ≠ -1)) 20) (fun jj : Nat => (hp.1 69 ((20 * (jj : Int)) + aI).toNat).toInt) (fun jj : Nat => oz (fun s => decide ((hp.1 70 s).toInt ≠ -1 ∧ (hp.1 69 ((20 * (jj : Int)) + (s : Int)).toNat).toInt ≠ -1)) (fun s => (hp.1 69 ((20 * (jj : Int)) + (s : Int)).toNat).toInt - (hp.1 70 s).toInt) 20) 5).2.1 ≤ 3200000 ∧ -4100000000 ≤ (wz (fun jj : Nat => cz (fun s => decide ((hp.1 70 s).toInt ≠ -1 ∧ (hp.1 69 ((20 * (jj : Int)) + (s : Int)).toNat).toInt ≠ -1)) 20) (fun jj : Nat => (hp.1 69 ((20 * (jj : Int)) + aI).toNat).toInt) (fun jj : Nat => oz (fun s => decide ((hp.1 70 s).toInt ≠ -1 ∧ (hp.1 69 ((20 * (jj : Int)) + (s : Int)).toNat).toInt ≠ -1)) (fun s => (hp.1 69 ((20 * (jj : Int)) + (s : Int)).toNat).toInt - (hp.1 70 s).toInt) 20) 5).1 ∧ (wz (fun jj : Nat => cz (fun s => decide ((hp.1 70 s).toInt ≠ -1 ∧ (hp.1 69 ((20 * (jj : Int)) + (s : Int)).toNat).toInt ≠ -1)) 20) (fun jj : Nat => (hp.1 69 ((20 * (jj : Int)) + aI).toNat).toInt) (fun jj : Nat => oz (fun s => decide ((hp.1 70 s).toInt ≠ -1 ∧ (hp.1 69 ((20 * (jj : Int)) + (s : Int)).toNat).toInt ≠ -1)) (fun s => (hp.1 69 ((20 * (jj : Int)) + (s : Int)).toNat).toInt - (hp.1 70 s).toInt) 20) 5).1 ≤ 4100000000 ∧ 0 ≤ (wz (fun jj : Nat => cz (fun s => decide ((hp.1 70 s).toInt ≠ -1 ∧ (hp.1 69 ((20 * (jj : Int)) + (s : Int)).toNat).toInt ≠ -1)) 20) (fun jj : Nat => (hp.1 69 ((20 * (jj : Int)) + aI).toNat).toInt) (fun jj : Nat => oz (fun s => decide ((hp.1 70 s).toInt ≠ -1 ∧ (hp.1 69 ((20 * (jj : Int)) + (s : Int)).toNat).toInt ≠ -1)) (fun s => (hp.1 69 ((20 * (jj : Int)) + (s : Int)).toNat).toInt - (hp.1 70 s).toInt) 20) 5).2.2 ∧ (wz (fun jj : Nat => cz (fun s => decide ((hp.1 70 s).toInt ≠ -1 ∧ (hp.1 69 ((20 * (jj : Int)) + (s : Int)).toNat).toInt ≠ -1)) 20) (fun jj : Nat => (hp.1 69 ((20 * (jj : Int)) + aI).toNat).toInt) (fun jj : Nat => oz (fun s => decide ((hp.1 70 s).toInt ≠ -1 ∧ (hp.1 69 ((20 * (jj : Int)) + (s : Int)).toNat).toInt ≠ -1)) (fun s => (hp.1 69 ((20 * (jj : Int)) + (s : Int)).toNat).toInt - (hp.1 70 s).toInt) 20) 5).2.2 ≤ ((5 : Nat) : Int) := by
  exact wz_bd (n := (fun jj : Nat => cz (fun s => decide ((hp.1 70 s).toInt ≠ -1 ∧ (hp.1 69 ((20 * (jj : Int)) + (s : Int)).toNat).toInt ≠ -1)) 20)) (g := (fun jj : Nat => (hp.1 69 ((20 * (jj : Int)) + aI).toNat).toInt)) (o := (fun jj : Nat => oz (fun s => decide ((hp.1 70 s).toInt ≠ -1 ∧ (hp.1 69 ((20 * (jj : Int)) + (s : Int)).toNat).toInt ≠ -1)) (fun s => (hp.1 69 ((20 * (jj : Int)) + (s : Int)).toNat).toInt - (hp.1 70 s).toInt) 20)) (by intro z hz; have := cz_bd (p := (fun s => decide ((hp.1 70 s).toInt ≠ -1 ∧ (hp.1 69 ((20 * (z : Int)) + (s : Int)).toNat).toInt ≠ -1))) 20; (try dsimp only); omega) (by intro z hz; have := mw ((20 * (z : Int)) + aI).toNat (by omega); (try dsimp only); omega) (by intro z hz; have := oz_bd (p := (fun s => decide ((hp.1 70 s).toInt ≠ -1 ∧ (hp.1 69 ((20 * (z : Int)) + (s : Int)).toNat).toInt ≠ -1))) (f := (fun s => (hp.1 69 ((20 * (z : Int)) + (s : Int)).toNat).toInt - (hp.1 70 s).toInt)) (B := 101) (n := 20) (by omega) (fun s hs => by have := mw ((20 * (z : Int)) + (s : Int)).toNat (by omega); have := tw s hs; (try dsimp only); omega) 20 (by omega); (try dsimp only); omega) 5 (by omega)
theorem c_X2_compare {a : Int32} {aI : Int} {c : Int32} {cI : Int} (aE : a.toInt = aI) (cE : c.toInt = cI) (mw : ∀ i, i < 100 → -1 ≤ (hp.1 26 i).toInt ∧ (hp.1 26 i).toInt ≤ 100) (tw : ∀ i, i < 20 → -1 ≤ (hp.1 27 i).toInt ∧ (hp.1 27 i).toInt ≤ 100) (h : ∀ (r : Int32) (hp2 : hp_T), r = ordV (decide (0 ≤ aI ∧ aI < 20 ∧ 0 ≤ cI ∧ cI < 20)) (wz (fun jj : Nat => cz (fun s => decide ((hp.1 27 s).toInt ≠ -1 ∧ (hp.1 26 (((jj : Int) * 20) + (s : Int)).toNat).toInt ≠ -1)) 20) (fun jj : Nat => (hp.1 26 (((jj : Int) * 20) + aI).toNat).toInt) (fun jj : Nat => oz (fun s => decide ((hp.1 27 s).toInt ≠ -1 ∧ (hp.1 26 (((jj : Int) * 20) + (s : Int)).toNat).toInt ≠ -1)) (fun s => (hp.1 26 (((jj : Int) * 20) + (s : Int)).toNat).toInt - (hp.1 27 s).toInt) 20) 5) (wz (fun jj : Nat => cz (fun s => decide ((hp.1 27 s).toInt ≠ -1 ∧ (hp.1 26 (((jj : Int) * 20) + (s : Int)).toNat).toInt ≠ -1)) 20) (fun jj : Nat => (hp.1 26 (((jj : Int) * 20) + cI).toNat).toInt) (fun jj : Nat => oz (fun s => decide ((hp.1 27 s).toInt ≠ -1 ∧ (hp.1 26 (((jj : Int) * 20) + (s : Int)).toNat).toInt ≠ -1)) (fun s => (hp.1 26 (((jj : Int) * 20) + (s : Int)).toNat).toInt - (hp.1 27 s).toInt) 20) 5) → hp2.1 = hp.1 → (∀ c, c ≠ 25 → hp2.2 c = hp.2 c) → Q (some (.int r)) (SH b xs) hp2) : gC mX2_compare (d + 3) 0 0 [.ref 25, .int a, .int c] (SH b xs) hp Q := by
  refine g_enter okX2_compare (plainFor_of_name rfl) rfl ?_
  refine g_run 2 rfl ?_
  refine g_callV0 rfl LX2_39 rfl rfl rfl rfl ?_
  refine c_X2_weigh (aI := aI) aE mw tw (fun k10 u1 v1 Eu1 Ev1 => ?_) (fun k11 u1 v1 => ?_) (fun k12 => ?_)
  · refine gz_ne (kx := 1) rfl (show (1 : Int32).toInt = 1 from by decide) (fun _ => ?_) (fun q => absurd q (by decide))
    refine g_run 8 rfl ?_
    refine g_callV0 rfl LX2_39 rfl rfl rfl rfl ?_
    refine c_X2_weigh (aI := cI) cE mw tw (fun k20 u2 v2 Eu2 Ev2 => ?_) (fun k21 u2 v2 => ?_) (fun k22 => ?_)
    · refine gz_ne (kx := 1) rfl (show (1 : Int32).toInt = 1 from by decide) (fun _ => ?_) (fun q => absurd q (by decide))
      refine g_run 8 rfl ?_
      refine g_callS0 rfl LX2_42 rfl rfl ?_
      refine c_J13_compare_74951 (fun k => ?_) (fun k => ?_) (fun k => ?_)
      · have Eu1 : u1.toInt = (wz (fun jj : Nat => cz (fun s => decide ((hp.1 27 s).toInt ≠ -1 ∧ (hp.1 26 (((jj : Int) * 20) + (s : Int)).toNat).toInt ≠ -1)) 20) (fun jj : Nat => (hp.1 26 (((jj : Int) * 20) + aI).toNat).toInt) (fun jj : Nat => oz (fun s => decide ((hp.1 27 s).toInt ≠ -1 ∧ (hp.1 26 (((jj : Int) * 20) + (s : Int)).toNat).toInt ≠ -1)) (fun s => (hp.1 26 (((jj : Int) * 20) + (s : Int)).toNat).toInt - (hp.1 27 s).toInt) 20) 5).1 := Eu1
        have Ev1 : v1.toInt = (wz (fun jj : Nat => cz (fun s => decide ((hp.1 27 s).toInt ≠ -1 ∧ (hp.1 26 (((jj : Int) * 20) + (s : Int)).toNat).toInt ≠ -1)) 20) (fun jj : Nat => (hp.1 26 (((jj : Int) * 20) + aI).toNat).toInt) (fun jj : Nat => oz (fun s => decide ((hp.1 27 s).toInt ≠ -1 ∧ (hp.1 26 (((jj : Int) * 20) + (s : Int)).toNat).toInt ≠ -1)) (fun s => (hp.1 26 (((jj : Int) * 20) + (s : Int)).toNat).toInt - (hp.1 27 s).toInt) 20) 5).2.1 * (wz (fun jj : Nat => cz (fun s => decide ((hp.1 27 s).toInt ≠ -1 ∧ (hp.1 26 (((jj : Int) * 20) + (s : Int)).toNat).toInt ≠ -1)) 20) (fun jj : Nat => (hp.1 26 (((jj : Int) * 20) + aI).toNat).toInt) (fun jj : Nat => oz (fun s => decide ((hp.1 27 s).toInt ≠ -1 ∧ (hp.1 26 (((jj : Int) * 20) + (s : Int)).toNat).toInt ≠ -1)) (fun s => (hp.1 26 (((jj : Int) * 20) + (s : Int)).toNat).toInt - (hp.1 27 s).toInt) 20) 5).2.2 := Ev1
        have Eu2 : u2.toInt = (wz (fun jj : Nat => cz (fun s => decide ((hp.1 27 s).toInt ≠ -1 ∧ (hp.1 26 (((jj : Int) * 20) + (s : Int)).toNat).toInt ≠ -1)) 20) (fun jj : Nat => (hp.1 26 (((jj : Int) * 20) + cI).toNat).toInt) (fun jj : Nat => oz (fun s => decide ((hp.1 27 s).toInt ≠ -1 ∧ (hp.1 26 (((jj : Int) * 20) + (s : Int)).toNat).toInt ≠ -1)) (fun s => (hp.1 26 (((jj : Int) * 20) + (s : Int)).toNat).toInt - (hp.1 27 s).toInt) 20) 5).1 := Eu2
        have Ev2 : v2.toInt = (wz (fun jj : Nat => cz (fun s => decide ((hp.1 27 s).toInt ≠ -1 ∧ (hp.1 26 (((jj : Int) * 20) + (s : Int)).toNat).toInt ≠ -1)) 20) (fun jj : Nat => (hp.1 26 (((jj : Int) * 20) + cI).toNat).toInt) (fun jj : Nat => oz (fun s => decide ((hp.1 27 s).toInt ≠ -1 ∧ (hp.1 26 (((jj : Int) * 20) + (s : Int)).toNat).toInt ≠ -1)) (fun s => (hp.1 26 (((jj : Int) * 20) + (s : Int)).toNat).toInt - (hp.1 27 s).toInt) 20) 5).2.1 * (wz (fun jj : Nat => cz (fun s => decide ((hp.1 27 s).toInt ≠ -1 ∧ (hp.1 26 (((jj : Int) * 20) + (s : Int)).toNat).toInt ≠ -1)) 20) (fun jj : Nat => (hp.1 26 (((jj : Int) * 20) + cI).toNat).toInt) (fun jj : Nat => oz (fun s => decide ((hp.1 27 s).toInt ≠ -1 ∧ (hp.1 26 (((jj : Int) * 20) + (s : Int)).toNat).toInt ≠ -1)) (fun s => (hp.1 26 (((jj : Int) * 20) + (s : Int)).toNat).toInt - (hp.1 27 s).toInt) 20) 5).2.2 := Ev2
        have kA : 0 < (wz (fun jj : Nat => cz (fun s => decide ((hp.1 27 s).toInt ≠ -1 ∧ (hp.1 26 (((jj : Int) * 20) + (s : Int)).toNat).toInt ≠ -1)) 20) (fun jj : Nat => (hp.1 26 (((jj : Int) * 20) + aI).toNat).toInt) (fun jj : Nat => oz (fun s => decide ((hp.1 27 s).toInt ≠ -1 ∧ (hp.1 26 (((jj : Int) * 20) + (s : Int)).toNat).toInt ≠ -1)) (fun s => (hp.1 26 (((jj : Int) * 20) + (s : Int)).toNat).toInt - (hp.1 27 s).toInt) 20) 5).2.2 := k10.2.2
        have kC : 0 < (wz (fun jj : Nat => cz (fun s => decide ((hp.1 27 s).toInt ≠ -1 ∧ (hp.1 26 (((jj : Int) * 20) + (s : Int)).toNat).toInt ≠ -1)) 20) (fun jj : Nat => (hp.1 26 (((jj : Int) * 20) + cI).toNat).toInt) (fun jj : Nat => oz (fun s => decide ((hp.1 27 s).toInt ≠ -1 ∧ (hp.1 26 (((jj : Int) * 20) + (s : Int)).toNat).toInt ≠ -1)) (fun s => (hp.1 26 (((jj : Int) * 20) + (s : Int)).toNat).toInt - (hp.1 27 s).toInt) 20) 5).2.2 := k20.2.2
        have vA : 0 ≤ aI ∧ aI < 20 := ⟨k10.1, k10.2.1⟩
        have vC : 0 ≤ cI ∧ cI < 20 := ⟨k20.1, k20.2.1⟩
        have hA := wzX_bd (aI := aI) mw tw (by omega)
        have hC := wzX_bd (aI := cI) mw tw (by omega)
        have hm := ord_64 Eu1 Ev1 Eu2 Ev2 (by omega) (by omega) (by omega) (by omega) (by omega) (by omega)
        exact g_iret rfl rfl (h _ _ (ordV_1 (by simp only [decide_eq_true_eq]; omega) kA kC (by rw [← hm.1, ← hm.2]; exact Int64.lt_iff_toInt_lt.mp k)).symm rfl (fun c hc => by simp [sL_ne hc, sI_2]))
      · have Eu1 : u1.toInt = (wz (fun jj : Nat => cz (fun s => decide ((hp.1 27 s).toInt ≠ -1 ∧ (hp.1 26 (((jj : Int) * 20) + (s : Int)).toNat).toInt ≠ -1)) 20) (fun jj : Nat => (hp.1 26 (((jj : Int) * 20) + aI).toNat).toInt) (fun jj : Nat => oz (fun s => decide ((hp.1 27 s).toInt ≠ -1 ∧ (hp.1 26 (((jj : Int) * 20) + (s : Int)).toNat).toInt ≠ -1)) (fun s => (hp.1 26 (((jj : Int) * 20) + (s : Int)).toNat).toInt - (hp.1 27 s).toInt) 20) 5).1 := Eu1
        have Ev1 : v1.toInt = (wz (fun jj : Nat => cz (fun s => decide ((hp.1 27 s).toInt ≠ -1 ∧ (hp.1 26 (((jj : Int) * 20) + (s : Int)).toNat).toInt ≠ -1)) 20) (fun jj : Nat => (hp.1 26 (((jj : Int) * 20) + aI).toNat).toInt) (fun jj : Nat => oz (fun s => decide ((hp.1 27 s).toInt ≠ -1 ∧ (hp.1 26 (((jj : Int) * 20) + (s : Int)).toNat).toInt ≠ -1)) (fun s => (hp.1 26 (((jj : Int) * 20) + (s : Int)).toNat).toInt - (hp.1 27 s).toInt) 20) 5).2.1 * (wz (fun jj : Nat => cz (fun s => decide ((hp.1 27 s).toInt ≠ -1 ∧ (hp.1 26 (((jj : Int) * 20) + (s : Int)).toNat).toInt ≠ -1)) 20) (fun jj : Nat => (hp.1 26 (((jj : Int) * 20) + aI).toNat).toInt) (fun jj : Nat => oz (fun s => decide ((hp.1 27 s).toInt ≠ -1 ∧ (hp.1 26 (((jj : Int) * 20) + (s : Int)).toNat).toInt ≠ -1)) (fun s => (hp.1 26 (((jj : Int) * 20) + (s : Int)).toNat).toInt - (hp.1 27 s).toInt) 20) 5).2.2 := Ev1
        have Eu2 : u2.toInt = (wz (fun jj : Nat => cz (fun s => decide ((hp.1 27 s).toInt ≠ -1 ∧ (hp.1 26 (((jj : Int) * 20) + (s : Int)).toNat).toInt ≠ -1)) 20) (fun jj : Nat => (hp.1 26 (((jj : Int) * 20) + cI).toNat).toInt) (fun jj : Nat => oz (fun s => decide ((hp.1 27 s).toInt ≠ -1 ∧ (hp.1 26 (((jj : Int) * 20) + (s : Int)).toNat).toInt ≠ -1)) (fun s => (hp.1 26 (((jj : Int) * 20) + (s : Int)).toNat).toInt - (hp.1 27 s).toInt) 20) 5).1 := Eu2
        have Ev2 : v2.toInt = (wz (fun jj : Nat => cz (fun s => decide ((hp.1 27 s).toInt ≠ -1 ∧ (hp.1 26 (((jj : Int) * 20) + (s : Int)).toNat).toInt ≠ -1)) 20) (fun jj : Nat => (hp.1 26 (((jj : Int) * 20) + cI).toNat).toInt) (fun jj : Nat => oz (fun s => decide ((hp.1 27 s).toInt ≠ -1 ∧ (hp.1 26 (((jj : Int) * 20) + (s : Int)).toNat).toInt ≠ -1)) (fun s => (hp.1 26 (((jj : Int) * 20) + (s : Int)).toNat).toInt - (hp.1 27 s).toInt) 20) 5).2.1 * (wz (fun jj : Nat => cz (fun s => decide ((hp.1 27 s).toInt ≠ -1 ∧ (hp.1 26 (((jj : Int) * 20) + (s : Int)).toNat).toInt ≠ -1)) 20) (fun jj : Nat => (hp.1 26 (((jj : Int) * 20) + cI).toNat).toInt) (fun jj : Nat => oz (fun s => decide ((hp.1 27 s).toInt ≠ -1 ∧ (hp.1 26 (((jj : Int) * 20) + (s : Int)).toNat).toInt ≠ -1)) (fun s => (hp.1 26 (((jj : Int) * 20) + (s : Int)).toNat).toInt - (hp.1 27 s).toInt) 20) 5).2.2 := Ev2
        have kA : 0 < (wz (fun jj : Nat => cz (fun s => decide ((hp.1 27 s).toInt ≠ -1 ∧ (hp.1 26 (((jj : Int) * 20) + (s : Int)).toNat).toInt ≠ -1)) 20) (fun jj : Nat => (hp.1 26 (((jj : Int) * 20) + aI).toNat).toInt) (fun jj : Nat => oz (fun s => decide ((hp.1 27 s).toInt ≠ -1 ∧ (hp.1 26 (((jj : Int) * 20) + (s : Int)).toNat).toInt ≠ -1)) (fun s => (hp.1 26 (((jj : Int) * 20) + (s : Int)).toNat).toInt - (hp.1 27 s).toInt) 20) 5).2.2 := k10.2.2
        have kC : 0 < (wz (fun jj : Nat => cz (fun s => decide ((hp.1 27 s).toInt ≠ -1 ∧ (hp.1 26 (((jj : Int) * 20) + (s : Int)).toNat).toInt ≠ -1)) 20) (fun jj : Nat => (hp.1 26 (((jj : Int) * 20) + cI).toNat).toInt) (fun jj : Nat => oz (fun s => decide ((hp.1 27 s).toInt ≠ -1 ∧ (hp.1 26 (((jj : Int) * 20) + (s : Int)).toNat).toInt ≠ -1)) (fun s => (hp.1 26 (((jj : Int) * 20) + (s : Int)).toNat).toInt - (hp.1 27 s).toInt) 20) 5).2.2 := k20.2.2
        have vA : 0 ≤ aI ∧ aI < 20 := ⟨k10.1, k10.2.1⟩
        have vC : 0 ≤ cI ∧ cI < 20 := ⟨k20.1, k20.2.1⟩
        have hA := wzX_bd (aI := aI) mw tw (by omega)
        have hC := wzX_bd (aI := cI) mw tw (by omega)
        have hm := ord_64 Eu1 Ev1 Eu2 Ev2 (by omega) (by omega) (by omega) (by omega) (by omega) (by omega)
        exact g_iret rfl rfl (h _ _ (ordV_0 (by simp only [decide_eq_true_eq]; omega) kA kC (by rw [← hm.1, ← hm.2]; exact congrArg Int64.toInt k)).symm rfl (fun c hc => by simp [sL_ne hc, sI_2]))
      · have Eu1 : u1.toInt = (wz (fun jj : Nat => cz (fun s => decide ((hp.1 27 s).toInt ≠ -1 ∧ (hp.1 26 (((jj : Int) * 20) + (s : Int)).toNat).toInt ≠ -1)) 20) (fun jj : Nat => (hp.1 26 (((jj : Int) * 20) + aI).toNat).toInt) (fun jj : Nat => oz (fun s => decide ((hp.1 27 s).toInt ≠ -1 ∧ (hp.1 26 (((jj : Int) * 20) + (s : Int)).toNat).toInt ≠ -1)) (fun s => (hp.1 26 (((jj : Int) * 20) + (s : Int)).toNat).toInt - (hp.1 27 s).toInt) 20) 5).1 := Eu1
        have Ev1 : v1.toInt = (wz (fun jj : Nat => cz (fun s => decide ((hp.1 27 s).toInt ≠ -1 ∧ (hp.1 26 (((jj : Int) * 20) + (s : Int)).toNat).toInt ≠ -1)) 20) (fun jj : Nat => (hp.1 26 (((jj : Int) * 20) + aI).toNat).toInt) (fun jj : Nat => oz (fun s => decide ((hp.1 27 s).toInt ≠ -1 ∧ (hp.1 26 (((jj : Int) * 20) + (s : Int)).toNat).toInt ≠ -1)) (fun s => (hp.1 26 (((jj : Int) * 20) + (s : Int)).toNat).toInt - (hp.1 27 s).toInt) 20) 5).2.1 * (wz (fun jj : Nat => cz (fun s => decide ((hp.1 27 s).toInt ≠ -1 ∧ (hp.1 26 (((jj : Int) * 20) + (s : Int)).toNat).toInt ≠ -1)) 20) (fun jj : Nat => (hp.1 26 (((jj : Int) * 20) + aI).toNat).toInt) (fun jj : Nat => oz (fun s => decide ((hp.1 27 s).toInt ≠ -1 ∧ (hp.1 26 (((jj : Int) * 20) + (s : Int)).toNat).toInt ≠ -1)) (fun s => (hp.1 26 (((jj : Int) * 20) + (s : Int)).toNat).toInt - (hp.1 27 s).toInt) 20) 5).2.2 := Ev1
        have Eu2 : u2.toInt = (wz (fun jj : Nat => cz (fun s => decide ((hp.1 27 s).toInt ≠ -1 ∧ (hp.1 26 (((jj : Int) * 20) + (s : Int)).toNat).toInt ≠ -1)) 20) (fun jj : Nat => (hp.1 26 (((jj : Int) * 20) + cI).toNat).toInt) (fun jj : Nat => oz (fun s => decide ((hp.1 27 s).toInt ≠ -1 ∧ (hp.1 26 (((jj : Int) * 20) + (s : Int)).toNat).toInt ≠ -1)) (fun s => (hp.1 26 (((jj : Int) * 20) + (s : Int)).toNat).toInt - (hp.1 27 s).toInt) 20) 5).1 := Eu2
        have Ev2 : v2.toInt = (wz (fun jj : Nat => cz (fun s => decide ((hp.1 27 s).toInt ≠ -1 ∧ (hp.1 26 (((jj : Int) * 20) + (s : Int)).toNat).toInt ≠ -1)) 20) (fun jj : Nat => (hp.1 26 (((jj : Int) * 20) + cI).toNat).toInt) (fun jj : Nat => oz (fun s => decide ((hp.1 27 s).toInt ≠ -1 ∧ (hp.1 26 (((jj : Int) * 20) + (s : Int)).toNat).toInt ≠ -1)) (fun s => (hp.1 26 (((jj : Int) * 20) + (s : Int)).toNat).toInt - (hp.1 27 s).toInt) 20) 5).2.1 * (wz (fun jj : Nat => cz (fun s => decide ((hp.1 27 s).toInt ≠ -1 ∧ (hp.1 26 (((jj : Int) * 20) + (s : Int)).toNat).toInt ≠ -1)) 20) (fun jj : Nat => (hp.1 26 (((jj : Int) * 20) + cI).toNat).toInt) (fun jj : Nat => oz (fun s => decide ((hp.1 27 s).toInt ≠ -1 ∧ (hp.1 26 (((jj : Int) * 20) + (s : Int)).toNat).toInt ≠ -1)) (fun s => (hp.1 26 (((jj : Int) * 20) + (s : Int)).toNat).toInt - (hp.1 27 s).toInt) 20) 5).2.2 := Ev2
        have kA : 0 < (wz (fun jj : Nat => cz (fun s => decide ((hp.1 27 s).toInt ≠ -1 ∧ (hp.1 26 (((jj : Int) * 20) + (s : Int)).toNat).toInt ≠ -1)) 20) (fun jj : Nat => (hp.1 26 (((jj : Int) * 20) + aI).toNat).toInt) (fun jj : Nat => oz (fun s => decide ((hp.1 27 s).toInt ≠ -1 ∧ (hp.1 26 (((jj : Int) * 20) + (s : Int)).toNat).toInt ≠ -1)) (fun s => (hp.1 26 (((jj : Int) * 20) + (s : Int)).toNat).toInt - (hp.1 27 s).toInt) 20) 5).2.2 := k10.2.2
        have kC : 0 < (wz (fun jj : Nat => cz (fun s => decide ((hp.1 27 s).toInt ≠ -1 ∧ (hp.1 26 (((jj : Int) * 20) + (s : Int)).toNat).toInt ≠ -1)) 20) (fun jj : Nat => (hp.1 26 (((jj : Int) * 20) + cI).toNat).toInt) (fun jj : Nat => oz (fun s => decide ((hp.1 27 s).toInt ≠ -1 ∧ (hp.1 26 (((jj : Int) * 20) + (s : Int)).toNat).toInt ≠ -1)) (fun s => (hp.1 26 (((jj : Int) * 20) + (s : Int)).toNat).toInt - (hp.1 27 s).toInt) 20) 5).2.2 := k20.2.2
        have vA : 0 ≤ aI ∧ aI < 20 := ⟨k10.1, k10.2.1⟩
        have vC : 0 ≤ cI ∧ cI < 20 := ⟨k20.1, k20.2.1⟩
        have hA := wzX_bd (aI := aI) mw tw (by omega)
        have hC := wzX_bd (aI := cI) mw tw (by omega)
        have hm := ord_64 Eu1 Ev1 Eu2 Ev2 (by omega) (by omega) (by omega) (by omega) (by omega) (by omega)
        exact g_iret rfl rfl (h _ _ (ordV_m (by simp only [decide_eq_true_eq]; omega) kA kC (by rw [← hm.1, ← hm.2]; exact Int64.lt_iff_toInt_lt.mp k)).symm rfl (fun c hc => by simp [sL_ne hc, sI_2]))
    · refine gz_ne (kx := 0) rfl (show (0 : Int32).toInt = 0 from by decide) (fun q => absurd q (by decide)) (fun _ => ?_)
      refine g_run 1 rfl ?_
      exact g_iret rfl rfl (h _ _ (ordV_n (by simp only [decide_eq_true_eq]; first | omega | exact fun z => absurd (z.2.1) (by have q : (wz (fun jj : Nat => cz (fun s => decide ((hp.1 27 s).toInt ≠ -1 ∧ (hp.1 26 (((jj : Int) * 20) + (s : Int)).toNat).toInt ≠ -1)) 20) (fun jj : Nat => (hp.1 26 (((jj : Int) * 20) + aI).toNat).toInt) (fun jj : Nat => oz (fun s => decide ((hp.1 27 s).toInt ≠ -1 ∧ (hp.1 26 (((jj : Int) * 20) + (s : Int)).toNat).toInt ≠ -1)) (fun s => (hp.1 26 (((jj : Int) * 20) + (s : Int)).toNat).toInt - (hp.1 27 s).toInt) 20) 5).2.2 = 0 := k11.2.2; omega) | exact fun z => absurd (z.2.2) (by have q : (wz (fun jj : Nat => cz (fun s => decide ((hp.1 27 s).toInt ≠ -1 ∧ (hp.1 26 (((jj : Int) * 20) + (s : Int)).toNat).toInt ≠ -1)) 20) (fun jj : Nat => (hp.1 26 (((jj : Int) * 20) + cI).toNat).toInt) (fun jj : Nat => oz (fun s => decide ((hp.1 27 s).toInt ≠ -1 ∧ (hp.1 26 (((jj : Int) * 20) + (s : Int)).toNat).toInt ≠ -1)) (fun s => (hp.1 26 (((jj : Int) * 20) + (s : Int)).toNat).toInt - (hp.1 27 s).toInt) 20) 5).2.2 = 0 := k21.2.2; omega))).symm rfl (fun c hc => by simp [sL_ne hc, sI_2]))
    · refine gz_ne (kx := 0) rfl (show (0 : Int32).toInt = 0 from by decide) (fun q => absurd q (by decide)) (fun _ => ?_)
      refine g_run 1 rfl ?_
      exact g_iret rfl rfl (h _ _ (ordV_n (by simp only [decide_eq_true_eq]; first | omega | exact fun z => absurd (z.2.1) (by have q : (wz (fun jj : Nat => cz (fun s => decide ((hp.1 27 s).toInt ≠ -1 ∧ (hp.1 26 (((jj : Int) * 20) + (s : Int)).toNat).toInt ≠ -1)) 20) (fun jj : Nat => (hp.1 26 (((jj : Int) * 20) + aI).toNat).toInt) (fun jj : Nat => oz (fun s => decide ((hp.1 27 s).toInt ≠ -1 ∧ (hp.1 26 (((jj : Int) * 20) + (s : Int)).toNat).toInt ≠ -1)) (fun s => (hp.1 26 (((jj : Int) * 20) + (s : Int)).toNat).toInt - (hp.1 27 s).toInt) 20) 5).2.2 = 0 := k11.2.2; omega) | exact fun z => absurd (z.2.2) (by have q : (wz (fun jj : Nat => cz (fun s => decide ((hp.1 27 s).toInt ≠ -1 ∧ (hp.1 26 (((jj : Int) * 20) + (s : Int)).toNat).toInt ≠ -1)) 20) (fun jj : Nat => (hp.1 26 (((jj : Int) * 20) + cI).toNat).toInt) (fun jj : Nat => oz (fun s => decide ((hp.1 27 s).toInt ≠ -1 ∧ (hp.1 26 (((jj : Int) * 20) + (s : Int)).toNat).toInt ≠ -1)) (fun s => (hp.1 26 (((jj : Int) * 20) + (s : Int)).toNat).toInt - (hp.1 27 s).toInt) 20) 5).2.2 = 0 := k21.2.2; omega))).symm rfl (fun c hc => by simp [sL_ne hc, sI_2]))
  · refine gz_ne (kx := 0) rfl (show (0 : Int32).toInt = 0 from by decide) (fun q => absurd q (by decide)) (fun _ => ?_)
    refine g_run 1 rfl ?_
    exact g_iret rfl rfl (h _ _ (ordV_n (by simp only [decide_eq_true_eq]; first | omega | exact fun z => absurd (z.2.1) (by have q : (wz (fun jj : Nat => cz (fun s => decide ((hp.1 27 s).toInt ≠ -1 ∧ (hp.1 26 (((jj : Int) * 20) + (s : Int)).toNat).toInt ≠ -1)) 20) (fun jj : Nat => (hp.1 26 (((jj : Int) * 20) + aI).toNat).toInt) (fun jj : Nat => oz (fun s => decide ((hp.1 27 s).toInt ≠ -1 ∧ (hp.1 26 (((jj : Int) * 20) + (s : Int)).toNat).toInt ≠ -1)) (fun s => (hp.1 26 (((jj : Int) * 20) + (s : Int)).toNat).toInt - (hp.1 27 s).toInt) 20) 5).2.2 = 0 := k11.2.2; omega) | exact fun z => absurd (z.2.2) (by have q : (wz (fun jj : Nat => cz (fun s => decide ((hp.1 27 s).toInt ≠ -1 ∧ (hp.1 26 (((jj : Int) * 20) + (s : Int)).toNat).toInt ≠ -1)) 20) (fun jj : Nat => (hp.1 26 (((jj : Int) * 20) + cI).toNat).toInt) (fun jj : Nat => oz (fun s => decide ((hp.1 27 s).toInt ≠ -1 ∧ (hp.1 26 (((jj : Int) * 20) + (s : Int)).toNat).toInt ≠ -1)) (fun s => (hp.1 26 (((jj : Int) * 20) + (s : Int)).toNat).toInt - (hp.1 27 s).toInt) 20) 5).2.2 = 0 := k21.2.2; omega))).symm rfl (fun c hc => by simp [sL_ne hc, sI_2]))
  · refine gz_ne (kx := 0) rfl (show (0 : Int32).toInt = 0 from by decide) (fun q => absurd q (by decide)) (fun _ => ?_)
    refine g_run 1 rfl ?_
    exact g_iret rfl rfl (h _ _ (ordV_n (by simp only [decide_eq_true_eq]; first | omega | exact fun z => absurd (z.2.1) (by have q : (wz (fun jj : Nat => cz (fun s => decide ((hp.1 27 s).toInt ≠ -1 ∧ (hp.1 26 (((jj : Int) * 20) + (s : Int)).toNat).toInt ≠ -1)) 20) (fun jj : Nat => (hp.1 26 (((jj : Int) * 20) + aI).toNat).toInt) (fun jj : Nat => oz (fun s => decide ((hp.1 27 s).toInt ≠ -1 ∧ (hp.1 26 (((jj : Int) * 20) + (s : Int)).toNat).toInt ≠ -1)) (fun s => (hp.1 26 (((jj : Int) * 20) + (s : Int)).toNat).toInt - (hp.1 27 s).toInt) 20) 5).2.2 = 0 := k11.2.2; omega) | exact fun z => absurd (z.2.2) (by have q : (wz (fun jj : Nat => cz (fun s => decide ((hp.1 27 s).toInt ≠ -1 ∧ (hp.1 26 (((jj : Int) * 20) + (s : Int)).toNat).toInt ≠ -1)) 20) (fun jj : Nat => (hp.1 26 (((jj : Int) * 20) + cI).toNat).toInt) (fun jj : Nat => oz (fun s => decide ((hp.1 27 s).toInt ≠ -1 ∧ (hp.1 26 (((jj : Int) * 20) + (s : Int)).toNat).toInt ≠ -1)) (fun s => (hp.1 26 (((jj : Int) * 20) + (s : Int)).toNat).toInt - (hp.1 27 s).toInt) 20) 5).2.2 = 0 := k21.2.2; omega))).symm rfl (fun c hc => by simp [sL_ne hc, sI_2]))
theorem c_X9_order {a : Int32} {aI : Int} {c : Int32} {cI : Int} (aE : a.toInt = aI) (cE : c.toInt = cI) (mw : ∀ i, i < 100 → -1 ≤ (hp.1 26 i).toInt ∧ (hp.1 26 i).toInt ≤ 100) (tw : ∀ i, i < 20 → -1 ≤ (hp.1 27 i).toInt ∧ (hp.1 27 i).toInt ≤ 100) (h : ∀ (r : Int32) (hp2 : hp_T), r = ordV (decide (0 ≤ aI ∧ aI < 20 ∧ 0 ≤ cI ∧ cI < 20)) (wz (fun jj : Nat => cz (fun s => decide ((hp.1 27 s).toInt ≠ -1 ∧ (hp.1 26 (((jj : Int) * 20) + (s : Int)).toNat).toInt ≠ -1)) 20) (fun jj : Nat => (hp.1 26 (((jj : Int) * 20) + aI).toNat).toInt) (fun jj : Nat => oz (fun s => decide ((hp.1 27 s).toInt ≠ -1 ∧ (hp.1 26 (((jj : Int) * 20) + (s : Int)).toNat).toInt ≠ -1)) (fun s => (hp.1 26 (((jj : Int) * 20) + (s : Int)).toNat).toInt - (hp.1 27 s).toInt) 20) 5) (wz (fun jj : Nat => cz (fun s => decide ((hp.1 27 s).toInt ≠ -1 ∧ (hp.1 26 (((jj : Int) * 20) + (s : Int)).toNat).toInt ≠ -1)) 20) (fun jj : Nat => (hp.1 26 (((jj : Int) * 20) + cI).toNat).toInt) (fun jj : Nat => oz (fun s => decide ((hp.1 27 s).toInt ≠ -1 ∧ (hp.1 26 (((jj : Int) * 20) + (s : Int)).toNat).toInt ≠ -1)) (fun s => (hp.1 26 (((jj : Int) * 20) + (s : Int)).toNat).toInt - (hp.1 27 s).toInt) 20) 5) → hp2.1 = hp.1 → (∀ c, c ≠ 25 → hp2.2 c = hp.2 c) → Q (some (.int r)) (SH b xs) hp2) : gC mX9_order (d + 4) 0 0 [.ref 0, .int a, .int c] (SH b xs) hp Q := by
  refine g_enter okX9_order (plainFor_of_name rfl) rfl ?_
  refine g_run 4 rfl ?_
  refine g_callV0 rfl LX9_172 rfl rfl rfl rfl ?_
  refine c_X2_compare (aI := aI) (cI := cI) aE cE mw tw (fun r hp2 e1 e2 e3 => ?_)
  exact g_iret rfl rfl (h r hp2 e1 e2 e3)
theorem c_X10_order {a : Int32} {aI : Int} {c : Int32} {cI : Int} (aE : a.toInt = aI) (cE : c.toInt = cI) (mw : ∀ i, i < 100 → -1 ≤ (hp.1 69 i).toInt ∧ (hp.1 69 i).toInt ≤ 100) (tw : ∀ i, i < 20 → -1 ≤ (hp.1 70 i).toInt ∧ (hp.1 70 i).toInt ≤ 100) (h : ∀ (r : Int32) (hp2 : hp_T), r = ordV (decide (0 ≤ aI ∧ aI < 20 ∧ 0 ≤ cI ∧ cI < 20)) (wz (fun jj : Nat => cz (fun s => decide ((hp.1 70 s).toInt ≠ -1 ∧ (hp.1 69 ((20 * (jj : Int)) + (s : Int)).toNat).toInt ≠ -1)) 20) (fun jj : Nat => (hp.1 69 ((20 * (jj : Int)) + aI).toNat).toInt) (fun jj : Nat => oz (fun s => decide ((hp.1 70 s).toInt ≠ -1 ∧ (hp.1 69 ((20 * (jj : Int)) + (s : Int)).toNat).toInt ≠ -1)) (fun s => (hp.1 69 ((20 * (jj : Int)) + (s : Int)).toNat).toInt - (hp.1 70 s).toInt) 20) 5) (wz (fun jj : Nat => cz (fun s => decide ((hp.1 70 s).toInt ≠ -1 ∧ (hp.1 69 ((20 * (jj : Int)) + (s : Int)).toNat).toInt ≠ -1)) 20) (fun jj : Nat => (hp.1 69 ((20 * (jj : Int)) + cI).toNat).toInt) (fun jj : Nat => oz (fun s => decide ((hp.1 70 s).toInt ≠ -1 ∧ (hp.1 69 ((20 * (jj : Int)) + (s : Int)).toNat).toInt ≠ -1)) (fun s => (hp.1 69 ((20 * (jj : Int)) + (s : Int)).toNat).toInt - (hp.1 70 s).toInt) 20) 5) → hp2.1 = (sI hp 43 0 0).1 → (∀ c, c ≠ 43 → hp2.2 c = hp.2 c) → Q (some (.int r)) (SH b xs) hp2) : gC mX10_order (d + 1) 0 0 [.ref 43, .int a, .int c] (SH b xs) hp Q := by
  refine g_enter okX10_order (plainFor_of_name rfl) rfl ?_
  refine g_run 4 rfl ?_
  refine g_callS0 rfl LX10_303 rfl rfl ?_
  refine c_X10_isSample (nI := aI) aE (fun k1 => ?_) (fun k2 => ?_)
  · refine gz_eq (kx := 1) rfl (show (1 : Int32).toInt = 1 from by decide) (fun q => absurd q (by decide)) (fun _ => ?_)
    refine g_run 1 rfl ?_
    refine g_callS0 rfl LX10_303 rfl rfl ?_
    refine c_X10_isSample (nI := cI) cE (fun k3 => ?_) (fun k4 => ?_)
    · refine gz_eq (kx := 1) rfl (show (1 : Int32).toInt = 1 from by decide) (fun q => absurd q (by decide)) (fun _ => ?_)
      refine g_run 2 rfl ?_
      refine g_callV0 rfl LX10_313 rfl rfl rfl rfl ?_
      refine c_X10_weighs (aI := aI) aE mw tw (by omega) (fun k10 u1 v1 Eu1 Ev1 => ?_) (fun k11 u1 v1 => ?_)
      · refine gz_ne (kx := 1) rfl (show (1 : Int32).toInt = 1 from by decide) (fun _ => ?_) (fun q => absurd q (by decide))
        refine g_run 8 rfl ?_
        refine g_callV0 rfl LX10_313 rfl rfl rfl rfl ?_
        refine c_X10_weighs (aI := cI) cE mw tw (by omega) (fun k20 u2 v2 Eu2 Ev2 => ?_) (fun k21 u2 v2 => ?_)
        · refine gz_ne (kx := 1) rfl (show (1 : Int32).toInt = 1 from by decide) (fun _ => ?_) (fun q => absurd q (by decide))
          refine g_run 13 rfl ?_
          refine gz_le (kx := (lg_cmp ((u1 * v2) - (u2 * v1)) 0).toInt) rfl rfl (fun k5 => ?_) (fun k5 => ?_)
          · refine g_run 3 rfl ?_
            refine gz_ge (kx := (lg_cmp ((u1 * v2) - (u2 * v1)) 0).toInt) rfl rfl (fun k6 => ?_) (fun k6 => ?_)
            · refine g_run 1 rfl ?_
              have Eu1 : u1.toInt = (wz (fun jj : Nat => cz (fun s => decide ((hp.1 70 s).toInt ≠ -1 ∧ (hp.1 69 ((20 * (jj : Int)) + (s : Int)).toNat).toInt ≠ -1)) 20) (fun jj : Nat => (hp.1 69 ((20 * (jj : Int)) + aI).toNat).toInt) (fun jj : Nat => oz (fun s => decide ((hp.1 70 s).toInt ≠ -1 ∧ (hp.1 69 ((20 * (jj : Int)) + (s : Int)).toNat).toInt ≠ -1)) (fun s => (hp.1 69 ((20 * (jj : Int)) + (s : Int)).toNat).toInt - (hp.1 70 s).toInt) 20) 5).1 := Eu1
              have Ev1 : v1.toInt = (wz (fun jj : Nat => cz (fun s => decide ((hp.1 70 s).toInt ≠ -1 ∧ (hp.1 69 ((20 * (jj : Int)) + (s : Int)).toNat).toInt ≠ -1)) 20) (fun jj : Nat => (hp.1 69 ((20 * (jj : Int)) + aI).toNat).toInt) (fun jj : Nat => oz (fun s => decide ((hp.1 70 s).toInt ≠ -1 ∧ (hp.1 69 ((20 * (jj : Int)) + (s : Int)).toNat).toInt ≠ -1)) (fun s => (hp.1 69 ((20 * (jj : Int)) + (s : Int)).toNat).toInt - (hp.1 70 s).toInt) 20) 5).2.1 * (wz (fun jj : Nat => cz (fun s => decide ((hp.1 70 s).toInt ≠ -1 ∧ (hp.1 69 ((20 * (jj : Int)) + (s : Int)).toNat).toInt ≠ -1)) 20) (fun jj : Nat => (hp.1 69 ((20 * (jj : Int)) + aI).toNat).toInt) (fun jj : Nat => oz (fun s => decide ((hp.1 70 s).toInt ≠ -1 ∧ (hp.1 69 ((20 * (jj : Int)) + (s : Int)).toNat).toInt ≠ -1)) (fun s => (hp.1 69 ((20 * (jj : Int)) + (s : Int)).toNat).toInt - (hp.1 70 s).toInt) 20) 5).2.2 := Ev1
              have Eu2 : u2.toInt = (wz (fun jj : Nat => cz (fun s => decide ((hp.1 70 s).toInt ≠ -1 ∧ (hp.1 69 ((20 * (jj : Int)) + (s : Int)).toNat).toInt ≠ -1)) 20) (fun jj : Nat => (hp.1 69 ((20 * (jj : Int)) + cI).toNat).toInt) (fun jj : Nat => oz (fun s => decide ((hp.1 70 s).toInt ≠ -1 ∧ (hp.1 69 ((20 * (jj : Int)) + (s : Int)).toNat).toInt ≠ -1)) (fun s => (hp.1 69 ((20 * (jj : Int)) + (s : Int)).toNat).toInt - (hp.1 70 s).toInt) 20) 5).1 := Eu2
              have Ev2 : v2.toInt = (wz (fun jj : Nat => cz (fun s => decide ((hp.1 70 s).toInt ≠ -1 ∧ (hp.1 69 ((20 * (jj : Int)) + (s : Int)).toNat).toInt ≠ -1)) 20) (fun jj : Nat => (hp.1 69 ((20 * (jj : Int)) + cI).toNat).toInt) (fun jj : Nat => oz (fun s => decide ((hp.1 70 s).toInt ≠ -1 ∧ (hp.1 69 ((20 * (jj : Int)) + (s : Int)).toNat).toInt ≠ -1)) (fun s => (hp.1 69 ((20 * (jj : Int)) + (s : Int)).toNat).toInt - (hp.1 70 s).toInt) 20) 5).2.1 * (wz (fun jj : Nat => cz (fun s => decide ((hp.1 70 s).toInt ≠ -1 ∧ (hp.1 69 ((20 * (jj : Int)) + (s : Int)).toNat).toInt ≠ -1)) 20) (fun jj : Nat => (hp.1 69 ((20 * (jj : Int)) + cI).toNat).toInt) (fun jj : Nat => oz (fun s => decide ((hp.1 70 s).toInt ≠ -1 ∧ (hp.1 69 ((20 * (jj : Int)) + (s : Int)).toNat).toInt ≠ -1)) (fun s => (hp.1 69 ((20 * (jj : Int)) + (s : Int)).toNat).toInt - (hp.1 70 s).toInt) 20) 5).2.2 := Ev2
              have kA : 0 < (wz (fun jj : Nat => cz (fun s => decide ((hp.1 70 s).toInt ≠ -1 ∧ (hp.1 69 ((20 * (jj : Int)) + (s : Int)).toNat).toInt ≠ -1)) 20) (fun jj : Nat => (hp.1 69 ((20 * (jj : Int)) + aI).toNat).toInt) (fun jj : Nat => oz (fun s => decide ((hp.1 70 s).toInt ≠ -1 ∧ (hp.1 69 ((20 * (jj : Int)) + (s : Int)).toNat).toInt ≠ -1)) (fun s => (hp.1 69 ((20 * (jj : Int)) + (s : Int)).toNat).toInt - (hp.1 70 s).toInt) 20) 5).2.2 := k10
              have kC : 0 < (wz (fun jj : Nat => cz (fun s => decide ((hp.1 70 s).toInt ≠ -1 ∧ (hp.1 69 ((20 * (jj : Int)) + (s : Int)).toNat).toInt ≠ -1)) 20) (fun jj : Nat => (hp.1 69 ((20 * (jj : Int)) + cI).toNat).toInt) (fun jj : Nat => oz (fun s => decide ((hp.1 70 s).toInt ≠ -1 ∧ (hp.1 69 ((20 * (jj : Int)) + (s : Int)).toNat).toInt ≠ -1)) (fun s => (hp.1 69 ((20 * (jj : Int)) + (s : Int)).toNat).toInt - (hp.1 70 s).toInt) 20) 5).2.2 := k20
              have hA := wzM_bd (aI := aI) mw tw (by omega)
              have hC := wzM_bd (aI := cI) mw tw (by omega)
              have hm := ord_64 Eu1 Ev1 Eu2 Ev2 (by omega) (by omega) (by omega) (by omega) (by omega) (by omega)
              have hm3 := ord_bd (A := (wz (fun jj : Nat => cz (fun s => decide ((hp.1 70 s).toInt ≠ -1 ∧ (hp.1 69 ((20 * (jj : Int)) + (s : Int)).toNat).toInt ≠ -1)) 20) (fun jj : Nat => (hp.1 69 ((20 * (jj : Int)) + aI).toNat).toInt) (fun jj : Nat => oz (fun s => decide ((hp.1 70 s).toInt ≠ -1 ∧ (hp.1 69 ((20 * (jj : Int)) + (s : Int)).toNat).toInt ≠ -1)) (fun s => (hp.1 69 ((20 * (jj : Int)) + (s : Int)).toNat).toInt - (hp.1 70 s).toInt) 20) 5)) (C := (wz (fun jj : Nat => cz (fun s => decide ((hp.1 70 s).toInt ≠ -1 ∧ (hp.1 69 ((20 * (jj : Int)) + (s : Int)).toNat).toInt ≠ -1)) 20) (fun jj : Nat => (hp.1 69 ((20 * (jj : Int)) + cI).toNat).toInt) (fun jj : Nat => oz (fun s => decide ((hp.1 70 s).toInt ≠ -1 ∧ (hp.1 69 ((20 * (jj : Int)) + (s : Int)).toNat).toInt ≠ -1)) (fun s => (hp.1 69 ((20 * (jj : Int)) + (s : Int)).toNat).toInt - (hp.1 70 s).toInt) 20) 5)) (by omega) (by omega) (by omega) (by omega) (by omega) (by omega)
              exact g_iret rfl rfl (h _ _ (ordV_0 (by simp only [decide_eq_true_eq]; omega) kA kC (by have hs := la_sub2 hm.1 hm.2 (by omega) (by omega); have q := l64_zero (n := u1 * v2 - u2 * v1) (by assumption) (by assumption); omega)).symm rfl (fun c hc => by simp [sL_ne hc, sI_2]))
            · refine g_run 2 rfl ?_
              have Eu1 : u1.toInt = (wz (fun jj : Nat => cz (fun s => decide ((hp.1 70 s).toInt ≠ -1 ∧ (hp.1 69 ((20 * (jj : Int)) + (s : Int)).toNat).toInt ≠ -1)) 20) (fun jj : Nat => (hp.1 69 ((20 * (jj : Int)) + aI).toNat).toInt) (fun jj : Nat => oz (fun s => decide ((hp.1 70 s).toInt ≠ -1 ∧ (hp.1 69 ((20 * (jj : Int)) + (s : Int)).toNat).toInt ≠ -1)) (fun s => (hp.1 69 ((20 * (jj : Int)) + (s : Int)).toNat).toInt - (hp.1 70 s).toInt) 20) 5).1 := Eu1
              have Ev1 : v1.toInt = (wz (fun jj : Nat => cz (fun s => decide ((hp.1 70 s).toInt ≠ -1 ∧ (hp.1 69 ((20 * (jj : Int)) + (s : Int)).toNat).toInt ≠ -1)) 20) (fun jj : Nat => (hp.1 69 ((20 * (jj : Int)) + aI).toNat).toInt) (fun jj : Nat => oz (fun s => decide ((hp.1 70 s).toInt ≠ -1 ∧ (hp.1 69 ((20 * (jj : Int)) + (s : Int)).toNat).toInt ≠ -1)) (fun s => (hp.1 69 ((20 * (jj : Int)) + (s : Int)).toNat).toInt - (hp.1 70 s).toInt) 20) 5).2.1 * (wz (fun jj : Nat => cz (fun s => decide ((hp.1 70 s).toInt ≠ -1 ∧ (hp.1 69 ((20 * (jj : Int)) + (s : Int)).toNat).toInt ≠ -1)) 20) (fun jj : Nat => (hp.1 69 ((20 * (jj : Int)) + aI).toNat).toInt) (fun jj : Nat => oz (fun s => decide ((hp.1 70 s).toInt ≠ -1 ∧ (hp.1 69 ((20 * (jj : Int)) + (s : Int)).toNat).toInt ≠ -1)) (fun s => (hp.1 69 ((20 * (jj : Int)) + (s : Int)).toNat).toInt - (hp.1 70 s).toInt) 20) 5).2.2 := Ev1
              have Eu2 : u2.toInt = (wz (fun jj : Nat => cz (fun s => decide ((hp.1 70 s).toInt ≠ -1 ∧ (hp.1 69 ((20 * (jj : Int)) + (s : Int)).toNat).toInt ≠ -1)) 20) (fun jj : Nat => (hp.1 69 ((20 * (jj : Int)) + cI).toNat).toInt) (fun jj : Nat => oz (fun s => decide ((hp.1 70 s).toInt ≠ -1 ∧ (hp.1 69 ((20 * (jj : Int)) + (s : Int)).toNat).toInt ≠ -1)) (fun s => (hp.1 69 ((20 * (jj : Int)) + (s : Int)).toNat).toInt - (hp.1 70 s).toInt) 20) 5).1 := Eu2
              have Ev2 : v2.toInt = (wz (fun jj : Nat => cz (fun s => decide ((hp.1 70 s).toInt ≠ -1 ∧ (hp.1 69 ((20 * (jj : Int)) + (s : Int)).toNat).toInt ≠ -1)) 20) (fun jj : Nat => (hp.1 69 ((20 * (jj : Int)) + cI).toNat).toInt) (fun jj : Nat => oz (fun s => decide ((hp.1 70 s).toInt ≠ -1 ∧ (hp.1 69 ((20 * (jj : Int)) + (s : Int)).toNat).toInt ≠ -1)) (fun s => (hp.1 69 ((20 * (jj : Int)) + (s : Int)).toNat).toInt - (hp.1 70 s).toInt) 20) 5).2.1 * (wz (fun jj : Nat => cz (fun s => decide ((hp.1 70 s).toInt ≠ -1 ∧ (hp.1 69 ((20 * (jj : Int)) + (s : Int)).toNat).toInt ≠ -1)) 20) (fun jj : Nat => (hp.1 69 ((20 * (jj : Int)) + cI).toNat).toInt) (fun jj : Nat => oz (fun s => decide ((hp.1 70 s).toInt ≠ -1 ∧ (hp.1 69 ((20 * (jj : Int)) + (s : Int)).toNat).toInt ≠ -1)) (fun s => (hp.1 69 ((20 * (jj : Int)) + (s : Int)).toNat).toInt - (hp.1 70 s).toInt) 20) 5).2.2 := Ev2
              have kA : 0 < (wz (fun jj : Nat => cz (fun s => decide ((hp.1 70 s).toInt ≠ -1 ∧ (hp.1 69 ((20 * (jj : Int)) + (s : Int)).toNat).toInt ≠ -1)) 20) (fun jj : Nat => (hp.1 69 ((20 * (jj : Int)) + aI).toNat).toInt) (fun jj : Nat => oz (fun s => decide ((hp.1 70 s).toInt ≠ -1 ∧ (hp.1 69 ((20 * (jj : Int)) + (s : Int)).toNat).toInt ≠ -1)) (fun s => (hp.1 69 ((20 * (jj : Int)) + (s : Int)).toNat).toInt - (hp.1 70 s).toInt) 20) 5).2.2 := k10
              have kC : 0 < (wz (fun jj : Nat => cz (fun s => decide ((hp.1 70 s).toInt ≠ -1 ∧ (hp.1 69 ((20 * (jj : Int)) + (s : Int)).toNat).toInt ≠ -1)) 20) (fun jj : Nat => (hp.1 69 ((20 * (jj : Int)) + cI).toNat).toInt) (fun jj : Nat => oz (fun s => decide ((hp.1 70 s).toInt ≠ -1 ∧ (hp.1 69 ((20 * (jj : Int)) + (s : Int)).toNat).toInt ≠ -1)) (fun s => (hp.1 69 ((20 * (jj : Int)) + (s : Int)).toNat).toInt - (hp.1 70 s).toInt) 20) 5).2.2 := k20
              have hA := wzM_bd (aI := aI) mw tw (by omega)
              have hC := wzM_bd (aI := cI) mw tw (by omega)
              have hm := ord_64 Eu1 Ev1 Eu2 Ev2 (by omega) (by omega) (by omega) (by omega) (by omega) (by omega)
              have hm3 := ord_bd (A := (wz (fun jj : Nat => cz (fun s => decide ((hp.1 70 s).toInt ≠ -1 ∧ (hp.1 69 ((20 * (jj : Int)) + (s : Int)).toNat).toInt ≠ -1)) 20) (fun jj : Nat => (hp.1 69 ((20 * (jj : Int)) + aI).toNat).toInt) (fun jj : Nat => oz (fun s => decide ((hp.1 70 s).toInt ≠ -1 ∧ (hp.1 69 ((20 * (jj : Int)) + (s : Int)).toNat).toInt ≠ -1)) (fun s => (hp.1 69 ((20 * (jj : Int)) + (s : Int)).toNat).toInt - (hp.1 70 s).toInt) 20) 5)) (C := (wz (fun jj : Nat => cz (fun s => decide ((hp.1 70 s).toInt ≠ -1 ∧ (hp.1 69 ((20 * (jj : Int)) + (s : Int)).toNat).toInt ≠ -1)) 20) (fun jj : Nat => (hp.1 69 ((20 * (jj : Int)) + cI).toNat).toInt) (fun jj : Nat => oz (fun s => decide ((hp.1 70 s).toInt ≠ -1 ∧ (hp.1 69 ((20 * (jj : Int)) + (s : Int)).toNat).toInt ≠ -1)) (fun s => (hp.1 69 ((20 * (jj : Int)) + (s : Int)).toNat).toInt - (hp.1 70 s).toInt) 20) 5)) (by omega) (by omega) (by omega) (by omega) (by omega) (by omega)
              exact g_iret rfl rfl (h _ _ (ordV_m (by simp only [decide_eq_true_eq]; omega) kA kC (by have hs := la_sub2 hm.1 hm.2 (by omega) (by omega); have q := l64_neg (n := u1 * v2 - u2 * v1) (by assumption); omega)).symm rfl (fun c hc => by simp [sL_ne hc, sI_2]))
          · refine g_run 2 rfl ?_
            have Eu1 : u1.toInt = (wz (fun jj : Nat => cz (fun s => decide ((hp.1 70 s).toInt ≠ -1 ∧ (hp.1 69 ((20 * (jj : Int)) + (s : Int)).toNat).toInt ≠ -1)) 20) (fun jj : Nat => (hp.1 69 ((20 * (jj : Int)) + aI).toNat).toInt) (fun jj : Nat => oz (fun s => decide ((hp.1 70 s).toInt ≠ -1 ∧ (hp.1 69 ((20 * (jj : Int)) + (s : Int)).toNat).toInt ≠ -1)) (fun s => (hp.1 69 ((20 * (jj : Int)) + (s : Int)).toNat).toInt - (hp.1 70 s).toInt) 20) 5).1 := Eu1
            have Ev1 : v1.toInt = (wz (fun jj : Nat => cz (fun s => decide ((hp.1 70 s).toInt ≠ -1 ∧ (hp.1 69 ((20 * (jj : Int)) + (s : Int)).toNat).toInt ≠ -1)) 20) (fun jj : Nat => (hp.1 69 ((20 * (jj : Int)) + aI).toNat).toInt) (fun jj : Nat => oz (fun s => decide ((hp.1 70 s).toInt ≠ -1 ∧ (hp.1 69 ((20 * (jj : Int)) + (s : Int)).toNat).toInt ≠ -1)) (fun s => (hp.1 69 ((20 * (jj : Int)) + (s : Int)).toNat).toInt - (hp.1 70 s).toInt) 20) 5).2.1 * (wz (fun jj : Nat => cz (fun s => decide ((hp.1 70 s).toInt ≠ -1 ∧ (hp.1 69 ((20 * (jj : Int)) + (s : Int)).toNat).toInt ≠ -1)) 20) (fun jj : Nat => (hp.1 69 ((20 * (jj : Int)) + aI).toNat).toInt) (fun jj : Nat => oz (fun s => decide ((hp.1 70 s).toInt ≠ -1 ∧ (hp.1 69 ((20 * (jj : Int)) + (s : Int)).toNat).toInt ≠ -1)) (fun s => (hp.1 69 ((20 * (jj : Int)) + (s : Int)).toNat).toInt - (hp.1 70 s).toInt) 20) 5).2.2 := Ev1
            have Eu2 : u2.toInt = (wz (fun jj : Nat => cz (fun s => decide ((hp.1 70 s).toInt ≠ -1 ∧ (hp.1 69 ((20 * (jj : Int)) + (s : Int)).toNat).toInt ≠ -1)) 20) (fun jj : Nat => (hp.1 69 ((20 * (jj : Int)) + cI).toNat).toInt) (fun jj : Nat => oz (fun s => decide ((hp.1 70 s).toInt ≠ -1 ∧ (hp.1 69 ((20 * (jj : Int)) + (s : Int)).toNat).toInt ≠ -1)) (fun s => (hp.1 69 ((20 * (jj : Int)) + (s : Int)).toNat).toInt - (hp.1 70 s).toInt) 20) 5).1 := Eu2
            have Ev2 : v2.toInt = (wz (fun jj : Nat => cz (fun s => decide ((hp.1 70 s).toInt ≠ -1 ∧ (hp.1 69 ((20 * (jj : Int)) + (s : Int)).toNat).toInt ≠ -1)) 20) (fun jj : Nat => (hp.1 69 ((20 * (jj : Int)) + cI).toNat).toInt) (fun jj : Nat => oz (fun s => decide ((hp.1 70 s).toInt ≠ -1 ∧ (hp.1 69 ((20 * (jj : Int)) + (s : Int)).toNat).toInt ≠ -1)) (fun s => (hp.1 69 ((20 * (jj : Int)) + (s : Int)).toNat).toInt - (hp.1 70 s).toInt) 20) 5).2.1 * (wz (fun jj : Nat => cz (fun s => decide ((hp.1 70 s).toInt ≠ -1 ∧ (hp.1 69 ((20 * (jj : Int)) + (s : Int)).toNat).toInt ≠ -1)) 20) (fun jj : Nat => (hp.1 69 ((20 * (jj : Int)) + cI).toNat).toInt) (fun jj : Nat => oz (fun s => decide ((hp.1 70 s).toInt ≠ -1 ∧ (hp.1 69 ((20 * (jj : Int)) + (s : Int)).toNat).toInt ≠ -1)) (fun s => (hp.1 69 ((20 * (jj : Int)) + (s : Int)).toNat).toInt - (hp.1 70 s).toInt) 20) 5).2.2 := Ev2
            have kA : 0 < (wz (fun jj : Nat => cz (fun s => decide ((hp.1 70 s).toInt ≠ -1 ∧ (hp.1 69 ((20 * (jj : Int)) + (s : Int)).toNat).toInt ≠ -1)) 20) (fun jj : Nat => (hp.1 69 ((20 * (jj : Int)) + aI).toNat).toInt) (fun jj : Nat => oz (fun s => decide ((hp.1 70 s).toInt ≠ -1 ∧ (hp.1 69 ((20 * (jj : Int)) + (s : Int)).toNat).toInt ≠ -1)) (fun s => (hp.1 69 ((20 * (jj : Int)) + (s : Int)).toNat).toInt - (hp.1 70 s).toInt) 20) 5).2.2 := k10
            have kC : 0 < (wz (fun jj : Nat => cz (fun s => decide ((hp.1 70 s).toInt ≠ -1 ∧ (hp.1 69 ((20 * (jj : Int)) + (s : Int)).toNat).toInt ≠ -1)) 20) (fun jj : Nat => (hp.1 69 ((20 * (jj : Int)) + cI).toNat).toInt) (fun jj : Nat => oz (fun s => decide ((hp.1 70 s).toInt ≠ -1 ∧ (hp.1 69 ((20 * (jj : Int)) + (s : Int)).toNat).toInt ≠ -1)) (fun s => (hp.1 69 ((20 * (jj : Int)) + (s : Int)).toNat).toInt - (hp.1 70 s).toInt) 20) 5).2.2 := k20
            have hA := wzM_bd (aI := aI) mw tw (by omega)
            have hC := wzM_bd (aI := cI) mw tw (by omega)
            have hm := ord_64 Eu1 Ev1 Eu2 Ev2 (by omega) (by omega) (by omega) (by omega) (by omega) (by omega)
            have hm3 := ord_bd (A := (wz (fun jj : Nat => cz (fun s => decide ((hp.1 70 s).toInt ≠ -1 ∧ (hp.1 69 ((20 * (jj : Int)) + (s : Int)).toNat).toInt ≠ -1)) 20) (fun jj : Nat => (hp.1 69 ((20 * (jj : Int)) + aI).toNat).toInt) (fun jj : Nat => oz (fun s => decide ((hp.1 70 s).toInt ≠ -1 ∧ (hp.1 69 ((20 * (jj : Int)) + (s : Int)).toNat).toInt ≠ -1)) (fun s => (hp.1 69 ((20 * (jj : Int)) + (s : Int)).toNat).toInt - (hp.1 70 s).toInt) 20) 5)) (C := (wz (fun jj : Nat => cz (fun s => decide ((hp.1 70 s).toInt ≠ -1 ∧ (hp.1 69 ((20 * (jj : Int)) + (s : Int)).toNat).toInt ≠ -1)) 20) (fun jj : Nat => (hp.1 69 ((20 * (jj : Int)) + cI).toNat).toInt) (fun jj : Nat => oz (fun s => decide ((hp.1 70 s).toInt ≠ -1 ∧ (hp.1 69 ((20 * (jj : Int)) + (s : Int)).toNat).toInt ≠ -1)) (fun s => (hp.1 69 ((20 * (jj : Int)) + (s : Int)).toNat).toInt - (hp.1 70 s).toInt) 20) 5)) (by omega) (by omega) (by omega) (by omega) (by omega) (by omega)
            exact g_iret rfl rfl (h _ _ (ordV_1 (by simp only [decide_eq_true_eq]; omega) kA kC (by have hs := la_sub2 hm.1 hm.2 (by omega) (by omega); have q := l64_pos (n := u1 * v2 - u2 * v1) (by assumption); omega)).symm rfl (fun c hc => by simp [sL_ne hc, sI_2]))
        · refine gz_ne (kx := 0) rfl (show (0 : Int32).toInt = 0 from by decide) (fun q => absurd q (by decide)) (fun _ => ?_)
          refine g_run 1 rfl ?_
          exact g_iret rfl rfl (h _ _ (ordV_n (by simp only [decide_eq_true_eq]; first | omega | exact fun z => absurd (z.2.1) (by have q : (wz (fun jj : Nat => cz (fun s => decide ((hp.1 70 s).toInt ≠ -1 ∧ (hp.1 69 ((20 * (jj : Int)) + (s : Int)).toNat).toInt ≠ -1)) 20) (fun jj : Nat => (hp.1 69 ((20 * (jj : Int)) + aI).toNat).toInt) (fun jj : Nat => oz (fun s => decide ((hp.1 70 s).toInt ≠ -1 ∧ (hp.1 69 ((20 * (jj : Int)) + (s : Int)).toNat).toInt ≠ -1)) (fun s => (hp.1 69 ((20 * (jj : Int)) + (s : Int)).toNat).toInt - (hp.1 70 s).toInt) 20) 5).2.2 = 0 := k11; omega) | exact fun z => absurd (z.2.2) (by have q : (wz (fun jj : Nat => cz (fun s => decide ((hp.1 70 s).toInt ≠ -1 ∧ (hp.1 69 ((20 * (jj : Int)) + (s : Int)).toNat).toInt ≠ -1)) 20) (fun jj : Nat => (hp.1 69 ((20 * (jj : Int)) + cI).toNat).toInt) (fun jj : Nat => oz (fun s => decide ((hp.1 70 s).toInt ≠ -1 ∧ (hp.1 69 ((20 * (jj : Int)) + (s : Int)).toNat).toInt ≠ -1)) (fun s => (hp.1 69 ((20 * (jj : Int)) + (s : Int)).toNat).toInt - (hp.1 70 s).toInt) 20) 5).2.2 = 0 := k21; omega))).symm rfl (fun c hc => by simp [sL_ne hc, sI_2]))
      · refine gz_ne (kx := 0) rfl (show (0 : Int32).toInt = 0 from by decide) (fun q => absurd q (by decide)) (fun _ => ?_)
        refine g_run 1 rfl ?_
        exact g_iret rfl rfl (h _ _ (ordV_n (by simp only [decide_eq_true_eq]; first | omega | exact fun z => absurd (z.2.1) (by have q : (wz (fun jj : Nat => cz (fun s => decide ((hp.1 70 s).toInt ≠ -1 ∧ (hp.1 69 ((20 * (jj : Int)) + (s : Int)).toNat).toInt ≠ -1)) 20) (fun jj : Nat => (hp.1 69 ((20 * (jj : Int)) + aI).toNat).toInt) (fun jj : Nat => oz (fun s => decide ((hp.1 70 s).toInt ≠ -1 ∧ (hp.1 69 ((20 * (jj : Int)) + (s : Int)).toNat).toInt ≠ -1)) (fun s => (hp.1 69 ((20 * (jj : Int)) + (s : Int)).toNat).toInt - (hp.1 70 s).toInt) 20) 5).2.2 = 0 := k11; omega) | exact fun z => absurd (z.2.2) (by have q : (wz (fun jj : Nat => cz (fun s => decide ((hp.1 70 s).toInt ≠ -1 ∧ (hp.1 69 ((20 * (jj : Int)) + (s : Int)).toNat).toInt ≠ -1)) 20) (fun jj : Nat => (hp.1 69 ((20 * (jj : Int)) + cI).toNat).toInt) (fun jj : Nat => oz (fun s => decide ((hp.1 70 s).toInt ≠ -1 ∧ (hp.1 69 ((20 * (jj : Int)) + (s : Int)).toNat).toInt ≠ -1)) (fun s => (hp.1 69 ((20 * (jj : Int)) + (s : Int)).toNat).toInt - (hp.1 70 s).toInt) 20) 5).2.2 = 0 := k21; omega))).symm rfl (fun c hc => by simp [sL_ne hc, sI_2]))
    · refine gz_eq (kx := 0) rfl (show (0 : Int32).toInt = 0 from by decide) (fun _ => ?_) (fun q => absurd q (by decide))
      refine g_run 1 rfl ?_
      exact g_iret rfl rfl (h _ _ (ordV_n (by simp only [decide_eq_true_eq]; first | omega | exact fun z => absurd (z.2.1) (by have q : (wz (fun jj : Nat => cz (fun s => decide ((hp.1 70 s).toInt ≠ -1 ∧ (hp.1 69 ((20 * (jj : Int)) + (s : Int)).toNat).toInt ≠ -1)) 20) (fun jj : Nat => (hp.1 69 ((20 * (jj : Int)) + aI).toNat).toInt) (fun jj : Nat => oz (fun s => decide ((hp.1 70 s).toInt ≠ -1 ∧ (hp.1 69 ((20 * (jj : Int)) + (s : Int)).toNat).toInt ≠ -1)) (fun s => (hp.1 69 ((20 * (jj : Int)) + (s : Int)).toNat).toInt - (hp.1 70 s).toInt) 20) 5).2.2 = 0 := k11; omega) | exact fun z => absurd (z.2.2) (by have q : (wz (fun jj : Nat => cz (fun s => decide ((hp.1 70 s).toInt ≠ -1 ∧ (hp.1 69 ((20 * (jj : Int)) + (s : Int)).toNat).toInt ≠ -1)) 20) (fun jj : Nat => (hp.1 69 ((20 * (jj : Int)) + cI).toNat).toInt) (fun jj : Nat => oz (fun s => decide ((hp.1 70 s).toInt ≠ -1 ∧ (hp.1 69 ((20 * (jj : Int)) + (s : Int)).toNat).toInt ≠ -1)) (fun s => (hp.1 69 ((20 * (jj : Int)) + (s : Int)).toNat).toInt - (hp.1 70 s).toInt) 20) 5).2.2 = 0 := k21; omega))).symm rfl (fun c hc => by simp [sL_ne hc, sI_2]))
  · refine gz_eq (kx := 0) rfl (show (0 : Int32).toInt = 0 from by decide) (fun _ => ?_) (fun q => absurd q (by decide))
    refine g_run 1 rfl ?_
    exact g_iret rfl rfl (h _ _ (ordV_n (by simp only [decide_eq_true_eq]; first | omega | exact fun z => absurd (z.2.1) (by have q : (wz (fun jj : Nat => cz (fun s => decide ((hp.1 70 s).toInt ≠ -1 ∧ (hp.1 69 ((20 * (jj : Int)) + (s : Int)).toNat).toInt ≠ -1)) 20) (fun jj : Nat => (hp.1 69 ((20 * (jj : Int)) + aI).toNat).toInt) (fun jj : Nat => oz (fun s => decide ((hp.1 70 s).toInt ≠ -1 ∧ (hp.1 69 ((20 * (jj : Int)) + (s : Int)).toNat).toInt ≠ -1)) (fun s => (hp.1 69 ((20 * (jj : Int)) + (s : Int)).toNat).toInt - (hp.1 70 s).toInt) 20) 5).2.2 = 0 := k11; omega) | exact fun z => absurd (z.2.2) (by have q : (wz (fun jj : Nat => cz (fun s => decide ((hp.1 70 s).toInt ≠ -1 ∧ (hp.1 69 ((20 * (jj : Int)) + (s : Int)).toNat).toInt ≠ -1)) 20) (fun jj : Nat => (hp.1 69 ((20 * (jj : Int)) + cI).toNat).toInt) (fun jj : Nat => oz (fun s => decide ((hp.1 70 s).toInt ≠ -1 ∧ (hp.1 69 ((20 * (jj : Int)) + (s : Int)).toNat).toInt ≠ -1)) (fun s => (hp.1 69 ((20 * (jj : Int)) + (s : Int)).toNat).toInt - (hp.1 70 s).toInt) 20) 5).2.2 = 0 := k21; omega))).symm rfl (fun c hc => by simp [sL_ne hc, sI_2]))
theorem c_X2_thousandths {a : Int32} {aI : Int} (aE : a.toInt = aI) (mw : ∀ i, i < 100 → -1 ≤ (hp.1 26 i).toInt ∧ (hp.1 26 i).toInt ≤ 100) (tw : ∀ i, i < 20 → -1 ≤ (hp.1 27 i).toInt ∧ (hp.1 27 i).toInt ≤ 100) (h : ∀ (r : Int32) (hp2 : hp_T), r = worV (decide (0 ≤ aI ∧ aI < 20)) (wz (fun jj : Nat => cz (fun s => decide ((hp.1 27 s).toInt ≠ -1 ∧ (hp.1 26 (((jj : Int) * 20) + (s : Int)).toNat).toInt ≠ -1)) 20) (fun jj : Nat => (hp.1 26 (((jj : Int) * 20) + aI).toNat).toInt) (fun jj : Nat => oz (fun s => decide ((hp.1 27 s).toInt ≠ -1 ∧ (hp.1 26 (((jj : Int) * 20) + (s : Int)).toNat).toInt ≠ -1)) (fun s => (hp.1 26 (((jj : Int) * 20) + (s : Int)).toNat).toInt - (hp.1 27 s).toInt) 20) 5) → hp2.1 = hp.1 → (∀ c, c ≠ 25 → hp2.2 c = hp.2 c) → Q (some (.int r)) (SH b xs) hp2) : gC mX2_thousandths (d + 3) 0 0 [.ref 25, .int a] (SH b xs) hp Q := by
  refine g_enter okX2_thousandths (plainFor_of_name rfl) rfl ?_
  refine g_run 2 rfl ?_
  refine g_callV0 rfl LX2_39 rfl rfl rfl rfl ?_
  refine c_X2_weigh (aI := aI) aE mw tw (fun k10 u1 v1 Eu1 Ev1 => ?_) (fun k11 u1 v1 => ?_) (fun k12 => ?_)
  · refine gz_eq (kx := 1) rfl (show (1 : Int32).toInt = 1 from by decide) (fun q => absurd q (by decide)) (fun _ => ?_)
    refine g_run 4 rfl ?_
    refine gz_gt (kx := (lg_cmp v1 0).toInt) rfl rfl (fun k1 => ?_) (fun k1 => ?_)
    · refine g_run 6 rfl ?_
      refine g_callS0 rfl LX2_51 rfl rfl ?_
      refine c_J9_floorDiv_f86c9 (by intro z; have z : v1 = 0 := z; have kA := k10.2.2; have vA : 0 ≤ aI ∧ aI < 20 := (by omega); have hA := wzX_bd (aI := aI) mw tw vA; have Ev1 : v1.toInt = (wz (fun jj : Nat => cz (fun s => decide ((hp.1 27 s).toInt ≠ -1 ∧ (hp.1 26 (((jj : Int) * 20) + (s : Int)).toNat).toInt ≠ -1)) 20) (fun jj : Nat => (hp.1 26 (((jj : Int) * 20) + aI).toNat).toInt) (fun jj : Nat => oz (fun s => decide ((hp.1 27 s).toInt ≠ -1 ∧ (hp.1 26 (((jj : Int) * 20) + (s : Int)).toNat).toInt ≠ -1)) (fun s => (hp.1 26 (((jj : Int) * 20) + (s : Int)).toNat).toInt - (hp.1 27 s).toInt) 20) 5).2.1 * (wz (fun jj : Nat => cz (fun s => decide ((hp.1 27 s).toInt ≠ -1 ∧ (hp.1 26 (((jj : Int) * 20) + (s : Int)).toNat).toInt ≠ -1)) 20) (fun jj : Nat => (hp.1 26 (((jj : Int) * 20) + aI).toNat).toInt) (fun jj : Nat => oz (fun s => decide ((hp.1 27 s).toInt ≠ -1 ∧ (hp.1 26 (((jj : Int) * 20) + (s : Int)).toNat).toInt ≠ -1)) (fun s => (hp.1 26 (((jj : Int) * 20) + (s : Int)).toNat).toInt - (hp.1 27 s).toInt) 20) 5).2.2 := Ev1; have kB : 0 < (wz (fun jj : Nat => cz (fun s => decide ((hp.1 27 s).toInt ≠ -1 ∧ (hp.1 26 (((jj : Int) * 20) + (s : Int)).toNat).toInt ≠ -1)) 20) (fun jj : Nat => (hp.1 26 (((jj : Int) * 20) + aI).toNat).toInt) (fun jj : Nat => oz (fun s => decide ((hp.1 27 s).toInt ≠ -1 ∧ (hp.1 26 (((jj : Int) * 20) + (s : Int)).toNat).toInt ≠ -1)) (fun s => (hp.1 26 (((jj : Int) * 20) + (s : Int)).toNat).toInt - (hp.1 27 s).toInt) 20) 5).2.2 := kA; have := mul_p1 (a := (wz (fun jj : Nat => cz (fun s => decide ((hp.1 27 s).toInt ≠ -1 ∧ (hp.1 26 (((jj : Int) * 20) + (s : Int)).toNat).toInt ≠ -1)) 20) (fun jj : Nat => (hp.1 26 (((jj : Int) * 20) + aI).toNat).toInt) (fun jj : Nat => oz (fun s => decide ((hp.1 27 s).toInt ≠ -1 ∧ (hp.1 26 (((jj : Int) * 20) + (s : Int)).toNat).toInt ≠ -1)) (fun s => (hp.1 26 (((jj : Int) * 20) + (s : Int)).toNat).toInt - (hp.1 27 s).toInt) 20) 5).2.1) (b := (wz (fun jj : Nat => cz (fun s => decide ((hp.1 27 s).toInt ≠ -1 ∧ (hp.1 26 (((jj : Int) * 20) + (s : Int)).toNat).toInt ≠ -1)) 20) (fun jj : Nat => (hp.1 26 (((jj : Int) * 20) + aI).toNat).toInt) (fun jj : Nat => oz (fun s => decide ((hp.1 27 s).toInt ≠ -1 ∧ (hp.1 26 (((jj : Int) * 20) + (s : Int)).toNat).toInt ≠ -1)) (fun s => (hp.1 26 (((jj : Int) * 20) + (s : Int)).toNat).toInt - (hp.1 27 s).toInt) 20) 5).2.2) (by omega) (by omega); rw [z] at Ev1; have e0 : (0 : Int64).toInt = 0 := (by decide); omega) ?_
      refine g_run 1 rfl ?_
      have kA : 0 < (wz (fun jj : Nat => cz (fun s => decide ((hp.1 27 s).toInt ≠ -1 ∧ (hp.1 26 (((jj : Int) * 20) + (s : Int)).toNat).toInt ≠ -1)) 20) (fun jj : Nat => (hp.1 26 (((jj : Int) * 20) + aI).toNat).toInt) (fun jj : Nat => oz (fun s => decide ((hp.1 27 s).toInt ≠ -1 ∧ (hp.1 26 (((jj : Int) * 20) + (s : Int)).toNat).toInt ≠ -1)) (fun s => (hp.1 26 (((jj : Int) * 20) + (s : Int)).toNat).toInt - (hp.1 27 s).toInt) 20) 5).2.2 := k10.2.2
      have vA : 0 ≤ aI ∧ aI < 20 := by omega
      have Eu1 : u1.toInt = (wz (fun jj : Nat => cz (fun s => decide ((hp.1 27 s).toInt ≠ -1 ∧ (hp.1 26 (((jj : Int) * 20) + (s : Int)).toNat).toInt ≠ -1)) 20) (fun jj : Nat => (hp.1 26 (((jj : Int) * 20) + aI).toNat).toInt) (fun jj : Nat => oz (fun s => decide ((hp.1 27 s).toInt ≠ -1 ∧ (hp.1 26 (((jj : Int) * 20) + (s : Int)).toNat).toInt ≠ -1)) (fun s => (hp.1 26 (((jj : Int) * 20) + (s : Int)).toNat).toInt - (hp.1 27 s).toInt) 20) 5).1 := Eu1
      have Ev1 : v1.toInt = (wz (fun jj : Nat => cz (fun s => decide ((hp.1 27 s).toInt ≠ -1 ∧ (hp.1 26 (((jj : Int) * 20) + (s : Int)).toNat).toInt ≠ -1)) 20) (fun jj : Nat => (hp.1 26 (((jj : Int) * 20) + aI).toNat).toInt) (fun jj : Nat => oz (fun s => decide ((hp.1 27 s).toInt ≠ -1 ∧ (hp.1 26 (((jj : Int) * 20) + (s : Int)).toNat).toInt ≠ -1)) (fun s => (hp.1 26 (((jj : Int) * 20) + (s : Int)).toNat).toInt - (hp.1 27 s).toInt) 20) 5).2.1 * (wz (fun jj : Nat => cz (fun s => decide ((hp.1 27 s).toInt ≠ -1 ∧ (hp.1 26 (((jj : Int) * 20) + (s : Int)).toNat).toInt ≠ -1)) 20) (fun jj : Nat => (hp.1 26 (((jj : Int) * 20) + aI).toNat).toInt) (fun jj : Nat => oz (fun s => decide ((hp.1 27 s).toInt ≠ -1 ∧ (hp.1 26 (((jj : Int) * 20) + (s : Int)).toNat).toInt ≠ -1)) (fun s => (hp.1 26 (((jj : Int) * 20) + (s : Int)).toNat).toInt - (hp.1 27 s).toInt) 20) 5).2.2 := Ev1
      exact g_iret rfl rfl (h _ _ (worV_y (by simp only [decide_eq_true_eq]; omega) kA Eu1 Ev1).symm rfl (fun c hc => by simp [sL_ne hc, sI_2]))
    · refine g_run 1 rfl ?_
      first | exact g_iret rfl rfl (h _ _ (worV_n (by simp only [decide_eq_true_eq]; first | omega | exact fun z => absurd z.2 (by have q : (wz (fun jj : Nat => cz (fun s => decide ((hp.1 27 s).toInt ≠ -1 ∧ (hp.1 26 (((jj : Int) * 20) + (s : Int)).toNat).toInt ≠ -1)) 20) (fun jj : Nat => (hp.1 26 (((jj : Int) * 20) + aI).toNat).toInt) (fun jj : Nat => oz (fun s => decide ((hp.1 27 s).toInt ≠ -1 ∧ (hp.1 26 (((jj : Int) * 20) + (s : Int)).toNat).toInt ≠ -1)) (fun s => (hp.1 26 (((jj : Int) * 20) + (s : Int)).toNat).toInt - (hp.1 27 s).toInt) 20) 5).2.2 = 0 := k11.2.2; omega))).symm rfl (fun c hc => by simp [sL_ne hc, sI_2])) | (exfalso; have kA : 0 < (wz (fun jj : Nat => cz (fun s => decide ((hp.1 27 s).toInt ≠ -1 ∧ (hp.1 26 (((jj : Int) * 20) + (s : Int)).toNat).toInt ≠ -1)) 20) (fun jj : Nat => (hp.1 26 (((jj : Int) * 20) + aI).toNat).toInt) (fun jj : Nat => oz (fun s => decide ((hp.1 27 s).toInt ≠ -1 ∧ (hp.1 26 (((jj : Int) * 20) + (s : Int)).toNat).toInt ≠ -1)) (fun s => (hp.1 26 (((jj : Int) * 20) + (s : Int)).toNat).toInt - (hp.1 27 s).toInt) 20) 5).2.2 := k10.2.2; have vA : 0 ≤ aI ∧ aI < 20 := (by omega); have hA := wzX_bd (aI := aI) mw tw vA; have Ev1 : v1.toInt = (wz (fun jj : Nat => cz (fun s => decide ((hp.1 27 s).toInt ≠ -1 ∧ (hp.1 26 (((jj : Int) * 20) + (s : Int)).toNat).toInt ≠ -1)) 20) (fun jj : Nat => (hp.1 26 (((jj : Int) * 20) + aI).toNat).toInt) (fun jj : Nat => oz (fun s => decide ((hp.1 27 s).toInt ≠ -1 ∧ (hp.1 26 (((jj : Int) * 20) + (s : Int)).toNat).toInt ≠ -1)) (fun s => (hp.1 26 (((jj : Int) * 20) + (s : Int)).toNat).toInt - (hp.1 27 s).toInt) 20) 5).2.1 * (wz (fun jj : Nat => cz (fun s => decide ((hp.1 27 s).toInt ≠ -1 ∧ (hp.1 26 (((jj : Int) * 20) + (s : Int)).toNat).toInt ≠ -1)) 20) (fun jj : Nat => (hp.1 26 (((jj : Int) * 20) + aI).toNat).toInt) (fun jj : Nat => oz (fun s => decide ((hp.1 27 s).toInt ≠ -1 ∧ (hp.1 26 (((jj : Int) * 20) + (s : Int)).toNat).toInt ≠ -1)) (fun s => (hp.1 26 (((jj : Int) * 20) + (s : Int)).toNat).toInt - (hp.1 27 s).toInt) 20) 5).2.2 := Ev1; have q := l64_npos (n := v1) (by omega); have := mul_p1 (a := (wz (fun jj : Nat => cz (fun s => decide ((hp.1 27 s).toInt ≠ -1 ∧ (hp.1 26 (((jj : Int) * 20) + (s : Int)).toNat).toInt ≠ -1)) 20) (fun jj : Nat => (hp.1 26 (((jj : Int) * 20) + aI).toNat).toInt) (fun jj : Nat => oz (fun s => decide ((hp.1 27 s).toInt ≠ -1 ∧ (hp.1 26 (((jj : Int) * 20) + (s : Int)).toNat).toInt ≠ -1)) (fun s => (hp.1 26 (((jj : Int) * 20) + (s : Int)).toNat).toInt - (hp.1 27 s).toInt) 20) 5).2.1) (b := (wz (fun jj : Nat => cz (fun s => decide ((hp.1 27 s).toInt ≠ -1 ∧ (hp.1 26 (((jj : Int) * 20) + (s : Int)).toNat).toInt ≠ -1)) 20) (fun jj : Nat => (hp.1 26 (((jj : Int) * 20) + aI).toNat).toInt) (fun jj : Nat => oz (fun s => decide ((hp.1 27 s).toInt ≠ -1 ∧ (hp.1 26 (((jj : Int) * 20) + (s : Int)).toNat).toInt ≠ -1)) (fun s => (hp.1 26 (((jj : Int) * 20) + (s : Int)).toNat).toInt - (hp.1 27 s).toInt) 20) 5).2.2) (by omega) (by omega); omega)
  · refine gz_eq (kx := 0) rfl (show (0 : Int32).toInt = 0 from by decide) (fun _ => ?_) (fun q => absurd q (by decide))
    refine g_run 1 rfl ?_
    first | exact g_iret rfl rfl (h _ _ (worV_n (by simp only [decide_eq_true_eq]; first | omega | exact fun z => absurd z.2 (by have q : (wz (fun jj : Nat => cz (fun s => decide ((hp.1 27 s).toInt ≠ -1 ∧ (hp.1 26 (((jj : Int) * 20) + (s : Int)).toNat).toInt ≠ -1)) 20) (fun jj : Nat => (hp.1 26 (((jj : Int) * 20) + aI).toNat).toInt) (fun jj : Nat => oz (fun s => decide ((hp.1 27 s).toInt ≠ -1 ∧ (hp.1 26 (((jj : Int) * 20) + (s : Int)).toNat).toInt ≠ -1)) (fun s => (hp.1 26 (((jj : Int) * 20) + (s : Int)).toNat).toInt - (hp.1 27 s).toInt) 20) 5).2.2 = 0 := k11.2.2; omega))).symm rfl (fun c hc => by simp [sL_ne hc, sI_2])) | (exfalso; have kA : 0 < (wz (fun jj : Nat => cz (fun s => decide ((hp.1 27 s).toInt ≠ -1 ∧ (hp.1 26 (((jj : Int) * 20) + (s : Int)).toNat).toInt ≠ -1)) 20) (fun jj : Nat => (hp.1 26 (((jj : Int) * 20) + aI).toNat).toInt) (fun jj : Nat => oz (fun s => decide ((hp.1 27 s).toInt ≠ -1 ∧ (hp.1 26 (((jj : Int) * 20) + (s : Int)).toNat).toInt ≠ -1)) (fun s => (hp.1 26 (((jj : Int) * 20) + (s : Int)).toNat).toInt - (hp.1 27 s).toInt) 20) 5).2.2 := k10.2.2; have vA : 0 ≤ aI ∧ aI < 20 := (by omega); have hA := wzX_bd (aI := aI) mw tw vA; have Ev1 : v1.toInt = (wz (fun jj : Nat => cz (fun s => decide ((hp.1 27 s).toInt ≠ -1 ∧ (hp.1 26 (((jj : Int) * 20) + (s : Int)).toNat).toInt ≠ -1)) 20) (fun jj : Nat => (hp.1 26 (((jj : Int) * 20) + aI).toNat).toInt) (fun jj : Nat => oz (fun s => decide ((hp.1 27 s).toInt ≠ -1 ∧ (hp.1 26 (((jj : Int) * 20) + (s : Int)).toNat).toInt ≠ -1)) (fun s => (hp.1 26 (((jj : Int) * 20) + (s : Int)).toNat).toInt - (hp.1 27 s).toInt) 20) 5).2.1 * (wz (fun jj : Nat => cz (fun s => decide ((hp.1 27 s).toInt ≠ -1 ∧ (hp.1 26 (((jj : Int) * 20) + (s : Int)).toNat).toInt ≠ -1)) 20) (fun jj : Nat => (hp.1 26 (((jj : Int) * 20) + aI).toNat).toInt) (fun jj : Nat => oz (fun s => decide ((hp.1 27 s).toInt ≠ -1 ∧ (hp.1 26 (((jj : Int) * 20) + (s : Int)).toNat).toInt ≠ -1)) (fun s => (hp.1 26 (((jj : Int) * 20) + (s : Int)).toNat).toInt - (hp.1 27 s).toInt) 20) 5).2.2 := Ev1; have q := l64_npos (n := v1) (by omega); have := mul_p1 (a := (wz (fun jj : Nat => cz (fun s => decide ((hp.1 27 s).toInt ≠ -1 ∧ (hp.1 26 (((jj : Int) * 20) + (s : Int)).toNat).toInt ≠ -1)) 20) (fun jj : Nat => (hp.1 26 (((jj : Int) * 20) + aI).toNat).toInt) (fun jj : Nat => oz (fun s => decide ((hp.1 27 s).toInt ≠ -1 ∧ (hp.1 26 (((jj : Int) * 20) + (s : Int)).toNat).toInt ≠ -1)) (fun s => (hp.1 26 (((jj : Int) * 20) + (s : Int)).toNat).toInt - (hp.1 27 s).toInt) 20) 5).2.1) (b := (wz (fun jj : Nat => cz (fun s => decide ((hp.1 27 s).toInt ≠ -1 ∧ (hp.1 26 (((jj : Int) * 20) + (s : Int)).toNat).toInt ≠ -1)) 20) (fun jj : Nat => (hp.1 26 (((jj : Int) * 20) + aI).toNat).toInt) (fun jj : Nat => oz (fun s => decide ((hp.1 27 s).toInt ≠ -1 ∧ (hp.1 26 (((jj : Int) * 20) + (s : Int)).toNat).toInt ≠ -1)) (fun s => (hp.1 26 (((jj : Int) * 20) + (s : Int)).toNat).toInt - (hp.1 27 s).toInt) 20) 5).2.2) (by omega) (by omega); omega)
  · refine gz_eq (kx := 0) rfl (show (0 : Int32).toInt = 0 from by decide) (fun _ => ?_) (fun q => absurd q (by decide))
    refine g_run 1 rfl ?_
    first | exact g_iret rfl rfl (h _ _ (worV_n (by simp only [decide_eq_true_eq]; first | omega | exact fun z => absurd z.2 (by have q : (wz (fun jj : Nat => cz (fun s => decide ((hp.1 27 s).toInt ≠ -1 ∧ (hp.1 26 (((jj : Int) * 20) + (s : Int)).toNat).toInt ≠ -1)) 20) (fun jj : Nat => (hp.1 26 (((jj : Int) * 20) + aI).toNat).toInt) (fun jj : Nat => oz (fun s => decide ((hp.1 27 s).toInt ≠ -1 ∧ (hp.1 26 (((jj : Int) * 20) + (s : Int)).toNat).toInt ≠ -1)) (fun s => (hp.1 26 (((jj : Int) * 20) + (s : Int)).toNat).toInt - (hp.1 27 s).toInt) 20) 5).2.2 = 0 := k11.2.2; omega))).symm rfl (fun c hc => by simp [sL_ne hc, sI_2])) | (exfalso; have kA : 0 < (wz (fun jj : Nat => cz (fun s => decide ((hp.1 27 s).toInt ≠ -1 ∧ (hp.1 26 (((jj : Int) * 20) + (s : Int)).toNat).toInt ≠ -1)) 20) (fun jj : Nat => (hp.1 26 (((jj : Int) * 20) + aI).toNat).toInt) (fun jj : Nat => oz (fun s => decide ((hp.1 27 s).toInt ≠ -1 ∧ (hp.1 26 (((jj : Int) * 20) + (s : Int)).toNat).toInt ≠ -1)) (fun s => (hp.1 26 (((jj : Int) * 20) + (s : Int)).toNat).toInt - (hp.1 27 s).toInt) 20) 5).2.2 := k10.2.2; have vA : 0 ≤ aI ∧ aI < 20 := (by omega); have hA := wzX_bd (aI := aI) mw tw vA; have Ev1 : v1.toInt = (wz (fun jj : Nat => cz (fun s => decide ((hp.1 27 s).toInt ≠ -1 ∧ (hp.1 26 (((jj : Int) * 20) + (s : Int)).toNat).toInt ≠ -1)) 20) (fun jj : Nat => (hp.1 26 (((jj : Int) * 20) + aI).toNat).toInt) (fun jj : Nat => oz (fun s => decide ((hp.1 27 s).toInt ≠ -1 ∧ (hp.1 26 (((jj : Int) * 20) + (s : Int)).toNat).toInt ≠ -1)) (fun s => (hp.1 26 (((jj : Int) * 20) + (s : Int)).toNat).toInt - (hp.1 27 s).toInt) 20) 5).2.1 * (wz (fun jj : Nat => cz (fun s => decide ((hp.1 27 s).toInt ≠ -1 ∧ (hp.1 26 (((jj : Int) * 20) + (s : Int)).toNat).toInt ≠ -1)) 20) (fun jj : Nat => (hp.1 26 (((jj : Int) * 20) + aI).toNat).toInt) (fun jj : Nat => oz (fun s => decide ((hp.1 27 s).toInt ≠ -1 ∧ (hp.1 26 (((jj : Int) * 20) + (s : Int)).toNat).toInt ≠ -1)) (fun s => (hp.1 26 (((jj : Int) * 20) + (s : Int)).toNat).toInt - (hp.1 27 s).toInt) 20) 5).2.2 := Ev1; have q := l64_npos (n := v1) (by omega); have := mul_p1 (a := (wz (fun jj : Nat => cz (fun s => decide ((hp.1 27 s).toInt ≠ -1 ∧ (hp.1 26 (((jj : Int) * 20) + (s : Int)).toNat).toInt ≠ -1)) 20) (fun jj : Nat => (hp.1 26 (((jj : Int) * 20) + aI).toNat).toInt) (fun jj : Nat => oz (fun s => decide ((hp.1 27 s).toInt ≠ -1 ∧ (hp.1 26 (((jj : Int) * 20) + (s : Int)).toNat).toInt ≠ -1)) (fun s => (hp.1 26 (((jj : Int) * 20) + (s : Int)).toNat).toInt - (hp.1 27 s).toInt) 20) 5).2.1) (b := (wz (fun jj : Nat => cz (fun s => decide ((hp.1 27 s).toInt ≠ -1 ∧ (hp.1 26 (((jj : Int) * 20) + (s : Int)).toNat).toInt ≠ -1)) 20) (fun jj : Nat => (hp.1 26 (((jj : Int) * 20) + aI).toNat).toInt) (fun jj : Nat => oz (fun s => decide ((hp.1 27 s).toInt ≠ -1 ∧ (hp.1 26 (((jj : Int) * 20) + (s : Int)).toNat).toInt ≠ -1)) (fun s => (hp.1 26 (((jj : Int) * 20) + (s : Int)).toNat).toInt - (hp.1 27 s).toInt) 20) 5).2.2) (by omega) (by omega); omega)
theorem c_X9_worth {a : Int32} {aI : Int} (aE : a.toInt = aI) (mw : ∀ i, i < 100 → -1 ≤ (hp.1 26 i).toInt ∧ (hp.1 26 i).toInt ≤ 100) (tw : ∀ i, i < 20 → -1 ≤ (hp.1 27 i).toInt ∧ (hp.1 27 i).toInt ≤ 100) (h : ∀ (r : Int32) (hp2 : hp_T), r = worV (decide (0 ≤ aI ∧ aI < 20)) (wz (fun jj : Nat => cz (fun s => decide ((hp.1 27 s).toInt ≠ -1 ∧ (hp.1 26 (((jj : Int) * 20) + (s : Int)).toNat).toInt ≠ -1)) 20) (fun jj : Nat => (hp.1 26 (((jj : Int) * 20) + aI).toNat).toInt) (fun jj : Nat => oz (fun s => decide ((hp.1 27 s).toInt ≠ -1 ∧ (hp.1 26 (((jj : Int) * 20) + (s : Int)).toNat).toInt ≠ -1)) (fun s => (hp.1 26 (((jj : Int) * 20) + (s : Int)).toNat).toInt - (hp.1 27 s).toInt) 20) 5) → hp2.1 = hp.1 → (∀ c, c ≠ 25 → hp2.2 c = hp.2 c) → Q (some (.int r)) (SH b xs) hp2) : gC mX9_worth (d + 4) 0 0 [.ref 0, .int a] (SH b xs) hp Q := by
  refine g_enter okX9_worth (plainFor_of_name rfl) rfl ?_
  refine g_run 3 rfl ?_
  refine g_callV0 rfl LX9_175 rfl rfl rfl rfl ?_
  refine c_X2_thousandths (aI := aI) aE mw tw (fun r hp2 e1 e2 e3 => ?_)
  exact g_iret rfl rfl (h r hp2 e1 e2 e3)
theorem c_X10_worth {a : Int32} {aI : Int} (aE : a.toInt = aI) (mw : ∀ i, i < 100 → -1 ≤ (hp.1 69 i).toInt ∧ (hp.1 69 i).toInt ≤ 100) (tw : ∀ i, i < 20 → -1 ≤ (hp.1 70 i).toInt ∧ (hp.1 70 i).toInt ≤ 100) (h : ∀ (r : Int32) (hp2 : hp_T), r = worV (decide (0 ≤ aI ∧ aI < 20)) (wz (fun jj : Nat => cz (fun s => decide ((hp.1 70 s).toInt ≠ -1 ∧ (hp.1 69 ((20 * (jj : Int)) + (s : Int)).toNat).toInt ≠ -1)) 20) (fun jj : Nat => (hp.1 69 ((20 * (jj : Int)) + aI).toNat).toInt) (fun jj : Nat => oz (fun s => decide ((hp.1 70 s).toInt ≠ -1 ∧ (hp.1 69 ((20 * (jj : Int)) + (s : Int)).toNat).toInt ≠ -1)) (fun s => (hp.1 69 ((20 * (jj : Int)) + (s : Int)).toNat).toInt - (hp.1 70 s).toInt) 20) 5) → hp2.1 = (sI hp 43 0 0).1 → (∀ c, c ≠ 43 → hp2.2 c = hp.2 c) → Q (some (.int r)) (SH b xs) hp2) : gC mX10_worth (d + 1) 0 0 [.ref 43, .int a] (SH b xs) hp Q := by
  refine g_enter okX10_worth (plainFor_of_name rfl) rfl ?_
  refine g_run 4 rfl ?_
  refine g_callS0 rfl LX10_303 rfl rfl ?_
  refine c_X10_isSample (nI := aI) aE (fun k1 => ?_) (fun k2 => ?_)
  · refine gz_eq (kx := 1) rfl (show (1 : Int32).toInt = 1 from by decide) (fun q => absurd q (by decide)) (fun _ => ?_)
    refine g_run 2 rfl ?_
    refine g_callV0 rfl LX10_313 rfl rfl rfl rfl ?_
    refine c_X10_weighs (aI := aI) aE mw tw (by omega) (fun k10 u1 v1 Eu1 Ev1 => ?_) (fun k11 u1 v1 => ?_)
    · refine gz_ne (kx := 1) rfl (show (1 : Int32).toInt = 1 from by decide) (fun _ => ?_) (fun q => absurd q (by decide))
      refine g_run 6 rfl ?_
      refine g_callS0 rfl LX10_319 rfl rfl ?_
      refine c_J9_floorDiv_f86c9 (by intro z; have z : v1 = 0 := z; have kA := k10; have vA : 0 ≤ aI ∧ aI < 20 := (by omega); have hA := wzM_bd (aI := aI) mw tw vA; have Ev1 : v1.toInt = (wz (fun jj : Nat => cz (fun s => decide ((hp.1 70 s).toInt ≠ -1 ∧ (hp.1 69 ((20 * (jj : Int)) + (s : Int)).toNat).toInt ≠ -1)) 20) (fun jj : Nat => (hp.1 69 ((20 * (jj : Int)) + aI).toNat).toInt) (fun jj : Nat => oz (fun s => decide ((hp.1 70 s).toInt ≠ -1 ∧ (hp.1 69 ((20 * (jj : Int)) + (s : Int)).toNat).toInt ≠ -1)) (fun s => (hp.1 69 ((20 * (jj : Int)) + (s : Int)).toNat).toInt - (hp.1 70 s).toInt) 20) 5).2.1 * (wz (fun jj : Nat => cz (fun s => decide ((hp.1 70 s).toInt ≠ -1 ∧ (hp.1 69 ((20 * (jj : Int)) + (s : Int)).toNat).toInt ≠ -1)) 20) (fun jj : Nat => (hp.1 69 ((20 * (jj : Int)) + aI).toNat).toInt) (fun jj : Nat => oz (fun s => decide ((hp.1 70 s).toInt ≠ -1 ∧ (hp.1 69 ((20 * (jj : Int)) + (s : Int)).toNat).toInt ≠ -1)) (fun s => (hp.1 69 ((20 * (jj : Int)) + (s : Int)).toNat).toInt - (hp.1 70 s).toInt) 20) 5).2.2 := Ev1; have kB : 0 < (wz (fun jj : Nat => cz (fun s => decide ((hp.1 70 s).toInt ≠ -1 ∧ (hp.1 69 ((20 * (jj : Int)) + (s : Int)).toNat).toInt ≠ -1)) 20) (fun jj : Nat => (hp.1 69 ((20 * (jj : Int)) + aI).toNat).toInt) (fun jj : Nat => oz (fun s => decide ((hp.1 70 s).toInt ≠ -1 ∧ (hp.1 69 ((20 * (jj : Int)) + (s : Int)).toNat).toInt ≠ -1)) (fun s => (hp.1 69 ((20 * (jj : Int)) + (s : Int)).toNat).toInt - (hp.1 70 s).toInt) 20) 5).2.2 := kA; have := mul_p1 (a := (wz (fun jj : Nat => cz (fun s => decide ((hp.1 70 s).toInt ≠ -1 ∧ (hp.1 69 ((20 * (jj : Int)) + (s : Int)).toNat).toInt ≠ -1)) 20) (fun jj : Nat => (hp.1 69 ((20 * (jj : Int)) + aI).toNat).toInt) (fun jj : Nat => oz (fun s => decide ((hp.1 70 s).toInt ≠ -1 ∧ (hp.1 69 ((20 * (jj : Int)) + (s : Int)).toNat).toInt ≠ -1)) (fun s => (hp.1 69 ((20 * (jj : Int)) + (s : Int)).toNat).toInt - (hp.1 70 s).toInt) 20) 5).2.1) (b := (wz (fun jj : Nat => cz (fun s => decide ((hp.1 70 s).toInt ≠ -1 ∧ (hp.1 69 ((20 * (jj : Int)) + (s : Int)).toNat).toInt ≠ -1)) 20) (fun jj : Nat => (hp.1 69 ((20 * (jj : Int)) + aI).toNat).toInt) (fun jj : Nat => oz (fun s => decide ((hp.1 70 s).toInt ≠ -1 ∧ (hp.1 69 ((20 * (jj : Int)) + (s : Int)).toNat).toInt ≠ -1)) (fun s => (hp.1 69 ((20 * (jj : Int)) + (s : Int)).toNat).toInt - (hp.1 70 s).toInt) 20) 5).2.2) (by omega) (by omega); rw [z] at Ev1; have e0 : (0 : Int64).toInt = 0 := (by decide); omega) ?_
      refine g_run 1 rfl ?_
      have kA : 0 < (wz (fun jj : Nat => cz (fun s => decide ((hp.1 70 s).toInt ≠ -1 ∧ (hp.1 69 ((20 * (jj : Int)) + (s : Int)).toNat).toInt ≠ -1)) 20) (fun jj : Nat => (hp.1 69 ((20 * (jj : Int)) + aI).toNat).toInt) (fun jj : Nat => oz (fun s => decide ((hp.1 70 s).toInt ≠ -1 ∧ (hp.1 69 ((20 * (jj : Int)) + (s : Int)).toNat).toInt ≠ -1)) (fun s => (hp.1 69 ((20 * (jj : Int)) + (s : Int)).toNat).toInt - (hp.1 70 s).toInt) 20) 5).2.2 := k10
      have vA : 0 ≤ aI ∧ aI < 20 := by omega
      have Eu1 : u1.toInt = (wz (fun jj : Nat => cz (fun s => decide ((hp.1 70 s).toInt ≠ -1 ∧ (hp.1 69 ((20 * (jj : Int)) + (s : Int)).toNat).toInt ≠ -1)) 20) (fun jj : Nat => (hp.1 69 ((20 * (jj : Int)) + aI).toNat).toInt) (fun jj : Nat => oz (fun s => decide ((hp.1 70 s).toInt ≠ -1 ∧ (hp.1 69 ((20 * (jj : Int)) + (s : Int)).toNat).toInt ≠ -1)) (fun s => (hp.1 69 ((20 * (jj : Int)) + (s : Int)).toNat).toInt - (hp.1 70 s).toInt) 20) 5).1 := Eu1
      have Ev1 : v1.toInt = (wz (fun jj : Nat => cz (fun s => decide ((hp.1 70 s).toInt ≠ -1 ∧ (hp.1 69 ((20 * (jj : Int)) + (s : Int)).toNat).toInt ≠ -1)) 20) (fun jj : Nat => (hp.1 69 ((20 * (jj : Int)) + aI).toNat).toInt) (fun jj : Nat => oz (fun s => decide ((hp.1 70 s).toInt ≠ -1 ∧ (hp.1 69 ((20 * (jj : Int)) + (s : Int)).toNat).toInt ≠ -1)) (fun s => (hp.1 69 ((20 * (jj : Int)) + (s : Int)).toNat).toInt - (hp.1 70 s).toInt) 20) 5).2.1 * (wz (fun jj : Nat => cz (fun s => decide ((hp.1 70 s).toInt ≠ -1 ∧ (hp.1 69 ((20 * (jj : Int)) + (s : Int)).toNat).toInt ≠ -1)) 20) (fun jj : Nat => (hp.1 69 ((20 * (jj : Int)) + aI).toNat).toInt) (fun jj : Nat => oz (fun s => decide ((hp.1 70 s).toInt ≠ -1 ∧ (hp.1 69 ((20 * (jj : Int)) + (s : Int)).toNat).toInt ≠ -1)) (fun s => (hp.1 69 ((20 * (jj : Int)) + (s : Int)).toNat).toInt - (hp.1 70 s).toInt) 20) 5).2.2 := Ev1
      exact g_iret rfl rfl (h _ _ (worV_y (by simp only [decide_eq_true_eq]; omega) kA Eu1 Ev1).symm rfl (fun c hc => by simp [sL_ne hc, sI_2]))
    · refine gz_ne (kx := 0) rfl (show (0 : Int32).toInt = 0 from by decide) (fun q => absurd q (by decide)) (fun _ => ?_)
      refine g_run 2 rfl ?_
      first | exact g_iret rfl rfl (h _ _ (worV_n (by simp only [decide_eq_true_eq]; first | omega | exact fun z => absurd z.2 (by have q : (wz (fun jj : Nat => cz (fun s => decide ((hp.1 70 s).toInt ≠ -1 ∧ (hp.1 69 ((20 * (jj : Int)) + (s : Int)).toNat).toInt ≠ -1)) 20) (fun jj : Nat => (hp.1 69 ((20 * (jj : Int)) + aI).toNat).toInt) (fun jj : Nat => oz (fun s => decide ((hp.1 70 s).toInt ≠ -1 ∧ (hp.1 69 ((20 * (jj : Int)) + (s : Int)).toNat).toInt ≠ -1)) (fun s => (hp.1 69 ((20 * (jj : Int)) + (s : Int)).toNat).toInt - (hp.1 70 s).toInt) 20) 5).2.2 = 0 := k11; omega))).symm rfl (fun c hc => by simp [sL_ne hc, sI_2])) | (exfalso; have kA : 0 < (wz (fun jj : Nat => cz (fun s => decide ((hp.1 70 s).toInt ≠ -1 ∧ (hp.1 69 ((20 * (jj : Int)) + (s : Int)).toNat).toInt ≠ -1)) 20) (fun jj : Nat => (hp.1 69 ((20 * (jj : Int)) + aI).toNat).toInt) (fun jj : Nat => oz (fun s => decide ((hp.1 70 s).toInt ≠ -1 ∧ (hp.1 69 ((20 * (jj : Int)) + (s : Int)).toNat).toInt ≠ -1)) (fun s => (hp.1 69 ((20 * (jj : Int)) + (s : Int)).toNat).toInt - (hp.1 70 s).toInt) 20) 5).2.2 := k10; have vA : 0 ≤ aI ∧ aI < 20 := (by omega); have hA := wzM_bd (aI := aI) mw tw vA; have Ev1 : v1.toInt = (wz (fun jj : Nat => cz (fun s => decide ((hp.1 70 s).toInt ≠ -1 ∧ (hp.1 69 ((20 * (jj : Int)) + (s : Int)).toNat).toInt ≠ -1)) 20) (fun jj : Nat => (hp.1 69 ((20 * (jj : Int)) + aI).toNat).toInt) (fun jj : Nat => oz (fun s => decide ((hp.1 70 s).toInt ≠ -1 ∧ (hp.1 69 ((20 * (jj : Int)) + (s : Int)).toNat).toInt ≠ -1)) (fun s => (hp.1 69 ((20 * (jj : Int)) + (s : Int)).toNat).toInt - (hp.1 70 s).toInt) 20) 5).2.1 * (wz (fun jj : Nat => cz (fun s => decide ((hp.1 70 s).toInt ≠ -1 ∧ (hp.1 69 ((20 * (jj : Int)) + (s : Int)).toNat).toInt ≠ -1)) 20) (fun jj : Nat => (hp.1 69 ((20 * (jj : Int)) + aI).toNat).toInt) (fun jj : Nat => oz (fun s => decide ((hp.1 70 s).toInt ≠ -1 ∧ (hp.1 69 ((20 * (jj : Int)) + (s : Int)).toNat).toInt ≠ -1)) (fun s => (hp.1 69 ((20 * (jj : Int)) + (s : Int)).toNat).toInt - (hp.1 70 s).toInt) 20) 5).2.2 := Ev1; have q := l64_npos (n := v1) (by omega); have := mul_p1 (a := (wz (fun jj : Nat => cz (fun s => decide ((hp.1 70 s).toInt ≠ -1 ∧ (hp.1 69 ((20 * (jj : Int)) + (s : Int)).toNat).toInt ≠ -1)) 20) (fun jj : Nat => (hp.1 69 ((20 * (jj : Int)) + aI).toNat).toInt) (fun jj : Nat => oz (fun s => decide ((hp.1 70 s).toInt ≠ -1 ∧ (hp.1 69 ((20 * (jj : Int)) + (s : Int)).toNat).toInt ≠ -1)) (fun s => (hp.1 69 ((20 * (jj : Int)) + (s : Int)).toNat).toInt - (hp.1 70 s).toInt) 20) 5).2.1) (b := (wz (fun jj : Nat => cz (fun s => decide ((hp.1 70 s).toInt ≠ -1 ∧ (hp.1 69 ((20 * (jj : Int)) + (s : Int)).toNat).toInt ≠ -1)) 20) (fun jj : Nat => (hp.1 69 ((20 * (jj : Int)) + aI).toNat).toInt) (fun jj : Nat => oz (fun s => decide ((hp.1 70 s).toInt ≠ -1 ∧ (hp.1 69 ((20 * (jj : Int)) + (s : Int)).toNat).toInt ≠ -1)) (fun s => (hp.1 69 ((20 * (jj : Int)) + (s : Int)).toNat).toInt - (hp.1 70 s).toInt) 20) 5).2.2) (by omega) (by omega); omega)
  · refine gz_eq (kx := 0) rfl (show (0 : Int32).toInt = 0 from by decide) (fun _ => ?_) (fun q => absurd q (by decide))
    refine g_run 2 rfl ?_
    first | exact g_iret rfl rfl (h _ _ (worV_n (by simp only [decide_eq_true_eq]; first | omega | exact fun z => absurd z.2 (by have q : (wz (fun jj : Nat => cz (fun s => decide ((hp.1 70 s).toInt ≠ -1 ∧ (hp.1 69 ((20 * (jj : Int)) + (s : Int)).toNat).toInt ≠ -1)) 20) (fun jj : Nat => (hp.1 69 ((20 * (jj : Int)) + aI).toNat).toInt) (fun jj : Nat => oz (fun s => decide ((hp.1 70 s).toInt ≠ -1 ∧ (hp.1 69 ((20 * (jj : Int)) + (s : Int)).toNat).toInt ≠ -1)) (fun s => (hp.1 69 ((20 * (jj : Int)) + (s : Int)).toNat).toInt - (hp.1 70 s).toInt) 20) 5).2.2 = 0 := k11; omega))).symm rfl (fun c hc => by simp [sL_ne hc, sI_2])) | (exfalso; have kA : 0 < (wz (fun jj : Nat => cz (fun s => decide ((hp.1 70 s).toInt ≠ -1 ∧ (hp.1 69 ((20 * (jj : Int)) + (s : Int)).toNat).toInt ≠ -1)) 20) (fun jj : Nat => (hp.1 69 ((20 * (jj : Int)) + aI).toNat).toInt) (fun jj : Nat => oz (fun s => decide ((hp.1 70 s).toInt ≠ -1 ∧ (hp.1 69 ((20 * (jj : Int)) + (s : Int)).toNat).toInt ≠ -1)) (fun s => (hp.1 69 ((20 * (jj : Int)) + (s : Int)).toNat).toInt - (hp.1 70 s).toInt) 20) 5).2.2 := k10; have vA : 0 ≤ aI ∧ aI < 20 := (by omega); have hA := wzM_bd (aI := aI) mw tw vA; have Ev1 : v1.toInt = (wz (fun jj : Nat => cz (fun s => decide ((hp.1 70 s).toInt ≠ -1 ∧ (hp.1 69 ((20 * (jj : Int)) + (s : Int)).toNat).toInt ≠ -1)) 20) (fun jj : Nat => (hp.1 69 ((20 * (jj : Int)) + aI).toNat).toInt) (fun jj : Nat => oz (fun s => decide ((hp.1 70 s).toInt ≠ -1 ∧ (hp.1 69 ((20 * (jj : Int)) + (s : Int)).toNat).toInt ≠ -1)) (fun s => (hp.1 69 ((20 * (jj : Int)) + (s : Int)).toNat).toInt - (hp.1 70 s).toInt) 20) 5).2.1 * (wz (fun jj : Nat => cz (fun s => decide ((hp.1 70 s).toInt ≠ -1 ∧ (hp.1 69 ((20 * (jj : Int)) + (s : Int)).toNat).toInt ≠ -1)) 20) (fun jj : Nat => (hp.1 69 ((20 * (jj : Int)) + aI).toNat).toInt) (fun jj : Nat => oz (fun s => decide ((hp.1 70 s).toInt ≠ -1 ∧ (hp.1 69 ((20 * (jj : Int)) + (s : Int)).toNat).toInt ≠ -1)) (fun s => (hp.1 69 ((20 * (jj : Int)) + (s : Int)).toNat).toInt - (hp.1 70 s).toInt) 20) 5).2.2 := Ev1; have q := l64_npos (n := v1) (by omega); have := mul_p1 (a := (wz (fun jj : Nat => cz (fun s => decide ((hp.1 70 s).toInt ≠ -1 ∧ (hp.1 69 ((20 * (jj : Int)) + (s : Int)).toNat).toInt ≠ -1)) 20) (fun jj : Nat => (hp.1 69 ((20 * (jj : Int)) + aI).toNat).toInt) (fun jj : Nat => oz (fun s => decide ((hp.1 70 s).toInt ≠ -1 ∧ (hp.1 69 ((20 * (jj : Int)) + (s : Int)).toNat).toInt ≠ -1)) (fun s => (hp.1 69 ((20 * (jj : Int)) + (s : Int)).toNat).toInt - (hp.1 70 s).toInt) 20) 5).2.1) (b := (wz (fun jj : Nat => cz (fun s => decide ((hp.1 70 s).toInt ≠ -1 ∧ (hp.1 69 ((20 * (jj : Int)) + (s : Int)).toNat).toInt ≠ -1)) 20) (fun jj : Nat => (hp.1 69 ((20 * (jj : Int)) + aI).toNat).toInt) (fun jj : Nat => oz (fun s => decide ((hp.1 70 s).toInt ≠ -1 ∧ (hp.1 69 ((20 * (jj : Int)) + (s : Int)).toNat).toInt ≠ -1)) (fun s => (hp.1 69 ((20 * (jj : Int)) + (s : Int)).toNat).toInt - (hp.1 70 s).toInt) 20) 5).2.2) (by omega) (by omega); omega)
end S19
end
section
/-! the tape is fed -/
def sR (hp : hp_T) (c : Nat) (t : Nat → Int32) : hp_T := (va_up hp.1 c t, hp.2)
def bX (v : Int64) (s : Int32) : Int32 := ((v.toUInt64 >>> (s.toInt64.toUInt64 &&& Int64.toUInt64 63)).toInt64).toInt32 &&& 255
def bM (v : Int64) (s : Int32) : Int32 := (v >>> (s.toInt64 &&& 63)).toInt32 &&& 255
def lay1 (st : (Nat → Int32) × Nat) (c : Int32) : (Nat → Int32) × Nat := if (c.toInt = 10 ∨ (32 ≤ c.toInt ∧ c.toInt ≤ 126)) ∧ st.2 < 600 then (va_up st.1 st.2 c, st.2 + 1) else st
def layN (f : Nat → Int32) : Nat → (Nat → Int32) × Nat → (Nat → Int32) × Nat
  | 0, st => st
  | m + 1, st => layN f m (lay1 st (f m))
theorem layN_y {f : Nat → Int32} {m n : Nat} {t : Nat → Int32} (h : (f m).toInt = 10 ∨ (32 ≤ (f m).toInt ∧ (f m).toInt ≤ 126)) (hn : n < 600) : layN f (m + 1) (t, n) = layN f m (va_up t n (f m), n + 1) := by
  rw [layN, lay1, if_pos ⟨h, hn⟩]
theorem layN_n {f : Nat → Int32} {m n : Nat} {t : Nat → Int32} (h : ((f m).toInt ≠ 10 ∧ ((f m).toInt < 32 ∨ 126 < (f m).toInt)) ∨ 600 ≤ n) : layN f (m + 1) (t, n) = layN f m (t, n) := by
  rw [layN, lay1, if_neg (by dsimp only; omega)]
theorem layN_le (f : Nat → Int32) : ∀ (m : Nat) (st : (Nat → Int32) × Nat), st.2 ≤ 600 → (layN f m st).2 ≤ 600
  | 0, st, h => h
  | m + 1, st, h => by
    rw [layN]
    refine layN_le f m _ ?_
    unfold lay1
    split
    · dsimp only; omega
    · exact h
def FX (hp : hp_T) (st : (Nat → Int32) × Nat) : hp_T := sI (sR hp 6 st.1) 5 1 (nI st.2)
def FM (hp : hp_T) (st : (Nat → Int32) × Nat) : hp_T := sI (sR hp 44 st.1) 43 2 (nI st.2)
theorem nar_ok {c : Int32} (h : 0 ≤ c.toInt ∧ c.toInt ≤ 126) : vp_nar .byte c.toInt8.toInt32 = c := by
  obtain ⟨n, hn, rfl⟩ : ∃ n : Nat, n ≤ 126 ∧ c = nI n := ⟨c.toInt.toNat, by omega, by rw [ia_eq, nI_toInt (by omega)]; omega⟩
  rw [pk_vb]
  have : ∀ n : Fin 127, (nI n.val).toInt8.toInt32 = nI n.val := by decide +kernel
  exact this ⟨n, by omega⟩
theorem two_ext {a b : hp_T} (h1 : ∀ c i, a.1 c i = b.1 c i) (h2 : a.2 = b.2) : a = b := Prod.ext (funext fun c => funext fun i => h1 c i) h2
theorem FX_id {hp : hp_T} (h : 0 ≤ (hp.1 5 1).toInt) : FX hp (hp.1 6, (hp.1 5 1).toInt.toNat) = hp := by
  refine two_ext (fun c i => ?_) rfl
  have e : nI (hp.1 5 1).toInt.toNat = hp.1 5 1 := (eq_nI (by omega) (by have := ia_bd (hp.1 5 1); omega)).symm
  simp only [FX, sI, sR, e]
  by_cases hc : c = 5
  · subst hc
    by_cases hi : i = 1
    · subst hi; simp [va_up]
    · simp [va_up, hi]
  · by_cases h6 : c = 6
    · subst h6; simp [va_up]
    · simp [va_up, hc, h6]
theorem FM_id {hp : hp_T} (h : 0 ≤ (hp.1 43 2).toInt) : FM hp (hp.1 44, (hp.1 43 2).toInt.toNat) = hp := by
  refine two_ext (fun c i => ?_) rfl
  have e : nI (hp.1 43 2).toInt.toNat = hp.1 43 2 := (eq_nI (by omega) (by have := ia_bd (hp.1 43 2); omega)).symm
  simp only [FM, sI, sR, e]
  by_cases hc : c = 43
  · subst hc
    by_cases hi : i = 2
    · subst hi; simp [va_up]
    · simp [va_up, hi]
  · by_cases h6 : c = 44
    · subst h6; simp [va_up]
    · simp [va_up, hc, h6]
theorem FX_put {hp : hp_T} {t : Nat → Int32} {n : Nat} {c : Int32} (h : 0 ≤ c.toInt ∧ c.toInt ≤ 126) (hn : n ≤ 600) : sI (sI (FX hp (t, n)) 6 ((FX hp (t, n)).1 5 1).toInt.toNat (vp_nar .byte c.toInt8.toInt32)) 5 1 ((FX hp (t, n)).1 5 1 + 1) = FX hp (va_up t n c, n + 1) := by
  rw [nar_ok h]
  have e1 : (FX hp (t, n)).1 5 1 = nI n := rfl
  have e2 : ((nI n).toInt).toNat = n := by rw [nI_toInt (by omega)]; omega
  rw [e1, e2, nI_1]
  refine two_ext (fun q i => ?_) rfl
  simp only [FX, sI, sR, va_up]
  by_cases hc : q = 5
  · subst hc
    by_cases hi : i = 1 <;> simp [va_up, hi]
  · by_cases h6 : q = 6
    · subst h6
      by_cases hi : i = n <;> simp [hi, va_up]
    · simp [va_up, hc, h6]
theorem FM_put {hp : hp_T} {t : Nat → Int32} {n : Nat} {c x : Int32} (hx : x = nI n) : sI (sI (FM hp (t, n)) 44 n c) 43 2 (x + 1) = FM hp (va_up t n c, n + 1) := by
  rw [hx, nI_1]
  refine two_ext (fun q i => ?_) rfl
  simp only [FM, sI, sR, va_up]
  by_cases hc : q = 43
  · subst hc
    by_cases hi : i = 2 <;> simp [va_up, hi]
  · by_cases h6 : q = 44
    · subst h6
      by_cases hi : i = n <;> simp [hi, va_up]
    · simp [va_up, hc, h6]
theorem gG_hp {y : mt_T} {d mc ms : Nat} {Q : zt} {cells slots pc : Nat} {lo st : List Value} {sh : sh_T} {h1 h2 : hp_T} (e : h1 = h2) (k : gG y d mc ms Q cells slots (pc, lo, st, sh, h2)) : gG y d mc ms Q cells slots (pc, lo, st, sh, h1) := e ▸ k
section S20
variable {d : Nat} {sh : sh_T} {hp : hp_T} {Q : Option Value → sh_T → hp_T → Prop} {b : Bool} {xs : sh_T}
theorem c_X7_addSign {c : Int32} {cI : Int} (cE : c.toInt = cI) (hn : 0 ≤ (hp.1 5 1).toInt) (h1 : (cI = 10 ∨ (32 ≤ cI ∧ cI ≤ 126)) ∧ (hp.1 5 1).toInt < 600 → Q none (SH b xs) (sI (sI hp 6 (hp.1 5 1).toInt.toNat (vp_nar .byte c.toInt8.toInt32)) 5 1 (hp.1 5 1 + 1))) (h0 : (cI ≠ 10 ∧ (cI < 32 ∨ 126 < cI)) ∨ 600 ≤ (hp.1 5 1).toInt → Q none (SH b xs) hp) : gC mX7_addSign (d + 1) 0 0 [.ref 5, .int c] (SH b xs) hp Q := by
  refine g_enter okX7_addSign (plainFor_of_name rfl) rfl ?_
  refine g_run 2 rfl ?_
  refine gj_eq (kx := cI) (kz := 10) rfl cE (by decide) (fun k1 => ?_) (fun k1 => ?_)
  · refine g_run 4 rfl ?_
    refine gz_eq (kx := 1) rfl (show (1 : Int32).toInt = 1 from by decide) (fun q => absurd q (by decide)) (fun _ => ?_)
    refine g_run 3 rfl ?_
    refine gj_ge (kx := (hp.1 5 1).toInt) (kz := 600) rfl rfl (by decide) (fun k2 => ?_) (fun k2 => ?_)
    · exact g_vret rfl rfl (by first | exact h1 (by omega) | exact h0 (by omega))
    · refine g_run 6 rfl ?_
      refine g_bast (j := ((hp.1 5 1).toInt).toNat) rfl rfl ((show _ = (hp.1 5 1).toInt from rfl).trans (by omega)) (by omega) ?_
      refine g_run 6 rfl ?_
      exact g_vret rfl rfl (by first | exact h1 (by omega) | exact h0 (by omega))
  · refine g_run 3 rfl ?_
    refine g_callS0 rfl LX7_21 rfl rfl ?_
    refine c_X9_within (nI := cI) (lI := 32) (uI := 126) cE (by decide) (by decide) (fun k3 => ?_) (fun k4 => ?_)
    · refine gz_eq (kx := 1) rfl (show (1 : Int32).toInt = 1 from by decide) (fun q => absurd q (by decide)) (fun _ => ?_)
      refine g_run 4 rfl ?_
      refine gz_eq (kx := 1) rfl (show (1 : Int32).toInt = 1 from by decide) (fun q => absurd q (by decide)) (fun _ => ?_)
      refine g_run 3 rfl ?_
      refine gj_ge (kx := (hp.1 5 1).toInt) (kz := 600) rfl rfl (by decide) (fun k5 => ?_) (fun k5 => ?_)
      · exact g_vret rfl rfl (by first | exact h1 (by omega) | exact h0 (by omega))
      · refine g_run 6 rfl ?_
        refine g_bast (j := ((hp.1 5 1).toInt).toNat) rfl rfl ((show _ = (hp.1 5 1).toInt from rfl).trans (by omega)) (by omega) ?_
        refine g_run 6 rfl ?_
        exact g_vret rfl rfl (by first | exact h1 (by omega) | exact h0 (by omega))
    · refine gz_eq (kx := 0) rfl (show (0 : Int32).toInt = 0 from by decide) (fun _ => ?_) (fun q => absurd q (by decide))
      refine g_run 3 rfl ?_
      refine gz_eq (kx := 0) rfl (show (0 : Int32).toInt = 0 from by decide) (fun _ => ?_) (fun q => absurd q (by decide))
      exact g_vret rfl rfl (by first | exact h1 (by omega) | exact h0 (by omega))
theorem lp_X7_addBytes  {v : Int64} : ∀ (f m : Nat) (s : Int32) (t : Nat → Int32) (n : Nat), s.toInt = 8 * (m : Int) - 8 → m ≤ 8 → n ≤ 600 → Q none (SH b xs) (FX hp (layN (fun j => bX v (nI (8 * j))) m (t, n))) → m < f → gG mX7_addBytes (d + 2) 0 0 (zQ 0 0 Q) 0 0 (3, [.ref 5, .long v, .retAddr 0, .int s], [], (SH b xs), (FX hp (t, n))) := by
  intro f
  induction f with
  | zero => intros; omega
  | succ f ih =>
    intro m s t n sE hm hn hq hf
    have e5 : ((FX hp (t, n)).1 5 1).toInt = (n : Int) := nI_toInt (by omega)
    have hn0 : 0 ≤ ((FX hp (t, n)).1 5 1).toInt := by omega
    refine g_run 1 rfl ?_
    refine gz_lt (kx := (8 * (m : Int) - 8)) rfl sE (fun k1 => ?_) (fun k1 => ?_)
    · obtain rfl : m = 0 := by omega
      exact g_vret rfl rfl hq
    · refine g_run 7 rfl ?_
      refine g_callV0 rfl LX7_17 rfl rfl rfl rfl ?_
      refine c_X7_addSign (cI := (bX v s).toInt) rfl hn0 (fun k => ?_) (fun k => ?_)
      · refine g_run 2 rfl ?_
        obtain ⟨m, rfl⟩ : ∃ q, m = q + 1 := ⟨m - 1, by omega⟩
        have es : s = nI (8 * m) := by rw [ia_eq, nI_toInt (by omega)]; omega
        have hn1 : n < 600 := by omega
        refine gG_hp (FX_put (c := bX v s) (by omega) (by omega)) ?_
        rw [es] at k
        exact ih m _ _ _ (by exact (ia_add2 (y := -8) sE (by decide) (by omega) (by omega)).trans (by omega)) (by omega) (by omega) (by rw [layN_y (by omega) hn1] at hq; rw [es]; exact hq) (by omega)
      · refine g_run 2 rfl ?_
        obtain ⟨m, rfl⟩ : ∃ q, m = q + 1 := ⟨m - 1, by omega⟩
        have es : s = nI (8 * m) := by rw [ia_eq, nI_toInt (by omega)]; omega
        rw [es] at k
        exact ih m _ _ _ (by exact (ia_add2 (y := -8) sE (by decide) (by omega) (by omega)).trans (by omega)) (by omega) (by omega) (by rw [layN_n (by omega)] at hq; exact hq) (by omega)
theorem c_X7_addBytes {v : Int64} {z : (Nat → Int32) × Nat} (hn : z.2 ≤ 600) (h1 : Q none (SH b xs) (FX hp (layN (fun j => bX v (nI (8 * j))) 8 z))) : gC mX7_addBytes (d + 2) 0 0 [.ref 5, .long v] (SH b xs) (FX hp z) Q := by
  refine g_enter okX7_addBytes (plainFor_of_name rfl) rfl ?_
  refine g_run 2 rfl ?_
  exact lp_X7_addBytes 9 8 56 z.1 z.2 (by decide) (by omega) hn h1 (by omega)
theorem c_X9_feed {a : Int64} {bb : Int64} {c : Int64} (hn : 0 ≤ (hp.1 5 1).toInt ∧ (hp.1 5 1).toInt ≤ 600) (h1 : Q (some (.int (nI (layN (fun j => bX c (nI (8 * j))) 8 (layN (fun j => bX bb (nI (8 * j))) 8 (layN (fun j => bX a (nI (8 * j))) 8 (hp.1 6, (hp.1 5 1).toInt.toNat)))).2))) (SH b xs) (FX hp (layN (fun j => bX c (nI (8 * j))) 8 (layN (fun j => bX bb (nI (8 * j))) 8 (layN (fun j => bX a (nI (8 * j))) 8 (hp.1 6, (hp.1 5 1).toInt.toNat)))))) : gC mX9_feed (d + 3) 0 0 [.ref 0, .long a, .long bb, .long c] (SH b xs) hp Q := by
  refine g_enter okX9_feed (plainFor_of_name rfl) rfl ?_
  have hl : (hp.1 5 1).toInt.toNat ≤ 600 := by omega
  rw [← FX_id (hp := hp) hn.1]
  refine g_run 3 rfl ?_
  refine g_callV0 rfl LX9_97 rfl rfl rfl rfl ?_
  refine c_X7_addBytes (hp := hp) (by first | exact hl | exact layN_le _ _ _ (by first | exact hl | exact layN_le _ _ _ (by exact hl))) ?_
  refine g_run 3 rfl ?_
  refine g_callV0 rfl LX9_97 rfl rfl rfl rfl ?_
  refine c_X7_addBytes (hp := hp) (by first | exact hl | exact layN_le _ _ _ (by first | exact hl | exact layN_le _ _ _ (by exact hl))) ?_
  refine g_run 3 rfl ?_
  refine g_callV0 rfl LX9_97 rfl rfl rfl rfl ?_
  refine c_X7_addBytes (hp := hp) (by first | exact hl | exact layN_le _ _ _ (by first | exact hl | exact layN_le _ _ _ (by exact hl))) ?_
  refine g_run 3 rfl ?_
  exact g_iret rfl rfl h1
theorem lp_X10_lay  {v : Int64} : ∀ (f m : Nat) (s : Int32) (t : Nat → Int32) (n : Nat) (w4 : Value), s.toInt = 8 * (m : Int) - 8 → m ≤ 8 → n ≤ 600 → Q none (SH b xs) (FM hp (layN (fun j => bM v (nI (8 * j))) m (t, n))) → m < f → gG mX10_lay d 0 0 (zQ 0 0 Q) 0 0 (3, [.ref 43, .long v, .retAddr 0, .int s, w4], [], (SH b xs), (FM hp (t, n))) := by
  intro f
  induction f with
  | zero => intros; omega
  | succ f ih =>
    intro m s t n w4 sE hm hn hq hf
    refine g_run 1 rfl ?_
    refine gz_lt (kx := (8 * (m : Int) - 8)) rfl sE (fun k1 => ?_) (fun k1 => ?_)
    · obtain rfl : m = 0 := by omega
      exact g_vret rfl rfl hq
    · refine g_run 9 rfl ?_
      refine gj_eq (kx := (bM v s).toInt) (kz := 10) rfl rfl (by decide) (fun k2 => ?_) (fun k2 => ?_)
      · refine g_run 3 rfl ?_
        refine gj_ge (kx := (n : Int)) (kz := 600) rfl (nI_toInt (by omega)) (by decide) (fun k3 => ?_) (fun k3 => ?_)
        · refine g_run 2 rfl ?_
          obtain ⟨m, rfl⟩ : ∃ q, m = q + 1 := ⟨m - 1, by omega⟩
          have es : s = nI (8 * m) := by rw [ia_eq, nI_toInt (by omega)]; omega
          exact ih m _ _ _ _ (by exact (ia_add2 (y := -8) sE (by decide) (by omega) (by omega)).trans (by omega)) (by omega) (by omega) (by rw [layN_n (by rw [← es]; show ((bM v s).toInt ≠ 10 ∧ _) ∨ _; omega)] at hq; exact hq) (by omega)
        · refine g_run 5 rfl ?_
          refine g_iast (j := n) rfl rfl ((show _ = (n : Int) from (nI_toInt (by omega))).trans (by omega)) (by omega) ?_
          refine g_run 8 rfl ?_
          obtain ⟨m, rfl⟩ : ∃ q, m = q + 1 := ⟨m - 1, by omega⟩
          have es : s = nI (8 * m) := by rw [ia_eq, nI_toInt (by omega)]; omega
          have hn1 : n < 600 := by omega
          refine gG_hp (FM_put (c := bM v s) (x := nI n) rfl) ?_
          exact ih m _ _ _ _ (by exact (ia_add2 (y := -8) sE (by decide) (by omega) (by omega)).trans (by omega)) (by omega) (by omega) (by rw [layN_y (by rw [← es]; show (bM v s).toInt = 10 ∨ _; omega) hn1] at hq; rw [← es] at hq; exact hq) (by omega)
      · refine g_run 2 rfl ?_
        refine gj_lt (kx := (bM v s).toInt) (kz := 32) rfl rfl (by decide) (fun k4 => ?_) (fun k4 => ?_)
        · refine g_run 2 rfl ?_
          obtain ⟨m, rfl⟩ : ∃ q, m = q + 1 := ⟨m - 1, by omega⟩
          have es : s = nI (8 * m) := by rw [ia_eq, nI_toInt (by omega)]; omega
          exact ih m _ _ _ _ (by exact (ia_add2 (y := -8) sE (by decide) (by omega) (by omega)).trans (by omega)) (by omega) (by omega) (by rw [layN_n (by rw [← es]; show ((bM v s).toInt ≠ 10 ∧ _) ∨ _; omega)] at hq; exact hq) (by omega)
        · refine g_run 2 rfl ?_
          refine gj_gt (kx := (bM v s).toInt) (kz := 126) rfl rfl (by decide) (fun k5 => ?_) (fun k5 => ?_)
          · refine g_run 2 rfl ?_
            obtain ⟨m, rfl⟩ : ∃ q, m = q + 1 := ⟨m - 1, by omega⟩
            have es : s = nI (8 * m) := by rw [ia_eq, nI_toInt (by omega)]; omega
            exact ih m _ _ _ _ (by exact (ia_add2 (y := -8) sE (by decide) (by omega) (by omega)).trans (by omega)) (by omega) (by omega) (by rw [layN_n (by rw [← es]; show ((bM v s).toInt ≠ 10 ∧ _) ∨ _; omega)] at hq; exact hq) (by omega)
          · refine g_run 3 rfl ?_
            refine gj_ge (kx := (n : Int)) (kz := 600) rfl (nI_toInt (by omega)) (by decide) (fun k6 => ?_) (fun k6 => ?_)
            · refine g_run 2 rfl ?_
              obtain ⟨m, rfl⟩ : ∃ q, m = q + 1 := ⟨m - 1, by omega⟩
              have es : s = nI (8 * m) := by rw [ia_eq, nI_toInt (by omega)]; omega
              exact ih m _ _ _ _ (by exact (ia_add2 (y := -8) sE (by decide) (by omega) (by omega)).trans (by omega)) (by omega) (by omega) (by rw [layN_n (by rw [← es]; show ((bM v s).toInt ≠ 10 ∧ _) ∨ _; omega)] at hq; exact hq) (by omega)
            · refine g_run 5 rfl ?_
              refine g_iast (j := n) rfl rfl ((show _ = (n : Int) from (nI_toInt (by omega))).trans (by omega)) (by omega) ?_
              refine g_run 8 rfl ?_
              obtain ⟨m, rfl⟩ : ∃ q, m = q + 1 := ⟨m - 1, by omega⟩
              have es : s = nI (8 * m) := by rw [ia_eq, nI_toInt (by omega)]; omega
              have hn1 : n < 600 := by omega
              refine gG_hp (FM_put (c := bM v s) (x := nI n) rfl) ?_
              exact ih m _ _ _ _ (by exact (ia_add2 (y := -8) sE (by decide) (by omega) (by omega)).trans (by omega)) (by omega) (by omega) (by rw [layN_y (by rw [← es]; show (bM v s).toInt = 10 ∨ _; omega) hn1] at hq; rw [← es] at hq; exact hq) (by omega)
theorem c_X10_lay {v : Int64} {z : (Nat → Int32) × Nat} (hn : z.2 ≤ 600) (h1 : Q none (SH b xs) (FM hp (layN (fun j => bM v (nI (8 * j))) 8 z))) : gC mX10_lay d 0 0 [.ref 43, .long v] (SH b xs) (FM hp z) Q := by
  refine g_enter okX10_lay (plainFor_of_name rfl) rfl ?_
  refine g_run 2 rfl ?_
  exact lp_X10_lay 9 8 56 z.1 z.2 _ (by decide) (by omega) hn h1 (by omega)
theorem c_X10_feed {a : Int64} {bb : Int64} {c : Int64} (hn : 0 ≤ (hp.1 43 2).toInt ∧ (hp.1 43 2).toInt ≤ 600) (h1 : Q (some (.int (nI (layN (fun j => bM c (nI (8 * j))) 8 (layN (fun j => bM bb (nI (8 * j))) 8 (layN (fun j => bM a (nI (8 * j))) 8 (hp.1 44, (hp.1 43 2).toInt.toNat)))).2))) (SH b xs) (FM (sI hp 43 0 0) (layN (fun j => bM c (nI (8 * j))) 8 (layN (fun j => bM bb (nI (8 * j))) 8 (layN (fun j => bM a (nI (8 * j))) 8 (hp.1 44, (hp.1 43 2).toInt.toNat)))))) : gC mX10_feed (d + 1) 0 0 [.ref 43, .long a, .long bb, .long c] (SH b xs) hp Q := by
  refine g_enter okX10_feed (plainFor_of_name rfl) rfl ?_
  have hl : (hp.1 43 2).toInt.toNat ≤ 600 := by omega
  refine g_run 3 rfl ?_
  rw [← FM_id (hp := (sI hp 43 0 0)) hn.1]
  refine g_run 2 rfl ?_
  refine g_callV0 rfl LX10_7 rfl rfl rfl rfl ?_
  refine c_X10_lay (hp := (sI hp 43 0 0)) (by first | exact hl | exact layN_le _ _ _ (by first | exact hl | exact layN_le _ _ _ (by exact hl))) ?_
  refine g_run 2 rfl ?_
  refine g_callV0 rfl LX10_7 rfl rfl rfl rfl ?_
  refine c_X10_lay (hp := (sI hp 43 0 0)) (by first | exact hl | exact layN_le _ _ _ (by first | exact hl | exact layN_le _ _ _ (by exact hl))) ?_
  refine g_run 2 rfl ?_
  refine g_callV0 rfl LX10_7 rfl rfl rfl rfl ?_
  refine c_X10_lay (hp := (sI hp 43 0 0)) (by first | exact hl | exact layN_le _ _ _ (by first | exact hl | exact layN_le _ _ _ (by exact hl))) ?_
  refine g_run 2 rfl ?_
  exact g_iret rfl rfl h1
end S20
end
section
/-! blending: shares -/
def fT (f : Nat → Int32) (k : Nat) (t : Nat → Int32) : Nat → Int32 := fun i => if i < k then f i else t i
theorem fT_s {f t : Nat → Int32} {k : Nat} : va_up (fT f k t) k (f k) = fT f (k + 1) t := by
  funext i
  simp only [va_up, fT]
  by_cases h : i = k
  · subst h; simp
  · by_cases h2 : i < k
    · have : i < k + 1 := by omega
      simp [h, h2, this]
    · have : ¬ i < k + 1 := by omega
      simp [h, h2, this]
def gm (r : Nat → Int32) : Nat → Nat
  | 0 => 0
  | k + 1 => if (r (gm r k)).toInt < (r (k + 1)).toInt then k + 1 else gm r k
theorem gm_t {r : Nat → Int32} {k : Nat} (h : (r (gm r k)).toInt < (r (k + 1)).toInt) : gm r (k + 1) = k + 1 := by rw [gm, if_pos h]
theorem gm_f {r : Nat → Int32} {k : Nat} (h : (r (k + 1)).toInt ≤ (r (gm r k)).toInt) : gm r (k + 1) = gm r k := by rw [gm, if_neg (by omega)]
theorem gm_le (r : Nat → Int32) : ∀ k, gm r k ≤ k
  | 0 => Nat.le_refl _
  | k + 1 => by
    have := gm_le r k
    unfold gm
    split <;> omega
def exX : Nat → (Nat → Int32) → (Nat → Int32) → Int32 → (Nat → Int32) × (Nat → Int32)
  | 0, s, r, _ => (s, r)
  | f + 1, s, r, left => if 0 < left.toInt then exX f (va_up s (gm r 11) (s (gm r 11) + 1)) (va_up r (gm r 11) 0) (left + -1) else (s, r)
theorem exX_t {f : Nat} {s r : Nat → Int32} {left : Int32} (h : 0 < left.toInt) : exX (f + 1) s r left = exX f (va_up s (gm r 11) (s (gm r 11) + 1)) (va_up r (gm r 11) 0) (left + -1) := by rw [exX, if_pos h]
theorem exX_f {f : Nat} {s r : Nat → Int32} {left : Int32} (h : left.toInt ≤ 0) : exX (f + 1) s r left = (s, r) := by rw [exX, if_neg (by omega)]
def lfq (n : Int32) (q : Nat → Int32) : Nat → Int32
  | 0 => n
  | k + 1 => lfq n q k - q k
def qS (n G p : Int32) : Int32 := ((n.toInt64 * p.toInt64) / G.toInt64).toInt32
def rS (n G p : Int32) : Int32 := ((n.toInt64 * p.toInt64) - (n.toInt64 * p.toInt64) / G.toInt64 * G.toInt64).toInt32
theorem sh_put {hp : hp_T} {s t : Nat → Int32} {j : Nat} {x y : Int32} : sI (sI (sR (sR hp 23 s) 24 t) 23 j x) 24 j y = sR (sR hp 23 (va_up s j x)) 24 (va_up t j y) := by
  refine two_ext (fun q i => ?_) rfl
  simp only [sI, sR]
  by_cases h1 : q = 23
  · subst h1; simp [va_up]
  · by_cases h2 : q = 24
    · subst h2; simp [va_up]
    · simp [va_up, h1, h2]
theorem sh_put2 {hp : hp_T} {s t : Nat → Int32} {j : Nat} {x y : Int32} : sI (sI (sR (sR hp 23 s) 24 t) 23 j x) 24 j y = sR (sR hp 23 (va_up s j x)) 24 (va_up t j y) := sh_put
theorem sR_id {hp : hp_T} {f g : Nat → Int32} : sR (sR hp 23 (fT f 0 (hp.1 23))) 24 (fT g 0 (hp.1 24)) = hp := by
  refine two_ext (fun q i => ?_) rfl
  simp only [sR]
  by_cases h1 : q = 23
  · subst h1; simp [va_up, fT]
  · by_cases h2 : q = 24
    · subst h2; simp [va_up, fT]
    · simp [va_up, h1, h2]
theorem gG_l4 {y : mt_T} {d mc ms : Nat} {Q : zt} {cells slots pc : Nat} {a0 a1 a2 a3 : Value} {x y1 : Int32} {r st : List Value} {sh : sh_T} {hp : hp_T} (e : x = y1) (k : gG y d mc ms Q cells slots (pc, a0 :: a1 :: a2 :: a3 :: .int y1 :: r, st, sh, hp)) : gG y d mc ms Q cells slots (pc, a0 :: a1 :: a2 :: a3 :: .int x :: r, st, sh, hp) := e ▸ k
section S21
variable {d : Nat} {sh : sh_T} {hp : hp_T} {Q : Option Value → sh_T → hp_T → Prop} {b : Bool} {xs : sh_T}
theorem lp_X0_lotOfGreatestRest  (h1 : Q (some (.int (nI (gm (hp.1 24) 11)))) (SH b xs) hp) : ∀ (f k : Nat) (i g : Int32), i.toInt = ((k + 1 : Nat) : Int) → g.toInt = (gm (hp.1 24) k : Int) → k ≤ 11 → 11 - k < f → gG mX0_lotOfGreatestRest d 0 0 (zQ 0 0 Q) 0 0 (4, [.ref 17, .int g, .int i], [], (SH b xs), hp) := by
  intro f
  induction f with
  | zero => intros; omega
  | succ f ih =>
    intro k i g iE gE hk hf
    have hgl := gm_le (hp.1 24) k
    refine g_run 2 rfl ?_
    refine gj_ge (kx := ((k + 1 : Nat) : Int)) (kz := 12) rfl iE (by decide) (fun k1 => ?_) (fun k1 => ?_)
    · refine g_run 1 rfl ?_
      obtain rfl : k = 11 := by omega
      rw [← eq_nI gE (by have := gm_le (hp.1 24) 11; omega)] at h1
      exact g_iret rfl rfl h1
    · refine g_run 3 rfl ?_
      refine g_iald (j := ((k + 1 : Nat) : Int).toNat) rfl rfl ((show _ = ((k + 1 : Nat) : Int) from iE).trans (by omega)) (by omega) ?_
      refine g_run 3 rfl ?_
      refine g_iald (j := ((gm (hp.1 24) k : Nat) : Int).toNat) rfl rfl ((show _ = ((gm (hp.1 24) k : Nat) : Int) from gE).trans (by omega)) (by omega) ?_
      refine gj_le (kx := (hp.1 24 (((k + 1 : Nat) : Int).toNat)).toInt) (kz := (hp.1 24 (((gm (hp.1 24) k : Nat) : Int).toNat)).toInt) rfl rfl rfl (fun k2 => ?_) (fun k2 => ?_)
      · refine g_run 2 rfl ?_
        exact ih (k + 1) _ _ (inc1 iE (by omega)) (by rw [gm_f (by simpa using ‹_›)]; exact gE) (by omega) (by omega)
      · refine g_run 4 rfl ?_
        exact ih (k + 1) _ _ (inc1 iE (by omega)) (by rw [gm_t (by simpa using ‹_›)]; exact iE) (by omega) (by omega)
theorem c_X0_lotOfGreatestRest (h1 : Q (some (.int (nI (gm (hp.1 24) 11)))) (SH b xs) hp) : gC mX0_lotOfGreatestRest d 0 0 [.ref 17] (SH b xs) hp Q := by
  refine g_enter okX0_lotOfGreatestRest (plainFor_of_name rfl) rfl ?_
  refine g_run 4 rfl ?_
  exact lp_X0_lotOfGreatestRest h1 12 0 1 0 (by decide) (show (0 : Int32).toInt = ((0 : Nat) : Int) from by decide) (by omega) (by omega)
theorem lp2_X0_shareOut {bn n G : Int32} {E0 : (Nat → Int32) × (Nat → Int32)} (h1 : Q none (SH b xs) (sR (sR hp 23 E0.1) 24 E0.2)) : ∀ (f k : Nat) (i left : Int32) (s t : Nat → Int32) (w6 w7 : Value), i.toInt = (k : Int) → k ≤ 12 → exX (12 - k) s t left = E0 → 12 - k < f → gG mX0_shareOut (d + 1) 0 0 (zQ 0 0 Q) 0 0 (84, [.ref 17, .int bn, .int n, .int G, .int left, .int i, w6, w7], [], (SH b xs), (sR (sR hp 23 s) 24 t)) := by
  intro f
  induction f with
  | zero => intros; omega
  | succ f ih =>
    intro k i left s t w6 w7 iE hk he hf
    have hgl := gm_le t 11
    refine g_run 2 rfl ?_
    refine gj_ge (kx := (k : Int)) (kz := 12) rfl iE (by decide) (fun k1 => ?_) (fun k1 => ?_)
    · first | (rw [show 12 - k = 0 by omega] at he; subst he; exact g_vret rfl rfl h1) | (rw [show 12 - k = (12 - (k + 1)) + 1 by omega, exX_f (by omega)] at he; subst he; exact g_vret rfl rfl h1)
    · refine g_run 1 rfl ?_
      refine gz_le (kx := left.toInt) rfl rfl (fun k2 => ?_) (fun k2 => ?_)
      · first | (rw [show 12 - k = 0 by omega] at he; subst he; exact g_vret rfl rfl h1) | (rw [show 12 - k = (12 - (k + 1)) + 1 by omega, exX_f (by omega)] at he; subst he; exact g_vret rfl rfl h1)
      · refine g_run 1 rfl ?_
        refine g_callV0 rfl LX0_72 rfl rfl rfl rfl ?_
        refine c_X0_lotOfGreatestRest ?_
        refine g_run 5 rfl ?_
        refine g_iald (j := (gm t 11)) rfl rfl ((show _ = ((gm t 11 : Nat) : Int) from (nI_toInt (by have := gm_le t 11; omega))).trans (by omega)) (by omega) ?_
        refine g_run 2 rfl ?_
        refine g_iast (j := (gm t 11)) rfl rfl ((show _ = ((gm t 11 : Nat) : Int) from (nI_toInt (by have := gm_le t 11; omega))).trans (by omega)) (by omega) ?_
        refine g_run 4 rfl ?_
        refine g_iast (j := (gm t 11)) rfl rfl ((show _ = ((gm t 11 : Nat) : Int) from (nI_toInt (by have := gm_le t 11; omega))).trans (by omega)) (by omega) ?_
        refine g_run 3 rfl ?_
        refine gG_hp (sh_put2 (hp := hp) (s := s) (t := t) (j := gm t 11)) ?_
        rw [show 12 - k = (12 - (k + 1)) + 1 by omega, exX_t (by omega)] at he
        exact ih (k + 1) _ _ _ _ _ _ (inc1 iE (by omega)) (by omega) he (by omega)
theorem lp1_X0_shareOut  {bn n G : Int32} {bnI : Int} (bE : bn.toInt = bnI) (hb : 0 ≤ bnI ∧ bnI < 60) (hG : 1 ≤ G.toInt) (h1 : Q none (SH b xs) (sR (sR hp 23 (exX 12 (fT (fun l => qS n G (hp.1 22 ((bnI * 12) + (l : Int)).toNat)) 12 (hp.1 23)) (fT (fun l => rS n G (hp.1 22 ((bnI * 12) + (l : Int)).toNat)) 12 (hp.1 24)) (lfq n (fun l => qS n G (hp.1 22 ((bnI * 12) + (l : Int)).toNat)) 12)).1) 24 (exX 12 (fT (fun l => qS n G (hp.1 22 ((bnI * 12) + (l : Int)).toNat)) 12 (hp.1 23)) (fT (fun l => rS n G (hp.1 22 ((bnI * 12) + (l : Int)).toNat)) 12 (hp.1 24)) (lfq n (fun l => qS n G (hp.1 22 ((bnI * 12) + (l : Int)).toNat)) 12)).2)) : ∀ (f k : Nat) (i : Int32) (w6 w7 : Value), i.toInt = (k : Int) → k ≤ 12 → 12 - k < f → gG mX0_shareOut (d + 1) 0 0 (zQ 0 0 Q) 0 0 (17, [.ref 17, .int bn, .int n, .int G, .int (lfq n (fun l => qS n G (hp.1 22 ((bnI * 12) + (l : Int)).toNat)) k), .int i, w6, w7], [], (SH b xs), (sR (sR hp 23 (fT (fun l => qS n G (hp.1 22 ((bnI * 12) + (l : Int)).toNat)) k (hp.1 23))) 24 (fT (fun l => rS n G (hp.1 22 ((bnI * 12) + (l : Int)).toNat)) k (hp.1 24)))) := by
  intro f
  induction f with
  | zero => intros; omega
  | succ f ih =>
    intro k i w6 w7 iE hk hf
    have hz : ¬ G.toInt64 = 0 := fun z => by have e := congrArg Int64.toInt z; rw [t64 rfl] at e; have e0 : (0 : Int64).toInt = 0 := (by decide); omega
    refine g_run 2 rfl ?_
    refine gj_ge (kx := (k : Int)) (kz := 12) rfl iE (by decide) (fun k1 => ?_) (fun k1 => ?_)
    · refine g_run 2 rfl ?_
      obtain rfl : k = 12 := by omega
      exact lp2_X0_shareOut (hp := hp) h1 13 0 0 _ _ _ _ _ (by decide) (by omega) rfl (by omega)
    · refine g_run 5 rfl ?_
      refine g_callV0 rfl LX0_44 rfl rfl rfl rfl ?_
      refine c_X0_partOf (nI := bnI) (mI := (k : Int)) bE iE (by omega) (by omega) ?_
      refine g_run 9 rfl ?_
      refine g_ldiv rfl (by first | assumption | decide) ?_
      refine g_run 1 rfl ?_
      refine g_iast (j := k) rfl rfl ((show _ = (k : Int) from iE).trans (by omega)) (by omega) ?_
      refine g_run 6 rfl ?_
      refine g_lrem rfl (by first | assumption | decide) ?_
      refine g_run 1 rfl ?_
      refine g_iast (j := k) rfl rfl ((show _ = (k : Int) from iE).trans (by omega)) (by omega) ?_
      refine g_run 4 rfl ?_
      refine g_iald (j := k) rfl rfl ((show _ = (k : Int) from iE).trans (by omega)) (by omega) ?_
      refine g_run 4 rfl ?_
      refine gG_l4 (y1 := lfq n (fun l => qS n G (hp.1 22 ((bnI * 12) + (l : Int)).toNat)) (k + 1)) (by simp [lfq, sI, sR, va_up, qS]) ?_
      refine gG_hp (sh_put (hp := hp) (s := fT (fun l => qS n G (hp.1 22 ((bnI * 12) + (l : Int)).toNat)) k (hp.1 23)) (t := fT (fun l => rS n G (hp.1 22 ((bnI * 12) + (l : Int)).toNat)) k (hp.1 24)) (j := k)) ?_
      refine gG_hp (congr (congrArg (fun s t => sR (sR hp 23 s) 24 t) (fT_s (f := (fun l => qS n G (hp.1 22 ((bnI * 12) + (l : Int)).toNat))) (k := k) (t := hp.1 23))) (fT_s (f := (fun l => rS n G (hp.1 22 ((bnI * 12) + (l : Int)).toNat))) (k := k) (t := hp.1 24))) ?_
      exact ih (k + 1) _ _ _ (inc1 iE (by omega)) (by omega) (by omega)
theorem c_X0_shareOut {bn : Int32} {bnI : Int} {n : Int32} {nI : Int} (bnE : bn.toInt = bnI) (nE : n.toInt = nI) (hb : 0 ≤ bnI ∧ bnI < 60) (hg : 1 ≤ (hp.1 18 bnI.toNat).toInt) (h1 : Q none (SH b xs) (sR (sR hp 23 (exX 12 (fT (fun l => qS n (hp.1 18 bnI.toNat) (hp.1 22 ((bnI * 12) + (l : Int)).toNat)) 12 (hp.1 23)) (fT (fun l => rS n (hp.1 18 bnI.toNat) (hp.1 22 ((bnI * 12) + (l : Int)).toNat)) 12 (hp.1 24)) (lfq n (fun l => qS n (hp.1 18 bnI.toNat) (hp.1 22 ((bnI * 12) + (l : Int)).toNat)) 12)).1) 24 (exX 12 (fT (fun l => qS n (hp.1 18 bnI.toNat) (hp.1 22 ((bnI * 12) + (l : Int)).toNat)) 12 (hp.1 23)) (fT (fun l => rS n (hp.1 18 bnI.toNat) (hp.1 22 ((bnI * 12) + (l : Int)).toNat)) 12 (hp.1 24)) (lfq n (fun l => qS n (hp.1 18 bnI.toNat) (hp.1 22 ((bnI * 12) + (l : Int)).toNat)) 12)).2)) : gC mX0_shareOut (d + 1) 0 0 [.ref 17, .int bn, .int n] (SH b xs) hp Q := by
  refine g_enter okX0_shareOut (plainFor_of_name rfl) rfl ?_
  refine g_run 4 rfl ?_
  refine g_iald (j := bnI.toNat) rfl rfl ((show _ = bnI from bnE).trans (by omega)) (by omega) ?_
  refine g_callS0 rfl LX0_69 rfl rfl ?_
  refine c_J9_max_7cf53 (xI := 1) (zI := (hp.1 18 bnI.toNat).toInt) (by decide) rfl (fun k1 => ?_) (fun k2 => ?_)
  · refine g_run 5 rfl ?_
    have e1 : (1 : Int32) = (hp.1 18 bnI.toNat) := by rw [ia_eq]; have : (1 : Int32).toInt = 1 := (by decide); omega
    rw [← e1] at h1
    refine gG_hp (sR_id (hp := hp) (f := (fun l => qS n 1 (hp.1 22 ((bnI * 12) + (l : Int)).toNat))) (g := (fun l => rS n 1 (hp.1 22 ((bnI * 12) + (l : Int)).toNat)))).symm ?_
    exact lp1_X0_shareOut (hp := hp) bnE hb (by first | exact hg | decide) h1 13 0 0 _ _ (by decide) (by omega) (by omega)
  · refine g_run 5 rfl ?_
    refine gG_hp (sR_id (hp := hp) (f := (fun l => qS n (hp.1 18 bnI.toNat) (hp.1 22 ((bnI * 12) + (l : Int)).toNat))) (g := (fun l => rS n (hp.1 18 bnI.toNat) (hp.1 22 ((bnI * 12) + (l : Int)).toNat)))).symm ?_
    exact lp1_X0_shareOut (hp := hp) bnE hb (by first | exact hg | decide) h1 13 0 0 _ _ (by decide) (by omega) (by omega)
end S21
end
section
/-! blending in the class -/
def prL (s : Nat → Int32) (fI tI : Int) (P : Nat → Int32) : Nat → (Nat → Int32)
  | 0 => P
  | k + 1 => va_up (va_up (prL s fI tI P k) ((fI * 12) + (k : Int)).toNat (prL s fI tI P k ((fI * 12) + (k : Int)).toNat - s k)) ((tI * 12) + (k : Int)).toNat (va_up (prL s fI tI P k) ((fI * 12) + (k : Int)).toNat (prL s fI tI P k ((fI * 12) + (k : Int)).toNat - s k) ((tI * 12) + (k : Int)).toNat + s k)
/-- the shares of n grams out of the bag fI, and the rests behind them -/
def shX (hp : hp_T) (fI : Int) (n : Int32) : (Nat → Int32) × (Nat → Int32) := exX 12 (fT (fun l => qS n (hp.1 18 fI.toNat) (hp.1 22 ((fI * 12) + (l : Int)).toNat)) 12 (hp.1 23)) (fT (fun l => rS n (hp.1 18 fI.toNat) (hp.1 22 ((fI * 12) + (l : Int)).toNat)) 12 (hp.1 24)) (lfq n (fun l => qS n (hp.1 18 fI.toNat) (hp.1 22 ((fI * 12) + (l : Int)).toNat)) 12)
def pourX (hp : hp_T) (fI tI : Int) (n : Int32) : hp_T := sI (sI (sR (sR (sR hp 23 (shX hp fI n).1) 24 (shX hp fI n).2) 22 (prL (shX hp fI n).1 fI tI (hp.1 22) 12)) 18 fI.toNat (hp.1 18 fI.toNat - n)) 18 tI.toNat (va_up (hp.1 18) fI.toNat (hp.1 18 fI.toNat - n) tI.toNat + n)
/-- bag k is poured into zI -/
def blS (h : hp_T) (zI : Int) (k : Nat) : hp_T := sI (sI (pourX h (k : Int) zI (h.1 21 k)) 19 zI.toNat (if ((pourX h (k : Int) zI (h.1 21 k)).1 19 zI.toNat).toInt ≤ ((pourX h (k : Int) zI (h.1 21 k)).1 19 k).toInt then (pourX h (k : Int) zI (h.1 21 k)).1 19 zI.toNat else (pourX h (k : Int) zI (h.1 21 k)).1 19 k)) 21 k 0
def blX (h0 : hp_T) (zI : Int) : Nat → hp_T
  | 0 => h0
  | k + 1 => if 0 < ((blX h0 zI k).1 21 k).toInt then blS (blX h0 zI k) zI k else blX h0 zI k
theorem blX_t {h0 : hp_T} {zI : Int} {k : Nat} (h : 0 < ((blX h0 zI k).1 21 k).toInt) : blX h0 zI (k + 1) = blS (blX h0 zI k) zI k := by rw [blX, if_pos h]
theorem blX_f {h0 : hp_T} {zI : Int} {k : Nat} (h : ((blX h0 zI k).1 21 k).toInt ≤ 0) : blX h0 zI (k + 1) = blX h0 zI k := by rw [blX, if_neg (by omega)]
theorem pr_put {hp : hp_T} {P : Nat → Int32} {j1 j2 : Nat} {x y : Int32} : sI (sI (sR hp 22 P) 22 j1 x) 22 j2 y = sR hp 22 (va_up (va_up P j1 x) j2 y) := by
  refine two_ext (fun q i => ?_) rfl
  simp only [sI, sR]
  by_cases h1 : q = 22
  · subst h1; simp [va_up]
  · simp [va_up, h1]
theorem sR22_id {hp : hp_T} : sR hp 22 (hp.1 22) = hp := by
  refine two_ext (fun q i => ?_) rfl
  simp only [sR]
  by_cases h1 : q = 22
  · subst h1; simp [va_up]
  · simp [va_up, h1]
section S22
variable {d : Nat} {sh : sh_T} {hp : hp_T} {Q : Option Value → sh_T → hp_T → Prop} {b : Bool} {xs : sh_T}
theorem lp_X0_pour  {f0 t0 n : Int32} {fI tI : Int} (fE : f0.toInt = fI) (tE : t0.toInt = tI) (hf0 : 0 ≤ fI ∧ fI < 60) (ht0 : 0 ≤ tI ∧ tI < 60) (h1 : Q none (SH b xs) (sI (sI (sR hp 22 (prL (hp.1 23) fI tI (hp.1 22) 12)) 18 fI.toNat (hp.1 18 fI.toNat - n)) 18 tI.toNat ((sI (sR hp 22 (prL (hp.1 23) fI tI (hp.1 22) 12)) 18 fI.toNat (hp.1 18 fI.toNat - n)).1 18 tI.toNat + n))) : ∀ (f k : Nat) (i : Int32), i.toInt = (k : Int) → k ≤ 12 → 12 - k < f → gG mX0_pour (d + 2) 0 0 (zQ 0 0 Q) 0 0 (9, [.ref 17, .int f0, .int t0, .int n, .int i], [], (SH b xs), (sR hp 22 (prL (hp.1 23) fI tI (hp.1 22) k))) := by
  intro f
  induction f with
  | zero => intros; omega
  | succ f ih =>
    intro k i iE hk hf
    refine g_run 2 rfl ?_
    refine gj_ge (kx := (k : Int)) (kz := 12) rfl iE (by decide) (fun k1 => ?_) (fun k1 => ?_)
    · refine g_run 4 rfl ?_
      refine g_iald (j := fI.toNat) rfl rfl ((show _ = fI from fE).trans (by omega)) (by omega) ?_
      refine g_run 2 rfl ?_
      refine g_iast (j := fI.toNat) rfl rfl ((show _ = fI from fE).trans (by omega)) (by omega) ?_
      refine g_run 4 rfl ?_
      refine g_iald (j := tI.toNat) rfl rfl ((show _ = tI from tE).trans (by omega)) (by omega) ?_
      refine g_run 2 rfl ?_
      refine g_iast (j := tI.toNat) rfl rfl ((show _ = tI from tE).trans (by omega)) (by omega) ?_
      obtain rfl : k = 12 := by omega
      exact g_vret rfl rfl h1
    · refine g_run 8 rfl ?_
      refine g_iald (j := ((fI * 12) + (k : Int)).toNat) rfl rfl ((show _ = ((fI * 12) + (k : Int)) from (ia_add2 (ia_mul2 fE (by decide) (by omega) (by omega)) iE (by omega) (by omega))).trans (by omega)) (by omega) ?_
      refine g_run 3 rfl ?_
      refine g_iald (j := k) rfl rfl ((show _ = (k : Int) from iE).trans (by omega)) (by omega) ?_
      refine g_run 1 rfl ?_
      refine g_iast (j := ((fI * 12) + (k : Int)).toNat) rfl rfl ((show _ = ((fI * 12) + (k : Int)) from (ia_add2 (ia_mul2 fE (by decide) (by omega) (by omega)) iE (by omega) (by omega))).trans (by omega)) (by omega) ?_
      refine g_run 8 rfl ?_
      refine g_iald (j := ((tI * 12) + (k : Int)).toNat) rfl rfl ((show _ = ((tI * 12) + (k : Int)) from (ia_add2 (ia_mul2 tE (by decide) (by omega) (by omega)) iE (by omega) (by omega))).trans (by omega)) (by omega) ?_
      refine g_run 3 rfl ?_
      refine g_iald (j := k) rfl rfl ((show _ = (k : Int) from iE).trans (by omega)) (by omega) ?_
      refine g_run 1 rfl ?_
      refine g_iast (j := ((tI * 12) + (k : Int)).toNat) rfl rfl ((show _ = ((tI * 12) + (k : Int)) from (ia_add2 (ia_mul2 tE (by decide) (by omega) (by omega)) iE (by omega) (by omega))).trans (by omega)) (by omega) ?_
      refine g_run 2 rfl ?_
      refine gG_hp (pr_put (hp := hp) (P := (prL (hp.1 23) fI tI (hp.1 22) k))) ?_
      exact ih (k + 1) _ (inc1 iE (by omega)) (by omega) (by omega)
theorem c_X0_pour {f : Int32} {fI : Int} {t : Int32} {tI : Int} {n : Int32} {nI : Int} (fE : f.toInt = fI) (tE : t.toInt = tI) (nE : n.toInt = nI) (hf0 : 0 ≤ fI ∧ fI < 60) (ht0 : 0 ≤ tI ∧ tI < 60) (hg : 1 ≤ (hp.1 18 fI.toNat).toInt) (h1 : Q none (SH b xs) (pourX hp fI tI n)) : gC mX0_pour (d + 2) 0 0 [.ref 17, .int f, .int t, .int n] (SH b xs) hp Q := by
  refine g_enter okX0_pour (plainFor_of_name rfl) rfl ?_
  refine g_run 3 rfl ?_
  refine g_callV0 rfl LX0_65 rfl rfl rfl rfl ?_
  refine c_X0_shareOut (bnI := fI) fE rfl hf0 hg ?_
  refine g_run 2 rfl ?_
  refine gG_hp (sR22_id).symm ?_
  exact lp_X0_pour fE tE hf0 ht0 h1 13 0 0 (by decide) (by omega) (by omega)
theorem c_X0_addEmpty {dd : Int32} {ddI : Int} (ddE : dd.toInt = ddI) (hs : 0 ≤ (hp.1 17 0).toInt ∧ (hp.1 17 0).toInt < 60) (h1 : Q (some (.int (hp.1 17 0))) (SH b xs) (sI (sI (sI hp 19 (hp.1 17 0).toInt.toNat dd) 20 (hp.1 17 0).toInt.toNat (-1)) 17 0 (hp.1 17 0 + 1))) : gC mX0_addEmpty d 0 0 [.ref 17, .int dd] (SH b xs) hp Q := by
  refine g_enter okX0_addEmpty (plainFor_of_name rfl) rfl ?_
  refine g_run 7 rfl ?_
  refine g_iast (j := ((hp.1 17 0).toInt).toNat) rfl rfl ((show _ = (hp.1 17 0).toInt from rfl).trans (by omega)) (by omega) ?_
  refine g_run 4 rfl ?_
  refine g_iast (j := ((hp.1 17 0).toInt).toNat) rfl rfl ((show _ = (hp.1 17 0).toInt from rfl).trans (by omega)) (by omega) ?_
  refine g_run 7 rfl ?_
  exact g_iret rfl rfl h1
theorem c_X0_addOfOneLot {l : Int32} {lI : Int} {o : Int32} {oI : Int} {dd : Int32} {ddI : Int} (lE : l.toInt = lI) (oE : o.toInt = oI) (ddE : dd.toInt = ddI) (hs : 0 ≤ (hp.1 17 0).toInt ∧ (hp.1 17 0).toInt < 60) (hl : 0 ≤ lI ∧ lI < 12) (h1 : Q (some (.int (hp.1 17 0))) (SH b xs) (sI (sI (sI (sI (sI hp 19 (hp.1 17 0).toInt.toNat dd) 20 (hp.1 17 0).toInt.toNat (-1)) 17 0 (hp.1 17 0 + 1)) 18 (hp.1 17 0).toInt.toNat o) 22 (((hp.1 17 0).toInt * 12) + lI).toNat o)) : gC mX0_addOfOneLot (d + 1) 0 0 [.ref 17, .int l, .int o, .int dd] (SH b xs) hp Q := by
  refine g_enter okX0_addOfOneLot (plainFor_of_name rfl) rfl ?_
  refine g_run 2 rfl ?_
  refine g_callV0 rfl LX0_40 rfl rfl rfl rfl ?_
  refine c_X0_addEmpty rfl (by omega) ?_
  refine g_run 5 rfl ?_
  refine g_iast (j := ((hp.1 17 0).toInt).toNat) rfl rfl ((show _ = (hp.1 17 0).toInt from rfl).trans (by omega)) (by omega) ?_
  refine g_run 8 rfl ?_
  refine g_iast (j := (((hp.1 17 0).toInt * 12) + lI).toNat) rfl rfl ((show _ = (((hp.1 17 0).toInt * 12) + lI) from (ia_add2 (ia_mul2 rfl (by decide) (by omega) (by omega)) lE (by omega) (by omega))).trans (by omega)) (by omega) ?_
  refine g_run 1 rfl ?_
  exact g_iret rfl rfl h1
theorem lp_X0_blendTaken  {h0 : hp_T} {zI : Int} {z : Int32} (zE : z.toInt = zI) (hz : 0 ≤ zI ∧ zI < 60) (hg : ∀ k : Nat, (k : Int) < zI → 0 < ((blX h0 zI k).1 21 k).toInt → 1 ≤ ((blX h0 zI k).1 18 k).toInt) (h1 : Q (some (.int z)) (SH b xs) (sI (blX h0 zI zI.toNat) 17 1 0)) : ∀ (f k : Nat) (i : Int32), i.toInt = (k : Int) → (k : Int) ≤ zI → zI.toNat - k < f → gG mX0_blendTaken (d + 3) 0 0 (zQ 0 0 Q) 0 0 (28, [.ref 17, .int z, .int i], [], (SH b xs), (blX h0 zI k)) := by
  intro f
  induction f with
  | zero => intros; omega
  | succ f ih =>
    intro k i iE hk hf
    refine g_run 2 rfl ?_
    refine gj_ge (kx := (k : Int)) (kz := zI) rfl iE zE (fun k1 => ?_) (fun k1 => ?_)
    · refine g_run 4 rfl ?_
      obtain rfl : zI = (k : Int) := by omega
      rw [Int.toNat_natCast] at h1
      exact g_iret rfl rfl h1
    · refine g_run 3 rfl ?_
      refine g_iald (j := k) rfl rfl ((show _ = (k : Int) from iE).trans (by omega)) (by omega) ?_
      refine gz_le (kx := ((blX h0 zI k).1 21 k).toInt) rfl rfl (fun k2 => ?_) (fun k2 => ?_)
      · refine g_run 2 rfl ?_
        refine gG_hp (blX_f (h0 := h0) (zI := zI) (k := k) (by assumption)).symm ?_
        exact ih (k + 1) _ (inc1 iE (by omega)) (by omega) (by omega)
      · refine g_run 6 rfl ?_
        refine g_iald (j := k) rfl rfl ((show _ = (k : Int) from iE).trans (by omega)) (by omega) ?_
        refine g_callV0 rfl LX0_56 rfl rfl rfl rfl ?_
        refine c_X0_pour (fI := (k : Int)) (tI := zI) iE zE rfl (by omega) (by omega) (hg k (by omega) (by assumption)) ?_
        refine g_run 6 rfl ?_
        refine g_iald (j := zI.toNat) rfl rfl ((show _ = zI from zE).trans (by omega)) (by omega) ?_
        refine g_run 3 rfl ?_
        refine g_iald (j := k) rfl rfl ((show _ = (k : Int) from iE).trans (by omega)) (by omega) ?_
        refine g_callS0 rfl LX0_60 rfl rfl ?_
        refine c_J9_min_7cf53 (xI := ((pourX (blX h0 zI k) (k : Int) zI ((blX h0 zI k).1 21 k)).1 19 zI.toNat).toInt) (zI := ((pourX (blX h0 zI k) (k : Int) zI ((blX h0 zI k).1 21 k)).1 19 k).toInt) rfl rfl (fun k3 => ?_) (fun k4 => ?_)
        · refine g_iast (j := zI.toNat) rfl rfl ((show _ = zI from zE).trans (by omega)) (by omega) ?_
          refine g_run 4 rfl ?_
          refine g_iast (j := k) rfl rfl ((show _ = (k : Int) from iE).trans (by omega)) (by omega) ?_
          refine g_run 2 rfl ?_
          have e := blX_t (h0 := h0) (zI := zI) (k := k) (by assumption)
          refine gG_hp (h2 := blX h0 zI (k + 1)) (by rw [e, blS]; first | rw [if_pos (by assumption)] | rw [if_neg (by omega)]) ?_
          exact ih (k + 1) _ (inc1 iE (by omega)) (by omega) (by omega)
        · refine g_iast (j := zI.toNat) rfl rfl ((show _ = zI from zE).trans (by omega)) (by omega) ?_
          refine g_run 4 rfl ?_
          refine g_iast (j := k) rfl rfl ((show _ = (k : Int) from iE).trans (by omega)) (by omega) ?_
          refine g_run 2 rfl ?_
          have e := blX_t (h0 := h0) (zI := zI) (k := k) (by assumption)
          refine gG_hp (h2 := blX h0 zI (k + 1)) (by rw [e, blS]; first | rw [if_pos (by assumption)] | rw [if_neg (by omega)]) ?_
          exact ih (k + 1) _ (inc1 iE (by omega)) (by omega) (by omega)
theorem c_X0_blendTaken (hs : 0 ≤ (hp.1 17 0).toInt) (hg : (hp.1 17 0).toInt < 60 → ∀ k : Nat, (k : Int) < (hp.1 17 0).toInt → 0 < ((blX (sI (sI (sI hp 19 (hp.1 17 0).toInt.toNat 999) 20 (hp.1 17 0).toInt.toNat (-1)) 17 0 (hp.1 17 0 + 1)) (hp.1 17 0).toInt k).1 21 k).toInt → 1 ≤ ((blX (sI (sI (sI hp 19 (hp.1 17 0).toInt.toNat 999) 20 (hp.1 17 0).toInt.toNat (-1)) 17 0 (hp.1 17 0 + 1)) (hp.1 17 0).toInt k).1 18 k).toInt) (h1 : (hp.1 17 1).toInt ≠ 0 ∧ (hp.1 17 0).toInt < 60 → Q (some (.int (hp.1 17 0))) (SH b xs) (sI (blX (sI (sI (sI hp 19 (hp.1 17 0).toInt.toNat 999) 20 (hp.1 17 0).toInt.toNat (-1)) 17 0 (hp.1 17 0 + 1)) (hp.1 17 0).toInt (hp.1 17 0).toInt.toNat) 17 1 0)) (h0 : (hp.1 17 1).toInt = 0 ∨ 60 ≤ (hp.1 17 0).toInt → Q (some (.int (-1))) (SH b xs) hp) : gC mX0_blendTaken (d + 3) 0 0 [.ref 17] (SH b xs) hp Q := by
  refine g_enter okX0_blendTaken (plainFor_of_name rfl) rfl ?_
  refine g_run 2 rfl ?_
  refine gz_eq (kx := (hp.1 17 1).toInt) rfl rfl (fun k1 => ?_) (fun k1 => ?_)
  · refine g_run 1 rfl ?_
    exact g_iret rfl rfl (by first | exact h1 (by omega) | exact h0 (by omega))
  · refine g_run 3 rfl ?_
    refine gj_lt (kx := (hp.1 17 0).toInt) (kz := 60) rfl rfl (by decide) (fun k2 => ?_) (fun k2 => ?_)
    · refine g_run 2 rfl ?_
      refine g_callV0 rfl LX0_40 rfl rfl rfl rfl ?_
      refine c_X0_addEmpty rfl (by omega) ?_
      refine g_run 3 rfl ?_
      exact lp_X0_blendTaken (h0 := (sI (sI (sI hp 19 (hp.1 17 0).toInt.toNat 999) 20 (hp.1 17 0).toInt.toNat (-1)) 17 0 (hp.1 17 0 + 1))) rfl (by omega) (hg (by omega)) (h1 (by omega)) 61 0 0 (by decide) (by omega) (by omega)
    · refine g_run 1 rfl ?_
      exact g_iret rfl rfl (by first | exact h1 (by omega) | exact h0 (by omega))
theorem c_X9_blend (hs : 0 ≤ (hp.1 17 0).toInt) (hg : (hp.1 17 0).toInt < 60 → ∀ k : Nat, (k : Int) < (hp.1 17 0).toInt → 0 < ((blX (sI (sI (sI hp 19 (hp.1 17 0).toInt.toNat 999) 20 (hp.1 17 0).toInt.toNat (-1)) 17 0 (hp.1 17 0 + 1)) (hp.1 17 0).toInt k).1 21 k).toInt → 1 ≤ ((blX (sI (sI (sI hp 19 (hp.1 17 0).toInt.toNat 999) 20 (hp.1 17 0).toInt.toNat (-1)) 17 0 (hp.1 17 0 + 1)) (hp.1 17 0).toInt k).1 18 k).toInt) (h1 : (hp.1 17 1).toInt ≠ 0 ∧ (hp.1 17 0).toInt < 60 → Q (some (.int (hp.1 17 0))) (SH b xs) (sI (blX (sI (sI (sI hp 19 (hp.1 17 0).toInt.toNat 999) 20 (hp.1 17 0).toInt.toNat (-1)) 17 0 (hp.1 17 0 + 1)) (hp.1 17 0).toInt (hp.1 17 0).toInt.toNat) 17 1 0)) (h0 : (hp.1 17 1).toInt = 0 ∨ 60 ≤ (hp.1 17 0).toInt → Q (some (.int (-1))) (SH b xs) hp) : gC mX9_blend (d + 4) 0 0 [.ref 0] (SH b xs) hp Q := by
  refine g_enter okX9_blend (plainFor_of_name rfl) rfl ?_
  refine g_run 2 rfl ?_
  refine g_callV0 rfl LX9_144 rfl rfl rfl rfl ?_
  refine c_X0_blendTaken hs hg (fun k => ?_) (fun k => ?_)
  · exact g_iret rfl rfl (by first | exact h1 (by omega) | exact h0 (by omega))
  · exact g_iret rfl rfl (by first | exact h1 (by omega) | exact h0 (by omega))
end S22
end
section
/-! blending in the reference -/
def gv (P : Nat → Int32) (j1 j2 : Nat) (x : Int32) : Nat → Int32 := va_up (va_up P j1 (P j1 - x)) j2 (va_up P j1 (P j1 - x) j2 + x)
def gvI (P : Nat → Int32) (bI tI : Int) (l : Nat) (x : Int32) : Nat → Int32 := gv P ((12 * bI) + (l : Int)).toNat ((12 * tI) + (l : Int)).toNat x
def mvM (n G : Int32) (bI tI : Int) (P : Nat → Int32) : Nat → (Nat → Int32)
  | 0 => P
  | k + 1 => gvI (mvM n G bI tI P k) bI tI k (qS n G (mvM n G bI tI P k ((12 * bI) + (k : Int)).toNat))
def exM (bI tI : Int) : Nat → (Nat → Int32) → (Nat → Int32) → (Nat → Int32) × (Nat → Int32)
  | 0, P, t => (P, t)
  | f + 1, P, t => exM bI tI f (gvI P bI tI (gm t 11) 1) (va_up t (gm t 11) (-1))
def clr (P : Nat → Int32) (zI : Int) : Nat → (Nat → Int32)
  | 0 => P
  | k + 1 => va_up (clr P zI k) ((12 * zI) + (k : Int)).toNat 0
def nbM (hp : hp_T) (dd : Int32) : hp_T := sI (sI (sI (sR hp 63 (clr (hp.1 63) (hp.1 43 30).toInt 12)) 64 (hp.1 43 30).toInt.toNat dd) 65 (hp.1 43 30).toInt.toNat (-1)) 43 30 (hp.1 43 30 + 1)
def gsM (hp : hp_T) (bI : Int) : Int32 := sumI (fun l => hp.1 63 ((12 * bI) + (l : Int)).toNat) 12
def mvE (n G : Int32) (bI tI : Int) (P t : Nat → Int32) : (Nat → Int32) × (Nat → Int32) := exM bI tI (lfq n (fun l => qS n G (mvM n G bI tI P l ((12 * bI) + (l : Int)).toNat)) 12).toInt.toNat (mvM n G bI tI P 12) (fT (fun l => rS n G (mvM n G bI tI P l ((12 * bI) + (l : Int)).toNat)) 12 t)
def mvF (hp : hp_T) (bI tI : Int) (n : Int32) : hp_T := sR (sR hp 63 (mvE n (gsM hp bI) bI tI (hp.1 63) (hp.1 68)).1) 68 (mvE n (gsM hp bI) bI tI (hp.1 63) (hp.1 68)).2
def dyM (told day : Nat → Int32) : Nat → Int32
  | 0 => 1000
  | k + 1 => if 0 < (told k).toInt ∧ (day k).toInt < (dyM told day k).toInt then day k else dyM told day k
theorem dyM_t {told day : Nat → Int32} {k : Nat} (h : 0 < (told k).toInt) (h2 : (day k).toInt < (dyM told day k).toInt) : day k = dyM told day (k + 1) := by rw [dyM, if_pos ⟨h, h2⟩]
theorem dyM_f {told day : Nat → Int32} {k : Nat} (h : (told k).toInt ≤ 0 ∨ (dyM told day k).toInt ≤ (day k).toInt) : dyM told day k = dyM told day (k + 1) := by rw [dyM, if_neg (by omega)]
def blM (h0 : hp_T) (zI : Int) : Nat → hp_T
  | 0 => h0
  | k + 1 => if 0 < ((blM h0 zI k).1 67 k).toInt then sI (mvF (blM h0 zI k) (k : Int) zI ((blM h0 zI k).1 67 k)) 67 k 0 else blM h0 zI k
theorem blM_t {h0 : hp_T} {zI : Int} {k : Nat} (h : 0 < ((blM h0 zI k).1 67 k).toInt) : blM h0 zI (k + 1) = sI (mvF (blM h0 zI k) (k : Int) zI ((blM h0 zI k).1 67 k)) 67 k 0 := by rw [blM, if_pos h]
theorem blM_f {h0 : hp_T} {zI : Int} {k : Nat} (h : ((blM h0 zI k).1 67 k).toInt ≤ 0) : blM h0 zI (k + 1) = blM h0 zI k := by rw [blM, if_neg (by omega)]
theorem gv_put {hp : hp_T} {j1 j2 : Nat} {x : Int32} : sI (sI hp 63 j1 (hp.1 63 j1 - x)) 63 j2 ((sI hp 63 j1 (hp.1 63 j1 - x)).1 63 j2 + x) = sR hp 63 (gv (hp.1 63) j1 j2 x) := by
  refine two_ext (fun q i => ?_) rfl
  simp only [sI, sR, gv]
  by_cases h1 : q = 63
  · subst h1; simp [va_up]
  · simp [va_up, h1]
theorem sR_put {hp : hp_T} {c j : Nat} {P : Nat → Int32} {x : Int32} : sI (sR hp c P) c j x = sR hp c (va_up P j x) := by
  refine two_ext (fun q i => ?_) rfl
  simp only [sI, sR]
  by_cases h1 : q = c
  · subst h1; simp [va_up]
  · simp [va_up, h1]
theorem sR_rid {hp : hp_T} {c : Nat} : sR hp c (hp.1 c) = hp := by
  refine two_ext (fun q i => ?_) rfl
  simp only [sR]
  by_cases h1 : q = c
  · subst h1; simp [va_up]
  · simp [va_up, h1]
theorem mv_put {hp : hp_T} {P t R : Nat → Int32} {j : Nat} {x : Int32} : sR (sI (sR (sR hp 63 P) 68 t) 68 j x) 63 R = sR (sR hp 63 R) 68 (va_up t j x) := by
  refine two_ext (fun q i => ?_) rfl
  simp only [sI, sR]
  by_cases h1 : q = 63
  · subst h1; simp [va_up]
  · by_cases h2 : q = 68
    · subst h2; simp [va_up]
    · simp [va_up, h1, h2]
theorem mv_put1 {hp : hp_T} {P t R : Nat → Int32} {j : Nat} {x : Int32} : sR (sI (sR (sR hp 63 P) 68 t) 68 j x) 63 R = sR (sR hp 63 R) 68 (va_up t j x) := mv_put
theorem mv_id {hp : hp_T} {f : Nat → Int32} : sR (sR hp 63 (hp.1 63)) 68 (fT f 0 (hp.1 68)) = hp := by
  refine two_ext (fun q i => ?_) rfl
  simp only [sR]
  by_cases h1 : q = 63
  · subst h1; simp [va_up]
  · by_cases h2 : q = 68
    · subst h2; simp [va_up, fT]
    · simp [va_up, h1, h2]
section S23
variable {d : Nat} {sh : sh_T} {hp : hp_T} {Q : Option Value → sh_T → hp_T → Prop} {b : Bool} {xs : sh_T}
theorem c_X10_gives {bb : Int32} {bbI : Int} {t : Int32} {tI : Int} {l : Int32} {lI : Int} {n : Int32} {nI : Int} (bbE : bb.toInt = bbI) (tE : t.toInt = tI) (lE : l.toInt = lI) (nE : n.toInt = nI) (hb : 0 ≤ bbI ∧ bbI < 60) (ht : 0 ≤ tI ∧ tI < 60) (hl : 0 ≤ lI ∧ lI < 12) (h1 : Q none (SH b xs) (sR hp 63 (gv (hp.1 63) ((12 * bbI) + lI).toNat ((12 * tI) + lI).toNat n))) : gC mX10_gives d 0 0 [.ref 43, .int bb, .int t, .int l, .int n] (SH b xs) hp Q := by
  refine g_enter okX10_gives (plainFor_of_name rfl) rfl ?_
  refine g_run 8 rfl ?_
  refine g_iald (j := ((12 * bbI) + lI).toNat) rfl rfl ((show _ = ((12 * bbI) + lI) from (ia_add2 (ia_mul2 (by decide) bbE (by omega) (by omega)) lE (by omega) (by omega))).trans (by omega)) (by omega) ?_
  refine g_run 2 rfl ?_
  refine g_iast (j := ((12 * bbI) + lI).toNat) rfl rfl ((show _ = ((12 * bbI) + lI) from (ia_add2 (ia_mul2 (by decide) bbE (by omega) (by omega)) lE (by omega) (by omega))).trans (by omega)) (by omega) ?_
  refine g_run 8 rfl ?_
  refine g_iald (j := ((12 * tI) + lI).toNat) rfl rfl ((show _ = ((12 * tI) + lI) from (ia_add2 (ia_mul2 (by decide) tE (by omega) (by omega)) lE (by omega) (by omega))).trans (by omega)) (by omega) ?_
  refine g_run 2 rfl ?_
  refine g_iast (j := ((12 * tI) + lI).toNat) rfl rfl ((show _ = ((12 * tI) + lI) from (ia_add2 (ia_mul2 (by decide) tE (by omega) (by omega)) lE (by omega) (by omega))).trans (by omega)) (by omega) ?_
  rw [gv_put]
  exact g_vret rfl rfl h1
theorem lp_X10_newBag  {dd : Int32} (ms : 0 ≤ (hp.1 43 30).toInt ∧ (hp.1 43 30).toInt < 60) (h1 : Q (some (.int (hp.1 43 30 + 1 - 1))) (SH b xs) (nbM hp dd)) : ∀ (f k : Nat) (i : Int32), i.toInt = (k : Int) → k ≤ 12 → 12 - k < f → gG mX10_newBag d 0 0 (zQ 0 0 Q) 0 0 (2, [.ref 43, .int dd, .int i], [], (SH b xs), (sR hp 63 (clr (hp.1 63) (hp.1 43 30).toInt k))) := by
  intro f
  induction f with
  | zero => intros; omega
  | succ f ih =>
    intro k i iE hk hf
    refine g_run 2 rfl ?_
    refine gj_ge (kx := (k : Int)) (kz := 12) rfl iE (by decide) (fun k1 => ?_) (fun k1 => ?_)
    · refine g_run 5 rfl ?_
      refine g_iast (j := ((hp.1 43 30).toInt).toNat) rfl rfl ((show _ = (hp.1 43 30).toInt from rfl).trans (by omega)) (by omega) ?_
      refine g_run 5 rfl ?_
      refine g_iast (j := ((hp.1 43 30).toInt).toNat) rfl rfl ((show _ = (hp.1 43 30).toInt from rfl).trans (by omega)) (by omega) ?_
      refine g_run 10 rfl ?_
      obtain rfl : k = 12 := by omega
      exact g_iret rfl rfl h1
    · refine g_run 9 rfl ?_
      refine g_iast (j := ((12 * (hp.1 43 30).toInt) + (k : Int)).toNat) rfl rfl ((show _ = ((12 * (hp.1 43 30).toInt) + (k : Int)) from (ia_add2 (ia_mul2 (by decide) rfl (by omega) (by omega)) iE (by omega) (by omega))).trans (by omega)) (by omega) ?_
      refine g_run 2 rfl ?_
      refine gG_hp (sR_put (c := 63)) ?_
      exact ih (k + 1) _ (inc1 iE (by omega)) (by omega) (by omega)
theorem c_X10_newBag {dd : Int32} {ddI : Int} (ddE : dd.toInt = ddI) (ms : 0 ≤ (hp.1 43 30).toInt ∧ (hp.1 43 30).toInt < 60) (h1 : Q (some (.int (hp.1 43 30 + 1 - 1))) (SH b xs) (nbM hp dd)) : gC mX10_newBag d 0 0 [.ref 43, .int dd] (SH b xs) hp Q := by
  refine g_enter okX10_newBag (plainFor_of_name rfl) rfl ?_
  refine g_run 2 rfl ?_
  refine gG_hp (sR_rid (c := 63)).symm ?_
  exact lp_X10_newBag ms h1 13 0 0 (by decide) (by omega) (by omega)
theorem lp3_X10_moves  {bn n t0 G left : Int32} {P t : Nat → Int32} {w8 : Value} (hx : ∀ i m : Int32, m.toInt = (gm t 11 : Int) → gG mX10_moves (d + 1) 0 0 (zQ 0 0 Q) 0 0 (135, [.ref 43, .int bn, .int n, .int t0, .int G, .int left, .int m, .int i, w8], [], (SH b xs), (sR (sR hp 63 P) 68 t))) : ∀ (f k : Nat) (i m : Int32), i.toInt = ((k + 1 : Nat) : Int) → m.toInt = (gm t k : Int) → k ≤ 11 → 11 - k < f → gG mX10_moves (d + 1) 0 0 (zQ 0 0 Q) 0 0 (96, [.ref 43, .int bn, .int n, .int t0, .int G, .int left, .int m, .int i, w8], [], (SH b xs), (sR (sR hp 63 P) 68 t)) := by
  intro f
  induction f with
  | zero => intros; omega
  | succ f ih =>
    intro k i m iE mE hk hf
    have hgl := gm_le t k
    refine g_run 2 rfl ?_
    refine gj_ge (kx := ((k + 1 : Nat) : Int)) (kz := 12) rfl iE (by decide) (fun k1 => ?_) (fun k1 => ?_)
    · obtain rfl : k = 11 := by omega
      exact hx _ _ mE
    · refine g_run 3 rfl ?_
      refine g_iald (j := ((k + 1 : Nat) : Int).toNat) rfl rfl ((show _ = ((k + 1 : Nat) : Int) from iE).trans (by omega)) (by omega) ?_
      refine g_run 3 rfl ?_
      refine g_iald (j := ((gm t k : Nat) : Int).toNat) rfl rfl ((show _ = ((gm t k : Nat) : Int) from mE).trans (by omega)) (by omega) ?_
      refine gj_le (kx := ((sR (sR hp 63 P) 68 t).1 68 (((k + 1 : Nat) : Int).toNat)).toInt) (kz := ((sR (sR hp 63 P) 68 t).1 68 (((gm t k : Nat) : Int).toNat)).toInt) rfl rfl rfl (fun k2 => ?_) (fun k2 => ?_)
      · refine g_run 4 rfl ?_
        exact ih (k + 1) _ _ (inc1 iE (by omega)) (by rw [gm_f (by simpa [sR, va_up] using ‹_›)]; exact mE) (by omega) (by omega)
      · refine g_run 5 rfl ?_
        exact ih (k + 1) _ _ (inc1 iE (by omega)) (by rw [gm_t (by simpa [sR, va_up] using ‹_›)]; exact iE) (by omega) (by omega)
theorem lp2_X10_moves  {bn n t0 G : Int32} {bI tI : Int} {E0 : (Nat → Int32) × (Nat → Int32)} (bE : bn.toInt = bI) (tE : t0.toInt = tI) (hb : 0 ≤ bI ∧ bI < 60) (ht : 0 ≤ tI ∧ tI < 60) (h1 : Q none (SH b xs) (sR (sR hp 63 E0.1) 68 E0.2)) : ∀ (f : Nat) (left : Int32) (P t : Nat → Int32) (w6 w7 w8 : Value), exM bI tI left.toInt.toNat P t = E0 → left.toInt.toNat < f → gG mX10_moves (d + 1) 0 0 (zQ 0 0 Q) 0 0 (85, [.ref 43, .int bn, .int n, .int t0, .int G, .int left, w6, w7, w8], [], (SH b xs), (sR (sR hp 63 P) 68 t)) := by
  intro f
  induction f with
  | zero => intros; omega
  | succ f ih =>
    intro left P t w6 w7 w8 he hf
    have hgl := gm_le t 11
    refine g_run 1 rfl ?_
    refine gz_le (kx := left.toInt) rfl rfl (fun k1 => ?_) (fun k1 => ?_)
    · rw [show left.toInt.toNat = 0 by omega] at he
      subst he
      exact g_vret rfl rfl h1
    · refine g_run 4 rfl ?_
      refine lp3_X10_moves (hp := hp) (fun i m mE => ?_) 12 0 1 0 (by decide) (show (0 : Int32).toInt = ((0 : Nat) : Int) from by decide) (by omega) (by omega)
      refine g_run 4 rfl ?_
      refine g_iast (j := ((gm t 11 : Nat) : Int).toNat) rfl rfl ((show _ = ((gm t 11 : Nat) : Int) from mE).trans (by omega)) (by omega) ?_
      refine g_run 5 rfl ?_
      refine g_callV0 rfl LX10_295 rfl rfl rfl rfl ?_
      refine c_X10_gives (bbI := bI) (tI := tI) (lI := ((gm t 11 : Nat) : Int)) (nI := 1) bE tE mE (by decide) hb ht (by omega) ?_
      refine g_run 2 rfl ?_
      refine gG_hp (mv_put (hp := hp) (P := P) (t := t) (j := gm t 11)) ?_
      obtain ⟨u, hu⟩ : ∃ u, left.toInt.toNat = u + 1 := ⟨left.toInt.toNat - 1, by omega⟩
      have hl : (left + -1).toInt.toNat = u := by rw [ia_add2 (y := -1) rfl (by decide) (by omega) (by have := ia_bd left; omega)]; omega
      rw [hu, exM] at he
      exact ih _ _ _ _ _ _ (by rw [hl]; exact he) (by rw [hl]; rw [hu] at hf; exact Nat.lt_of_succ_lt_succ hf)
theorem lp1_X10_moves  {bn n t0 G : Int32} {bI tI : Int} (bE : bn.toInt = bI) (tE : t0.toInt = tI) (hb : 0 ≤ bI ∧ bI < 60) (ht : 0 ≤ tI ∧ tI < 60) (hG : 1 ≤ G.toInt) (h1 : Q none (SH b xs) (sR (sR hp 63 (exM bI tI (lfq n (fun l => qS n G (mvM n G bI tI (hp.1 63) l ((12 * bI) + (l : Int)).toNat)) 12).toInt.toNat (mvM n G bI tI (hp.1 63) 12) (fT (fun l => rS n G (mvM n G bI tI (hp.1 63) l ((12 * bI) + (l : Int)).toNat)) 12 (hp.1 68))).1) 68 (exM bI tI (lfq n (fun l => qS n G (mvM n G bI tI (hp.1 63) l ((12 * bI) + (l : Int)).toNat)) 12).toInt.toNat (mvM n G bI tI (hp.1 63) 12) (fT (fun l => rS n G (mvM n G bI tI (hp.1 63) l ((12 * bI) + (l : Int)).toNat)) 12 (hp.1 68))).2)) : ∀ (f k : Nat) (i : Int32) (w7 w8 : Value), i.toInt = (k : Int) → k ≤ 12 → 12 - k < f → gG mX10_moves (d + 1) 0 0 (zQ 0 0 Q) 0 0 (13, [.ref 43, .int bn, .int n, .int t0, .int G, .int (lfq n (fun l => qS n G (mvM n G bI tI (hp.1 63) l ((12 * bI) + (l : Int)).toNat)) k), .int i, w7, w8], [], (SH b xs), (sR (sR hp 63 (mvM n G bI tI (hp.1 63) k)) 68 (fT (fun l => rS n G (mvM n G bI tI (hp.1 63) l ((12 * bI) + (l : Int)).toNat)) k (hp.1 68)))) := by
  intro f
  induction f with
  | zero => intros; omega
  | succ f ih =>
    intro k i w7 w8 iE hk hf
    have hz : ¬ G.toInt64 = 0 := fun z => by have e := congrArg Int64.toInt z; rw [t64 rfl] at e; have e0 : (0 : Int64).toInt = 0 := (by decide); omega
    refine g_run 2 rfl ?_
    refine gj_ge (kx := (k : Int)) (kz := 12) rfl iE (by decide) (fun k1 => ?_) (fun k1 => ?_)
    · obtain rfl : k = 12 := by omega
      exact lp2_X10_moves (hp := hp) bE tE hb ht h1 _ _ _ _ _ _ _ rfl (Nat.lt_succ_self _)
    · refine g_run 9 rfl ?_
      refine g_iald (j := ((12 * bI) + (k : Int)).toNat) rfl rfl ((show _ = ((12 * bI) + (k : Int)) from (ia_add2 (ia_mul2 (by decide) bE (by omega) (by omega)) iE (by omega) (by omega))).trans (by omega)) (by omega) ?_
      refine g_run 9 rfl ?_
      refine g_lrem rfl (by first | assumption | decide) ?_
      refine g_run 1 rfl ?_
      refine g_iast (j := k) rfl rfl ((show _ = (k : Int) from iE).trans (by omega)) (by omega) ?_
      refine g_run 7 rfl ?_
      refine g_ldiv rfl (by first | assumption | decide) ?_
      refine g_run 1 rfl ?_
      refine g_callV0 rfl LX10_295 rfl rfl rfl rfl ?_
      refine c_X10_gives (bbI := bI) (tI := tI) (lI := (k : Int)) bE tE iE rfl hb ht (by omega) ?_
      refine g_run 4 rfl ?_
      refine g_ldiv rfl (by first | assumption | decide) ?_
      refine g_run 5 rfl ?_
      refine gG_hp (mv_put1 (hp := hp) (P := (mvM n G bI tI (hp.1 63) k)) (t := fT (fun l => rS n G (mvM n G bI tI (hp.1 63) l ((12 * bI) + (l : Int)).toNat)) k (hp.1 68)) (j := k)) ?_
      refine gG_hp (congrArg (fun t => sR (sR hp 63 (mvM n G bI tI (hp.1 63) (k + 1))) 68 t) (fT_s (f := (fun l => rS n G (mvM n G bI tI (hp.1 63) l ((12 * bI) + (l : Int)).toNat))) (k := k) (t := hp.1 68))) ?_
      exact ih (k + 1) _ _ _ (inc1 iE (by omega)) (by omega) (by omega)
theorem c_X10_moves {bn : Int32} {bnI : Int} {n : Int32} {nI : Int} {t : Int32} {tI : Int} (bnE : bn.toInt = bnI) (nE : n.toInt = nI) (tE : t.toInt = tI) (hb : 0 ≤ bnI ∧ bnI < 60) (ht : 0 ≤ tI ∧ tI < 60) (hg : 1 ≤ (sumI (fun l => hp.1 63 ((12 * bnI) + (l : Int)).toNat) 12).toInt) (h1 : Q none (SH b xs) (mvF hp bnI tI n)) : gC mX10_moves (d + 1) 0 0 [.ref 43, .int bn, .int n, .int t] (SH b xs) hp Q := by
  refine g_enter okX10_moves (plainFor_of_name rfl) rfl ?_
  refine g_run 2 rfl ?_
  refine g_callV0 rfl LX10_289 rfl rfl rfl rfl ?_
  refine c_X10_gramsIn (nI := bnI) bnE (by omega) ?_
  refine g_run 5 rfl ?_
  refine gG_hp (mv_id (hp := hp) (f := (fun l => rS n (sumI (fun l => hp.1 63 ((12 * bnI) + (l : Int)).toNat) 12) (mvM n (sumI (fun l => hp.1 63 ((12 * bnI) + (l : Int)).toNat) 12) bnI tI (hp.1 63) l ((12 * bnI) + (l : Int)).toNat)))).symm ?_
  exact lp1_X10_moves (hp := hp) (G := (sumI (fun l => hp.1 63 ((12 * bnI) + (l : Int)).toNat) 12)) bnE tE hb ht hg h1 13 0 0 _ _ (by decide) (by omega) (by omega)
theorem lp1_X10_blend  (ms : 0 ≤ (hp.1 43 30).toInt ∧ (hp.1 43 30).toInt < 60) (hx : ∀ i : Int32, gG mX10_blend (d + 2) 0 0 (zQ 0 0 Q) 0 0 (73, [.ref 43, .int (dyM (hp.1 67) (hp.1 64) (hp.1 43 30).toInt.toNat), .int i, .retAddr 0], [], (SH b xs), hp)) : ∀ (f k : Nat) (i : Int32), i.toInt = (k : Int) → (k : Int) ≤ (hp.1 43 30).toInt → (hp.1 43 30).toInt.toNat - k < f → gG mX10_blend (d + 2) 0 0 (zQ 0 0 Q) 0 0 (29, [.ref 43, .int (dyM (hp.1 67) (hp.1 64) k), .int i, .retAddr 0], [], (SH b xs), hp) := by
  intro f
  induction f with
  | zero => intros; omega
  | succ f ih =>
    intro k i iE hk hf
    refine g_run 3 rfl ?_
    refine gj_ge (kx := (k : Int)) (kz := (hp.1 43 30).toInt) rfl iE rfl (fun k1 => ?_) (fun k1 => ?_)
    · have e : k = (hp.1 43 30).toInt.toNat := by omega
      subst e
      exact hx _
    · refine g_run 3 rfl ?_
      refine g_iald (j := k) rfl rfl ((show _ = (k : Int) from iE).trans (by omega)) (by omega) ?_
      refine gz_le (kx := (hp.1 67 k).toInt) rfl rfl (fun k2 => ?_) (fun k2 => ?_)
      · refine g_run 4 rfl ?_
        rw [dyM_f (told := hp.1 67) (day := hp.1 64) (k := k) (by first | exact Or.inl (by assumption) | exact Or.inr (by assumption))]
        exact ih (k + 1) _ (inc1 iE (by omega)) (by omega) (by omega)
      · refine g_run 3 rfl ?_
        refine g_iald (j := k) rfl rfl ((show _ = (k : Int) from iE).trans (by omega)) (by omega) ?_
        refine g_run 1 rfl ?_
        refine gj_ge (kx := (hp.1 64 k).toInt) (kz := (dyM (hp.1 67) (hp.1 64) k).toInt) rfl rfl rfl (fun k3 => ?_) (fun k3 => ?_)
        · refine g_run 4 rfl ?_
          rw [dyM_f (told := hp.1 67) (day := hp.1 64) (k := k) (by first | exact Or.inl (by assumption) | exact Or.inr (by assumption))]
          exact ih (k + 1) _ (inc1 iE (by omega)) (by omega) (by omega)
        · refine g_run 3 rfl ?_
          refine g_iald (j := k) rfl rfl ((show _ = (k : Int) from iE).trans (by omega)) (by omega) ?_
          refine g_run 4 rfl ?_
          rw [dyM_t (told := hp.1 67) (day := hp.1 64) (k := k) (by assumption) (by assumption)]
          exact ih (k + 1) _ (inc1 iE (by omega)) (by omega) (by omega)
theorem lp2_X10_blend  {h0 : hp_T} {z dd : Int32} {zI : Int} (zE : z.toInt = zI) (hz : 0 ≤ zI ∧ zI < 60) (hg : ∀ k : Nat, (k : Int) < zI → 0 < ((blM h0 zI k).1 67 k).toInt → 1 ≤ (sumI (fun l => (blM h0 zI k).1 63 ((12 * (k : Int)) + (l : Int)).toNat) 12).toInt) (h1 : Q (some (.int z)) (SH b xs) (sI (blM h0 zI zI.toNat) 43 44 0)) : ∀ (f k : Nat) (i : Int32), i.toInt = (k : Int) → (k : Int) ≤ zI → zI.toNat - k < f → gG mX10_blend (d + 2) 0 0 (zQ 0 0 Q) 0 0 (81, [.ref 43, .int dd, .int z, .int i], [], (SH b xs), (blM h0 zI k)) := by
  intro f
  induction f with
  | zero => intros; omega
  | succ f ih =>
    intro k i iE hk hf
    refine g_run 2 rfl ?_
    refine gj_ge (kx := (k : Int)) (kz := zI) rfl iE zE (fun k1 => ?_) (fun k1 => ?_)
    · refine g_run 4 rfl ?_
      obtain rfl : zI = (k : Int) := by omega
      rw [Int.toNat_natCast] at h1
      exact g_iret rfl rfl h1
    · refine g_run 3 rfl ?_
      refine g_iald (j := k) rfl rfl ((show _ = (k : Int) from iE).trans (by omega)) (by omega) ?_
      refine gz_le (kx := ((blM h0 zI k).1 67 k).toInt) rfl rfl (fun k2 => ?_) (fun k2 => ?_)
      · refine g_run 2 rfl ?_
        refine gG_hp (blM_f (h0 := h0) (zI := zI) (k := k) (by assumption)).symm ?_
        exact ih (k + 1) _ (inc1 iE (by omega)) (by omega) (by omega)
      · refine g_run 5 rfl ?_
        refine g_iald (j := k) rfl rfl ((show _ = (k : Int) from iE).trans (by omega)) (by omega) ?_
        refine g_run 1 rfl ?_
        refine g_callV0 rfl LX10_299 rfl rfl rfl rfl ?_
        refine c_X10_moves (bnI := (k : Int)) (tI := zI) iE rfl zE (by omega) (by omega) (hg k (by omega) (by assumption)) ?_
        refine g_run 4 rfl ?_
        refine g_iast (j := k) rfl rfl ((show _ = (k : Int) from iE).trans (by omega)) (by omega) ?_
        refine g_run 2 rfl ?_
        refine gG_hp (blM_t (h0 := h0) (zI := zI) (k := k) (by assumption)).symm ?_
        exact ih (k + 1) _ (inc1 iE (by omega)) (by omega) (by omega)
theorem c_X10_blend (ms : 0 ≤ (hp.1 43 30).toInt ∧ (hp.1 43 30).toInt ≤ 60) (hg : (hp.1 43 30).toInt < 60 → ∀ k : Nat, (k : Int) < (hp.1 43 30).toInt → 0 < ((blM (nbM (sI hp 43 0 0) (dyM (hp.1 67) (hp.1 64) (hp.1 43 30).toInt.toNat)) (hp.1 43 30).toInt k).1 67 k).toInt → 1 ≤ (sumI (fun l => (blM (nbM (sI hp 43 0 0) (dyM (hp.1 67) (hp.1 64) (hp.1 43 30).toInt.toNat)) (hp.1 43 30).toInt k).1 63 ((12 * (k : Int)) + (l : Int)).toNat) 12).toInt) (h1 : (hp.1 43 44).toInt ≠ 0 ∧ (hp.1 43 30).toInt < 60 → Q (some (.int (hp.1 43 30 + 1 - 1))) (SH b xs) (sI (blM (nbM (sI hp 43 0 0) (dyM (hp.1 67) (hp.1 64) (hp.1 43 30).toInt.toNat)) (hp.1 43 30).toInt (hp.1 43 30).toInt.toNat) 43 44 0)) (h0 : (hp.1 43 44).toInt = 0 ∨ (hp.1 43 30).toInt = 60 → Q (some (.int (-1))) (SH b xs) (sI hp 43 0 0)) : gC mX10_blend (d + 2) 0 0 [.ref 43] (SH b xs) hp Q := by
  refine g_enter okX10_blend (plainFor_of_name rfl) rfl ?_
  refine g_run 5 rfl ?_
  refine gz_eq (kx := (hp.1 43 44).toInt) rfl rfl (fun k1 => ?_) (fun k1 => ?_)
  · refine g_run 1 rfl ?_
    exact g_iret rfl rfl (by first | exact h1 (by omega) | exact h0 (by omega))
  · refine g_run 3 rfl ?_
    refine gj_ne (kx := (hp.1 43 30).toInt) (kz := 60) rfl rfl (by decide) (fun k2 => ?_) (fun k2 => ?_)
    · refine g_run 4 rfl ?_
      refine lp1_X10_blend (hp := (sI hp 43 0 0)) (show 0 ≤ (hp.1 43 30).toInt ∧ (hp.1 43 30).toInt < 60 from by omega) (fun i => ?_) 61 0 0 (by decide) (show ((0 : Nat) : Int) ≤ (hp.1 43 30).toInt from by omega) (show (hp.1 43 30).toInt.toNat - 0 < 61 from by omega)
      refine g_run 2 rfl ?_
      refine g_callV0 rfl LX10_283 rfl rfl rfl rfl ?_
      refine c_X10_newBag rfl (show 0 ≤ (hp.1 43 30).toInt ∧ (hp.1 43 30).toInt < 60 from by omega) ?_
      refine g_run 3 rfl ?_
      exact lp2_X10_blend (h0 := (nbM (sI hp 43 0 0) (dyM (hp.1 67) (hp.1 64) (hp.1 43 30).toInt.toNat))) (zI := (hp.1 43 30).toInt) (by show (hp.1 43 30 + 1 - 1).toInt = _; rw [Int32.add_sub_cancel]) (by omega) (hg (by omega)) (h1 (by omega)) 61 0 0 (by decide) (by omega) (by omega)
    · refine g_run 1 rfl ?_
      exact g_iret rfl rfl (by first | exact h1 (by omega) | exact h0 (by omega))
end S23
end
section
/-! the rules' values in the class -/
theorem ia_neg2 {a : Int32} {x : Int} (ha : a.toInt = x) (h : -2147483648 < x) : (-a).toInt = -x := by
  have := ia_sub2 (a := 0) (b := a) (x := 0) (y := x) (by decide) ha (by have := ia_bd a; omega) (by have := ia_bd a; omega)
  rw [Int32.zero_sub] at this
  omega
def jd (k : Int) (l r : Int32) : Int32 := if k = 7 then (if l.toInt ≠ 0 ∧ r.toInt ≠ 0 then 1 else 0) else if k = 15 then (if l.toInt < r.toInt then 1 else 0) else if k = 16 then (if l.toInt = r.toInt then 1 else 0) else if k = 17 then l + r else l - r
theorem jd_ok {k : Int} {l r v : Int32} (h : jd k l r = v) : jd k l r = v := h
def vN (hp : hp_T) (k : Int) : Int32 := if k = 3 then hp.1 15 6 else if k = 4 then hp.1 15 7 else if k = 8 then hp.1 15 4 else if k = 9 then hp.1 15 5 else if k = 10 then hp.1 16 (hp.1 15 4).toInt.toNat else if k = 11 then hp.1 15 8 else hp.1 15 3
theorem vN_ok {hp : hp_T} {k : Int} {v : Int32} (h : vN hp k = v) : vN hp k = v := h
def psh (st : (Nat → Int32) × Nat) (v : Int32) : (Nat → Int32) × Nat := if st.2 < 16 then (va_up st.1 st.2 v, st.2 + 1) else st
def pv (st : (Nat → Int32) × Nat) : Int32 := if st.2 = 0 then 0 else st.1 (st.2 - 1)
def pp (st : (Nat → Int32) × Nat) : (Nat → Int32) × Nat := (st.1, st.2 - 1)
theorem psh_y {z : (Nat → Int32) × Nat} {v : Int32} (h : z.2 < 16) : psh z v = (va_up z.1 z.2 v, z.2 + 1) := by rw [psh, if_pos h]
theorem psh_n {z : (Nat → Int32) × Nat} {v : Int32} (h : 16 ≤ z.2) : psh z v = z := by rw [psh, if_neg (by omega)]
theorem psh_le {z : (Nat → Int32) × Nat} {v : Int32} (h : z.2 ≤ 16) : (psh z v).2 ≤ 16 := by
  unfold psh
  split
  · dsimp only; omega
  · exact h
theorem pp1_le {z : (Nat → Int32) × Nat} (h : z.2 ≤ 16) : (pp z).2 ≤ 16 := by simp only [pp]; omega
theorem pp2_le {z : (Nat → Int32) × Nat} (h : z.2 ≤ 16) : (pp (pp z)).2 ≤ 16 := pp1_le (pp1_le h)
theorem pv_0 {z : (Nat → Int32) × Nat} (h : z.2 = 0) : pv z = 0 := by rw [pv, if_pos h]
theorem pv_p {z : (Nat → Int32) × Nat} (h : z.2 ≠ 0) : pv z = z.1 (z.2 - 1) := by rw [pv, if_neg h]
theorem pp_0 {z : (Nat → Int32) × Nat} (h : z.2 = 0) : pp z = z := by
  obtain ⟨w, n⟩ := z
  dsimp only at h
  subst h
  rfl
/-- one step of the rules' reckoning; all of them -/
def ev1 (vn : Int → Int32) (s : Int32) (z : (Nat → Int32) × Nat) : (Nat → Int32) × Nat := if 0 ≤ s.toInt then psh z s else if -s.toInt = 7 ∨ (15 ≤ -s.toInt ∧ -s.toInt ≤ 18) then psh (pp (pp z)) (jd (-s.toInt) (pv (pp z)) (pv z)) else psh z (vn (-s.toInt))
def evS (vn : Int → Int32) (sp : Nat → Int32) : Nat → Nat → (Nat → Int32) × Nat → (Nat → Int32) × Nat
  | 0, _, z => z
  | f + 1, i, z => evS vn sp f (i + 1) (ev1 vn (sp i) z)
def WX (hp : hp_T) (rc : Nat) (st : (Nat → Int32) × Nat) : hp_T := sI (sR hp (rc + 5) st.1) rc 7 (nI st.2)
theorem wx_put9 {hp : hp_T} {z : (Nat → Int32) × Nat} {v : Int32} : sI (sI (WX hp 9 z) 14 z.2 v) 9 7 (nI z.2 + 1) = WX hp 9 (va_up z.1 z.2 v, z.2 + 1) := by
  rw [nI_1]
  refine two_ext (fun q i => ?_) rfl
  simp only [WX, sI, sR]
  by_cases h1 : q = 9
  · subst h1
    by_cases hi : i = 7 <;> simp [va_up, hi]
  · by_cases h2 : q = 14
    · subst h2
      by_cases hi : i = z.2 <;> simp [va_up, hi]
    · simp [va_up, h1, h2]
theorem wx_pop9 {hp : hp_T} {z : (Nat → Int32) × Nat} (h : z.2 ≠ 0) : sI (WX hp 9 z) 9 7 (nI z.2 - 1) = WX hp 9 (pp z) := by
  rw [show z.2 = (z.2 - 1) + 1 by omega, nI_pred]
  refine two_ext (fun q i => ?_) rfl
  simp only [WX, sI, sR, pp]
  by_cases h1 : q = 9
  · subst h1
    by_cases hi : i = 7 <;> simp [va_up, hi]
  · by_cases h2 : q = 14
    · subst h2; simp [va_up]
    · simp [va_up, h1, h2]
theorem wx_id9 {hp : hp_T} : WX hp 9 (hp.1 14, 0) = sI hp 9 7 0 := by
  refine two_ext (fun q i => ?_) rfl
  simp only [WX, sI, sR, nI_0]
  by_cases h1 : q = 9
  · subst h1
    by_cases hi : i = 7 <;> simp [va_up, hi]
  · by_cases h2 : q = 14
    · subst h2; simp [va_up]
    · simp [va_up, h1, h2]
theorem wx_put37 {hp : hp_T} {z : (Nat → Int32) × Nat} {v : Int32} : sI (sI (WX hp 37 z) 42 z.2 v) 37 7 (nI z.2 + 1) = WX hp 37 (va_up z.1 z.2 v, z.2 + 1) := by
  rw [nI_1]
  refine two_ext (fun q i => ?_) rfl
  simp only [WX, sI, sR]
  by_cases h1 : q = 37
  · subst h1
    by_cases hi : i = 7 <;> simp [va_up, hi]
  · by_cases h2 : q = 42
    · subst h2
      by_cases hi : i = z.2 <;> simp [va_up, hi]
    · simp [va_up, h1, h2]
theorem wx_pop37 {hp : hp_T} {z : (Nat → Int32) × Nat} (h : z.2 ≠ 0) : sI (WX hp 37 z) 37 7 (nI z.2 - 1) = WX hp 37 (pp z) := by
  rw [show z.2 = (z.2 - 1) + 1 by omega, nI_pred]
  refine two_ext (fun q i => ?_) rfl
  simp only [WX, sI, sR, pp]
  by_cases h1 : q = 37
  · subst h1
    by_cases hi : i = 7 <;> simp [va_up, hi]
  · by_cases h2 : q = 42
    · subst h2; simp [va_up]
    · simp [va_up, h1, h2]
theorem wx_id37 {hp : hp_T} : WX hp 37 (hp.1 42, 0) = sI hp 37 7 0 := by
  refine two_ext (fun q i => ?_) rfl
  simp only [WX, sI, sR, nI_0]
  by_cases h1 : q = 37
  · subst h1
    by_cases hi : i = 7 <;> simp [va_up, hi]
  · by_cases h2 : q = 42
    · subst h2; simp [va_up]
    · simp [va_up, h1, h2]
section S24
variable {d : Nat} {sh : sh_T} {hp : hp_T} {Q : Option Value → sh_T → hp_T → Prop} {b : Bool} {xs : sh_T}
theorem c_X6_joins {n : Int32} {nI : Int} (nE : n.toInt = nI) (h1 : (nI = 7 ∨ (15 ≤ nI ∧ nI ≤ 18)) → Q (some (.int 1)) sh hp) (h0 : (nI ≠ 7 ∧ (nI < 15 ∨ 18 < nI)) → Q (some (.int 0)) sh hp) : gC mX6_joins (d + 1) 0 0 [.int n] sh hp Q := by
  refine g_enter okX6_joins (plainFor_of_name rfl) rfl ?_
  refine g_run 2 rfl ?_
  refine gj_eq (kx := nI) (kz := 7) rfl nE (by decide) (fun k1 => ?_) (fun k1 => ?_)
  · refine g_run 2 rfl ?_
    exact g_zret rfl rfl (Or.inr rfl) (by first | exact h1 (by omega) | exact h0 (by omega))
  · refine g_run 3 rfl ?_
    refine g_callS0 rfl LX6_64 rfl rfl ?_
    refine c_X9_within (nI := nI) (lI := 15) (uI := 18) nE (by decide) (by decide) (fun k2 => ?_) (fun k3 => ?_)
    · refine gz_eq (kx := 1) rfl (show (1 : Int32).toInt = 1 from by decide) (fun q => absurd q (by decide)) (fun _ => ?_)
      refine g_run 2 rfl ?_
      exact g_zret rfl rfl (Or.inr rfl) (by first | exact h1 (by omega) | exact h0 (by omega))
    · refine gz_eq (kx := 0) rfl (show (0 : Int32).toInt = 0 from by decide) (fun _ => ?_) (fun q => absurd q (by decide))
      refine g_run 1 rfl ?_
      exact g_zret rfl rfl (Or.inl rfl) (by first | exact h1 (by omega) | exact h0 (by omega))
theorem c_X6_joined {n : Int32} {nI : Int} {x : Int32} {xI : Int} {z : Int32} {zI : Int} (nE : n.toInt = nI) (xE : x.toInt = xI) (zE : z.toInt = zI) (hk : nI = 7 ∨ (15 ≤ nI ∧ nI ≤ 18)) (h1 : Q (some (.int (jd nI x z))) sh hp) : gC mX6_joined d 0 0 [.int n, .int x, .int z] sh hp Q := by
  refine g_enter okX6_joined (plainFor_of_name rfl) rfl ?_
  refine g_run 1 rfl ?_
  rcases (show nI = 7 ∨ nI = 15 ∨ nI = 16 ∨ nI = 17 ∨ nI = 18 by omega) with k1 | k1 | k1 | k1 | k1
  · refine g_look (off := 43) (tgt := 44) rfl (by decide) (by rw [show _ = (7 : Int) from (show _ = nI from nE).trans k1]; decide) (by decide) ?_
    refine g_run 1 rfl ?_
    refine gz_eq (kx := xI) rfl xE (fun k2 => ?_) (fun k2 => ?_)
    · refine g_run 1 rfl ?_
      have e : jd nI x z = 0 := by simp only [jd, xE, zE]; repeat (first | rw [if_pos (by omega)] | rw [if_neg (by omega)])
      rw [e] at h1
      exact g_iret rfl rfl h1
    · refine g_run 1 rfl ?_
      refine gz_eq (kx := zI) rfl zE (fun k3 => ?_) (fun k3 => ?_)
      · refine g_run 1 rfl ?_
        have e : jd nI x z = 0 := by simp only [jd, xE, zE]; repeat (first | rw [if_pos (by omega)] | rw [if_neg (by omega)])
        rw [e] at h1
        exact g_iret rfl rfl h1
      · refine g_run 2 rfl ?_
        have e : jd nI x z = 1 := by simp only [jd, xE, zE]; repeat (first | rw [if_pos (by omega)] | rw [if_neg (by omega)])
        rw [e] at h1
        exact g_iret rfl rfl h1
  · refine g_look (off := 57) (tgt := 58) rfl (by decide) (by rw [show _ = (15 : Int) from (show _ = nI from nE).trans k1]; decide) (by decide) ?_
    refine g_run 2 rfl ?_
    refine gj_ge (kx := xI) (kz := zI) rfl xE zE (fun k4 => ?_) (fun k4 => ?_)
    · refine g_run 1 rfl ?_
      have e : jd nI x z = 0 := by simp only [jd, xE, zE]; repeat (first | rw [if_pos (by omega)] | rw [if_neg (by omega)])
      rw [e] at h1
      exact g_iret rfl rfl h1
    · refine g_run 2 rfl ?_
      have e : jd nI x z = 1 := by simp only [jd, xE, zE]; repeat (first | rw [if_pos (by omega)] | rw [if_neg (by omega)])
      rw [e] at h1
      exact g_iret rfl rfl h1
  · refine g_look (off := 68) (tgt := 69) rfl (by decide) (by rw [show _ = (16 : Int) from (show _ = nI from nE).trans k1]; decide) (by decide) ?_
    refine g_run 2 rfl ?_
    refine gj_ne (kx := xI) (kz := zI) rfl xE zE (fun k5 => ?_) (fun k5 => ?_)
    · refine g_run 1 rfl ?_
      have e : jd nI x z = 0 := by simp only [jd, xE, zE]; repeat (first | rw [if_pos (by omega)] | rw [if_neg (by omega)])
      rw [e] at h1
      exact g_iret rfl rfl h1
    · refine g_run 2 rfl ?_
      have e : jd nI x z = 1 := by simp only [jd, xE, zE]; repeat (first | rw [if_pos (by omega)] | rw [if_neg (by omega)])
      rw [e] at h1
      exact g_iret rfl rfl h1
  · refine g_look (off := 79) (tgt := 80) rfl (by decide) (by rw [show _ = (17 : Int) from (show _ = nI from nE).trans k1]; decide) (by decide) ?_
    refine g_run 3 rfl ?_
    have e : jd nI x z = (x + z) := by simp only [jd, xE, zE]; repeat (first | rw [if_pos (by omega)] | rw [if_neg (by omega)])
    rw [e] at h1
    exact g_iret rfl rfl h1
  · refine g_look (off := 83) (tgt := 84) rfl (by decide) (by rw [show _ = (18 : Int) from (show _ = nI from nE).trans k1]; decide) (by decide) ?_
    refine g_run 3 rfl ?_
    have e : jd nI x z = (x - z) := by simp only [jd, xE, zE]; repeat (first | rw [if_pos (by omega)] | rw [if_neg (by omega)])
    rw [e] at h1
    exact g_iret rfl rfl h1
theorem c_X4_valueNow {n : Int32} {nI : Int} (nE : n.toInt = nI) (hm : 0 ≤ (hp.1 15 4).toInt ∧ (hp.1 15 4).toInt < 20) (h1 : Q (some (.int (vN hp nI))) (SH b xs) hp) : gC mX4_valueNow (d + 1) 0 0 [.ref 15, .int n] (SH b xs) hp Q := by
  refine g_enter okX4_valueNow (plainFor_of_name rfl) rfl ?_
  refine g_run 1 rfl ?_
  rcases (show nI < 3 ∨ 11 < nI ∨ nI = 3 ∨ nI = 4 ∨ nI = 5 ∨ nI = 6 ∨ nI = 7 ∨ nI = 8 ∨ nI = 9 ∨ nI = 10 ∨ nI = 11 by omega) with k1 | k1 | k1 | k1 | k1 | k1 | k1 | k1 | k1 | k1 | k1
  · refine g_tabOut (tgt := 104) rfl (Or.inl (by rw [show _ = nI from nE]; omega)) (by decide) ?_
    refine g_run 2 rfl ?_
    first | (exfalso; omega) | (have e : vN hp nI = (hp.1 15 3) := (by simp only [vN]; repeat (first | rw [if_pos (by omega)] | rw [if_neg (by omega)])); rw [e] at h1; exact g_iret rfl rfl h1)
  · refine g_tabOut (tgt := 104) rfl (Or.inr (by rw [show _ = nI from nE]; omega)) (by decide) ?_
    refine g_run 2 rfl ?_
    first | (exfalso; omega) | (have e : vN hp nI = (hp.1 15 3) := (by simp only [vN]; repeat (first | rw [if_pos (by omega)] | rw [if_neg (by omega)])); rw [e] at h1; exact g_iret rfl rfl h1)
  · refine g_tabIn (i := 0) (tgt := 94) rfl ((show _ = nI from nE).trans (by omega)) (by decide) rfl (by decide) ?_
    refine g_run 2 rfl ?_
    first | (exfalso; omega) | (have e : vN hp nI = (hp.1 15 6) := (by simp only [vN]; repeat (first | rw [if_pos (by omega)] | rw [if_neg (by omega)])); rw [e] at h1; exact g_iret rfl rfl h1)
  · refine g_tabIn (i := 1) (tgt := 99) rfl ((show _ = nI from nE).trans (by omega)) (by decide) rfl (by decide) ?_
    refine g_run 2 rfl ?_
    first | (exfalso; omega) | (have e : vN hp nI = (hp.1 15 7) := (by simp only [vN]; repeat (first | rw [if_pos (by omega)] | rw [if_neg (by omega)])); rw [e] at h1; exact g_iret rfl rfl h1)
  · refine g_tabIn (i := 2) (tgt := 104) rfl ((show _ = nI from nE).trans (by omega)) (by decide) rfl (by decide) ?_
    refine g_run 2 rfl ?_
    first | (exfalso; omega) | (have e : vN hp nI = (hp.1 15 3) := (by simp only [vN]; repeat (first | rw [if_pos (by omega)] | rw [if_neg (by omega)])); rw [e] at h1; exact g_iret rfl rfl h1)
  · refine g_tabIn (i := 3) (tgt := 104) rfl ((show _ = nI from nE).trans (by omega)) (by decide) rfl (by decide) ?_
    refine g_run 2 rfl ?_
    first | (exfalso; omega) | (have e : vN hp nI = (hp.1 15 3) := (by simp only [vN]; repeat (first | rw [if_pos (by omega)] | rw [if_neg (by omega)])); rw [e] at h1; exact g_iret rfl rfl h1)
  · refine g_tabIn (i := 4) (tgt := 104) rfl ((show _ = nI from nE).trans (by omega)) (by decide) rfl (by decide) ?_
    refine g_run 2 rfl ?_
    first | (exfalso; omega) | (have e : vN hp nI = (hp.1 15 3) := (by simp only [vN]; repeat (first | rw [if_pos (by omega)] | rw [if_neg (by omega)])); rw [e] at h1; exact g_iret rfl rfl h1)
  · refine g_tabIn (i := 5) (tgt := 52) rfl ((show _ = nI from nE).trans (by omega)) (by decide) rfl (by decide) ?_
    refine g_run 2 rfl ?_
    first | (exfalso; omega) | (have e : vN hp nI = (hp.1 15 4) := (by simp only [vN]; repeat (first | rw [if_pos (by omega)] | rw [if_neg (by omega)])); rw [e] at h1; exact g_iret rfl rfl h1)
  · refine g_tabIn (i := 6) (tgt := 57) rfl ((show _ = nI from nE).trans (by omega)) (by decide) rfl (by decide) ?_
    refine g_run 2 rfl ?_
    first | (exfalso; omega) | (have e : vN hp nI = (hp.1 15 5) := (by simp only [vN]; repeat (first | rw [if_pos (by omega)] | rw [if_neg (by omega)])); rw [e] at h1; exact g_iret rfl rfl h1)
  · refine g_tabIn (i := 7) (tgt := 62) rfl ((show _ = nI from nE).trans (by omega)) (by decide) rfl (by decide) ?_
    refine g_run 4 rfl ?_
    refine g_callS0 rfl LX4_60 rfl rfl ?_
    refine c_X9_within (nI := (hp.1 15 4).toInt) (lI := 0) (uI := 19) rfl (by decide) (by decide) (fun k2 => ?_) (fun k3 => ?_)
    · refine gz_eq (kx := 1) rfl (show (1 : Int32).toInt = 1 from by decide) (fun q => absurd q (by decide)) (fun _ => ?_)
      refine g_run 4 rfl ?_
      refine g_iald (j := ((hp.1 15 4).toInt).toNat) rfl rfl ((show _ = (hp.1 15 4).toInt from rfl).trans (by omega)) (by omega) ?_
      refine g_run 1 rfl ?_
      first | (exfalso; omega) | (have e : vN hp nI = (hp.1 16 (((hp.1 15 4).toInt).toNat)) := (by simp only [vN]; repeat (first | rw [if_pos (by omega)] | rw [if_neg (by omega)])); rw [e] at h1; exact g_iret rfl rfl h1)
    · refine gz_eq (kx := 0) rfl (show (0 : Int32).toInt = 0 from by decide) (fun _ => ?_) (fun q => absurd q (by decide))
      refine g_run 1 rfl ?_
      first | (exfalso; omega) | (have e : vN hp nI = 0 := (by simp only [vN]; repeat (first | rw [if_pos (by omega)] | rw [if_neg (by omega)])); rw [e] at h1; exact g_iret rfl rfl h1)
  · refine g_tabIn (i := 8) (tgt := 89) rfl ((show _ = nI from nE).trans (by omega)) (by decide) rfl (by decide) ?_
    refine g_run 2 rfl ?_
    first | (exfalso; omega) | (have e : vN hp nI = (hp.1 15 8) := (by simp only [vN]; repeat (first | rw [if_pos (by omega)] | rw [if_neg (by omega)])); rw [e] at h1; exact g_iret rfl rfl h1)
theorem c_X6_push_9 {v : Int32} {vI : Int} (vE : v.toInt = vI) {z : (Nat → Int32) × Nat} (hn : z.2 ≤ 16) (h1 : Q none (SH b xs) (WX hp 9 (psh z v))) : gC mX6_push d 0 0 [.ref 9, .int v] (SH b xs) (WX hp 9 z) Q := by
  refine g_enter okX6_push (plainFor_of_name rfl) rfl ?_
  refine g_run 3 rfl ?_
  refine gj_ge (kx := ((z.2 : Nat) : Int)) (kz := 16) rfl (nI_toInt (by omega)) (by decide) (fun k1 => ?_) (fun k1 => ?_)
  · rw [psh_n (by omega)] at h1
    exact g_vret rfl rfl h1
  · refine g_run 5 rfl ?_
    refine g_iast (j := ((z.2 : Nat) : Int).toNat) rfl rfl ((show _ = ((z.2 : Nat) : Int) from (nI_toInt (by omega))).trans (by omega)) (by omega) ?_
    refine g_run 6 rfl ?_
    rw [psh_y (by omega), ← wx_put9] at h1
    exact g_vret rfl rfl h1
theorem c_X6_pop_9 {z : (Nat → Int32) × Nat} (hn : z.2 ≤ 16) (h1 : Q (some (.int (pv z))) (SH b xs) (WX hp 9 (pp z))) : gC mX6_pop d 0 0 [.ref 9] (SH b xs) (WX hp 9 z) Q := by
  refine g_enter okX6_pop (plainFor_of_name rfl) rfl ?_
  refine g_run 2 rfl ?_
  refine gz_gt (kx := ((z.2 : Nat) : Int)) rfl (nI_toInt (by omega)) (fun k1 => ?_) (fun k1 => ?_)
  · refine g_run 10 rfl ?_
    refine g_iald (j := (((z.2 : Nat) : Int) - 1).toNat) rfl rfl ((show _ = (((z.2 : Nat) : Int) - 1) from (ia_sub2 (nI_toInt (by omega)) (by decide) (by omega) (by omega))).trans (by omega)) (by omega) ?_
    have e0 : ((z.2 : Nat) : Int) - 1 = ((z.2 - 1 : Nat) : Int) := by omega
    rw [pv_p (by omega)] at h1
    refine g_iret rfl rfl ?_
    rw [show (WX hp 9 z).1 9 7 = nI z.2 from rfl, wx_pop9 (by omega), e0, Int.toNat_natCast]
    exact h1
  · refine g_run 1 rfl ?_
    rw [pv_0 (by omega), pp_0 (by omega)] at h1
    exact g_iret rfl rfl h1
theorem lp_X6_valueOf_9  (hm : 0 ≤ (hp.1 15 4).toInt ∧ (hp.1 15 4).toInt < 20) (hsp : ∀ i, i < 600 → -20 ≤ (hp.1 13 i).toInt) {ln fi : Int32} {lI eI : Int} {E0 : (Nat → Int32) × Nat} (lE : ln.toInt = lI) (hl : 0 ≤ lI ∧ lI < 16) (eE : (hp.1 12 lI.toNat).toInt = eI) (he : eI ≤ 600) (h1 : Q (some (.int (pv E0))) (SH b xs) (WX hp 9 (pp E0))) : ∀ (f k : Nat) (i : Int32) (z : (Nat → Int32) × Nat) (w5 w6 : Value), i.toInt = (k : Int) → (k : Int) ≤ eI → z.2 ≤ 16 → evS (vN hp) (hp.1 13) (eI.toNat - k) k z = E0 → eI.toNat - k < f → gG mX6_valueOf (d + 2) 0 0 (zQ 0 0 Q) 0 0 (25, [.ref 9, .int ln, .ref 15, .int fi, .int i, w5, w6], [], (SH b xs), (WX hp 9 z)) := by
  intro f
  induction f with
  | zero => intros; omega
  | succ f ih =>
    intro k i z w5 w6 iE hk hz hE hf
    have hspk := fun q : k < 600 => hsp k q
    refine g_run 4 rfl ?_
    refine g_iald (j := lI.toNat) rfl rfl ((show _ = lI from lE).trans (by omega)) (by omega) ?_
    refine gj_ge (kx := (k : Int)) (kz := (hp.1 12 lI.toNat).toInt) rfl iE rfl (fun k1 => ?_) (fun k1 => ?_)
    · refine g_run 1 rfl ?_
      refine g_callV0 rfl LX6_48 rfl rfl rfl rfl ?_
      refine c_X6_pop_9 (z := z) (by first | exact hz | exact pp1_le hz) ?_
      rw [show eI.toNat - k = 0 by omega] at hE
      subst hE
      exact g_iret rfl rfl h1
    · refine g_run 3 rfl ?_
      refine g_iald (j := k) rfl rfl ((show _ = (k : Int) from iE).trans (by omega)) (by omega) ?_
      refine g_run 2 rfl ?_
      refine gz_lt (kx := (hp.1 13 k).toInt) rfl rfl (fun k2 => ?_) (fun k2 => ?_)
      · refine g_run 2 rfl ?_
        refine g_callS0 rfl LX6_44 rfl rfl ?_
        refine c_X6_joins (nI := (-(hp.1 13 k).toInt)) (ia_neg2 rfl (by omega)) (fun k3 => ?_) (fun k4 => ?_)
        · refine gz_eq (kx := 1) rfl (show (1 : Int32).toInt = 1 from by decide) (fun q => absurd q (by decide)) (fun _ => ?_)
          refine g_run 1 rfl ?_
          refine g_callV0 rfl LX6_48 rfl rfl rfl rfl ?_
          refine c_X6_pop_9 (z := z) (by first | exact hz | exact pp1_le hz) ?_
          refine g_run 5 rfl ?_
          refine g_callV0 rfl LX6_48 rfl rfl rfl rfl ?_
          refine c_X6_pop_9 (z := (pp z)) (by first | exact hz | exact pp1_le hz) ?_
          refine g_run 1 rfl ?_
          refine g_callS0 rfl LX6_52 rfl rfl ?_
          refine c_X6_joined (nI := (-(hp.1 13 k).toInt)) (ia_neg2 rfl (by omega)) rfl rfl (by omega) ?_
          refine g_callV0 rfl LX6_41 rfl rfl rfl rfl ?_
          refine c_X6_push_9 (z := (pp (pp z))) (vI := _) rfl (by first | exact hz | exact pp2_le hz) ?_
          refine g_run 3 rfl ?_
          rw [show eI.toNat - k = (eI.toNat - (k + 1)) + 1 by omega, evS] at hE
          have e9 : ev1 (vN hp) (hp.1 13 k) z = (psh (pp (pp z)) (jd (-(hp.1 13 k).toInt) (pv (pp z)) (pv z))) := by simp only [ev1]; repeat (first | rw [if_pos (by omega)] | rw [if_neg (by omega)])
          rw [e9] at hE
          exact ih (k + 1) _ _ _ _ (inc1 iE (by omega)) (by omega) (by first | exact psh_le hz | exact psh_le (pp2_le hz)) hE (by omega)
        · refine gz_eq (kx := 0) rfl (show (0 : Int32).toInt = 0 from by decide) (fun _ => ?_) (fun q => absurd q (by decide))
          refine g_run 4 rfl ?_
          refine g_callV0 rfl LX6_56 rfl rfl rfl rfl ?_
          refine c_X4_valueNow (nI := (-(hp.1 13 k).toInt)) (ia_neg2 rfl (by omega)) hm ?_
          refine g_callV0 rfl LX6_41 rfl rfl rfl rfl ?_
          refine c_X6_push_9 (z := z) (vI := _) rfl (by first | exact hz | exact pp2_le hz) ?_
          refine g_run 2 rfl ?_
          rw [show eI.toNat - k = (eI.toNat - (k + 1)) + 1 by omega, evS] at hE
          have e9 : ev1 (vN hp) (hp.1 13 k) z = (psh z (vN hp (-(hp.1 13 k).toInt))) := by simp only [ev1]; repeat (first | rw [if_pos (by omega)] | rw [if_neg (by omega)])
          rw [e9] at hE
          exact ih (k + 1) _ _ _ _ (inc1 iE (by omega)) (by omega) (by first | exact psh_le hz | exact psh_le (pp2_le hz)) hE (by omega)
      · refine g_run 2 rfl ?_
        refine g_callV0 rfl LX6_41 rfl rfl rfl rfl ?_
        refine c_X6_push_9 (z := z) (vI := _) rfl (by first | exact hz | exact pp2_le hz) ?_
        refine g_run 3 rfl ?_
        rw [show eI.toNat - k = (eI.toNat - (k + 1)) + 1 by omega, evS] at hE
        have e9 : ev1 (vN hp) (hp.1 13 k) z = (psh z (hp.1 13 k)) := by simp only [ev1]; repeat (first | rw [if_pos (by omega)] | rw [if_neg (by omega)])
        rw [e9] at hE
        exact ih (k + 1) _ _ _ _ (inc1 iE (by omega)) (by omega) (by first | exact psh_le hz | exact psh_le (pp2_le hz)) hE (by omega)
theorem c_X6_valueOf_9 {l : Int32} {lI : Int} (lE : l.toInt = lI) (hm : 0 ≤ (hp.1 15 4).toInt ∧ (hp.1 15 4).toInt < 20) (hsp : ∀ i, i < 600 → -20 ≤ (hp.1 13 i).toInt) (hl : 0 ≤ lI ∧ lI < 16) (he : (hp.1 12 lI.toNat).toInt ≤ 600) (hf0 : 0 ≤ (if lI = 0 then 0 else (hp.1 12 (lI - 1).toNat).toInt) ∧ (if lI = 0 then 0 else (hp.1 12 (lI - 1).toNat).toInt) ≤ (hp.1 12 lI.toNat).toInt) (h1 : Q (some (.int (pv (evS (vN hp) (hp.1 13) ((hp.1 12 lI.toNat).toInt - (if lI = 0 then 0 else (hp.1 12 (lI - 1).toNat).toInt)).toNat (if lI = 0 then 0 else (hp.1 12 (lI - 1).toNat).toInt).toNat (hp.1 14, 0))))) (SH b xs) (WX hp 9 (pp (evS (vN hp) (hp.1 13) ((hp.1 12 lI.toNat).toInt - (if lI = 0 then 0 else (hp.1 12 (lI - 1).toNat).toInt)).toNat (if lI = 0 then 0 else (hp.1 12 (lI - 1).toNat).toInt).toNat (hp.1 14, 0))))) : gC mX6_valueOf (d + 2) 0 0 [.ref 9, .int l, .ref 15] (SH b xs) hp Q := by
  refine g_enter okX6_valueOf (plainFor_of_name rfl) rfl ?_
  refine g_run 4 rfl ?_
  refine gz_ne (kx := lI) rfl lE (fun k1 => ?_) (fun k1 => ?_)
  · refine g_run 5 rfl ?_
    refine g_iald (j := (lI - 1).toNat) rfl rfl ((show _ = (lI - 1) from (ia_sub2 lE (by decide) (by omega) (by omega))).trans (by omega)) (by omega) ?_
    refine g_run 3 rfl ?_
    refine gG_hp (wx_id9 (hp := hp)).symm ?_
    rw [if_neg (by omega)] at h1 hf0
    exact lp_X6_valueOf_9 hm hsp lE hl rfl he h1 _ (hp.1 12 (lI - 1).toNat).toInt.toNat _ _ _ _ (show (hp.1 12 (lI - 1).toNat).toInt = _ from by omega) (by omega) (by dsimp only; omega) (by rw [show ((hp.1 12 lI.toNat).toInt - (hp.1 12 (lI - 1).toNat).toInt).toNat = (hp.1 12 lI.toNat).toInt.toNat - (hp.1 12 (lI - 1).toNat).toInt.toNat by omega]) (Nat.lt_succ_self _)
  · refine g_run 5 rfl ?_
    refine gG_hp (wx_id9 (hp := hp)).symm ?_
    rw [if_pos (by omega)] at h1 hf0
    exact lp_X6_valueOf_9 hm hsp lE hl rfl he h1 _ 0 0 _ _ _ (by decide) (by omega) (by dsimp only; omega) (by simp) (Nat.lt_succ_self _)
theorem c_X6_push_37 {v : Int32} {vI : Int} (vE : v.toInt = vI) {z : (Nat → Int32) × Nat} (hn : z.2 ≤ 16) (h1 : Q none (SH b xs) (WX hp 37 (psh z v))) : gC mX6_push d 0 0 [.ref 37, .int v] (SH b xs) (WX hp 37 z) Q := by
  refine g_enter okX6_push (plainFor_of_name rfl) rfl ?_
  refine g_run 3 rfl ?_
  refine gj_ge (kx := ((z.2 : Nat) : Int)) (kz := 16) rfl (nI_toInt (by omega)) (by decide) (fun k1 => ?_) (fun k1 => ?_)
  · rw [psh_n (by omega)] at h1
    exact g_vret rfl rfl h1
  · refine g_run 5 rfl ?_
    refine g_iast (j := ((z.2 : Nat) : Int).toNat) rfl rfl ((show _ = ((z.2 : Nat) : Int) from (nI_toInt (by omega))).trans (by omega)) (by omega) ?_
    refine g_run 6 rfl ?_
    rw [psh_y (by omega), ← wx_put37] at h1
    exact g_vret rfl rfl h1
theorem c_X6_pop_37 {z : (Nat → Int32) × Nat} (hn : z.2 ≤ 16) (h1 : Q (some (.int (pv z))) (SH b xs) (WX hp 37 (pp z))) : gC mX6_pop d 0 0 [.ref 37] (SH b xs) (WX hp 37 z) Q := by
  refine g_enter okX6_pop (plainFor_of_name rfl) rfl ?_
  refine g_run 2 rfl ?_
  refine gz_gt (kx := ((z.2 : Nat) : Int)) rfl (nI_toInt (by omega)) (fun k1 => ?_) (fun k1 => ?_)
  · refine g_run 10 rfl ?_
    refine g_iald (j := (((z.2 : Nat) : Int) - 1).toNat) rfl rfl ((show _ = (((z.2 : Nat) : Int) - 1) from (ia_sub2 (nI_toInt (by omega)) (by decide) (by omega) (by omega))).trans (by omega)) (by omega) ?_
    have e0 : ((z.2 : Nat) : Int) - 1 = ((z.2 - 1 : Nat) : Int) := by omega
    rw [pv_p (by omega)] at h1
    refine g_iret rfl rfl ?_
    rw [show (WX hp 37 z).1 37 7 = nI z.2 from rfl, wx_pop37 (by omega), e0, Int.toNat_natCast]
    exact h1
  · refine g_run 1 rfl ?_
    rw [pv_0 (by omega), pp_0 (by omega)] at h1
    exact g_iret rfl rfl h1
theorem lp_X6_valueOf_37  (hm : 0 ≤ (hp.1 15 4).toInt ∧ (hp.1 15 4).toInt < 20) (hsp : ∀ i, i < 600 → -20 ≤ (hp.1 41 i).toInt) {ln fi : Int32} {lI eI : Int} {E0 : (Nat → Int32) × Nat} (lE : ln.toInt = lI) (hl : 0 ≤ lI ∧ lI < 16) (eE : (hp.1 40 lI.toNat).toInt = eI) (he : eI ≤ 600) (h1 : Q (some (.int (pv E0))) (SH b xs) (WX hp 37 (pp E0))) : ∀ (f k : Nat) (i : Int32) (z : (Nat → Int32) × Nat) (w5 w6 : Value), i.toInt = (k : Int) → (k : Int) ≤ eI → z.2 ≤ 16 → evS (vN hp) (hp.1 41) (eI.toNat - k) k z = E0 → eI.toNat - k < f → gG mX6_valueOf (d + 2) 0 0 (zQ 0 0 Q) 0 0 (25, [.ref 37, .int ln, .ref 15, .int fi, .int i, w5, w6], [], (SH b xs), (WX hp 37 z)) := by
  intro f
  induction f with
  | zero => intros; omega
  | succ f ih =>
    intro k i z w5 w6 iE hk hz hE hf
    have hspk := fun q : k < 600 => hsp k q
    refine g_run 4 rfl ?_
    refine g_iald (j := lI.toNat) rfl rfl ((show _ = lI from lE).trans (by omega)) (by omega) ?_
    refine gj_ge (kx := (k : Int)) (kz := (hp.1 40 lI.toNat).toInt) rfl iE rfl (fun k1 => ?_) (fun k1 => ?_)
    · refine g_run 1 rfl ?_
      refine g_callV0 rfl LX6_48 rfl rfl rfl rfl ?_
      refine c_X6_pop_37 (z := z) (by first | exact hz | exact pp1_le hz) ?_
      rw [show eI.toNat - k = 0 by omega] at hE
      subst hE
      exact g_iret rfl rfl h1
    · refine g_run 3 rfl ?_
      refine g_iald (j := k) rfl rfl ((show _ = (k : Int) from iE).trans (by omega)) (by omega) ?_
      refine g_run 2 rfl ?_
      refine gz_lt (kx := (hp.1 41 k).toInt) rfl rfl (fun k2 => ?_) (fun k2 => ?_)
      · refine g_run 2 rfl ?_
        refine g_callS0 rfl LX6_44 rfl rfl ?_
        refine c_X6_joins (nI := (-(hp.1 41 k).toInt)) (ia_neg2 rfl (by omega)) (fun k3 => ?_) (fun k4 => ?_)
        · refine gz_eq (kx := 1) rfl (show (1 : Int32).toInt = 1 from by decide) (fun q => absurd q (by decide)) (fun _ => ?_)
          refine g_run 1 rfl ?_
          refine g_callV0 rfl LX6_48 rfl rfl rfl rfl ?_
          refine c_X6_pop_37 (z := z) (by first | exact hz | exact pp1_le hz) ?_
          refine g_run 5 rfl ?_
          refine g_callV0 rfl LX6_48 rfl rfl rfl rfl ?_
          refine c_X6_pop_37 (z := (pp z)) (by first | exact hz | exact pp1_le hz) ?_
          refine g_run 1 rfl ?_
          refine g_callS0 rfl LX6_52 rfl rfl ?_
          refine c_X6_joined (nI := (-(hp.1 41 k).toInt)) (ia_neg2 rfl (by omega)) rfl rfl (by omega) ?_
          refine g_callV0 rfl LX6_41 rfl rfl rfl rfl ?_
          refine c_X6_push_37 (z := (pp (pp z))) (vI := _) rfl (by first | exact hz | exact pp2_le hz) ?_
          refine g_run 3 rfl ?_
          rw [show eI.toNat - k = (eI.toNat - (k + 1)) + 1 by omega, evS] at hE
          have e9 : ev1 (vN hp) (hp.1 41 k) z = (psh (pp (pp z)) (jd (-(hp.1 41 k).toInt) (pv (pp z)) (pv z))) := by simp only [ev1]; repeat (first | rw [if_pos (by omega)] | rw [if_neg (by omega)])
          rw [e9] at hE
          exact ih (k + 1) _ _ _ _ (inc1 iE (by omega)) (by omega) (by first | exact psh_le hz | exact psh_le (pp2_le hz)) hE (by omega)
        · refine gz_eq (kx := 0) rfl (show (0 : Int32).toInt = 0 from by decide) (fun _ => ?_) (fun q => absurd q (by decide))
          refine g_run 4 rfl ?_
          refine g_callV0 rfl LX6_56 rfl rfl rfl rfl ?_
          refine c_X4_valueNow (nI := (-(hp.1 41 k).toInt)) (ia_neg2 rfl (by omega)) hm ?_
          refine g_callV0 rfl LX6_41 rfl rfl rfl rfl ?_
          refine c_X6_push_37 (z := z) (vI := _) rfl (by first | exact hz | exact pp2_le hz) ?_
          refine g_run 2 rfl ?_
          rw [show eI.toNat - k = (eI.toNat - (k + 1)) + 1 by omega, evS] at hE
          have e9 : ev1 (vN hp) (hp.1 41 k) z = (psh z (vN hp (-(hp.1 41 k).toInt))) := by simp only [ev1]; repeat (first | rw [if_pos (by omega)] | rw [if_neg (by omega)])
          rw [e9] at hE
          exact ih (k + 1) _ _ _ _ (inc1 iE (by omega)) (by omega) (by first | exact psh_le hz | exact psh_le (pp2_le hz)) hE (by omega)
      · refine g_run 2 rfl ?_
        refine g_callV0 rfl LX6_41 rfl rfl rfl rfl ?_
        refine c_X6_push_37 (z := z) (vI := _) rfl (by first | exact hz | exact pp2_le hz) ?_
        refine g_run 3 rfl ?_
        rw [show eI.toNat - k = (eI.toNat - (k + 1)) + 1 by omega, evS] at hE
        have e9 : ev1 (vN hp) (hp.1 41 k) z = (psh z (hp.1 41 k)) := by simp only [ev1]; repeat (first | rw [if_pos (by omega)] | rw [if_neg (by omega)])
        rw [e9] at hE
        exact ih (k + 1) _ _ _ _ (inc1 iE (by omega)) (by omega) (by first | exact psh_le hz | exact psh_le (pp2_le hz)) hE (by omega)
theorem c_X6_valueOf_37 {l : Int32} {lI : Int} (lE : l.toInt = lI) (hm : 0 ≤ (hp.1 15 4).toInt ∧ (hp.1 15 4).toInt < 20) (hsp : ∀ i, i < 600 → -20 ≤ (hp.1 41 i).toInt) (hl : 0 ≤ lI ∧ lI < 16) (he : (hp.1 40 lI.toNat).toInt ≤ 600) (hf0 : 0 ≤ (if lI = 0 then 0 else (hp.1 40 (lI - 1).toNat).toInt) ∧ (if lI = 0 then 0 else (hp.1 40 (lI - 1).toNat).toInt) ≤ (hp.1 40 lI.toNat).toInt) (h1 : Q (some (.int (pv (evS (vN hp) (hp.1 41) ((hp.1 40 lI.toNat).toInt - (if lI = 0 then 0 else (hp.1 40 (lI - 1).toNat).toInt)).toNat (if lI = 0 then 0 else (hp.1 40 (lI - 1).toNat).toInt).toNat (hp.1 42, 0))))) (SH b xs) (WX hp 37 (pp (evS (vN hp) (hp.1 41) ((hp.1 40 lI.toNat).toInt - (if lI = 0 then 0 else (hp.1 40 (lI - 1).toNat).toInt)).toNat (if lI = 0 then 0 else (hp.1 40 (lI - 1).toNat).toInt).toNat (hp.1 42, 0))))) : gC mX6_valueOf (d + 2) 0 0 [.ref 37, .int l, .ref 15] (SH b xs) hp Q := by
  refine g_enter okX6_valueOf (plainFor_of_name rfl) rfl ?_
  refine g_run 4 rfl ?_
  refine gz_ne (kx := lI) rfl lE (fun k1 => ?_) (fun k1 => ?_)
  · refine g_run 5 rfl ?_
    refine g_iald (j := (lI - 1).toNat) rfl rfl ((show _ = (lI - 1) from (ia_sub2 lE (by decide) (by omega) (by omega))).trans (by omega)) (by omega) ?_
    refine g_run 3 rfl ?_
    refine gG_hp (wx_id37 (hp := hp)).symm ?_
    rw [if_neg (by omega)] at h1 hf0
    exact lp_X6_valueOf_37 hm hsp lE hl rfl he h1 _ (hp.1 40 (lI - 1).toNat).toInt.toNat _ _ _ _ (show (hp.1 40 (lI - 1).toNat).toInt = _ from by omega) (by omega) (by dsimp only; omega) (by rw [show ((hp.1 40 lI.toNat).toInt - (hp.1 40 (lI - 1).toNat).toInt).toNat = (hp.1 40 lI.toNat).toInt.toNat - (hp.1 40 (lI - 1).toNat).toInt.toNat by omega]) (Nat.lt_succ_self _)
  · refine g_run 5 rfl ?_
    refine gG_hp (wx_id37 (hp := hp)).symm ?_
    rw [if_pos (by omega)] at h1 hf0
    exact lp_X6_valueOf_37 hm hsp lE hl rfl he h1 _ 0 0 _ _ _ (by decide) (by omega) (by dsimp only; omega) (by simp) (Nat.lt_succ_self _)
end S24
end
section
/-! a roast in the class -/
def clmp (x : Int32) : Int32 := if x.toInt < 20 then 20 else if 400 < x.toInt then 400 else x
theorem clmp_lo {x : Int32} (h : x.toInt ≤ 20) : clmp x = 20 := by
  unfold clmp
  split
  · rfl
  · rw [if_neg (by omega), ia_eq]
    have : (20 : Int32).toInt = 20 := by decide
    omega
theorem clmp_hi {x : Int32} (h : 400 ≤ x.toInt) : clmp x = 400 := by
  unfold clmp
  rw [if_neg (by omega)]
  split
  · rfl
  · rw [ia_eq]
    have : (400 : Int32).toInt = 400 := by decide
    omega
theorem clmp_in {x : Int32} (h : 20 ≤ x.toInt) (h2 : x.toInt ≤ 400) : clmp x = x := by
  unfold clmp
  rw [if_neg (by omega), if_neg (by omega)]
/-- the roaster's fire, drum and whether it was dropped -/
def FQ (hp : hp_T) (q : Int32 × Int32 × Int32) : hp_T := sI (sI (sI hp 15 6 q.1) 15 7 q.2.1) 15 10 q.2.2
def pL (l : List Int32) (v : Int32) : List Int32 := if l.length < 16 then v :: l else l
def evL1 (vn : Int → Int32) (s : Int32) (l : List Int32) : List Int32 := if 0 ≤ s.toInt then pL l s else if -s.toInt = 7 ∨ (15 ≤ -s.toInt ∧ -s.toInt ≤ 18) then pL (l.drop 2) (jd (-s.toInt) ((l.drop 1).headD 0) (l.headD 0)) else pL l (vn (-s.toInt))
def evLS (vn : Int → Int32) (sp : Nat → Int32) : Nat → Nat → List Int32 → List Int32
  | 0, _, l => l
  | f + 1, i, l => evLS vn sp f (i + 1) (evL1 vn (sp i) l)
/-- the array with its count holds the list, the last one first -/
def stk (z : (Nat → Int32) × Nat) (l : List Int32) : Prop := l.length = z.2 ∧ ∀ j, j < z.2 → l[j]? = some (z.1 (z.2 - 1 - j))
theorem stk_0 {w : Nat → Int32} : stk (w, 0) [] := ⟨rfl, fun j h => by simp at h⟩
theorem stk_psh {z : (Nat → Int32) × Nat} {l : List Int32} {v : Int32} (h : stk z l) : stk (psh z v) (pL l v) := by
  unfold psh pL
  rw [h.1]
  split
  · refine ⟨by simp [h.1], fun j hj => ?_⟩
    cases j with
    | zero => simp [va_up]
    | succ j =>
      have h1 := h.2 j (by simpa using hj)
      have e : z.2 + 1 - 1 - (j + 1) = z.2 - 1 - j := by omega
      have e2 : ¬ (z.2 - 1 - j = z.2) := by have : j < z.2 := by simpa using hj
                                            omega
      simp only [List.getElem?_cons_succ, h1, e, va_up, e2, if_false]
  · exact h
theorem stk_pp {z : (Nat → Int32) × Nat} {l : List Int32} (h : stk z l) : stk (pp z) (l.drop 1) := by
  refine ⟨by simp [h.1, pp], fun j hj => ?_⟩
  simp only [pp] at hj ⊢
  rw [List.getElem?_drop, h.2 (1 + j) (by omega), show z.2 - 1 - (1 + j) = z.2 - 1 - 1 - j by omega]
theorem stk_pv {z : (Nat → Int32) × Nat} {l : List Int32} (h : stk z l) : pv z = l.headD 0 := by
  unfold pv
  by_cases h0 : z.2 = 0
  · rw [if_pos h0]
    have : l = [] := List.eq_nil_of_length_eq_zero (by rw [h.1, h0])
    simp [this]
  · rw [if_neg h0]
    have h1 := h.2 0 (by omega)
    cases l with
    | nil => simp at h1
    | cons a r => simp at h1 ⊢; exact h1.symm
theorem stk_ev {vn : Int → Int32} {s : Int32} {z : (Nat → Int32) × Nat} {l : List Int32} (h : stk z l) : stk (ev1 vn s z) (evL1 vn s l) := by
  unfold ev1 evL1
  split
  · exact stk_psh h
  · split
    · have h2 := stk_pp (stk_pp h)
      rw [List.drop_drop] at h2
      rw [stk_pv h, stk_pv (stk_pp h)]
      exact stk_psh h2
    · exact stk_psh h
theorem stk_evS {vn : Int → Int32} {sp : Nat → Int32} : ∀ (f i : Nat) (z : (Nat → Int32) × Nat) (l : List Int32), stk z l → stk (evS vn sp f i z) (evLS vn sp f i l)
  | 0, _, _, _, h => h
  | f + 1, i, _, _, h => stk_evS f (i + 1) _ _ (stk_ev h)
def valX (vn : Int → Int32) (sp : Nat → Int32) (f i : Nat) : Int32 := (evLS vn sp f i []).headD 0
theorem val_ok {vn : Int → Int32} {sp w : Nat → Int32} {f i : Nat} : pv (evS vn sp f i (w, 0)) = valX vn sp f i := stk_pv (stk_evS f i _ _ stk_0)
section S25
variable {d : Nat} {sh : sh_T} {hp : hp_T} {Q : Option Value → sh_T → hp_T → Prop} {b : Bool} {xs : sh_T}
theorem c_X4_doAct {a : Int32} {aI : Int} {m : Int32} {mI : Int} (aE : a.toInt = aI) (mE : m.toInt = mI) (h1 : aI = 3 → Q none (SH b xs) (sI hp 15 6 m)) (h2 : aI = 4 → Q none (SH b xs) (sI hp 15 7 m)) (h3 : aI ≠ 3 ∧ aI ≠ 4 → Q none (SH b xs) (sI hp 15 10 1)) : gC mX4_doAct d 0 0 [.ref 15, .int a, .int m] (SH b xs) hp Q := by
  refine g_enter okX4_doAct (plainFor_of_name rfl) rfl ?_
  refine g_run 2 rfl ?_
  refine gj_ne (kx := aI) (kz := 3) rfl aE (by decide) (fun k1 => ?_) (fun k1 => ?_)
  · refine g_run 2 rfl ?_
    refine gj_ne (kx := aI) (kz := 4) rfl aE (by decide) (fun k2 => ?_) (fun k2 => ?_)
    · refine g_run 2 rfl ?_
      refine g_putZ rfl rfl rfl rfl (by decide) ?_
      exact g_vret rfl rfl (by first | exact h1 (by omega) | exact h2 (by omega) | exact h3 (by omega))
    · refine g_run 4 rfl ?_
      exact g_vret rfl rfl (by first | exact h1 (by omega) | exact h2 (by omega) | exact h3 (by omega))
  · refine g_run 4 rfl ?_
    exact g_vret rfl rfl (by first | exact h1 (by omega) | exact h2 (by omega) | exact h3 (by omega))
theorem c_X4_start {g : Int32} {gI : Int} (gE : g.toInt = gI) (h1 : Q none (SH b xs) (sI (sI (sI (sI (sI (sI (sI (sI (sI (sI hp 15 3 g) 15 4 0) 15 5 200) 15 6 5) 15 7 5) 15 8 0) 15 9 0) 15 10 0) 15 11 0) 15 0 0)) : gC mX4_start d 0 0 [.ref 15, .int g] (SH b xs) hp Q := by
  refine g_enter okX4_start (plainFor_of_name rfl) rfl ?_
  refine g_run 23 rfl ?_
  refine g_putZ rfl rfl rfl rfl (by decide) ?_
  refine g_run 6 rfl ?_
  exact g_vret rfl rfl h1
theorem c_X4_grow (h1 : Q none (SH b xs) (sI (sI (sI hp 15 8 ((clmp ((hp.1 15 5) + 4 * (hp.1 15 6) - ((hp.1 15 5) - 20) / 20 - (hp.1 15 7))) - (hp.1 15 5))) 15 5 (clmp ((hp.1 15 5) + 4 * (hp.1 15 6) - ((hp.1 15 5) - 20) / 20 - (hp.1 15 7)))) 15 9 (hp.1 15 9 + 1))) : gC mX4_grow (d + 1) 0 0 [.ref 15] (SH b xs) hp Q := by
  refine g_enter okX4_grow (plainFor_of_name rfl) rfl ?_
  refine g_run 12 rfl ?_
  refine g_idiv rfl (by first | decide | (intro q; rw [ia_eq] at q; simp at q; omega)) ?_
  refine g_run 8 rfl ?_
  refine g_callS0 rfl LX4_81 rfl rfl ?_
  refine c_J9_min_7cf53 (xI := 400) (zI := ((((hp.1 15 5) + (4 * (hp.1 15 6))) - (((hp.1 15 5) - 20) / 20)) - (hp.1 15 7)).toInt) (by decide) rfl (fun k1 => ?_) (fun k2 => ?_)
  · refine g_callS0 rfl LX4_70 rfl rfl ?_
    refine c_J9_max_7cf53 (xI := 20) (zI := 400) (by decide) (by decide) (fun k3 => ?_) (fun k4 => ?_)
    · refine g_run 16 rfl ?_
      first | (rw [clmp_lo (by omega)] at h1; exact g_vret rfl rfl h1) | (rw [clmp_hi (by omega)] at h1; exact g_vret rfl rfl h1) | (rw [clmp_in (by omega) (by omega)] at h1; exact g_vret rfl rfl h1)
    · refine g_run 16 rfl ?_
      first | (rw [clmp_lo (by omega)] at h1; exact g_vret rfl rfl h1) | (rw [clmp_hi (by omega)] at h1; exact g_vret rfl rfl h1) | (rw [clmp_in (by omega) (by omega)] at h1; exact g_vret rfl rfl h1)
  · refine g_callS0 rfl LX4_70 rfl rfl ?_
    refine c_J9_max_7cf53 (xI := 20) (zI := ((((hp.1 15 5) + (4 * (hp.1 15 6))) - (((hp.1 15 5) - 20) / 20)) - (hp.1 15 7)).toInt) (by decide) rfl (fun k5 => ?_) (fun k6 => ?_)
    · refine g_run 16 rfl ?_
      first | (rw [clmp_lo (by omega)] at h1; exact g_vret rfl rfl h1) | (rw [clmp_hi (by omega)] at h1; exact g_vret rfl rfl h1) | (rw [clmp_in (by omega) (by omega)] at h1; exact g_vret rfl rfl h1)
    · refine g_run 16 rfl ?_
      first | (rw [clmp_lo (by omega)] at h1; exact g_vret rfl rfl h1) | (rw [clmp_hi (by omega)] at h1; exact g_vret rfl rfl h1) | (rw [clmp_in (by omega) (by omega)] at h1; exact g_vret rfl rfl h1)
end S25
end
