section
-- ===== PART A: goes FIRST, ahead of the names: the tables' words, and 'selects' of the private methods out of them =====
/-- a private method of a class that the tables say can be made, by its rows of tables_1 -/
def lw_okq (q : MethodName × Nat) : Prop := (q.1.cls ≠ "java/lang/invoke/MethodHandle" ∧ q.1.cls ≠ "java/lang/invoke/VarHandle") ∧ Cond.instantiable q.1.cls q.2 ∈ tables_1 ∧ Cond.privateMethod q.1 ∈ tables_1 ∧ Cond.instanceMethod q.1 ∈ tables_1
theorem lw_p0 : lw_okq (⟨"RoastHouse$Roaster", "start", "(I)V"⟩, 12) := ⟨⟨by decide +kernel, by decide +kernel⟩, List.mem_of_getElem? (i := 158) (by decide +kernel), List.mem_of_getElem? (i := 167) (by decide +kernel), List.mem_of_getElem? (i := 168) (by decide +kernel)⟩
theorem lw_p1 : lw_okq (⟨"RoastHouse$Tape", "addSign", "(I)V"⟩, 2) := ⟨⟨by decide +kernel, by decide +kernel⟩, List.mem_of_getElem? (i := 60) (by decide +kernel), List.mem_of_getElem? (i := 375) (by decide +kernel), List.mem_of_getElem? (i := 376) (by decide +kernel)⟩
theorem lw_p2 : lw_okq (⟨"RoastHouse$Tokens", "skipBlanks", "()V"⟩, 5) := ⟨⟨by decide +kernel, by decide +kernel⟩, List.mem_of_getElem? (i := 83) (by decide +kernel), List.mem_of_getElem? (i := 397) (by decide +kernel), List.mem_of_getElem? (i := 398) (by decide +kernel)⟩
theorem lw_p3 : lw_okq (⟨"RoastHouse$Tokens", "goBehindWord", "()V"⟩, 5) := ⟨⟨by decide +kernel, by decide +kernel⟩, List.mem_of_getElem? (i := 83) (by decide +kernel), List.mem_of_getElem? (i := 408) (by decide +kernel), List.mem_of_getElem? (i := 409) (by decide +kernel)⟩
theorem lw_p4 : lw_okq (⟨"RoastHouse$Tokens", "kindOfWord", "(I)I"⟩, 5) := ⟨⟨by decide +kernel, by decide +kernel⟩, List.mem_of_getElem? (i := 83) (by decide +kernel), List.mem_of_getElem? (i := 412) (by decide +kernel), List.mem_of_getElem? (i := 413) (by decide +kernel)⟩
theorem lw_p5 : lw_okq (⟨"RoastHouse$Tokens", "isWord", "(Ljava/lang/String;)Z"⟩, 5) := ⟨⟨by decide +kernel, by decide +kernel⟩, List.mem_of_getElem? (i := 83) (by decide +kernel), List.mem_of_getElem? (i := 417) (by decide +kernel), List.mem_of_getElem? (i := 418) (by decide +kernel)⟩
theorem lw_p6 : lw_okq (⟨"RoastHouse$Tokens", "readNumber", "()V"⟩, 5) := ⟨⟨by decide +kernel, by decide +kernel⟩, List.mem_of_getElem? (i := 83) (by decide +kernel), List.mem_of_getElem? (i := 481) (by decide +kernel), List.mem_of_getElem? (i := 482) (by decide +kernel)⟩
theorem lw_p7 : lw_okq (⟨"RoastHouse$RuleReader", "readLine", "()Z"⟩, 3) := ⟨⟨by decide +kernel, by decide +kernel⟩, List.mem_of_getElem? (i := 77) (by decide +kernel), List.mem_of_getElem? (i := 488) (by decide +kernel), List.mem_of_getElem? (i := 489) (by decide +kernel)⟩
theorem lw_p8 : lw_okq (⟨"RoastHouse$RuleReader", "wrong", "(I)Z"⟩, 3) := ⟨⟨by decide +kernel, by decide +kernel⟩, List.mem_of_getElem? (i := 77) (by decide +kernel), List.mem_of_getElem? (i := 492) (by decide +kernel), List.mem_of_getElem? (i := 493) (by decide +kernel)⟩
theorem lw_p9 : lw_okq (⟨"RoastHouse$RuleReader", "passAmount", "()Z"⟩, 3) := ⟨⟨by decide +kernel, by decide +kernel⟩, List.mem_of_getElem? (i := 77) (by decide +kernel), List.mem_of_getElem? (i := 496) (by decide +kernel), List.mem_of_getElem? (i := 497) (by decide +kernel)⟩
theorem lw_p10 : lw_okq (⟨"RoastHouse$RuleReader", "pass", "(I)Z"⟩, 3) := ⟨⟨by decide +kernel, by decide +kernel⟩, List.mem_of_getElem? (i := 77) (by decide +kernel), List.mem_of_getElem? (i := 500) (by decide +kernel), List.mem_of_getElem? (i := 501) (by decide +kernel)⟩
theorem lw_p11 : lw_okq (⟨"RoastHouse$RuleReader", "readTests", "(I)Z"⟩, 3) := ⟨⟨by decide +kernel, by decide +kernel⟩, List.mem_of_getElem? (i := 77) (by decide +kernel), List.mem_of_getElem? (i := 504) (by decide +kernel), List.mem_of_getElem? (i := 505) (by decide +kernel)⟩
theorem lw_p12 : lw_okq (⟨"RoastHouse$RuleReader", "readTest", "(I)Z"⟩, 3) := ⟨⟨by decide +kernel, by decide +kernel⟩, List.mem_of_getElem? (i := 77) (by decide +kernel), List.mem_of_getElem? (i := 508) (by decide +kernel), List.mem_of_getElem? (i := 509) (by decide +kernel)⟩
theorem lw_p13 : lw_okq (⟨"RoastHouse$RuleReader", "readSum", "(I)Z"⟩, 3) := ⟨⟨by decide +kernel, by decide +kernel⟩, List.mem_of_getElem? (i := 77) (by decide +kernel), List.mem_of_getElem? (i := 512) (by decide +kernel), List.mem_of_getElem? (i := 513) (by decide +kernel)⟩
theorem lw_p14 : lw_okq (⟨"RoastHouse$RuleReader", "readPart", "(I)Z"⟩, 3) := ⟨⟨by decide +kernel, by decide +kernel⟩, List.mem_of_getElem? (i := 77) (by decide +kernel), List.mem_of_getElem? (i := 516) (by decide +kernel), List.mem_of_getElem? (i := 517) (by decide +kernel)⟩
theorem lw_p15 : lw_okq (⟨"RoastHouse$Roaster", "goThrough", "(LRoastHouse$Rules;)V"⟩, 12) := ⟨⟨by decide +kernel, by decide +kernel⟩, List.mem_of_getElem? (i := 158) (by decide +kernel), List.mem_of_getElem? (i := 565) (by decide +kernel), List.mem_of_getElem? (i := 566) (by decide +kernel)⟩
def lw_privs_1 : List (MethodName × Nat) := [(⟨"RoastHouse$Roaster", "start", "(I)V"⟩, 12), (⟨"RoastHouse$Tape", "addSign", "(I)V"⟩, 2), (⟨"RoastHouse$Tokens", "skipBlanks", "()V"⟩, 5), (⟨"RoastHouse$Tokens", "goBehindWord", "()V"⟩, 5), (⟨"RoastHouse$Tokens", "kindOfWord", "(I)I"⟩, 5), (⟨"RoastHouse$Tokens", "isWord", "(Ljava/lang/String;)Z"⟩, 5), (⟨"RoastHouse$Tokens", "readNumber", "()V"⟩, 5), (⟨"RoastHouse$RuleReader", "readLine", "()Z"⟩, 3), (⟨"RoastHouse$RuleReader", "wrong", "(I)Z"⟩, 3), (⟨"RoastHouse$RuleReader", "passAmount", "()Z"⟩, 3), (⟨"RoastHouse$RuleReader", "pass", "(I)Z"⟩, 3), (⟨"RoastHouse$RuleReader", "readTests", "(I)Z"⟩, 3), (⟨"RoastHouse$RuleReader", "readTest", "(I)Z"⟩, 3), (⟨"RoastHouse$RuleReader", "readSum", "(I)Z"⟩, 3), (⟨"RoastHouse$RuleReader", "readPart", "(I)Z"⟩, 3), (⟨"RoastHouse$Roaster", "goThrough", "(LRoastHouse$Rules;)V"⟩, 12)]
theorem lw_r1 : ∀ q ∈ lw_privs_1, lw_okq q := List.forall_mem_cons.mpr ⟨lw_p0, List.forall_mem_cons.mpr ⟨lw_p1, List.forall_mem_cons.mpr ⟨lw_p2, List.forall_mem_cons.mpr ⟨lw_p3, List.forall_mem_cons.mpr ⟨lw_p4, List.forall_mem_cons.mpr ⟨lw_p5, List.forall_mem_cons.mpr ⟨lw_p6, List.forall_mem_cons.mpr ⟨lw_p7, List.forall_mem_cons.mpr ⟨lw_p8, List.forall_mem_cons.mpr ⟨lw_p9, List.forall_mem_cons.mpr ⟨lw_p10, List.forall_mem_cons.mpr ⟨lw_p11, List.forall_mem_cons.mpr ⟨lw_p12, List.forall_mem_cons.mpr ⟨lw_p13, List.forall_mem_cons.mpr ⟨lw_p14, List.forall_mem_cons.mpr ⟨lw_p15, fun _ h => absurd h List.not_mem_nil⟩⟩⟩⟩⟩⟩⟩⟩⟩⟩⟩⟩⟩⟩⟩⟩
theorem lw_p16 : lw_okq (⟨"RoastHouse$Rules", "push", "(I)V"⟩, 8) := ⟨⟨by decide +kernel, by decide +kernel⟩, List.mem_of_getElem? (i := 112) (by decide +kernel), List.mem_of_getElem? (i := 573) (by decide +kernel), List.mem_of_getElem? (i := 574) (by decide +kernel)⟩
theorem lw_p17 : lw_okq (⟨"RoastHouse$Rules", "pop", "()I"⟩, 8) := ⟨⟨by decide +kernel, by decide +kernel⟩, List.mem_of_getElem? (i := 112) (by decide +kernel), List.mem_of_getElem? (i := 581) (by decide +kernel), List.mem_of_getElem? (i := 582) (by decide +kernel)⟩
theorem lw_p18 : lw_okq (⟨"RoastHouse$Roaster", "doAct", "(II)V"⟩, 12) := ⟨⟨by decide +kernel, by decide +kernel⟩, List.mem_of_getElem? (i := 158) (by decide +kernel), List.mem_of_getElem? (i := 592) (by decide +kernel), List.mem_of_getElem? (i := 593) (by decide +kernel)⟩
theorem lw_p19 : lw_okq (⟨"RoastHouse$Roaster", "grow", "()V"⟩, 12) := ⟨⟨by decide +kernel, by decide +kernel⟩, List.mem_of_getElem? (i := 158) (by decide +kernel), List.mem_of_getElem? (i := 596) (by decide +kernel), List.mem_of_getElem? (i := 597) (by decide +kernel)⟩
theorem lw_p20 : lw_okq (⟨"RoastHouse$Bags", "addEmpty", "(I)I"⟩, 9) := ⟨⟨by decide +kernel, by decide +kernel⟩, List.mem_of_getElem? (i := 209) (by decide +kernel), List.mem_of_getElem? (i := 605) (by decide +kernel), List.mem_of_getElem? (i := 606) (by decide +kernel)⟩
theorem lw_p21 : lw_okq (⟨"RoastHouse$Bags", "pour", "(III)V"⟩, 9) := ⟨⟨by decide +kernel, by decide +kernel⟩, List.mem_of_getElem? (i := 209) (by decide +kernel), List.mem_of_getElem? (i := 638) (by decide +kernel), List.mem_of_getElem? (i := 639) (by decide +kernel)⟩
theorem lw_p22 : lw_okq (⟨"RoastHouse$Bags", "shareOut", "(II)V"⟩, 9) := ⟨⟨by decide +kernel, by decide +kernel⟩, List.mem_of_getElem? (i := 209) (by decide +kernel), List.mem_of_getElem? (i := 642) (by decide +kernel), List.mem_of_getElem? (i := 643) (by decide +kernel)⟩
theorem lw_p23 : lw_okq (⟨"RoastHouse$Bags", "lotOfGreatestRest", "()I"⟩, 9) := ⟨⟨by decide +kernel, by decide +kernel⟩, List.mem_of_getElem? (i := 209) (by decide +kernel), List.mem_of_getElem? (i := 651) (by decide +kernel), List.mem_of_getElem? (i := 652) (by decide +kernel)⟩
theorem lw_p24 : lw_okq (⟨"RoastHouse$Cups", "weigh", "(I)Z"⟩, 4) := ⟨⟨by decide +kernel, by decide +kernel⟩, List.mem_of_getElem? (i := 248) (by decide +kernel), List.mem_of_getElem? (i := 690) (by decide +kernel), List.mem_of_getElem? (i := 691) (by decide +kernel)⟩
theorem lw_p25 : lw_okq (⟨"RoastHouse$Cups", "toldMarkedBy", "(I)I"⟩, 4) := ⟨⟨by decide +kernel, by decide +kernel⟩, List.mem_of_getElem? (i := 248) (by decide +kernel), List.mem_of_getElem? (i := 694) (by decide +kernel), List.mem_of_getElem? (i := 695) (by decide +kernel)⟩
theorem lw_p26 : lw_okq (⟨"RoastHouse$Cups", "isToldAndMarked", "(II)Z"⟩, 4) := ⟨⟨by decide +kernel, by decide +kernel⟩, List.mem_of_getElem? (i := 248) (by decide +kernel), List.mem_of_getElem? (i := 698) (by decide +kernel), List.mem_of_getElem? (i := 699) (by decide +kernel)⟩
theorem lw_p27 : lw_okq (⟨"RoastHouse$Cups", "excessOf", "(I)I"⟩, 4) := ⟨⟨by decide +kernel, by decide +kernel⟩, List.mem_of_getElem? (i := 248) (by decide +kernel), List.mem_of_getElem? (i := 702) (by decide +kernel), List.mem_of_getElem? (i := 703) (by decide +kernel)⟩
theorem lw_p28 : lw_okq (⟨"RoastHouse$Blender", "gather", "(LRoastHouse$GreenStore;II)V"⟩, 10) := ⟨⟨by decide +kernel, by decide +kernel⟩, List.mem_of_getElem? (i := 268) (by decide +kernel), List.mem_of_getElem? (i := 746) (by decide +kernel), List.mem_of_getElem? (i := 747) (by decide +kernel)⟩
theorem lw_p29 : lw_okq (⟨"RoastHouse$Blender", "tryMember", "(LRoastHouse$GreenStore;III)V"⟩, 10) := ⟨⟨by decide +kernel, by decide +kernel⟩, List.mem_of_getElem? (i := 268) (by decide +kernel), List.mem_of_getElem? (i := 751) (by decide +kernel), List.mem_of_getElem? (i := 752) (by decide +kernel)⟩
theorem lw_p30 : lw_okq (⟨"RoastHouse$Blender", "tastesFit", "(LRoastHouse$GreenStore;)Z"⟩, 10) := ⟨⟨by decide +kernel, by decide +kernel⟩, List.mem_of_getElem? (i := 268) (by decide +kernel), List.mem_of_getElem? (i := 755) (by decide +kernel), List.mem_of_getElem? (i := 756) (by decide +kernel)⟩
theorem lw_p31 : lw_okq (⟨"RoastHouse$Blender", "keepAsLatest", "()V"⟩, 10) := ⟨⟨by decide +kernel, by decide +kernel⟩, List.mem_of_getElem? (i := 268) (by decide +kernel), List.mem_of_getElem? (i := 762) (by decide +kernel), List.mem_of_getElem? (i := 763) (by decide +kernel)⟩
def lw_privs_2 : List (MethodName × Nat) := [(⟨"RoastHouse$Rules", "push", "(I)V"⟩, 8), (⟨"RoastHouse$Rules", "pop", "()I"⟩, 8), (⟨"RoastHouse$Roaster", "doAct", "(II)V"⟩, 12), (⟨"RoastHouse$Roaster", "grow", "()V"⟩, 12), (⟨"RoastHouse$Bags", "addEmpty", "(I)I"⟩, 9), (⟨"RoastHouse$Bags", "pour", "(III)V"⟩, 9), (⟨"RoastHouse$Bags", "shareOut", "(II)V"⟩, 9), (⟨"RoastHouse$Bags", "lotOfGreatestRest", "()I"⟩, 9), (⟨"RoastHouse$Cups", "weigh", "(I)Z"⟩, 4), (⟨"RoastHouse$Cups", "toldMarkedBy", "(I)I"⟩, 4), (⟨"RoastHouse$Cups", "isToldAndMarked", "(II)Z"⟩, 4), (⟨"RoastHouse$Cups", "excessOf", "(I)I"⟩, 4), (⟨"RoastHouse$Blender", "gather", "(LRoastHouse$GreenStore;II)V"⟩, 10), (⟨"RoastHouse$Blender", "tryMember", "(LRoastHouse$GreenStore;III)V"⟩, 10), (⟨"RoastHouse$Blender", "tastesFit", "(LRoastHouse$GreenStore;)Z"⟩, 10), (⟨"RoastHouse$Blender", "keepAsLatest", "()V"⟩, 10)]
theorem lw_r2 : ∀ q ∈ lw_privs_2, lw_okq q := List.forall_mem_cons.mpr ⟨lw_p16, List.forall_mem_cons.mpr ⟨lw_p17, List.forall_mem_cons.mpr ⟨lw_p18, List.forall_mem_cons.mpr ⟨lw_p19, List.forall_mem_cons.mpr ⟨lw_p20, List.forall_mem_cons.mpr ⟨lw_p21, List.forall_mem_cons.mpr ⟨lw_p22, List.forall_mem_cons.mpr ⟨lw_p23, List.forall_mem_cons.mpr ⟨lw_p24, List.forall_mem_cons.mpr ⟨lw_p25, List.forall_mem_cons.mpr ⟨lw_p26, List.forall_mem_cons.mpr ⟨lw_p27, List.forall_mem_cons.mpr ⟨lw_p28, List.forall_mem_cons.mpr ⟨lw_p29, List.forall_mem_cons.mpr ⟨lw_p30, List.forall_mem_cons.mpr ⟨lw_p31, fun _ h => absurd h List.not_mem_nil⟩⟩⟩⟩⟩⟩⟩⟩⟩⟩⟩⟩⟩⟩⟩⟩
theorem lw_p32 : lw_okq (⟨"java/lang/Throwable", "fillInStackTrace", "(I)Ljava/lang/Throwable;"⟩, 6) := ⟨⟨by decide +kernel, by decide +kernel⟩, List.mem_of_getElem? (i := 858) (by decide +kernel), List.mem_of_getElem? (i := 856) (by decide +kernel), List.mem_of_getElem? (i := 857) (by decide +kernel)⟩
theorem lw_p33 : lw_okq (⟨"RoastHouseModel", "lay", "(J)V"⟩, 60) := ⟨⟨by decide +kernel, by decide +kernel⟩, List.mem_of_getElem? (i := 897) (by decide +kernel), List.mem_of_getElem? (i := 895) (by decide +kernel), List.mem_of_getElem? (i := 896) (by decide +kernel)⟩
theorem lw_p34 : lw_okq (⟨"RoastHouseModel", "cutAll", "()V"⟩, 60) := ⟨⟨by decide +kernel, by decide +kernel⟩, List.mem_of_getElem? (i := 897) (by decide +kernel), List.mem_of_getElem? (i := 1101) (by decide +kernel), List.mem_of_getElem? (i := 1102) (by decide +kernel)⟩
theorem lw_p35 : lw_okq (⟨"RoastHouseModel", "line", "()V"⟩, 60) := ⟨⟨by decide +kernel, by decide +kernel⟩, List.mem_of_getElem? (i := 897) (by decide +kernel), List.mem_of_getElem? (i := 1120) (by decide +kernel), List.mem_of_getElem? (i := 1121) (by decide +kernel)⟩
theorem lw_p36 : lw_okq (⟨"RoastHouseModel", "isWord", "(I)Z"⟩, 60) := ⟨⟨by decide +kernel, by decide +kernel⟩, List.mem_of_getElem? (i := 897) (by decide +kernel), List.mem_of_getElem? (i := 1124) (by decide +kernel), List.mem_of_getElem? (i := 1125) (by decide +kernel)⟩
theorem lw_p37 : lw_okq (⟨"RoastHouseModel", "wrong", "(I)V"⟩, 60) := ⟨⟨by decide +kernel, by decide +kernel⟩, List.mem_of_getElem? (i := 897) (by decide +kernel), List.mem_of_getElem? (i := 1128) (by decide +kernel), List.mem_of_getElem? (i := 1129) (by decide +kernel)⟩
theorem lw_p38 : lw_okq (⟨"RoastHouseModel", "takeWord", "(I)V"⟩, 60) := ⟨⟨by decide +kernel, by decide +kernel⟩, List.mem_of_getElem? (i := 897) (by decide +kernel), List.mem_of_getElem? (i := 1133) (by decide +kernel), List.mem_of_getElem? (i := 1134) (by decide +kernel)⟩
theorem lw_p39 : lw_okq (⟨"RoastHouseModel", "hasWord", "(I)Z"⟩, 60) := ⟨⟨by decide +kernel, by decide +kernel⟩, List.mem_of_getElem? (i := 897) (by decide +kernel), List.mem_of_getElem? (i := 1137) (by decide +kernel), List.mem_of_getElem? (i := 1138) (by decide +kernel)⟩
theorem lw_p40 : lw_okq (⟨"RoastHouseModel", "opens", "()V"⟩, 60) := ⟨⟨by decide +kernel, by decide +kernel⟩, List.mem_of_getElem? (i := 897) (by decide +kernel), List.mem_of_getElem? (i := 1141) (by decide +kernel), List.mem_of_getElem? (i := 1142) (by decide +kernel)⟩
theorem lw_p41 : lw_okq (⟨"RoastHouseModel", "part", "()Z"⟩, 60) := ⟨⟨by decide +kernel, by decide +kernel⟩, List.mem_of_getElem? (i := 897) (by decide +kernel), List.mem_of_getElem? (i := 1145) (by decide +kernel), List.mem_of_getElem? (i := 1146) (by decide +kernel)⟩
theorem lw_p42 : lw_okq (⟨"RoastHouseModel", "partWord", "()I"⟩, 60) := ⟨⟨by decide +kernel, by decide +kernel⟩, List.mem_of_getElem? (i := 897) (by decide +kernel), List.mem_of_getElem? (i := 1149) (by decide +kernel), List.mem_of_getElem? (i := 1150) (by decide +kernel)⟩
theorem lw_p43 : lw_okq (⟨"RoastHouseModel", "isSign", "(I)Z"⟩, 60) := ⟨⟨by decide +kernel, by decide +kernel⟩, List.mem_of_getElem? (i := 897) (by decide +kernel), List.mem_of_getElem? (i := 1153) (by decide +kernel), List.mem_of_getElem? (i := 1154) (by decide +kernel)⟩
theorem lw_p44 : lw_okq (⟨"RoastHouseModel", "hasSign", "(I)Z"⟩, 60) := ⟨⟨by decide +kernel, by decide +kernel⟩, List.mem_of_getElem? (i := 897) (by decide +kernel), List.mem_of_getElem? (i := 1157) (by decide +kernel), List.mem_of_getElem? (i := 1158) (by decide +kernel)⟩
theorem lw_p45 : lw_okq (⟨"RoastHouseModel", "emit", "(II)V"⟩, 60) := ⟨⟨by decide +kernel, by decide +kernel⟩, List.mem_of_getElem? (i := 897) (by decide +kernel), List.mem_of_getElem? (i := 1161) (by decide +kernel), List.mem_of_getElem? (i := 1162) (by decide +kernel)⟩
theorem lw_p46 : lw_okq (⟨"RoastHouseModel", "goesOnBehind", "()Z"⟩, 60) := ⟨⟨by decide +kernel, by decide +kernel⟩, List.mem_of_getElem? (i := 897) (by decide +kernel), List.mem_of_getElem? (i := 1165) (by decide +kernel), List.mem_of_getElem? (i := 1166) (by decide +kernel)⟩
theorem lw_p47 : lw_okq (⟨"RoastHouseModel", "takeSign", "(I)V"⟩, 60) := ⟨⟨by decide +kernel, by decide +kernel⟩, List.mem_of_getElem? (i := 897) (by decide +kernel), List.mem_of_getElem? (i := 1169) (by decide +kernel), List.mem_of_getElem? (i := 1170) (by decide +kernel)⟩
def lw_privs_3 : List (MethodName × Nat) := [(⟨"java/lang/Throwable", "fillInStackTrace", "(I)Ljava/lang/Throwable;"⟩, 6), (⟨"RoastHouseModel", "lay", "(J)V"⟩, 60), (⟨"RoastHouseModel", "cutAll", "()V"⟩, 60), (⟨"RoastHouseModel", "line", "()V"⟩, 60), (⟨"RoastHouseModel", "isWord", "(I)Z"⟩, 60), (⟨"RoastHouseModel", "wrong", "(I)V"⟩, 60), (⟨"RoastHouseModel", "takeWord", "(I)V"⟩, 60), (⟨"RoastHouseModel", "hasWord", "(I)Z"⟩, 60), (⟨"RoastHouseModel", "opens", "()V"⟩, 60), (⟨"RoastHouseModel", "part", "()Z"⟩, 60), (⟨"RoastHouseModel", "partWord", "()I"⟩, 60), (⟨"RoastHouseModel", "isSign", "(I)Z"⟩, 60), (⟨"RoastHouseModel", "hasSign", "(I)Z"⟩, 60), (⟨"RoastHouseModel", "emit", "(II)V"⟩, 60), (⟨"RoastHouseModel", "goesOnBehind", "()Z"⟩, 60), (⟨"RoastHouseModel", "takeSign", "(I)V"⟩, 60)]
theorem lw_r3 : ∀ q ∈ lw_privs_3, lw_okq q := List.forall_mem_cons.mpr ⟨lw_p32, List.forall_mem_cons.mpr ⟨lw_p33, List.forall_mem_cons.mpr ⟨lw_p34, List.forall_mem_cons.mpr ⟨lw_p35, List.forall_mem_cons.mpr ⟨lw_p36, List.forall_mem_cons.mpr ⟨lw_p37, List.forall_mem_cons.mpr ⟨lw_p38, List.forall_mem_cons.mpr ⟨lw_p39, List.forall_mem_cons.mpr ⟨lw_p40, List.forall_mem_cons.mpr ⟨lw_p41, List.forall_mem_cons.mpr ⟨lw_p42, List.forall_mem_cons.mpr ⟨lw_p43, List.forall_mem_cons.mpr ⟨lw_p44, List.forall_mem_cons.mpr ⟨lw_p45, List.forall_mem_cons.mpr ⟨lw_p46, List.forall_mem_cons.mpr ⟨lw_p47, fun _ h => absurd h List.not_mem_nil⟩⟩⟩⟩⟩⟩⟩⟩⟩⟩⟩⟩⟩⟩⟩⟩
theorem lw_p48 : lw_okq (⟨"RoastHouseModel", "isLot", "(I)Z"⟩, 60) := ⟨⟨by decide +kernel, by decide +kernel⟩, List.mem_of_getElem? (i := 897) (by decide +kernel), List.mem_of_getElem? (i := 1193) (by decide +kernel), List.mem_of_getElem? (i := 1194) (by decide +kernel)⟩
theorem lw_p49 : lw_okq (⟨"RoastHouseModel", "goes", "(I)V"⟩, 60) := ⟨⟨by decide +kernel, by decide +kernel⟩, List.mem_of_getElem? (i := 897) (by decide +kernel), List.mem_of_getElem? (i := 1197) (by decide +kernel), List.mem_of_getElem? (i := 1198) (by decide +kernel)⟩
theorem lw_p50 : lw_okq (⟨"RoastHouseModel", "actsBy", "(I)V"⟩, 60) := ⟨⟨by decide +kernel, by decide +kernel⟩, List.mem_of_getElem? (i := 897) (by decide +kernel), List.mem_of_getElem? (i := 1201) (by decide +kernel), List.mem_of_getElem? (i := 1202) (by decide +kernel)⟩
theorem lw_p51 : lw_okq (⟨"RoastHouseModel", "valueOf", "(I)I"⟩, 60) := ⟨⟨by decide +kernel, by decide +kernel⟩, List.mem_of_getElem? (i := 897) (by decide +kernel), List.mem_of_getElem? (i := 1205) (by decide +kernel), List.mem_of_getElem? (i := 1206) (by decide +kernel)⟩
theorem lw_p52 : lw_okq (⟨"RoastHouseModel", "newBag", "(I)I"⟩, 60) := ⟨⟨by decide +kernel, by decide +kernel⟩, List.mem_of_getElem? (i := 897) (by decide +kernel), List.mem_of_getElem? (i := 1209) (by decide +kernel), List.mem_of_getElem? (i := 1210) (by decide +kernel)⟩
theorem lw_p53 : lw_okq (⟨"RoastHouseModel", "isBag", "(I)Z"⟩, 60) := ⟨⟨by decide +kernel, by decide +kernel⟩, List.mem_of_getElem? (i := 897) (by decide +kernel), List.mem_of_getElem? (i := 1221) (by decide +kernel), List.mem_of_getElem? (i := 1222) (by decide +kernel)⟩
theorem lw_p54 : lw_okq (⟨"RoastHouseModel", "gramsIn", "(I)I"⟩, 60) := ⟨⟨by decide +kernel, by decide +kernel⟩, List.mem_of_getElem? (i := 897) (by decide +kernel), List.mem_of_getElem? (i := 1225) (by decide +kernel), List.mem_of_getElem? (i := 1226) (by decide +kernel)⟩
theorem lw_p55 : lw_okq (⟨"RoastHouseModel", "moves", "(III)V"⟩, 60) := ⟨⟨by decide +kernel, by decide +kernel⟩, List.mem_of_getElem? (i := 897) (by decide +kernel), List.mem_of_getElem? (i := 1233) (by decide +kernel), List.mem_of_getElem? (i := 1234) (by decide +kernel)⟩
theorem lw_p56 : lw_okq (⟨"RoastHouseModel", "gives", "(IIII)V"⟩, 60) := ⟨⟨by decide +kernel, by decide +kernel⟩, List.mem_of_getElem? (i := 897) (by decide +kernel), List.mem_of_getElem? (i := 1237) (by decide +kernel), List.mem_of_getElem? (i := 1238) (by decide +kernel)⟩
theorem lw_p57 : lw_okq (⟨"RoastHouseModel", "weighs", "(I)Z"⟩, 60) := ⟨⟨by decide +kernel, by decide +kernel⟩, List.mem_of_getElem? (i := 897) (by decide +kernel), List.mem_of_getElem? (i := 1264) (by decide +kernel), List.mem_of_getElem? (i := 1265) (by decide +kernel)⟩
theorem lw_p58 : lw_okq (⟨"RoastHouseModel", "tries", "(III)V"⟩, 60) := ⟨⟨by decide +kernel, by decide +kernel⟩, List.mem_of_getElem? (i := 897) (by decide +kernel), List.mem_of_getElem? (i := 1283) (by decide +kernel), List.mem_of_getElem? (i := 1284) (by decide +kernel)⟩
theorem lw_p59 : lw_okq (⟨"RoastHouseModel", "asks", "(I)V"⟩, 60) := ⟨⟨by decide +kernel, by decide +kernel⟩, List.mem_of_getElem? (i := 897) (by decide +kernel), List.mem_of_getElem? (i := 1287) (by decide +kernel), List.mem_of_getElem? (i := 1288) (by decide +kernel)⟩
theorem lw_p60 : lw_okq (⟨"RoastHouseModel", "isInSpans", "()Z"⟩, 60) := ⟨⟨by decide +kernel, by decide +kernel⟩, List.mem_of_getElem? (i := 897) (by decide +kernel), List.mem_of_getElem? (i := 1291) (by decide +kernel), List.mem_of_getElem? (i := 1292) (by decide +kernel)⟩
def lw_privs_4 : List (MethodName × Nat) := [(⟨"RoastHouseModel", "isLot", "(I)Z"⟩, 60), (⟨"RoastHouseModel", "goes", "(I)V"⟩, 60), (⟨"RoastHouseModel", "actsBy", "(I)V"⟩, 60), (⟨"RoastHouseModel", "valueOf", "(I)I"⟩, 60), (⟨"RoastHouseModel", "newBag", "(I)I"⟩, 60), (⟨"RoastHouseModel", "isBag", "(I)Z"⟩, 60), (⟨"RoastHouseModel", "gramsIn", "(I)I"⟩, 60), (⟨"RoastHouseModel", "moves", "(III)V"⟩, 60), (⟨"RoastHouseModel", "gives", "(IIII)V"⟩, 60), (⟨"RoastHouseModel", "weighs", "(I)Z"⟩, 60), (⟨"RoastHouseModel", "tries", "(III)V"⟩, 60), (⟨"RoastHouseModel", "asks", "(I)V"⟩, 60), (⟨"RoastHouseModel", "isInSpans", "()Z"⟩, 60)]
theorem lw_r4 : ∀ q ∈ lw_privs_4, lw_okq q := List.forall_mem_cons.mpr ⟨lw_p48, List.forall_mem_cons.mpr ⟨lw_p49, List.forall_mem_cons.mpr ⟨lw_p50, List.forall_mem_cons.mpr ⟨lw_p51, List.forall_mem_cons.mpr ⟨lw_p52, List.forall_mem_cons.mpr ⟨lw_p53, List.forall_mem_cons.mpr ⟨lw_p54, List.forall_mem_cons.mpr ⟨lw_p55, List.forall_mem_cons.mpr ⟨lw_p56, List.forall_mem_cons.mpr ⟨lw_p57, List.forall_mem_cons.mpr ⟨lw_p58, List.forall_mem_cons.mpr ⟨lw_p59, List.forall_mem_cons.mpr ⟨lw_p60, fun _ h => absurd h List.not_mem_nil⟩⟩⟩⟩⟩⟩⟩⟩⟩⟩⟩⟩⟩
def lw_privs : List (MethodName × Nat) := lw_privs_1 ++ (lw_privs_2 ++ (lw_privs_3 ++ (lw_privs_4)))
def lw_tbl : List Cond := k2_sels lw_privs ++ tables_1
theorem lw_privs_ok : ∀ q ∈ lw_privs, lw_okq q := by
  show ∀ q ∈ lw_privs_1 ++ (lw_privs_2 ++ (lw_privs_3 ++ (lw_privs_4))), lw_okq q
  exact List.forall_mem_append.mpr ⟨lw_r1, List.forall_mem_append.mpr ⟨lw_r2, List.forall_mem_append.mpr ⟨lw_r3, lw_r4⟩⟩⟩
end
section
def RX0 : String := "RoastHouse$Bags"
def TX0 : u_T := fun k => match k with
  | 0 => ("RoastHouse$Bags", "size", "I", false)
  | 1 => ("RoastHouse$Bags", "takenBags", "I", false)
  | 2 => ("RoastHouse$Bags", "grams", "[I", true)
  | 3 => ("RoastHouse$Bags", "day", "[I", true)
  | 4 => ("RoastHouse$Bags", "house", "[I", true)
  | 5 => ("RoastHouse$Bags", "taken", "[I", true)
  | 6 => ("RoastHouse$Bags", "parts", "[I", true)
  | 7 => ("RoastHouse$Bags", "share", "[I", true)
  | _ => ("RoastHouse$Bags", "rest", "[I", true)
def tyX0 : Nat → FieldType := fun k => match k with
  | 0 => .int
  | 1 => .int
  | 2 => .array .int
  | 3 => .array .int
  | 4 => .array .int
  | 5 => .array .int
  | 6 => .array .int
  | 7 => .array .int
  | _ => .array .int
theorem nmX0 : ∀ a, a < 9 → ∀ b, b < 9 → a ≠ b → (TX0 a).2.1 ≠ (TX0 b).2.1 := by decide +kernel
theorem tyX0_ok : ∀ k, k < 9 → parseFieldDescriptor (TX0 k).2.2.1 = some (tyX0 k) := by decide +kernel
abbrev cX0_init : ByteArray := prog_2_method_1_code
def yX0_init : MethodName := ⟨RX0, "<init>", "()V"⟩
abbrev cX0_has : ByteArray := prog_2_method_2_code
def yX0_has : MethodName := ⟨RX0, "has", "(I)Z"⟩
abbrev cX0_addEmpty : ByteArray := prog_2_method_3_code
def yX0_addEmpty : MethodName := ⟨RX0, "addEmpty", "(I)I"⟩
abbrev cX0_addOfOneLot : ByteArray := prog_2_method_4_code
def yX0_addOfOneLot : MethodName := ⟨RX0, "addOfOneLot", "(III)I"⟩
abbrev cX0_partOf : ByteArray := prog_2_method_5_code
def yX0_partOf : MethodName := ⟨RX0, "partOf", "(II)I"⟩
abbrev cX0_lotsIn : ByteArray := prog_2_method_6_code
def yX0_lotsIn : MethodName := ⟨RX0, "lotsIn", "(I)I"⟩
abbrev cX0_tellForBlend : ByteArray := prog_2_method_7_code
def yX0_tellForBlend : MethodName := ⟨RX0, "tellForBlend", "(II)I"⟩
abbrev cX0_blendTaken : ByteArray := prog_2_method_8_code
def yX0_blendTaken : MethodName := ⟨RX0, "blendTaken", "()I"⟩
abbrev cX0_pour : ByteArray := prog_2_method_9_code
def yX0_pour : MethodName := ⟨RX0, "pour", "(III)V"⟩
abbrev cX0_shareOut : ByteArray := prog_2_method_10_code
def yX0_shareOut : MethodName := ⟨RX0, "shareOut", "(II)V"⟩
abbrev cX0_lotOfGreatestRest : ByteArray := prog_2_method_11_code
def yX0_lotOfGreatestRest : MethodName := ⟨RX0, "lotOfGreatestRest", "()I"⟩
abbrev cX0_sendTo : ByteArray := prog_2_method_12_code
def yX0_sendTo : MethodName := ⟨RX0, "sendTo", "(II)Z"⟩
abbrev cX0_olderIn : ByteArray := prog_2_method_13_code
def yX0_olderIn : MethodName := ⟨RX0, "olderIn", "(II)I"⟩
abbrev cX0_bagWith : ByteArray := prog_2_method_14_code
def yX0_bagWith : MethodName := ⟨RX0, "bagWith", "(II)I"⟩
abbrev cX0_gramsIn : ByteArray := prog_2_method_15_code
def yX0_gramsIn : MethodName := ⟨RX0, "gramsIn", "(II)I"⟩
abbrev cX0_allGrams : ByteArray := prog_2_method_16_code
def yX0_allGrams : MethodName := ⟨RX0, "allGrams", "()I"⟩
def RX1 : String := "RoastHouse$Blender"
def TX1 : u_T := fun k => match k with
  | 0 => ("RoastHouse$Blender", "hasFound", "Z", false)
  | 1 => ("RoastHouse$Blender", "latest", "[I", true)
  | 2 => ("RoastHouse$Blender", "from", "[I", true)
  | 3 => ("RoastHouse$Blender", "to", "[I", true)
  | 4 => ("RoastHouse$Blender", "members", "I", false)
  | 5 => ("RoastHouse$Blender", "member", "[I", true)
  | 6 => ("RoastHouse$Blender", "most", "[I", true)
  | 7 => ("RoastHouse$Blender", "trial", "[I", true)
  | 8 => ("RoastHouse$Blender", "kept", "[I", true)
  | _ => ("RoastHouse$Blender", "leastCost", "I", false)
def tyX1 : Nat → FieldType := fun k => match k with
  | 0 => .boolean
  | 1 => .array .int
  | 2 => .array .int
  | 3 => .array .int
  | 4 => .int
  | 5 => .array .int
  | 6 => .array .int
  | 7 => .array .int
  | 8 => .array .int
  | _ => .int
theorem nmX1 : ∀ a, a < 10 → ∀ b, b < 10 → a ≠ b → (TX1 a).2.1 ≠ (TX1 b).2.1 := by decide +kernel
theorem tyX1_ok : ∀ k, k < 10 → parseFieldDescriptor (TX1 k).2.2.1 = some (tyX1 k) := by decide +kernel
abbrev cX1_init : ByteArray := prog_3_method_1_code
def yX1_init : MethodName := ⟨RX1, "<init>", "()V"⟩
abbrev cX1_setSpan : ByteArray := prog_3_method_2_code
def yX1_setSpan : MethodName := ⟨RX1, "setSpan", "(III)Z"⟩
abbrev cX1_search : ByteArray := prog_3_method_3_code
def yX1_search : MethodName := ⟨RX1, "search", "(LRoastHouse$GreenStore;II)I"⟩
abbrev cX1_gather : ByteArray := prog_3_method_4_code
def yX1_gather : MethodName := ⟨RX1, "gather", "(LRoastHouse$GreenStore;II)V"⟩
abbrev cX1_tryMember : ByteArray := prog_3_method_5_code
def yX1_tryMember : MethodName := ⟨RX1, "tryMember", "(LRoastHouse$GreenStore;III)V"⟩
abbrev cX1_tastesFit : ByteArray := prog_3_method_6_code
def yX1_tastesFit : MethodName := ⟨RX1, "tastesFit", "(LRoastHouse$GreenStore;)Z"⟩
abbrev cX1_keepAsLatest : ByteArray := prog_3_method_7_code
def yX1_keepAsLatest : MethodName := ⟨RX1, "keepAsLatest", "()V"⟩
def RX2 : String := "RoastHouse$Cups"
def TX2 : u_T := fun k => match k with
  | 0 => ("RoastHouse$Cups", "marks", "[I", true)
  | 1 => ("RoastHouse$Cups", "toldWorth", "[I", true)
  | 2 => ("RoastHouse$Cups", "numerator", "J", false)
  | _ => ("RoastHouse$Cups", "denominator", "J", false)
def tyX2 : Nat → FieldType := fun k => match k with
  | 0 => .array .int
  | 1 => .array .int
  | 2 => .long
  | _ => .long
theorem nmX2 : ∀ a, a < 4 → ∀ b, b < 4 → a ≠ b → (TX2 a).2.1 ≠ (TX2 b).2.1 := by decide +kernel
theorem tyX2_ok : ∀ k, k < 4 → parseFieldDescriptor (TX2 k).2.2.1 = some (tyX2 k) := by decide +kernel
abbrev cX2_init : ByteArray := prog_4_method_1_code
def yX2_init : MethodName := ⟨RX2, "<init>", "()V"⟩
abbrev cX2_hasSample : ByteArray := prog_4_method_2_code
def yX2_hasSample : MethodName := ⟨RX2, "hasSample", "(I)Z"⟩
abbrev cX2_giveMark : ByteArray := prog_4_method_3_code
def yX2_giveMark : MethodName := ⟨RX2, "giveMark", "(III)Z"⟩
abbrev cX2_tellWorth : ByteArray := prog_4_method_4_code
def yX2_tellWorth : MethodName := ⟨RX2, "tellWorth", "(II)Z"⟩
abbrev cX2_compare : ByteArray := prog_4_method_5_code
def yX2_compare : MethodName := ⟨RX2, "compare", "(II)I"⟩
abbrev cX2_thousandths : ByteArray := prog_4_method_6_code
def yX2_thousandths : MethodName := ⟨RX2, "thousandths", "(I)I"⟩
abbrev cX2_weigh : ByteArray := prog_4_method_7_code
def yX2_weigh : MethodName := ⟨RX2, "weigh", "(I)Z"⟩
abbrev cX2_isToldAndMarked : ByteArray := prog_4_method_8_code
def yX2_isToldAndMarked : MethodName := ⟨RX2, "isToldAndMarked", "(II)Z"⟩
abbrev cX2_toldMarkedBy : ByteArray := prog_4_method_9_code
def yX2_toldMarkedBy : MethodName := ⟨RX2, "toldMarkedBy", "(I)I"⟩
abbrev cX2_excessOf : ByteArray := prog_4_method_10_code
def yX2_excessOf : MethodName := ⟨RX2, "excessOf", "(I)I"⟩
def RX3 : String := "RoastHouse$GreenStore"
def TX3 : u_T := fun k => match k with
  | 0 => ("RoastHouse$GreenStore", "size", "I", false)
  | 1 => ("RoastHouse$GreenStore", "left", "[I", true)
  | 2 => ("RoastHouse$GreenStore", "price", "[I", true)
  | _ => ("RoastHouse$GreenStore", "taste", "[I", true)
def tyX3 : Nat → FieldType := fun k => match k with
  | 0 => .int
  | 1 => .array .int
  | 2 => .array .int
  | _ => .array .int
theorem nmX3 : ∀ a, a < 4 → ∀ b, b < 4 → a ≠ b → (TX3 a).2.1 ≠ (TX3 b).2.1 := by decide +kernel
theorem tyX3_ok : ∀ k, k < 4 → parseFieldDescriptor (TX3 k).2.2.1 = some (tyX3 k) := by decide +kernel
abbrev cX3_init : ByteArray := prog_5_method_1_code
def yX3_init : MethodName := ⟨RX3, "<init>", "()V"⟩
abbrev cX3_has : ByteArray := prog_5_method_2_code
def yX3_has : MethodName := ⟨RX3, "has", "(I)Z"⟩
abbrev cX3_add : ByteArray := prog_5_method_3_code
def yX3_add : MethodName := ⟨RX3, "add", "(IIIII)I"⟩
def RX4 : String := "RoastHouse$Roaster"
def TX4 : u_T := fun k => match k with
  | 0 => ("RoastHouse$Roaster", "loss", "I", false)
  | 1 => ("RoastHouse$Roaster", "toldWarmth", "[I", true)
  | 2 => ("RoastHouse$Roaster", "hasRun", "Z", false)
  | 3 => ("RoastHouse$Roaster", "grams", "I", false)
  | 4 => ("RoastHouse$Roaster", "minute", "I", false)
  | 5 => ("RoastHouse$Roaster", "warmth", "I", false)
  | 6 => ("RoastHouse$Roaster", "fire", "I", false)
  | 7 => ("RoastHouse$Roaster", "drum", "I", false)
  | 8 => ("RoastHouse$Roaster", "rise", "I", false)
  | 9 => ("RoastHouse$Roaster", "minutesGone", "I", false)
  | 10 => ("RoastHouse$Roaster", "dropped", "Z", false)
  | _ => ("RoastHouse$Roaster", "farthest", "I", false)
def tyX4 : Nat → FieldType := fun k => match k with
  | 0 => .int
  | 1 => .array .int
  | 2 => .boolean
  | 3 => .int
  | 4 => .int
  | 5 => .int
  | 6 => .int
  | 7 => .int
  | 8 => .int
  | 9 => .int
  | 10 => .boolean
  | _ => .int
theorem nmX4 : ∀ a, a < 12 → ∀ b, b < 12 → a ≠ b → (TX4 a).2.1 ≠ (TX4 b).2.1 := by decide +kernel
theorem tyX4_ok : ∀ k, k < 12 → parseFieldDescriptor (TX4 k).2.2.1 = some (tyX4 k) := by decide +kernel
abbrev cX4_init : ByteArray := prog_6_method_1_code
def yX4_init : MethodName := ⟨RX4, "<init>", "()V"⟩
abbrev cX4_start : ByteArray := prog_6_method_2_code
def yX4_start : MethodName := ⟨RX4, "start", "(I)V"⟩
abbrev cX4_tellCurve : ByteArray := prog_6_method_3_code
def yX4_tellCurve : MethodName := ⟨RX4, "tellCurve", "(II)Z"⟩
abbrev cX4_run : ByteArray := prog_6_method_4_code
def yX4_run : MethodName := ⟨RX4, "run", "(ILRoastHouse$Rules;)V"⟩
abbrev cX4_goThrough : ByteArray := prog_6_method_5_code
def yX4_goThrough : MethodName := ⟨RX4, "goThrough", "(LRoastHouse$Rules;)V"⟩
abbrev cX4_doAct : ByteArray := prog_6_method_6_code
def yX4_doAct : MethodName := ⟨RX4, "doAct", "(II)V"⟩
abbrev cX4_grow : ByteArray := prog_6_method_7_code
def yX4_grow : MethodName := ⟨RX4, "grow", "()V"⟩
abbrev cX4_valueNow : ByteArray := prog_6_method_8_code
def yX4_valueNow : MethodName := ⟨RX4, "valueNow", "(I)I"⟩
abbrev cX4_tell : ByteArray := prog_6_method_9_code
def yX4_tell : MethodName := ⟨RX4, "tell", "(I)I"⟩
def RX5 : String := "RoastHouse$RuleReader"
def TX5 : u_T := fun k => match k with
  | 0 => ("RoastHouse$RuleReader", "tokens", "LRoastHouse$Tokens;", true)
  | 1 => ("RoastHouse$RuleReader", "target", "LRoastHouse$Rules;", false)
  | _ => ("RoastHouse$RuleReader", "fault", "I", false)
def tyX5 : Nat → FieldType := fun k => match k with
  | 0 => .object "RoastHouse$Tokens"
  | 1 => .object "RoastHouse$Rules"
  | _ => .int
theorem nmX5 : ∀ a, a < 3 → ∀ b, b < 3 → a ≠ b → (TX5 a).2.1 ≠ (TX5 b).2.1 := by decide +kernel
theorem tyX5_ok : ∀ k, k < 3 → parseFieldDescriptor (TX5 k).2.2.1 = some (tyX5 k) := by decide +kernel
abbrev cX5_init : ByteArray := prog_7_method_1_code
def yX5_init : MethodName := ⟨RX5, "<init>", "(LRoastHouse$Tape;)V"⟩
abbrev cX5_exchange : ByteArray := prog_7_method_2_code
def yX5_exchange : MethodName := ⟨RX5, "exchange", "(LRoastHouse$Rules;)LRoastHouse$Rules;"⟩
abbrev cX5_readTape : ByteArray := prog_7_method_3_code
def yX5_readTape : MethodName := ⟨RX5, "readTape", "()I"⟩
abbrev cX5_wrong : ByteArray := prog_7_method_4_code
def yX5_wrong : MethodName := ⟨RX5, "wrong", "(I)Z"⟩
abbrev cX5_pass : ByteArray := prog_7_method_5_code
def yX5_pass : MethodName := ⟨RX5, "pass", "(I)Z"⟩
abbrev cX5_readLine : ByteArray := prog_7_method_6_code
def yX5_readLine : MethodName := ⟨RX5, "readLine", "()Z"⟩
abbrev cX5_passAmount : ByteArray := prog_7_method_7_code
def yX5_passAmount : MethodName := ⟨RX5, "passAmount", "()Z"⟩
abbrev cX5_readTests : ByteArray := prog_7_method_8_code
def yX5_readTests : MethodName := ⟨RX5, "readTests", "(I)Z"⟩
abbrev cX5_readTest : ByteArray := prog_7_method_9_code
def yX5_readTest : MethodName := ⟨RX5, "readTest", "(I)Z"⟩
abbrev cX5_readSum : ByteArray := prog_7_method_10_code
def yX5_readSum : MethodName := ⟨RX5, "readSum", "(I)Z"⟩
abbrev cX5_readPart : ByteArray := prog_7_method_11_code
def yX5_readPart : MethodName := ⟨RX5, "readPart", "(I)Z"⟩
abbrev cX5_isPlusOrMinus : ByteArray := prog_7_method_12_code
def yX5_isPlusOrMinus : MethodName := ⟨RX5, "isPlusOrMinus", "(I)Z"⟩
abbrev cX5_isName : ByteArray := prog_7_method_13_code
def yX5_isName : MethodName := ⟨RX5, "isName", "(I)Z"⟩
def RX6 : String := "RoastHouse$Rules"
def TX6 : u_T := fun k => match k with
  | 0 => ("RoastHouse$Rules", "lines", "I", false)
  | 1 => ("RoastHouse$Rules", "act", "[I", true)
  | 2 => ("RoastHouse$Rules", "amount", "[I", true)
  | 3 => ("RoastHouse$Rules", "stepsEnd", "[I", true)
  | 4 => ("RoastHouse$Rules", "steps", "[I", true)
  | 5 => ("RoastHouse$Rules", "stepCount", "I", false)
  | 6 => ("RoastHouse$Rules", "waiting", "[I", true)
  | _ => ("RoastHouse$Rules", "waitingCount", "I", false)
def tyX6 : Nat → FieldType := fun k => match k with
  | 0 => .int
  | 1 => .array .int
  | 2 => .array .int
  | 3 => .array .int
  | 4 => .array .int
  | 5 => .int
  | 6 => .array .int
  | _ => .int
theorem nmX6 : ∀ a, a < 8 → ∀ b, b < 8 → a ≠ b → (TX6 a).2.1 ≠ (TX6 b).2.1 := by decide +kernel
theorem tyX6_ok : ∀ k, k < 8 → parseFieldDescriptor (TX6 k).2.2.1 = some (tyX6 k) := by decide +kernel
abbrev cX6_init : ByteArray := prog_8_method_1_code
def yX6_init : MethodName := ⟨RX6, "<init>", "()V"⟩
abbrev cX6_clear : ByteArray := prog_8_method_2_code
def yX6_clear : MethodName := ⟨RX6, "clear", "()V"⟩
abbrev cX6_addNumber : ByteArray := prog_8_method_3_code
def yX6_addNumber : MethodName := ⟨RX6, "addNumber", "(I)V"⟩
abbrev cX6_addKind : ByteArray := prog_8_method_4_code
def yX6_addKind : MethodName := ⟨RX6, "addKind", "(I)V"⟩
abbrev cX6_endLine : ByteArray := prog_8_method_5_code
def yX6_endLine : MethodName := ⟨RX6, "endLine", "(II)V"⟩
abbrev cX6_valueOf : ByteArray := prog_8_method_6_code
def yX6_valueOf : MethodName := ⟨RX6, "valueOf", "(ILRoastHouse$Roaster;)I"⟩
abbrev cX6_joins : ByteArray := prog_8_method_7_code
def yX6_joins : MethodName := ⟨RX6, "joins", "(I)Z"⟩
abbrev cX6_joined : ByteArray := prog_8_method_8_code
def yX6_joined : MethodName := ⟨RX6, "joined", "(III)I"⟩
abbrev cX6_push : ByteArray := prog_8_method_9_code
def yX6_push : MethodName := ⟨RX6, "push", "(I)V"⟩
abbrev cX6_pop : ByteArray := prog_8_method_10_code
def yX6_pop : MethodName := ⟨RX6, "pop", "()I"⟩
def RX7 : String := "RoastHouse$Tape"
def TX7 : u_T := fun k => match k with
  | 0 => ("RoastHouse$Tape", "signs", "[B", true)
  | _ => ("RoastHouse$Tape", "length", "I", false)
def tyX7 : Nat → FieldType := fun k => match k with
  | 0 => .array .byte
  | _ => .int
theorem nmX7 : ∀ a, a < 2 → ∀ b, b < 2 → a ≠ b → (TX7 a).2.1 ≠ (TX7 b).2.1 := by decide +kernel
theorem tyX7_ok : ∀ k, k < 2 → parseFieldDescriptor (TX7 k).2.2.1 = some (tyX7 k) := by decide +kernel
abbrev cX7_init : ByteArray := prog_9_method_1_code
def yX7_init : MethodName := ⟨RX7, "<init>", "()V"⟩
abbrev cX7_addBytes : ByteArray := prog_9_method_2_code
def yX7_addBytes : MethodName := ⟨RX7, "addBytes", "(J)V"⟩
abbrev cX7_addSign : ByteArray := prog_9_method_3_code
def yX7_addSign : MethodName := ⟨RX7, "addSign", "(I)V"⟩
def RX8 : String := "RoastHouse$Tokens"
def TX8 : u_T := fun k => match k with
  | 0 => ("RoastHouse$Tokens", "tape", "LRoastHouse$Tape;", true)
  | 1 => ("RoastHouse$Tokens", "kind", "I", false)
  | 2 => ("RoastHouse$Tokens", "place", "I", false)
  | 3 => ("RoastHouse$Tokens", "number", "I", false)
  | _ => ("RoastHouse$Tokens", "behind", "I", false)
def tyX8 : Nat → FieldType := fun k => match k with
  | 0 => .object "RoastHouse$Tape"
  | 1 => .int
  | 2 => .int
  | 3 => .int
  | _ => .int
theorem nmX8 : ∀ a, a < 5 → ∀ b, b < 5 → a ≠ b → (TX8 a).2.1 ≠ (TX8 b).2.1 := by decide +kernel
theorem tyX8_ok : ∀ k, k < 5 → parseFieldDescriptor (TX8 k).2.2.1 = some (tyX8 k) := by decide +kernel
abbrev cX8_init : ByteArray := prog_10_method_1_code
def yX8_init : MethodName := ⟨RX8, "<init>", "(LRoastHouse$Tape;)V"⟩
abbrev cX8_begin : ByteArray := prog_10_method_2_code
def yX8_begin : MethodName := ⟨RX8, "begin", "()V"⟩
abbrev cX8_advance : ByteArray := prog_10_method_3_code
def yX8_advance : MethodName := ⟨RX8, "advance", "()V"⟩
abbrev cX8_skipBlanks : ByteArray := prog_10_method_4_code
def yX8_skipBlanks : MethodName := ⟨RX8, "skipBlanks", "()V"⟩
abbrev cX8_goBehindWord : ByteArray := prog_10_method_5_code
def yX8_goBehindWord : MethodName := ⟨RX8, "goBehindWord", "()V"⟩
abbrev cX8_readNumber : ByteArray := prog_10_method_6_code
def yX8_readNumber : MethodName := ⟨RX8, "readNumber", "()V"⟩
abbrev cX8_kindOfWord : ByteArray := prog_10_method_7_code
def yX8_kindOfWord : MethodName := ⟨RX8, "kindOfWord", "(I)I"⟩
abbrev cX8_isWord : ByteArray := prog_10_method_8_code
def yX8_isWord : MethodName := ⟨RX8, "isWord", "(Ljava/lang/String;)Z"⟩
abbrev cX8_kindOfSign : ByteArray := prog_10_method_9_code
def yX8_kindOfSign : MethodName := ⟨RX8, "kindOfSign", "(I)I"⟩
abbrev cX8_isBlank : ByteArray := prog_10_method_10_code
def yX8_isBlank : MethodName := ⟨RX8, "isBlank", "(I)Z"⟩
abbrev cX8_isLetter : ByteArray := prog_10_method_11_code
def yX8_isLetter : MethodName := ⟨RX8, "isLetter", "(I)Z"⟩
abbrev cX8_isDigit : ByteArray := prog_10_method_12_code
def yX8_isDigit : MethodName := ⟨RX8, "isDigit", "(I)Z"⟩
def RX9 : String := "RoastHouse"
def TX9 : u_T := fun k => match k with
  | 0 => ("RoastHouse", "store", "LRoastHouse$GreenStore;", true)
  | 1 => ("RoastHouse", "tape", "LRoastHouse$Tape;", true)
  | 2 => ("RoastHouse", "reader", "LRoastHouse$RuleReader;", true)
  | 3 => ("RoastHouse", "roaster", "LRoastHouse$Roaster;", true)
  | 4 => ("RoastHouse", "bags", "LRoastHouse$Bags;", true)
  | 5 => ("RoastHouse", "cups", "LRoastHouse$Cups;", true)
  | 6 => ("RoastHouse", "blender", "LRoastHouse$Blender;", true)
  | 7 => ("RoastHouse", "keptDays", "[I", true)
  | 8 => ("RoastHouse", "rules", "LRoastHouse$Rules;", false)
  | _ => ("RoastHouse", "now", "I", false)
def tyX9 : Nat → FieldType := fun k => match k with
  | 0 => .object "RoastHouse$GreenStore"
  | 1 => .object "RoastHouse$Tape"
  | 2 => .object "RoastHouse$RuleReader"
  | 3 => .object "RoastHouse$Roaster"
  | 4 => .object "RoastHouse$Bags"
  | 5 => .object "RoastHouse$Cups"
  | 6 => .object "RoastHouse$Blender"
  | 7 => .array .int
  | 8 => .object "RoastHouse$Rules"
  | _ => .int
theorem nmX9 : ∀ a, a < 10 → ∀ b, b < 10 → a ≠ b → (TX9 a).2.1 ≠ (TX9 b).2.1 := by decide +kernel
theorem tyX9_ok : ∀ k, k < 10 → parseFieldDescriptor (TX9 k).2.2.1 = some (tyX9 k) := by decide +kernel
abbrev cX9_init : ByteArray := prog_1_method_1_code
def yX9_init : MethodName := ⟨RX9, "<init>", "()V"⟩
abbrev cX9_lot : ByteArray := prog_1_method_2_code
def yX9_lot : MethodName := ⟨RX9, "lot", "(IIIII)I"⟩
abbrev cX9_days : ByteArray := prog_1_method_3_code
def yX9_days : MethodName := ⟨RX9, "days", "(I)I"⟩
abbrev cX9_curve : ByteArray := prog_1_method_4_code
def yX9_curve : MethodName := ⟨RX9, "curve", "(II)Z"⟩
abbrev cX9_feed : ByteArray := prog_1_method_5_code
def yX9_feed : MethodName := ⟨RX9, "feed", "(JJJ)I"⟩
abbrev cX9_text : ByteArray := prog_1_method_6_code
def yX9_text : MethodName := ⟨RX9, "text", "()I"⟩
abbrev cX9_roast : ByteArray := prog_1_method_7_code
def yX9_roast : MethodName := ⟨RX9, "roast", "(II)I"⟩
abbrev cX9_roasted : ByteArray := prog_1_method_8_code
def yX9_roasted : MethodName := ⟨RX9, "roasted", "(I)I"⟩
abbrev cX9_take : ByteArray := prog_1_method_9_code
def yX9_take : MethodName := ⟨RX9, "take", "(II)I"⟩
abbrev cX9_blend : ByteArray := prog_1_method_10_code
def yX9_blend : MethodName := ⟨RX9, "blend", "()I"⟩
abbrev cX9_bag : ByteArray := prog_1_method_11_code
def yX9_bag : MethodName := ⟨RX9, "bag", "(II)I"⟩
abbrev cX9_part : ByteArray := prog_1_method_12_code
def yX9_part : MethodName := ⟨RX9, "part", "(II)I"⟩
abbrev cX9_mark : ByteArray := prog_1_method_13_code
def yX9_mark : MethodName := ⟨RX9, "mark", "(III)Z"⟩
abbrev cX9_told : ByteArray := prog_1_method_14_code
def yX9_told : MethodName := ⟨RX9, "told", "(II)Z"⟩
abbrev cX9_order : ByteArray := prog_1_method_15_code
def yX9_order : MethodName := ⟨RX9, "order", "(II)I"⟩
abbrev cX9_worth : ByteArray := prog_1_method_16_code
def yX9_worth : MethodName := ⟨RX9, "worth", "(I)I"⟩
abbrev cX9_span : ByteArray := prog_1_method_17_code
def yX9_span : MethodName := ⟨RX9, "span", "(III)Z"⟩
abbrev cX9_best : ByteArray := prog_1_method_18_code
def yX9_best : MethodName := ⟨RX9, "best", "(II)I"⟩
abbrev cX9_tenths : ByteArray := prog_1_method_19_code
def yX9_tenths : MethodName := ⟨RX9, "tenths", "(I)I"⟩
abbrev cX9_send : ByteArray := prog_1_method_20_code
def yX9_send : MethodName := ⟨RX9, "send", "(II)Z"⟩
abbrev cX9_keeps : ByteArray := prog_1_method_21_code
def yX9_keeps : MethodName := ⟨RX9, "keeps", "(II)Z"⟩
abbrev cX9_stale : ByteArray := prog_1_method_22_code
def yX9_stale : MethodName := ⟨RX9, "stale", "(I)I"⟩
abbrev cX9_found : ByteArray := prog_1_method_23_code
def yX9_found : MethodName := ⟨RX9, "found", "(II)I"⟩
abbrev cX9_led : ByteArray := prog_1_method_24_code
def yX9_led : MethodName := ⟨RX9, "led", "(II)I"⟩
abbrev cX9_count : ByteArray := prog_1_method_25_code
def yX9_count : MethodName := ⟨RX9, "count", "(I)I"⟩
abbrev cX9_within : ByteArray := prog_1_method_26_code
def yX9_within : MethodName := ⟨RX9, "within", "(III)Z"⟩
def RX10 : String := "RoastHouseModel"
def TX10 : u_T := fun k => match k with
  | 0 => ("RoastHouseModel", "thrown", "I", false)
  | 1 => ("RoastHouseModel", "tape", "[I", true)
  | 2 => ("RoastHouseModel", "taped", "I", false)
  | 3 => ("RoastHouseModel", "size", "I", false)
  | 4 => ("RoastHouseModel", "sort", "[I", true)
  | 5 => ("RoastHouseModel", "place", "[I", true)
  | 6 => ("RoastHouseModel", "value", "[J", true)
  | 7 => ("RoastHouseModel", "at", "I", false)
  | 8 => ("RoastHouseModel", "fault", "I", false)
  | 9 => ("RoastHouseModel", "words", "[J", true)
  | 10 => ("RoastHouseModel", "lines", "[I", true)
  | 11 => ("RoastHouseModel", "lineDoes", "[I", true)
  | 12 => ("RoastHouseModel", "lineN", "[I", true)
  | 13 => ("RoastHouseModel", "lineAt", "[I", true)
  | 14 => ("RoastHouseModel", "op", "[I", true)
  | 15 => ("RoastHouseModel", "one", "[I", true)
  | 16 => ("RoastHouseModel", "holds", "I", false)
  | 17 => ("RoastHouseModel", "next", "I", false)
  | 18 => ("RoastHouseModel", "codes", "I", false)
  | 19 => ("RoastHouseModel", "deep", "I", false)
  | 20 => ("RoastHouseModel", "sumWaits", "[I", true)
  | 21 => ("RoastHouseModel", "signWaits", "[I", true)
  | 22 => ("RoastHouseModel", "andWaits", "[I", true)
  | 23 => ("RoastHouseModel", "known", "[I", true)
  | 24 => ("RoastHouseModel", "pile", "[I", true)
  | 25 => ("RoastHouseModel", "now", "I", false)
  | 26 => ("RoastHouseModel", "lots", "I", false)
  | 27 => ("RoastHouseModel", "green", "[I", true)
  | 28 => ("RoastHouseModel", "price", "[I", true)
  | 29 => ("RoastHouseModel", "taste", "[I", true)
  | 30 => ("RoastHouseModel", "bags", "I", false)
  | 31 => ("RoastHouseModel", "parts", "[I", true)
  | 32 => ("RoastHouseModel", "roastedOn", "[I", true)
  | 33 => ("RoastHouseModel", "house", "[I", true)
  | 34 => ("RoastHouseModel", "curve", "[I", true)
  | 35 => ("RoastHouseModel", "wasRoast", "Z", false)
  | 36 => ("RoastHouseModel", "minute", "I", false)
  | 37 => ("RoastHouseModel", "warmth", "I", false)
  | 38 => ("RoastHouseModel", "rise", "I", false)
  | 39 => ("RoastHouseModel", "fire", "I", false)
  | 40 => ("RoastHouseModel", "drum", "I", false)
  | 41 => ("RoastHouseModel", "loss", "I", false)
  | 42 => ("RoastHouseModel", "isDropped", "Z", false)
  | 43 => ("RoastHouseModel", "way", "I", false)
  | 44 => ("RoastHouseModel", "tells", "I", false)
  | 45 => ("RoastHouseModel", "told", "[I", true)
  | 46 => ("RoastHouseModel", "rest", "[I", true)
  | 47 => ("RoastHouseModel", "marks", "[I", true)
  | 48 => ("RoastHouseModel", "worths", "[I", true)
  | 49 => ("RoastHouseModel", "up", "J", false)
  | 50 => ("RoastHouseModel", "down", "J", false)
  | 51 => ("RoastHouseModel", "spanFrom", "[I", true)
  | 52 => ("RoastHouseModel", "spanTo", "[I", true)
  | 53 => ("RoastHouseModel", "inSet", "[I", true)
  | 54 => ("RoastHouseModel", "tenth", "[I", true)
  | 55 => ("RoastHouseModel", "bestTenths", "[I", true)
  | 56 => ("RoastHouseModel", "wasBest", "Z", false)
  | 57 => ("RoastHouseModel", "many", "I", false)
  | 58 => ("RoastHouseModel", "least", "I", false)
  | _ => ("RoastHouseModel", "keeps", "[I", true)
def tyX10 : Nat → FieldType := fun k => match k with
  | 0 => .int
  | 1 => .array .int
  | 2 => .int
  | 3 => .int
  | 4 => .array .int
  | 5 => .array .int
  | 6 => .array .long
  | 7 => .int
  | 8 => .int
  | 9 => .array .long
  | 10 => .array .int
  | 11 => .array .int
  | 12 => .array .int
  | 13 => .array .int
  | 14 => .array .int
  | 15 => .array .int
  | 16 => .int
  | 17 => .int
  | 18 => .int
  | 19 => .int
  | 20 => .array .int
  | 21 => .array .int
  | 22 => .array .int
  | 23 => .array .int
  | 24 => .array .int
  | 25 => .int
  | 26 => .int
  | 27 => .array .int
  | 28 => .array .int
  | 29 => .array .int
  | 30 => .int
  | 31 => .array .int
  | 32 => .array .int
  | 33 => .array .int
  | 34 => .array .int
  | 35 => .boolean
  | 36 => .int
  | 37 => .int
  | 38 => .int
  | 39 => .int
  | 40 => .int
  | 41 => .int
  | 42 => .boolean
  | 43 => .int
  | 44 => .int
  | 45 => .array .int
  | 46 => .array .int
  | 47 => .array .int
  | 48 => .array .int
  | 49 => .long
  | 50 => .long
  | 51 => .array .int
  | 52 => .array .int
  | 53 => .array .int
  | 54 => .array .int
  | 55 => .array .int
  | 56 => .boolean
  | 57 => .int
  | 58 => .int
  | _ => .array .int
theorem nmX10 : ∀ a, a < 60 → ∀ b, b < 60 → a ≠ b → (TX10 a).2.1 ≠ (TX10 b).2.1 := by decide +kernel
theorem tyX10_ok : ∀ k, k < 60 → parseFieldDescriptor (TX10 k).2.2.1 = some (tyX10 k) := by decide +kernel
abbrev cX10_thrown : ByteArray := prog_12_method_1_code
def yX10_thrown : MethodName := ⟨RX10, "thrown", "()I"⟩
abbrev cX10_feed : ByteArray := prog_12_method_2_code
def yX10_feed : MethodName := ⟨RX10, "feed", "(JJJ)I"⟩
abbrev cX10_lay : ByteArray := prog_12_method_3_code
def yX10_lay : MethodName := ⟨RX10, "lay", "(J)V"⟩
abbrev cX10_init : ByteArray := prog_12_method_4_code
def yX10_init : MethodName := ⟨RX10, "<init>", "()V"⟩
abbrev cX10_isLetter : ByteArray := prog_12_method_5_code
def yX10_isLetter : MethodName := ⟨RX10, "isLetter", "(I)Z"⟩
abbrev cX10_isDigit : ByteArray := prog_12_method_6_code
def yX10_isDigit : MethodName := ⟨RX10, "isDigit", "(I)Z"⟩
abbrev cX10_rank : ByteArray := prog_12_method_7_code
def yX10_rank : MethodName := ⟨RX10, "rank", "(I)I"⟩
abbrev cX10_isSignOf : ByteArray := prog_12_method_8_code
def yX10_isSignOf : MethodName := ⟨RX10, "isSignOf", "(I)Z"⟩
abbrev cX10_cutAll : ByteArray := prog_12_method_9_code
def yX10_cutAll : MethodName := ⟨RX10, "cutAll", "()V"⟩
abbrev cX10_wrong : ByteArray := prog_12_method_10_code
def yX10_wrong : MethodName := ⟨RX10, "wrong", "(I)V"⟩
abbrev cX10_isSign : ByteArray := prog_12_method_11_code
def yX10_isSign : MethodName := ⟨RX10, "isSign", "(I)Z"⟩
abbrev cX10_isWord : ByteArray := prog_12_method_12_code
def yX10_isWord : MethodName := ⟨RX10, "isWord", "(I)Z"⟩
abbrev cX10_takeSign : ByteArray := prog_12_method_13_code
def yX10_takeSign : MethodName := ⟨RX10, "takeSign", "(I)V"⟩
abbrev cX10_hasSign : ByteArray := prog_12_method_14_code
def yX10_hasSign : MethodName := ⟨RX10, "hasSign", "(I)Z"⟩
abbrev cX10_hasWord : ByteArray := prog_12_method_15_code
def yX10_hasWord : MethodName := ⟨RX10, "hasWord", "(I)Z"⟩
abbrev cX10_takeWord : ByteArray := prog_12_method_16_code
def yX10_takeWord : MethodName := ⟨RX10, "takeWord", "(I)V"⟩
abbrev cX10_emit : ByteArray := prog_12_method_17_code
def yX10_emit : MethodName := ⟨RX10, "emit", "(II)V"⟩
abbrev cX10_text : ByteArray := prog_12_method_18_code
def yX10_text : MethodName := ⟨RX10, "text", "()I"⟩
abbrev cX10_line : ByteArray := prog_12_method_19_code
def yX10_line : MethodName := ⟨RX10, "line", "()V"⟩
abbrev cX10_opens : ByteArray := prog_12_method_20_code
def yX10_opens : MethodName := ⟨RX10, "opens", "()V"⟩
abbrev cX10_partWord : ByteArray := prog_12_method_21_code
def yX10_partWord : MethodName := ⟨RX10, "partWord", "()I"⟩
abbrev cX10_part : ByteArray := prog_12_method_22_code
def yX10_part : MethodName := ⟨RX10, "part", "()Z"⟩
abbrev cX10_goesOnBehind : ByteArray := prog_12_method_23_code
def yX10_goesOnBehind : MethodName := ⟨RX10, "goesOnBehind", "()Z"⟩
abbrev cX10_valueOf : ByteArray := prog_12_method_24_code
def yX10_valueOf : MethodName := ⟨RX10, "valueOf", "(I)I"⟩
abbrev cX10_isTaste : ByteArray := prog_12_method_25_code
def yX10_isTaste : MethodName := ⟨RX10, "isTaste", "(I)Z"⟩
abbrev cX10_lot : ByteArray := prog_12_method_26_code
def yX10_lot : MethodName := ⟨RX10, "lot", "(IIIII)I"⟩
abbrev cX10_isLot : ByteArray := prog_12_method_27_code
def yX10_isLot : MethodName := ⟨RX10, "isLot", "(I)Z"⟩
abbrev cX10_isBag : ByteArray := prog_12_method_28_code
def yX10_isBag : MethodName := ⟨RX10, "isBag", "(I)Z"⟩
abbrev cX10_days : ByteArray := prog_12_method_29_code
def yX10_days : MethodName := ⟨RX10, "days", "(I)I"⟩
abbrev cX10_curve : ByteArray := prog_12_method_30_code
def yX10_curve : MethodName := ⟨RX10, "curve", "(II)Z"⟩
abbrev cX10_actsBy : ByteArray := prog_12_method_31_code
def yX10_actsBy : MethodName := ⟨RX10, "actsBy", "(I)V"⟩
abbrev cX10_goes : ByteArray := prog_12_method_32_code
def yX10_goes : MethodName := ⟨RX10, "goes", "(I)V"⟩
abbrev cX10_roast : ByteArray := prog_12_method_33_code
def yX10_roast : MethodName := ⟨RX10, "roast", "(II)I"⟩
abbrev cX10_newBag : ByteArray := prog_12_method_34_code
def yX10_newBag : MethodName := ⟨RX10, "newBag", "(I)I"⟩
abbrev cX10_roasted : ByteArray := prog_12_method_35_code
def yX10_roasted : MethodName := ⟨RX10, "roasted", "(I)I"⟩
abbrev cX10_gramsIn : ByteArray := prog_12_method_36_code
def yX10_gramsIn : MethodName := ⟨RX10, "gramsIn", "(I)I"⟩
abbrev cX10_take : ByteArray := prog_12_method_37_code
def yX10_take : MethodName := ⟨RX10, "take", "(II)I"⟩
abbrev cX10_moves : ByteArray := prog_12_method_38_code
def yX10_moves : MethodName := ⟨RX10, "moves", "(III)V"⟩
abbrev cX10_gives : ByteArray := prog_12_method_39_code
def yX10_gives : MethodName := ⟨RX10, "gives", "(IIII)V"⟩
abbrev cX10_blend : ByteArray := prog_12_method_40_code
def yX10_blend : MethodName := ⟨RX10, "blend", "()I"⟩
abbrev cX10_bag : ByteArray := prog_12_method_41_code
def yX10_bag : MethodName := ⟨RX10, "bag", "(II)I"⟩
abbrev cX10_part_ : ByteArray := prog_12_method_42_code
def yX10_part_ : MethodName := ⟨RX10, "part", "(II)I"⟩
abbrev cX10_isSample : ByteArray := prog_12_method_43_code
def yX10_isSample : MethodName := ⟨RX10, "isSample", "(I)Z"⟩
abbrev cX10_mark : ByteArray := prog_12_method_44_code
def yX10_mark : MethodName := ⟨RX10, "mark", "(III)Z"⟩
abbrev cX10_told : ByteArray := prog_12_method_45_code
def yX10_told : MethodName := ⟨RX10, "told", "(II)Z"⟩
abbrev cX10_weighs : ByteArray := prog_12_method_46_code
def yX10_weighs : MethodName := ⟨RX10, "weighs", "(I)Z"⟩
abbrev cX10_order : ByteArray := prog_12_method_47_code
def yX10_order : MethodName := ⟨RX10, "order", "(II)I"⟩
abbrev cX10_worth : ByteArray := prog_12_method_48_code
def yX10_worth : MethodName := ⟨RX10, "worth", "(I)I"⟩
abbrev cX10_span : ByteArray := prog_12_method_49_code
def yX10_span : MethodName := ⟨RX10, "span", "(III)Z"⟩
abbrev cX10_isInSpans : ByteArray := prog_12_method_50_code
def yX10_isInSpans : MethodName := ⟨RX10, "isInSpans", "()Z"⟩
abbrev cX10_tries : ByteArray := prog_12_method_51_code
def yX10_tries : MethodName := ⟨RX10, "tries", "(III)V"⟩
abbrev cX10_asks : ByteArray := prog_12_method_52_code
def yX10_asks : MethodName := ⟨RX10, "asks", "(I)V"⟩
abbrev cX10_best : ByteArray := prog_12_method_53_code
def yX10_best : MethodName := ⟨RX10, "best", "(II)I"⟩
abbrev cX10_tenths : ByteArray := prog_12_method_54_code
def yX10_tenths : MethodName := ⟨RX10, "tenths", "(I)I"⟩
abbrev cX10_isHouse : ByteArray := prog_12_method_55_code
def yX10_isHouse : MethodName := ⟨RX10, "isHouse", "(I)Z"⟩
abbrev cX10_send : ByteArray := prog_12_method_56_code
def yX10_send : MethodName := ⟨RX10, "send", "(II)Z"⟩
abbrev cX10_keeps : ByteArray := prog_12_method_57_code
def yX10_keeps : MethodName := ⟨RX10, "keeps", "(II)Z"⟩
abbrev cX10_stale : ByteArray := prog_12_method_58_code
def yX10_stale : MethodName := ⟨RX10, "stale", "(I)I"⟩
abbrev cX10_found : ByteArray := prog_12_method_59_code
def yX10_found : MethodName := ⟨RX10, "found", "(II)I"⟩
abbrev cX10_led : ByteArray := prog_12_method_60_code
def yX10_led : MethodName := ⟨RX10, "led", "(II)I"⟩
abbrev cX10_count : ByteArray := prog_12_method_61_code
def yX10_count : MethodName := ⟨RX10, "count", "(I)I"⟩
def RJ6 : String := "java/lang/Integer"
def TJ6 : u_T := fun k => match k with
  | _ => ("", "", "", false)
def tyJ6 : Nat → FieldType := fun k => match k with
  | _ => .int
abbrev cJ6_bitCount_0f7a4 : ByteArray := prog_14_method_49_code
def yJ6_bitCount_0f7a4 : MethodName := ⟨RJ6, "bitCount", "(I)I"⟩
def RJ13 : String := "java/lang/Long"
def TJ13 : u_T := fun k => match k with
  | _ => ("", "", "", false)
def tyJ13 : Nat → FieldType := fun k => match k with
  | _ => .int
abbrev cJ13_compare_74951 : ByteArray := prog_15_method_42_code
def yJ13_compare_74951 : MethodName := ⟨RJ13, "compare", "(JJ)I"⟩
def RJ9 : String := "java/lang/Math"
def TJ9 : u_T := fun k => match k with
  | _ => ("", "", "", false)
def tyJ9 : Nat → FieldType := fun k => match k with
  | _ => .int
abbrev cJ9_floorDiv_f86c9 : ByteArray := prog_16_method_49_code
def yJ9_floorDiv_f86c9 : MethodName := ⟨RJ9, "floorDiv", "(JJ)J"⟩
abbrev cJ9_abs_0f7a4 : ByteArray := prog_16_method_59_code
def yJ9_abs_0f7a4 : MethodName := ⟨RJ9, "abs", "(I)I"⟩
abbrev cJ9_max_7cf53 : ByteArray := prog_16_method_65_code
def yJ9_max_7cf53 : MethodName := ⟨RJ9, "max", "(II)I"⟩
abbrev cJ9_min_7cf53 : ByteArray := prog_16_method_69_code
def yJ9_min_7cf53 : MethodName := ⟨RJ9, "min", "(II)I"⟩
def RJ0 : String := "java/lang/String"
def TJ0 : u_T := fun k => match k with
  | _ => ("", "", "", false)
def tyJ0 : Nat → FieldType := fun k => match k with
  | _ => .int
abbrev cJ0_length_8abf5 : ByteArray := prog_18_method_54_code
def yJ0_length_8abf5 : MethodName := ⟨RJ0, "length", "()I"⟩
abbrev cJ0_charAt_5068e : ByteArray := prog_18_method_56_code
def yJ0_charAt_5068e : MethodName := ⟨RJ0, "charAt", "(I)C"⟩
abbrev cJ0_coder_7d493 : ByteArray := prog_18_method_152_code
def yJ0_coder_7d493 : MethodName := ⟨RJ0, "coder", "()B"⟩
abbrev cJ0_isLatin1_aae02 : ByteArray := prog_18_method_154_code
def yJ0_isLatin1_aae02 : MethodName := ⟨RJ0, "isLatin1", "()Z"⟩
abbrev cJ0_checkIndex_df160 : ByteArray := prog_18_method_155_code
def yJ0_checkIndex_df160 : MethodName := ⟨RJ0, "checkIndex", "(II)V"⟩
def RJ1 : String := "java/lang/StringLatin1"
def TJ1 : u_T := fun k => match k with
  | _ => ("", "", "", false)
def tyJ1 : Nat → FieldType := fun k => match k with
  | _ => .int
abbrev cJ1_charAt_3b067 : ByteArray := prog_19_method_2_code
def yJ1_charAt_3b067 : MethodName := ⟨RJ1, "charAt", "([BI)C"⟩
def RJ2 : String := "java/lang/StringUTF16"
def TJ2 : u_T := fun k => match k with
  | _ => ("", "", "", false)
def tyJ2 : Nat → FieldType := fun k => match k with
  | _ => .int
abbrev cJ2_getChar_3b067 : ByteArray := prog_20_method_5_code
def yJ2_getChar_3b067 : MethodName := ⟨RJ2, "getChar", "([BI)C"⟩
abbrev cJ2_length_9d52b : ByteArray := prog_20_method_6_code
def yJ2_length_9d52b : MethodName := ⟨RJ2, "length", "([B)I"⟩
abbrev cJ2_charAt_3b067 : ByteArray := prog_20_method_83_code
def yJ2_charAt_3b067 : MethodName := ⟨RJ2, "charAt", "([BI)C"⟩
abbrev cJ2_checkIndex_2214a : ByteArray := prog_20_method_91_code
def yJ2_checkIndex_2214a : MethodName := ⟨RJ2, "checkIndex", "(I[B)V"⟩
def RJ10 : String := "java/lang/System"
def TJ10 : u_T := fun k => match k with
  | _ => ("", "", "", false)
def tyJ10 : Nat → FieldType := fun k => match k with
  | _ => .int
def RJ7 : String := "java/util/Arrays"
def TJ7 : u_T := fun k => match k with
  | _ => ("", "", "", false)
def tyJ7 : Nat → FieldType := fun k => match k with
  | _ => .int
abbrev cJ7_fill_53178 : ByteArray := prog_23_method_103_code
def yJ7_fill_53178 : MethodName := ⟨RJ7, "fill", "([II)V"⟩
def RJ3 : String := "jdk/internal/util/Preconditions"
def TJ3 : u_T := fun k => match k with
  | _ => ("", "", "", false)
def tyJ3 : Nat → FieldType := fun k => match k with
  | _ => .int
abbrev cJ3_checkIndex_8e157 : ByteArray := prog_25_method_11_code
def yJ3_checkIndex_8e157 : MethodName := ⟨RJ3, "checkIndex", "(IILjava/util/function/BiFunction;)I"⟩
def RL : String := "RoastHouseLaw"
abbrev cL_bag : ByteArray := method_3_code
def yL_bag : MethodName := ⟨RL, "bag", "(LRoastHouse;II[J)I"⟩
abbrev cL_law : ByteArray := code
def yL_law : MethodName := ⟨RL, "law", "([I)Z"⟩
end
section
/-! THE ABSTRACT MACHINE. Objects and arrays that the law makes lie one behind another from the law's own start on: cell k at address base + k. A world: a shape (what is where, how it refers) and two tables of numbers (ints and longs, by cell and place). -/
abbrev hp_T : Type := (Nat → Nat → Int32) × (Nat → Nat → Int64)
abbrev sh_E : Type := (FieldType × Nat) ⊕ (Nat × List Value)
abbrev sh_T : Type := List sh_E
abbrev en_T : Type := Nat × (Nat → Option Cell) × va_G × (FieldType → ClassId) × (Nat → Nat)
abbrev ie_T : Type := Nat × Instr × Instr × Nat × Nat × Nat × Int32 × Int64 × Nat
abbrev mt_T : Type := MethodName × ByteArray × Nat × Option FieldType × List ie_T
abbrev st_T : Type := Nat × List Value × List Value × sh_T × hp_T
def kcls : List vw_C := [(RX0, TX0, 9), (RX1, TX1, 10), (RX2, TX2, 4), (RX3, TX3, 4), (RX4, TX4, 12), (RX5, TX5, 3), (RX6, TX6, 8), (RX7, TX7, 2), (RX8, TX8, 5), (RX9, TX9, 10), (RX10, TX10, 60)]
def ktyp (ci : Nat) : Nat → FieldType := match ci with
  | 0 => tyX0
  | 1 => tyX1
  | 2 => tyX2
  | 3 => tyX3
  | 4 => tyX4
  | 5 => tyX5
  | 6 => tyX6
  | 7 => tyX7
  | 8 => tyX8
  | 9 => tyX9
  | _ => tyX10
def gT : List Cond := lw_tbl.filter goodWord
theorem gT_of {w : Cond} (h : w ∈ lw_tbl) (hg : goodWord w = true) : w ∈ gT := List.mem_filter.mpr ⟨h, hg⟩
theorem gT_good : GoodIn gT gT := fun w hw => ⟨hw, good_of_word (List.mem_filter.mp hw).2⟩
theorem kall {P : Nat → vw_C → Prop} (h0 : P 0 (RX0, TX0, 9)) (h1 : P 1 (RX1, TX1, 10)) (h2 : P 2 (RX2, TX2, 4)) (h3 : P 3 (RX3, TX3, 4)) (h4 : P 4 (RX4, TX4, 12)) (h5 : P 5 (RX5, TX5, 3)) (h6 : P 6 (RX6, TX6, 8)) (h7 : P 7 (RX7, TX7, 2)) (h8 : P 8 (RX8, TX8, 5)) (h9 : P 9 (RX9, TX9, 10)) (h10 : P 10 (RX10, TX10, 60)) : ∀ ci q, kcls[ci]? = some q → P ci q := by
  intro ci q h
  match ci, h with
  | 0, h => cases h; exact h0
  | 1, h => cases h; exact h1
  | 2, h => cases h; exact h2
  | 3, h => cases h; exact h3
  | 4, h => cases h; exact h4
  | 5, h => cases h; exact h5
  | 6, h => cases h; exact h6
  | 7, h => cases h; exact h7
  | 8, h => cases h; exact h8
  | 9, h => cases h; exact h9
  | 10, h => cases h; exact h10
  | k + 11, h => simp [kcls] at h
theorem kty_ok : ∀ (ci : Nat) (q : vw_C), kcls[ci]? = some q → ∀ k, k < q.2.2 → parseFieldDescriptor (q.2.1 k).2.2.1 = some (ktyp ci k) := kall tyX0_ok tyX1_ok tyX2_ok tyX3_ok tyX4_ok tyX5_ok tyX6_ok tyX7_ok tyX8_ok tyX9_ok tyX10_ok
theorem knm_ok : ∀ (ci : Nat) (q : vw_C), kcls[ci]? = some q → ∀ a, a < q.2.2 → ∀ b, b < q.2.2 → a ≠ b → (q.2.1 a).2.1 ≠ (q.2.1 b).2.1 := kall nmX0 nmX1 nmX2 nmX3 nmX4 nmX5 nmX6 nmX7 nmX8 nmX9 nmX10
def kin_b (q : vw_C) (ps : List Nat) : Bool := decide (u_ws q.1 q.2.1 q.2.2 = ps.filterMap (fun i => lw_tbl[i]?)) && (u_ws q.1 q.2.1 q.2.2).all goodWord
theorem kin_of {q : vw_C} {ps : List Nat} (h : kin_b q ps = true) : ∀ w ∈ u_ws q.1 q.2.1 q.2.2, w ∈ gT := by
  simp only [kin_b, Bool.and_eq_true, decide_eq_true_eq] at h
  intro w hw
  have hg := List.all_eq_true.mp h.2 w hw
  rw [h.1] at hw
  obtain ⟨i, -, hi⟩ := List.mem_filterMap.mp hw
  exact gT_of (List.mem_of_getElem? hi) hg
theorem kin0 : kin_b (RX0, TX0, 9) [289, 291, 293, 295, 297, 299, 301, 303, 305] = true := by decide +kernel
theorem kin1 : kin_b (RX1, TX1, 10) [347, 349, 351, 353, 355, 357, 359, 361, 363, 365] = true := by decide +kernel
theorem kin2 : kin_b (RX2, TX2, 4) [319, 321, 323, 325] = true := by decide +kernel
theorem kin3 : kin_b (RX3, TX3, 4) [110, 112, 114, 116] = true := by decide +kernel
theorem kin4 : kin_b (RX4, TX4, 12) [244, 246, 248, 250, 252, 254, 256, 258, 260, 262, 264, 266] = true := by decide +kernel
theorem kin5 : kin_b (RX5, TX5, 3) [211, 213, 215] = true := by decide +kernel
theorem kin6 : kin_b (RX6, TX6, 8) [191, 193, 195, 197, 199, 201, 203, 205] = true := by decide +kernel
theorem kin7 : kin_b (RX7, TX7, 2) [131, 133] = true := by decide +kernel
theorem kin8 : kin_b (RX8, TX8, 5) [161, 163, 165, 167, 169] = true := by decide +kernel
theorem kin9 : kin_b (RX9, TX9, 10) [381, 383, 385, 387, 389, 391, 393, 395, 397, 399] = true := by decide +kernel
theorem kin10 : kin_b (RX10, TX10, 60) [1035, 1037, 1039, 1041, 1043, 1045, 1047, 1049, 1051, 1053, 1055, 1057, 1059, 1061, 1063, 1065, 1067, 1069, 1071, 1073, 1075, 1077, 1079, 1081, 1083, 1085, 1087, 1089, 1091, 1093, 1095, 1097, 1099, 1101, 1103, 1105, 1107, 1109, 1111, 1113, 1115, 1117, 1119, 1121, 1123, 1125, 1127, 1129, 1131, 1133, 1135, 1137, 1139, 1141, 1143, 1145, 1147, 1149, 1151, 1153] = true := by decide +kernel
theorem kin_ok : ∀ (ci : Nat) (q : vw_C), kcls[ci]? = some q → ∀ w ∈ u_ws q.1 q.2.1 q.2.2, w ∈ gT := kall (kin_of kin0) (kin_of kin1) (kin_of kin2) (kin_of kin3) (kin_of kin4) (kin_of kin5) (kin_of kin6) (kin_of kin7) (kin_of kin8) (kin_of kin9) (kin_of kin10)
/-- a value of the abstract machine as the JVM has it: a cell by its number, a constant String (or the script) by its own number as a float -/
def cv (E : en_T) : Value → Value
  | .ref k => .ref (E.1 + k)
  | .float u => .ref (E.2.2.2.2 u.toNat)
  | v => v
/-- what is in a place of a cell: ints and longs by the tables, the rest as the shape has it -/
def av (hp : hp_T) (c i : Nat) : Value → Value
  | .int _ => .int (hp.1 c i)
  | .long _ => .long (hp.2 c i)
  | v => v
def fs_of (E : en_T) (hp : hp_T) (c : Nat) (ks : List Value) : List Value := ks.mapIdx (fun i v => cv E (av hp c i v))
def arc (hp : hp_T) (c : Nat) (ty : FieldType) (n : Nat) : vp_A := match ty with
  | .long => (n, .inr (.inl (hp.2 c)))
  | _ => (n, .inl (hp.1 c))
def ce (E : en_T) (hp : hp_T) (c : Nat) : sh_E → va_E
  | .inl (ty, n) => .inl (E.2.2.2.1 ty, arc hp c ty n)
  | .inr (ci, ks) => .inr (ci, fs_of E hp c ks)
/-- the world: all the cells from base on, by the shape and the tables; what lies below is as it was -/
def wd (E : en_T) (sh : sh_T) (hp : hp_T) (H : Heap) : Prop :=
  H.size = E.1 + sh.length ∧ (∀ q, q < E.1 → H[q]? = E.2.1 q) ∧ ∀ k e, sh[k]? = some e → va_at E.2.2.1 kcls (E.1 + k, ce E hp k e) H
def ktys (cA : FieldType → ClassId) : List (ClassId × FieldType) := [(cA .int, .int), (cA .byte, .byte), (cA .long, .long)]
def nests : List (String × Nat) := [("RoastHouse$Roaster", 60), ("RoastHouse$Tape", 21), ("RoastHouse$Tokens", 97), ("RoastHouse$RuleReader", 95), ("RoastHouse$Rules", 64), ("RoastHouse$Bags", 52), ("RoastHouse$Cups", 31), ("RoastHouse$Blender", 50)]
def kx (E : en_T) (U : State) : Prop := va_K E.2.2.1 kcls (ktys E.2.2.2.1) U ∧ ∀ q ∈ nests, va_Nw (.methodLinkNest q.1 q.2 yX9_within "RoastHouse") U
def rm (d mc ms : Nat) : Room := { frames := d, cells := mc, slots := ms, locals := 40 * d }
def cx (y : mt_T) (E : en_T) (p : Program) (s : State) (m : MethodId) (args : Array Value) (meth : Method) (c : Code) : Prop :=
  p.tables.exec = Jvm.exec ∧ c.code = y.2.1 ∧ meth.sig.returnType = y.2.2.2.1 ∧ c.maxLocals = y.2.2.1 ∧ s.vm.findClass y.1.cls = some m.cls ∧ (∀ w ∈ gT, w.before args s = true) ∧ meth.locks = false ∧ meth.name = y.1.name ∧ kx E s
def isV : Value → Bool
  | .retAddr _ => false
  | _ => true
/-- the known locals, with their places (an unknown one: retAddr) -/
def al (E : en_T) (lo : List Value) : List (Nat × Value) := (List.range lo.length).filterMap (fun i => match lo[i]? with
  | some v => if isV v = true then some (i, cv E v) else none
  | none => none)
theorem al_mem {E : en_T} {lo : List Value} {i : Nat} {w : Value} : (i, w) ∈ al E lo ↔ ∃ v, lo[i]? = some v ∧ isV v = true ∧ w = cv E v := by
  unfold al
  rw [List.mem_filterMap]
  constructor
  · rintro ⟨j, hj, h⟩
    split at h
    · next v hv =>
      split at h
      · next h1 => cases h; exact ⟨v, hv, h1, rfl⟩
      · cases h
    · cases h
  · rintro ⟨v, hv, h1, rfl⟩
    refine ⟨i, List.mem_range.mpr (List.getElem?_eq_some_iff.mp hv).1, ?_⟩
    rw [hv]
    simp [h1]
def qcc (E : en_T) (Q : Option Value → sh_T → hp_T → Prop) : Array Value → State → Outcome → State → Prop := fun _ _ o t => ∃ r sh hp, o = .returned (r.map (cv E)) ∧ Q r sh hp ∧ wd E sh hp t.heap
def pcc (E : en_T) (av : List Value) (sh : sh_T) (hp : hp_T) : Array Value → State → Prop := fun v U => v = (av.map (cv E)).toArray ∧ wd E sh hp U.heap ∧ kx E U
def wsm (y : mt_T) : List Cond := .code y.1 y.2.1 y.2.2.1 y.2.2.2.1 :: gT
/-- a method's contract: from this world, with these arguments, it returns, and Q holds of its answer and of the world behind it -/
def gC (y : mt_T) (d mc ms : Nat) (as : List Value) (sh : sh_T) (hp : hp_T) (Q : Option Value → sh_T → hp_T → Prop) : Prop :=
  ∀ (l : Launch) (E : en_T), Met l y.1 (wsm y) (rm d mc ms) (pcc E as sh hp) (qcc E Q) mc ms (fun q => E.1 ≤ q)
/-! the code of a method, with its links resolved: (pc, instruction, its plain form, next pc, a, length, int, long, place of a word) -/
def dec (cc : ByteArray) (pc : Nat) (i : Instr) (n : Nat) : Bool := match decode cc pc with
  | .ok (a, b) => decide (a = i) && Nat.beq b n
  | _ => false
theorem dec_of {cc : ByteArray} {pc : Nat} {i : Instr} {n : Nat} (h : dec cc pc i n = true) : decode cc pc = .ok (i, n) := by
  unfold dec at h
  split at h
  · next a b e =>
    simp only [Bool.and_eq_true, decide_eq_true_eq] at h
    rw [e, h.1, Nat.eq_of_beq_eq_true h.2]
  · cases h
def tb (j : Nat) (w : Cond) : Bool := decide (lw_tbl[j]? = some w) && goodWord w
theorem tb_of {j : Nat} {w : Cond} (h : tb j w = true) : w ∈ gT := by
  simp only [tb, Bool.and_eq_true, decide_eq_true_eq] at h
  exact gT_of (List.mem_of_getElem? h.1) h.2
def fk (ci k : Nat) : String × String × String × Bool := match kcls[ci]? with
  | some q => if k < q.2.2 then q.2.1 k else ("", "", "", false)
  | none => ("", "", "", false)
/-- the length of an instruction that stands for itself -/
def il : Instr → Nat
  | .getfield _ | .putfield _ | .invokevirtual _ | .invokestatic _ | .invokespecial _ | .new _ | .if_icmp _ _ | .ifCond _ _ | .goto _ | .iinc _ _ | .ldc2_w _ => 3
  | .newarray _ => 2
  | .tableswitch _ _ _ _ | .lookupswitch _ _ => 0
  | _ => 1
def okb (own : String) (cc : ByteArray) : ie_T → Bool
  | (pc, ia, ic, nx, a, b, v, w, j) => dec cc pc ia b && match ic with
    | .iconst n => Nat.beq nx (pc + b) && ((decide (ia = .iconst n) && decide (Int32.ofInt n = v) && Nat.beq b 1) || (decide (ia = .bipush n) && decide ((Int8.ofInt n).toInt32 = v) && Nat.beq b 2) || (decide (ia = .sipush n) && decide ((Int16.ofInt n).toInt32 = v) && Nat.beq b 3) || (decide (ia = .ldc a) && Nat.beq b 2 && tb j (.constant own a v)) || (decide (ia = .ldc_w a) && Nat.beq b 3 && tb j (.constant own a v)))
    | .lconst n => Nat.beq nx (pc + 1) && decide (ia = .lconst n) && Nat.beq b 1 && decide (Int64.ofNat (n : Nat) = w)
    | .ldc2_w x => Nat.beq nx (pc + 3) && decide (ia = .ldc2_w x) && Nat.beq b 3 && tb j (.constantLong own x w)
    | .iload i => Nat.beq nx (pc + b) && ((decide (ia = .iload i) && Nat.beq b 2) || (decide (ia = .iload_n (Fin.ofNat 4 i)) && Nat.beq b 1 && Nat.blt i 4))
    | .lload i => Nat.beq nx (pc + b) && ((decide (ia = .lload i) && Nat.beq b 2) || (decide (ia = .lload_n (Fin.ofNat 4 i)) && Nat.beq b 1 && Nat.blt i 4))
    | .aload i => Nat.beq nx (pc + b) && ((decide (ia = .aload i) && Nat.beq b 2) || (decide (ia = .aload_n (Fin.ofNat 4 i)) && Nat.beq b 1 && Nat.blt i 4))
    | .istore i => Nat.beq nx (pc + b) && ((decide (ia = .istore i) && Nat.beq b 2) || (decide (ia = .istore_n (Fin.ofNat 4 i)) && Nat.beq b 1 && Nat.blt i 4))
    | .lstore i => Nat.beq nx (pc + b) && ((decide (ia = .lstore i) && Nat.beq b 2) || (decide (ia = .lstore_n (Fin.ofNat 4 i)) && Nat.beq b 1 && Nat.blt i 4))
    | .astore i => Nat.beq nx (pc + b) && ((decide (ia = .astore i) && Nat.beq b 2) || (decide (ia = .astore_n (Fin.ofNat 4 i)) && Nat.beq b 1 && Nat.blt i 4))
    | .iinc i n => Nat.beq nx (pc + 3) && decide (ia = .iinc i n) && Nat.beq b 3 && decide (Int32.ofInt n = v)
    | .goto off => decide (ia = .goto off) && Nat.beq b 3 && decide ((pc : Int) + off = (nx : Int))
    | .if_icmp c off => Nat.beq nx (pc + 3) && decide (ia = .if_icmp c off) && Nat.beq b 3 && decide ((pc : Int) + off = (a : Int))
    | .ifCond c off => Nat.beq nx (pc + 3) && decide (ia = .ifCond c off) && Nat.beq b 3 && decide ((pc : Int) + off = (a : Int))
    | .getfield k => Nat.beq nx (pc + 3) && Nat.beq b 3 && (match ia with
      | .getfield x => tb j (.fieldLink own x (fk a k).1 (fk a k).2.1 (fk a k).2.2.1) && (match kcls[a]? with
        | some q => Nat.blt k q.2.2
        | none => false)
      | _ => false)
    | .putfield k => Nat.beq nx (pc + 3) && Nat.beq b 3 && (match ia with
      | .putfield x => tb j (.fieldLink own x (fk a k).1 (fk a k).2.1 (fk a k).2.2.1) && (match kcls[a]? with
        | some q => Nat.blt k q.2.2
        | none => false)
      | _ => false)
    | i => decide (ia = i) && (if il i = 0 then true else Nat.beq b (il i) && Nat.beq nx (pc + il i))
def okm (y : mt_T) : Bool := y.2.2.2.2.all (okb y.1.cls y.2.1)
def lk (pc : Nat) : List ie_T → Option ie_T
  | [] => none
  | e :: r => match Nat.beq e.1 pc with
    | true => some e
    | false => lk pc r
theorem lk_mem {pc : Nat} {l : List ie_T} {e : ie_T} (h : lk pc l = some e) : e ∈ l ∧ e.1 = pc := by
  induction l with
  | nil => cases h
  | cons a r ih =>
    unfold lk at h
    split at h
    · next hb => cases h; exact ⟨List.mem_cons_self, Nat.eq_of_beq_eq_true hb⟩
    · exact ⟨List.mem_cons_of_mem _ (ih h).1, (ih h).2⟩
theorem lk_ok {y : mt_T} (hy : okm y = true) {pc : Nat} {e : ie_T} (h : lk pc y.2.2.2.2 = some e) : okb y.1.cls y.2.1 e = true ∧ e.1 = pc := ⟨List.all_eq_true.mp hy e (lk_mem h).1, (lk_mem h).2⟩
/-- the judgement: from this point of method y, in this world, y comes to its end with Q -/
def gG (y : mt_T) (d mc ms : Nat) (Q : Option Value → sh_T → hp_T → Prop) (cells slots : Nat) (S : st_T) : Prop :=
  okm y = true → ∀ (p : Program) (l : Launch) (e : Env) (s : State) (m : MethodId) (args : Array Value) (below : List Frame) (meth : Method) (c : Code) (E : en_T) (H : Heap) (locs : List Loc) (ls : Array Slot),
    cx y E p s m args meth c → wd E S.2.2.2.1 S.2.2.2.2 H → (∀ q ∈ locs, E.1 ≤ q.base) → lv_has ls y.2.2.1 (al E S.2.1) →
    W p l e (rm d mc ms) s m args below meth c H locs cells slots (MQ below (qcc E Q) args s mc ms (fun q => E.1 ≤ q)) (F0 m S.1 ls (S.2.2.1.map (cv E)))
end
section
/-! single steps -/
section GS
variable {y : mt_T} {d mc ms : Nat} {Q : Option Value → sh_T → hp_T → Prop} {cells slots : Nat} {pc : Nat} {lo st : List Value} {sh : sh_T} {hp : hp_T}
theorem cv_cat (E : en_T) (v : Value) : (cv E v).category = v.category := by cases v <;> rfl
theorem al_at {E : en_T} {ls : Array Slot} {n i : Nat} {v : Value} (h : lv_has ls n (al E lo)) (hv : lo[i]? = some v) (hs : isV v = true) : ls[i]? = some (.val (cv E v)) := h.2.2 (i, cv E v) (al_mem.mpr ⟨v, hv, hs, rfl⟩)
theorem hs_sub {ls : Array Slot} {n : Nat} {l l' : List (Nat × Value)} (h : lv_has ls n l) (hs : ∀ q ∈ l', q ∈ l) : lv_has ls n l' := ⟨h.1, h.2.1, fun q hq => h.2.2 q (hs q hq)⟩
def notL (lo : List Value) (i : Nat) : Bool := match i with
  | 0 => true
  | k + 1 => match lo[k]? with
    | some v => Nat.beq v.category 1
    | none => true
theorem al_set1 {E : en_T} {i : Nat} {x : Value} (hn : notL lo i = true) (hx : x.category = 1) : ∀ q ∈ al E (lo.set i x), q ∈ (i, cv E x) :: (al E lo).filter (fun q => !(q.1 == i) && !(q.1 + 1 == i && q.2.category == 2)) := by
  rintro ⟨j, w⟩ hq
  obtain ⟨v, hv, hs, rfl⟩ := al_mem.mp hq
  by_cases hj : j = i
  · subst hj
    rw [List.getElem?_set] at hv
    simp at hv
    rw [← hv.2]
    exact List.mem_cons_self
  · rw [List.getElem?_set_ne (Ne.symm hj)] at hv
    refine List.mem_cons_of_mem _ (List.mem_filter.mpr ⟨al_mem.mpr ⟨v, hv, hs, rfl⟩, ?_⟩)
    simp only [Bool.and_eq_true, Bool.not_eq_true', beq_eq_false_iff_ne, Bool.and_eq_false_imp, beq_iff_eq]
    refine ⟨by simpa using hj, ?_⟩
    intro h1
    subst h1
    simp only [notL, hv] at hn
    rw [cv_cat, Nat.eq_of_beq_eq_true hn]
    decide
theorem al_set2 {E : en_T} {i : Nat} {x u : Value} (hn : notL lo i = true) (hu : isV u = false) : ∀ q ∈ al E ((lo.set i x).set (i + 1) u), q ∈ (i, cv E x) :: (al E lo).filter (fun q => !(q.1 == i) && (!(q.1 == i + 1) && !(q.1 + 1 == i && q.2.category == 2))) := by
  rintro ⟨j, w⟩ hq
  obtain ⟨v, hv, hs, rfl⟩ := al_mem.mp hq
  by_cases hj2 : j = i + 1
  · subst hj2
    rw [List.getElem?_set] at hv
    simp at hv
    rw [← hv.2, hu] at hs
    cases hs
  · rw [List.getElem?_set_ne (Ne.symm hj2)] at hv
    by_cases hj : j = i
    · subst hj
      rw [List.getElem?_set] at hv
      simp at hv
      rw [← hv.2]
      exact List.mem_cons_self
    · rw [List.getElem?_set_ne (Ne.symm hj)] at hv
      refine List.mem_cons_of_mem _ (List.mem_filter.mpr ⟨al_mem.mpr ⟨v, hv, hs, rfl⟩, ?_⟩)
      simp only [Bool.and_eq_true, Bool.not_eq_true', beq_eq_false_iff_ne, Bool.and_eq_false_imp, beq_iff_eq]
      refine ⟨by simpa using hj, by simpa using hj2, ?_⟩
      intro h1
      subst h1
      simp only [notL, hv] at hn
      rw [cv_cat, Nat.eq_of_beq_eq_true hn]
      decide
theorem g1_iadd {x z : Int32} (hd : decode y.2.1 pc = .ok (.iadd, 1)) (k : gG y d mc ms Q cells slots (pc + 1, lo, .int (x + z) :: st, sh, hp)) : gG y d mc ms Q cells slots (pc, lo, .int z :: .int x :: st, sh, hp) := fun ok p l e s m args below meth c E H locs ls C hw hL hl => lv_iadd C.1 C.2.1 hd (k ok p l e s m args below meth c E H locs ls C hw hL hl)
theorem g1_isub {x z : Int32} (hd : decode y.2.1 pc = .ok (.isub, 1)) (k : gG y d mc ms Q cells slots (pc + 1, lo, .int (x - z) :: st, sh, hp)) : gG y d mc ms Q cells slots (pc, lo, .int z :: .int x :: st, sh, hp) := fun ok p l e s m args below meth c E H locs ls C hw hL hl => lv_isub C.1 C.2.1 hd (k ok p l e s m args below meth c E H locs ls C hw hL hl)
theorem g1_imul {x z : Int32} (hd : decode y.2.1 pc = .ok (.imul, 1)) (k : gG y d mc ms Q cells slots (pc + 1, lo, .int (x * z) :: st, sh, hp)) : gG y d mc ms Q cells slots (pc, lo, .int z :: .int x :: st, sh, hp) := fun ok p l e s m args below meth c E H locs ls C hw hL hl => lv_imul C.1 C.2.1 hd (k ok p l e s m args below meth c E H locs ls C hw hL hl)
theorem g1_iand {x z : Int32} (hd : decode y.2.1 pc = .ok (.iand, 1)) (k : gG y d mc ms Q cells slots (pc + 1, lo, .int (x &&& z) :: st, sh, hp)) : gG y d mc ms Q cells slots (pc, lo, .int z :: .int x :: st, sh, hp) := fun ok p l e s m args below meth c E H locs ls C hw hL hl => lv_iand C.1 C.2.1 hd (k ok p l e s m args below meth c E H locs ls C hw hL hl)
theorem g1_ior {x z : Int32} (hd : decode y.2.1 pc = .ok (.ior, 1)) (k : gG y d mc ms Q cells slots (pc + 1, lo, .int (x ||| z) :: st, sh, hp)) : gG y d mc ms Q cells slots (pc, lo, .int z :: .int x :: st, sh, hp) := fun ok p l e s m args below meth c E H locs ls C hw hL hl => lv_ior C.1 C.2.1 hd (k ok p l e s m args below meth c E H locs ls C hw hL hl)
theorem g1_ixor {x z : Int32} (hd : decode y.2.1 pc = .ok (.ixor, 1)) (k : gG y d mc ms Q cells slots (pc + 1, lo, .int (x ^^^ z) :: st, sh, hp)) : gG y d mc ms Q cells slots (pc, lo, .int z :: .int x :: st, sh, hp) := fun ok p l e s m args below meth c E H locs ls C hw hL hl => lv_ixor C.1 C.2.1 hd (k ok p l e s m args below meth c E H locs ls C hw hL hl)
theorem g1_ladd {x z : Int64} (hd : decode y.2.1 pc = .ok (.ladd, 1)) (k : gG y d mc ms Q cells slots (pc + 1, lo, .long (x + z) :: st, sh, hp)) : gG y d mc ms Q cells slots (pc, lo, .long z :: .long x :: st, sh, hp) := fun ok p l e s m args below meth c E H locs ls C hw hL hl => lv_ladd C.1 C.2.1 hd (k ok p l e s m args below meth c E H locs ls C hw hL hl)
theorem g1_lsub {x z : Int64} (hd : decode y.2.1 pc = .ok (.lsub, 1)) (k : gG y d mc ms Q cells slots (pc + 1, lo, .long (x - z) :: st, sh, hp)) : gG y d mc ms Q cells slots (pc, lo, .long z :: .long x :: st, sh, hp) := fun ok p l e s m args below meth c E H locs ls C hw hL hl => lv_lsub C.1 C.2.1 hd (k ok p l e s m args below meth c E H locs ls C hw hL hl)
theorem g1_lmul {x z : Int64} (hd : decode y.2.1 pc = .ok (.lmul, 1)) (k : gG y d mc ms Q cells slots (pc + 1, lo, .long (x * z) :: st, sh, hp)) : gG y d mc ms Q cells slots (pc, lo, .long z :: .long x :: st, sh, hp) := fun ok p l e s m args below meth c E H locs ls C hw hL hl => lv_lmul C.1 C.2.1 hd (k ok p l e s m args below meth c E H locs ls C hw hL hl)
theorem g1_land {x z : Int64} (hd : decode y.2.1 pc = .ok (.land, 1)) (k : gG y d mc ms Q cells slots (pc + 1, lo, .long (x &&& z) :: st, sh, hp)) : gG y d mc ms Q cells slots (pc, lo, .long z :: .long x :: st, sh, hp) := fun ok p l e s m args below meth c E H locs ls C hw hL hl => lv_land C.1 C.2.1 hd (k ok p l e s m args below meth c E H locs ls C hw hL hl)
theorem g1_lor {x z : Int64} (hd : decode y.2.1 pc = .ok (.lor, 1)) (k : gG y d mc ms Q cells slots (pc + 1, lo, .long (x ||| z) :: st, sh, hp)) : gG y d mc ms Q cells slots (pc, lo, .long z :: .long x :: st, sh, hp) := fun ok p l e s m args below meth c E H locs ls C hw hL hl => lv_lor C.1 C.2.1 hd (k ok p l e s m args below meth c E H locs ls C hw hL hl)
theorem g1_lxor {x z : Int64} (hd : decode y.2.1 pc = .ok (.lxor, 1)) (k : gG y d mc ms Q cells slots (pc + 1, lo, .long (x ^^^ z) :: st, sh, hp)) : gG y d mc ms Q cells slots (pc, lo, .long z :: .long x :: st, sh, hp) := fun ok p l e s m args below meth c E H locs ls C hw hL hl => lv_lxor C.1 C.2.1 hd (k ok p l e s m args below meth c E H locs ls C hw hL hl)
theorem g1_i2l {x : Int32} (hd : decode y.2.1 pc = .ok (.i2l, 1)) (k : gG y d mc ms Q cells slots (pc + 1, lo, .long x.toInt64 :: st, sh, hp)) : gG y d mc ms Q cells slots (pc, lo, .int x :: st, sh, hp) := fun ok p l e s m args below meth c E H locs ls C hw hL hl => lv_i2l C.1 C.2.1 hd rfl (k ok p l e s m args below meth c E H locs ls C hw hL hl)
theorem g1_l2i {x : Int64} (hd : decode y.2.1 pc = .ok (.l2i, 1)) (k : gG y d mc ms Q cells slots (pc + 1, lo, .int x.toInt32 :: st, sh, hp)) : gG y d mc ms Q cells slots (pc, lo, .long x :: st, sh, hp) := fun ok p l e s m args below meth c E H locs ls C hw hL hl => lv_l2i C.1 C.2.1 hd rfl (k ok p l e s m args below meth c E H locs ls C hw hL hl)
theorem g1_i2b {x : Int32} (hd : decode y.2.1 pc = .ok (.i2b, 1)) (k : gG y d mc ms Q cells slots (pc + 1, lo, .int x.toInt8.toInt32 :: st, sh, hp)) : gG y d mc ms Q cells slots (pc, lo, .int x :: st, sh, hp) := fun ok p l e s m args below meth c E H locs ls C hw hL hl => lv_i2b C.1 C.2.1 hd rfl (k ok p l e s m args below meth c E H locs ls C hw hL hl)
theorem g1_i2c {x : Int32} (hd : decode y.2.1 pc = .ok (.i2c, 1)) (k : gG y d mc ms Q cells slots (pc + 1, lo, .int (x.toUInt32 % 65536).toInt32 :: st, sh, hp)) : gG y d mc ms Q cells slots (pc, lo, .int x :: st, sh, hp) := fun ok p l e s m args below meth c E H locs ls C hw hL hl => lv_i2c C.1 C.2.1 hd rfl (k ok p l e s m args below meth c E H locs ls C hw hL hl)
theorem g1_iushr {x z : Int32} (hd : decode y.2.1 pc = .ok (.iushr, 1)) (k : gG y d mc ms Q cells slots (pc + 1, lo, .int (x.toUInt32 >>> (z.toUInt32 &&& Int32.toUInt32 31)).toInt32 :: st, sh, hp)) : gG y d mc ms Q cells slots (pc, lo, .int z :: .int x :: st, sh, hp) := fun ok p l e s m args below meth c E H locs ls C hw hL hl => lv_iushr C.1 C.2.1 hd rfl (k ok p l e s m args below meth c E H locs ls C hw hL hl)
theorem g1_lushr {x : Int64} {z : Int32} (hd : decode y.2.1 pc = .ok (.lushr, 1)) (k : gG y d mc ms Q cells slots (pc + 1, lo, .long (x.toUInt64 >>> (z.toInt64.toUInt64 &&& Int64.toUInt64 63)).toInt64 :: st, sh, hp)) : gG y d mc ms Q cells slots (pc, lo, .int z :: .long x :: st, sh, hp) := fun ok p l e s m args below meth c E H locs ls C hw hL hl => lv_lushr C.1 C.2.1 hd rfl (k ok p l e s m args below meth c E H locs ls C hw hL hl)
theorem g1_lshl {x : Int64} {z : Int32} (hd : decode y.2.1 pc = .ok (.lshl, 1)) (k : gG y d mc ms Q cells slots (pc + 1, lo, .long (x <<< (z.toInt64 &&& 63)) :: st, sh, hp)) : gG y d mc ms Q cells slots (pc, lo, .int z :: .long x :: st, sh, hp) := fun ok p l e s m args below meth c E H locs ls C hw hL hl => lv_lshl C.1 C.2.1 hd rfl (k ok p l e s m args below meth c E H locs ls C hw hL hl)
theorem g1_lshr {x : Int64} {z : Int32} (hd : decode y.2.1 pc = .ok (.lshr, 1)) (k : gG y d mc ms Q cells slots (pc + 1, lo, .long (x >>> (z.toInt64 &&& 63)) :: st, sh, hp)) : gG y d mc ms Q cells slots (pc, lo, .int z :: .long x :: st, sh, hp) := fun ok p l e s m args below meth c E H locs ls C hw hL hl => lv_lshr C.1 C.2.1 hd rfl (k ok p l e s m args below meth c E H locs ls C hw hL hl)
theorem g1_lcmp {x z : Int64} (hd : decode y.2.1 pc = .ok (.lcmp, 1)) (k : gG y d mc ms Q cells slots (pc + 1, lo, .int (lg_cmp x z) :: st, sh, hp)) : gG y d mc ms Q cells slots (pc, lo, .long z :: .long x :: st, sh, hp) := fun ok p l e s m args below meth c E H locs ls C hw hL hl => W.lcmp C.1 C.2.1 hd (k ok p l e s m args below meth c E H locs ls C hw hL hl)
theorem g1_idiv {x z : Int32} (hz : ¬ z = 0) (hd : decode y.2.1 pc = .ok (.idiv, 1)) (k : gG y d mc ms Q cells slots (pc + 1, lo, .int (x / z) :: st, sh, hp)) : gG y d mc ms Q cells slots (pc, lo, .int z :: .int x :: st, sh, hp) := fun ok p l e s m args below meth c E H locs ls C hw hL hl => lv_idiv C.1 C.2.1 hd hz (k ok p l e s m args below meth c E H locs ls C hw hL hl)
theorem g1_irem {x z : Int32} (hz : ¬ z = 0) (hd : decode y.2.1 pc = .ok (.irem, 1)) (k : gG y d mc ms Q cells slots (pc + 1, lo, .int (x - x / z * z) :: st, sh, hp)) : gG y d mc ms Q cells slots (pc, lo, .int z :: .int x :: st, sh, hp) := fun ok p l e s m args below meth c E H locs ls C hw hL hl => lv_irem C.1 C.2.1 hd hz (k ok p l e s m args below meth c E H locs ls C hw hL hl)
theorem g1_ldiv {x z : Int64} (hz : ¬ z = 0) (hd : decode y.2.1 pc = .ok (.ldiv, 1)) (k : gG y d mc ms Q cells slots (pc + 1, lo, .long (x / z) :: st, sh, hp)) : gG y d mc ms Q cells slots (pc, lo, .long z :: .long x :: st, sh, hp) := fun ok p l e s m args below meth c E H locs ls C hw hL hl => lv_ldiv C.1 C.2.1 hd hz (k ok p l e s m args below meth c E H locs ls C hw hL hl)
theorem g1_lrem {x z : Int64} (hz : ¬ z = 0) (hd : decode y.2.1 pc = .ok (.lrem, 1)) (k : gG y d mc ms Q cells slots (pc + 1, lo, .long (x - x / z * z) :: st, sh, hp)) : gG y d mc ms Q cells slots (pc, lo, .long z :: .long x :: st, sh, hp) := fun ok p l e s m args below meth c E H locs ls C hw hL hl => lv_lrem C.1 C.2.1 hd hz (k ok p l e s m args below meth c E H locs ls C hw hL hl)
theorem g1_ineg {x : Int32} (hd : decode y.2.1 pc = .ok (.ineg, 1)) (k : gG y d mc ms Q cells slots (pc + 1, lo, .int (-x) :: st, sh, hp)) : gG y d mc ms Q cells slots (pc, lo, .int x :: st, sh, hp) := fun ok p l e s m args below meth c E H locs ls C hw hL hl => lv_ineg C.1 C.2.1 hd (k ok p l e s m args below meth c E H locs ls C hw hL hl)
theorem g1_ishl {x z : Int32} (hd : decode y.2.1 pc = .ok (.ishl, 1)) (k : gG y d mc ms Q cells slots (pc + 1, lo, .int (x <<< (z &&& 31)) :: st, sh, hp)) : gG y d mc ms Q cells slots (pc, lo, .int z :: .int x :: st, sh, hp) := fun ok p l e s m args below meth c E H locs ls C hw hL hl => lv_ishl C.1 C.2.1 hd (k ok p l e s m args below meth c E H locs ls C hw hL hl)
theorem g1_ishr {x z : Int32} (hd : decode y.2.1 pc = .ok (.ishr, 1)) (k : gG y d mc ms Q cells slots (pc + 1, lo, .int (x >>> (z &&& 31)) :: st, sh, hp)) : gG y d mc ms Q cells slots (pc, lo, .int z :: .int x :: st, sh, hp) := fun ok p l e s m args below meth c E H locs ls C hw hL hl => lv_ishr C.1 C.2.1 hd (k ok p l e s m args below meth c E H locs ls C hw hL hl)
theorem g1_dup {v : Value} (hv : v.category = 1) (hd : decode y.2.1 pc = .ok (.dup, 1)) (k : gG y d mc ms Q cells slots (pc + 1, lo, v :: v :: st, sh, hp)) : gG y d mc ms Q cells slots (pc, lo, v :: st, sh, hp) := fun ok p l e s m args below meth c E H locs ls C hw hL hl => lv_dup C.1 C.2.1 hd ((cv_cat E v).trans hv) (k ok p l e s m args below meth c E H locs ls C hw hL hl)
theorem g1_pop {v : Value} (hv : v.category = 1) (hd : decode y.2.1 pc = .ok (.pop, 1)) (k : gG y d mc ms Q cells slots (pc + 1, lo, st, sh, hp)) : gG y d mc ms Q cells slots (pc, lo, v :: st, sh, hp) := fun ok p l e s m args below meth c E H locs ls C hw hL hl => lv_pop C.1 C.2.1 hd ((cv_cat E v).trans hv) (k ok p l e s m args below meth c E H locs ls C hw hL hl)
theorem g1_dup2 {v u : Value} (hv : v.category = 1) (hu : u.category = 1) (hd : decode y.2.1 pc = .ok (.dup2, 1)) (k : gG y d mc ms Q cells slots (pc + 1, lo, v :: u :: v :: u :: st, sh, hp)) : gG y d mc ms Q cells slots (pc, lo, v :: u :: st, sh, hp) := fun ok p l e s m args below meth c E H locs ls C hw hL hl => lv_dup2_11 C.1 C.2.1 hd ((cv_cat E v).trans hv) ((cv_cat E u).trans hu) (k ok p l e s m args below meth c E H locs ls C hw hL hl)
theorem g1_iconst {n : Int} {v : Int32} (hd : decode y.2.1 pc = .ok (.iconst n, 1)) (hv : Int32.ofInt n = v) (k : gG y d mc ms Q cells slots (pc + 1, lo, .int v :: st, sh, hp)) : gG y d mc ms Q cells slots (pc, lo, st, sh, hp) := fun ok p l e s m args below meth c E H locs ls C hw hL hl => lv_iconst C.1 C.2.1 hd hv (k ok p l e s m args below meth c E H locs ls C hw hL hl)
theorem g1_bipush {n : Int} {v : Int32} (hd : decode y.2.1 pc = .ok (.bipush n, 2)) (hv : (Int8.ofInt n).toInt32 = v) (k : gG y d mc ms Q cells slots (pc + 2, lo, .int v :: st, sh, hp)) : gG y d mc ms Q cells slots (pc, lo, st, sh, hp) := fun ok p l e s m args below meth c E H locs ls C hw hL hl => lv_bipush C.1 C.2.1 hd hv (k ok p l e s m args below meth c E H locs ls C hw hL hl)
theorem g1_sipush {n : Int} {v : Int32} (hd : decode y.2.1 pc = .ok (.sipush n, 3)) (hv : (Int16.ofInt n).toInt32 = v) (k : gG y d mc ms Q cells slots (pc + 3, lo, .int v :: st, sh, hp)) : gG y d mc ms Q cells slots (pc, lo, st, sh, hp) := fun ok p l e s m args below meth c E H locs ls C hw hL hl => lv_sipush C.1 C.2.1 hd hv (k ok p l e s m args below meth c E H locs ls C hw hL hl)
theorem g1_ldc {x : Nat} {v : Int32} (hd : decode y.2.1 pc = .ok (.ldc x, 2)) (hv : Cond.constant y.1.cls x v ∈ gT) (k : gG y d mc ms Q cells slots (pc + 2, lo, .int v :: st, sh, hp)) : gG y d mc ms Q cells slots (pc, lo, st, sh, hp) := fun ok p l e s m args below meth c E H locs ls C hw hL hl => lv_ldc C.1 C.2.1 C.2.2.2.2.1 (C.2.2.2.2.2.1 _ hv) hd (k ok p l e s m args below meth c E H locs ls C hw hL hl)
theorem g1_ldcw {x : Nat} {v : Int32} (hd : decode y.2.1 pc = .ok (.ldc_w x, 3)) (hv : Cond.constant y.1.cls x v ∈ gT) (k : gG y d mc ms Q cells slots (pc + 3, lo, .int v :: st, sh, hp)) : gG y d mc ms Q cells slots (pc, lo, st, sh, hp) := fun ok p l e s m args below meth c E H locs ls C hw hL hl => lv_ldcw C.1 C.2.1 C.2.2.2.2.1 (C.2.2.2.2.2.1 _ hv) hd (k ok p l e s m args below meth c E H locs ls C hw hL hl)
theorem g1_ldc2 {x : Nat} {v : Int64} (hd : decode y.2.1 pc = .ok (.ldc2_w x, 3)) (hv : Cond.constantLong y.1.cls x v ∈ gT) (k : gG y d mc ms Q cells slots (pc + 3, lo, .long v :: st, sh, hp)) : gG y d mc ms Q cells slots (pc, lo, st, sh, hp) := fun ok p l e s m args below meth c E H locs ls C hw hL hl => lv_ldc2 C.1 C.2.1 C.2.2.2.2.1 (C.2.2.2.2.2.1 _ hv) hd (k ok p l e s m args below meth c E H locs ls C hw hL hl)
theorem g1_lconst {n : Fin 2} {v : Int64} (hd : decode y.2.1 pc = .ok (.lconst n, 1)) (hv : Int64.ofNat (n : Nat) = v) (k : gG y d mc ms Q cells slots (pc + 1, lo, .long v :: st, sh, hp)) : gG y d mc ms Q cells slots (pc, lo, st, sh, hp) := fun ok p l e s m args below meth c E H locs ls C hw hL hl => lv_lconst C.1 C.2.1 hd hv (k ok p l e s m args below meth c E H locs ls C hw hL hl)
theorem g1_goto {off : Int} {tgt : Nat} (hd : decode y.2.1 pc = .ok (.goto off, 3)) (ht : (pc : Int) + off = (tgt : Int)) (k : gG y d mc ms Q cells slots (tgt, lo, st, sh, hp)) : gG y d mc ms Q cells slots (pc, lo, st, sh, hp) := fun ok p l e s m args below meth c E H locs ls C hw hL hl => lv_goto C.1 C.2.1 hd ht (k ok p l e s m args below meth c E H locs ls C hw hL hl)
theorem g1_iload {i b : Nat} {x : Int32} (hd : (decode y.2.1 pc = .ok (.iload i, 2) ∧ b = 2) ∨ (decode y.2.1 pc = .ok (.iload_n (Fin.ofNat 4 i), 1) ∧ b = 1 ∧ i < 4)) (hx : lo[i]? = some (.int x)) (k : gG y d mc ms Q cells slots (pc + b, lo, .int x :: st, sh, hp)) : gG y d mc ms Q cells slots (pc, lo, st, sh, hp) := by
  intro ok p l e s m args below meth c E H locs ls C hw hL hl
  have k := k ok p l e s m args below meth c E H locs ls C hw hL hl
  rcases hd with ⟨hd, rfl⟩ | ⟨hd, rfl, hi⟩
  · exact lv_iload C.1 C.2.1 hd (al_at hl hx rfl) k
  · exact lv_iload_n C.1 C.2.1 hd (Nat.mod_eq_of_lt hi) (al_at hl hx rfl) k
theorem g1_lload {i b : Nat} {x : Int64} (hd : (decode y.2.1 pc = .ok (.lload i, 2) ∧ b = 2) ∨ (decode y.2.1 pc = .ok (.lload_n (Fin.ofNat 4 i), 1) ∧ b = 1 ∧ i < 4)) (hx : lo[i]? = some (.long x)) (k : gG y d mc ms Q cells slots (pc + b, lo, .long x :: st, sh, hp)) : gG y d mc ms Q cells slots (pc, lo, st, sh, hp) := by
  intro ok p l e s m args below meth c E H locs ls C hw hL hl
  have k := k ok p l e s m args below meth c E H locs ls C hw hL hl
  rcases hd with ⟨hd, rfl⟩ | ⟨hd, rfl, hi⟩
  · exact lv_lload C.1 C.2.1 hd (al_at hl hx rfl) k
  · exact lv_lload_n C.1 C.2.1 hd (Nat.mod_eq_of_lt hi) (al_at hl hx rfl) k
def isR : Value → Bool
  | .ref _ => true
  | .float _ => true
  | _ => false
theorem isR_cv {E : en_T} {v : Value} (h : isR v = true) : isV v = true ∧ v.category = 1 ∧ ∃ q, cv E v = .ref q := by
  cases v <;> first | exact ⟨rfl, rfl, _, rfl⟩ | cases h
theorem g1_aload {i b : Nat} {x : Value} (hd : (decode y.2.1 pc = .ok (.aload i, 2) ∧ b = 2) ∨ (decode y.2.1 pc = .ok (.aload_n (Fin.ofNat 4 i), 1) ∧ b = 1 ∧ i < 4)) (hx : lo[i]? = some x) (hr : isR x = true) (k : gG y d mc ms Q cells slots (pc + b, lo, x :: st, sh, hp)) : gG y d mc ms Q cells slots (pc, lo, st, sh, hp) := by
  intro ok p l e s m args below meth c E H locs ls C hw hL hl
  have k := k ok p l e s m args below meth c E H locs ls C hw hL hl
  obtain ⟨h1, -, q, hq⟩ := isR_cv (E := E) hr
  have hx' := al_at hl hx h1
  simp only [List.map_cons] at k
  rw [hq] at hx' k
  rcases hd with ⟨hd, rfl⟩ | ⟨hd, rfl, hi⟩
  · exact lv_aload C.1 C.2.1 hd hx' k
  · exact lv_aload_n C.1 C.2.1 hd (Nat.mod_eq_of_lt hi) hx' k
theorem g1_istore {i b : Nat} {x : Int32} (hd : (decode y.2.1 pc = .ok (.istore i, 2) ∧ b = 2) ∨ (decode y.2.1 pc = .ok (.istore_n (Fin.ofNat 4 i), 1) ∧ b = 1 ∧ i < 4)) (hn : i < y.2.2.1) (hN : notL lo i = true) (k : gG y d mc ms Q cells slots (pc + b, lo.set i (.int x), st, sh, hp)) : gG y d mc ms Q cells slots (pc, lo, .int x :: st, sh, hp) := by
  intro ok p l e s m args below meth c E H locs ls C hw hL hl
  rcases hd with ⟨hd, rfl⟩ | ⟨hd, rfl, hi⟩
  · exact lv_istore C.1 C.2.1 hd hl hn rfl (fun ls' h' => k ok p l e s m args below meth c E H locs ls' C hw hL (hs_sub h' (al_set1 hN rfl)))
  · exact lv_istore_n C.1 C.2.1 hd (Nat.mod_eq_of_lt hi) hl hn rfl (fun ls' h' => k ok p l e s m args below meth c E H locs ls' C hw hL (hs_sub h' (al_set1 hN rfl)))
theorem g1_astore {i b : Nat} {x : Value} (hd : (decode y.2.1 pc = .ok (.astore i, 2) ∧ b = 2) ∨ (decode y.2.1 pc = .ok (.astore_n (Fin.ofNat 4 i), 1) ∧ b = 1 ∧ i < 4)) (hn : i < y.2.2.1) (hN : notL lo i = true) (hr : isR x = true) (k : gG y d mc ms Q cells slots (pc + b, lo.set i x, st, sh, hp)) : gG y d mc ms Q cells slots (pc, lo, x :: st, sh, hp) := by
  intro ok p l e s m args below meth c E H locs ls C hw hL hl
  obtain ⟨h1, h2, q, hq⟩ := isR_cv (E := E) hr
  simp only [List.map_cons]
  rw [hq]
  rcases hd with ⟨hd, rfl⟩ | ⟨hd, rfl, hi⟩
  · exact lv_astore C.1 C.2.1 hd hl hn rfl (fun ls' h' => k ok p l e s m args below meth c E H locs ls' C hw hL (hs_sub h' (by rw [← hq]; exact al_set1 hN h2)))
  · exact lv_astore_n C.1 C.2.1 hd (Nat.mod_eq_of_lt hi) hl hn rfl (fun ls' h' => k ok p l e s m args below meth c E H locs ls' C hw hL (hs_sub h' (by rw [← hq]; exact al_set1 hN h2)))
theorem g1_lstore {i b : Nat} {x : Int64} (hd : (decode y.2.1 pc = .ok (.lstore i, 2) ∧ b = 2) ∨ (decode y.2.1 pc = .ok (.lstore_n (Fin.ofNat 4 i), 1) ∧ b = 1 ∧ i < 4)) (hn : i + 1 < y.2.2.1) (hN : notL lo i = true) (k : gG y d mc ms Q cells slots (pc + b, (lo.set i (.long x)).set (i + 1) (.retAddr 0), st, sh, hp)) : gG y d mc ms Q cells slots (pc, lo, .long x :: st, sh, hp) := by
  intro ok p l e s m args below meth c E H locs ls C hw hL hl
  rcases hd with ⟨hd, rfl⟩ | ⟨hd, rfl, hi⟩
  · exact lv_lstore C.1 C.2.1 hd hl hn rfl (fun ls' h' => k ok p l e s m args below meth c E H locs ls' C hw hL (hs_sub h' (al_set2 hN rfl)))
  · exact lv_lstore_n C.1 C.2.1 hd (Nat.mod_eq_of_lt hi) hl hn rfl (fun ls' h' => k ok p l e s m args below meth c E H locs ls' C hw hL (hs_sub h' (al_set2 hN rfl)))
theorem g1_iinc {i : Nat} {n : Int} {x v : Int32} (hd : decode y.2.1 pc = .ok (.iinc i n, 3)) (hv : Int32.ofInt n = v) (hx : lo[i]? = some (.int x)) (hn : i < y.2.2.1) (hN : notL lo i = true) (k : gG y d mc ms Q cells slots (pc + 3, lo.set i (.int (x + v)), st, sh, hp)) : gG y d mc ms Q cells slots (pc, lo, st, sh, hp) := by
  intro ok p l e s m args below meth c E H locs ls C hw hL hl
  subst hv
  obtain ⟨kk, hk⟩ := List.getElem?_of_mem (al_mem.mpr ⟨_, hx, rfl, rfl⟩ : (i, cv E (.int x)) ∈ al E lo)
  exact lv_iinc C.1 C.2.1 hd hl hk rfl hn rfl (fun ls' h' => k ok p l e s m args below meth c E H locs ls' C hw hL (hs_sub h' (al_set1 hN rfl)))
theorem g_icmp_eq {x z : Int32} {ia : Instr} {off : Int} {nx tg b j : Nat} {v : Int32} {w : Int64} (h : lk pc y.2.2.2.2 = some (pc, ia, .if_icmp .eq off, nx, tg, b, v, w, j)) (kt : x = z → gG y d mc ms Q cells slots (tg, lo, st, sh, hp)) (kf : ¬ x = z → gG y d mc ms Q cells slots (nx, lo, st, sh, hp)) : gG y d mc ms Q cells slots (pc, lo, .int z :: .int x :: st, sh, hp) := by
  intro ok p l e s m args below meth c E H locs ls C hw hL hl
  have h1 := (lk_ok ok h).1
  simp only [okb, Bool.and_eq_true, decide_eq_true_eq] at h1
  obtain ⟨hd, ⟨⟨h2, h3⟩, h4⟩, h5⟩ := h1
  have h2 := Nat.eq_of_beq_eq_true h2
  have h4 := Nat.eq_of_beq_eq_true h4
  subst h2; subst h3; subst h4
  exact lv_icmp_eq C.1 C.2.1 (dec_of hd) h5 (fun q => kt q ok p l e s m args below meth c E H locs ls C hw hL hl) (fun q => kf q ok p l e s m args below meth c E H locs ls C hw hL hl)
theorem g_if_eq {x : Int32} {ia : Instr} {off : Int} {nx tg b j : Nat} {v : Int32} {w : Int64} (h : lk pc y.2.2.2.2 = some (pc, ia, .ifCond .eq off, nx, tg, b, v, w, j)) (kt : x = 0 → gG y d mc ms Q cells slots (tg, lo, st, sh, hp)) (kf : ¬ x = 0 → gG y d mc ms Q cells slots (nx, lo, st, sh, hp)) : gG y d mc ms Q cells slots (pc, lo, .int x :: st, sh, hp) := by
  intro ok p l e s m args below meth c E H locs ls C hw hL hl
  have h1 := (lk_ok ok h).1
  simp only [okb, Bool.and_eq_true, decide_eq_true_eq] at h1
  obtain ⟨hd, ⟨⟨h2, h3⟩, h4⟩, h5⟩ := h1
  have h2 := Nat.eq_of_beq_eq_true h2
  have h4 := Nat.eq_of_beq_eq_true h4
  subst h2; subst h3; subst h4
  exact lv_if_eq C.1 C.2.1 (dec_of hd) h5 (fun q => kt q ok p l e s m args below meth c E H locs ls C hw hL hl) (fun q => kf q ok p l e s m args below meth c E H locs ls C hw hL hl)
theorem g_icmp_ne {x z : Int32} {ia : Instr} {off : Int} {nx tg b j : Nat} {v : Int32} {w : Int64} (h : lk pc y.2.2.2.2 = some (pc, ia, .if_icmp .ne off, nx, tg, b, v, w, j)) (kt : ¬ x = z → gG y d mc ms Q cells slots (tg, lo, st, sh, hp)) (kf : x = z → gG y d mc ms Q cells slots (nx, lo, st, sh, hp)) : gG y d mc ms Q cells slots (pc, lo, .int z :: .int x :: st, sh, hp) := by
  intro ok p l e s m args below meth c E H locs ls C hw hL hl
  have h1 := (lk_ok ok h).1
  simp only [okb, Bool.and_eq_true, decide_eq_true_eq] at h1
  obtain ⟨hd, ⟨⟨h2, h3⟩, h4⟩, h5⟩ := h1
  have h2 := Nat.eq_of_beq_eq_true h2
  have h4 := Nat.eq_of_beq_eq_true h4
  subst h2; subst h3; subst h4
  exact lv_icmp_ne C.1 C.2.1 (dec_of hd) h5 (fun q => kt q ok p l e s m args below meth c E H locs ls C hw hL hl) (fun q => kf q ok p l e s m args below meth c E H locs ls C hw hL hl)
theorem g_if_ne {x : Int32} {ia : Instr} {off : Int} {nx tg b j : Nat} {v : Int32} {w : Int64} (h : lk pc y.2.2.2.2 = some (pc, ia, .ifCond .ne off, nx, tg, b, v, w, j)) (kt : ¬ x = 0 → gG y d mc ms Q cells slots (tg, lo, st, sh, hp)) (kf : x = 0 → gG y d mc ms Q cells slots (nx, lo, st, sh, hp)) : gG y d mc ms Q cells slots (pc, lo, .int x :: st, sh, hp) := by
  intro ok p l e s m args below meth c E H locs ls C hw hL hl
  have h1 := (lk_ok ok h).1
  simp only [okb, Bool.and_eq_true, decide_eq_true_eq] at h1
  obtain ⟨hd, ⟨⟨h2, h3⟩, h4⟩, h5⟩ := h1
  have h2 := Nat.eq_of_beq_eq_true h2
  have h4 := Nat.eq_of_beq_eq_true h4
  subst h2; subst h3; subst h4
  exact lv_if_ne C.1 C.2.1 (dec_of hd) h5 (fun q => kt q ok p l e s m args below meth c E H locs ls C hw hL hl) (fun q => kf q ok p l e s m args below meth c E H locs ls C hw hL hl)
theorem g_icmp_lt {x z : Int32} {ia : Instr} {off : Int} {nx tg b j : Nat} {v : Int32} {w : Int64} (h : lk pc y.2.2.2.2 = some (pc, ia, .if_icmp .lt off, nx, tg, b, v, w, j)) (kt : x < z → gG y d mc ms Q cells slots (tg, lo, st, sh, hp)) (kf : ¬ x < z → gG y d mc ms Q cells slots (nx, lo, st, sh, hp)) : gG y d mc ms Q cells slots (pc, lo, .int z :: .int x :: st, sh, hp) := by
  intro ok p l e s m args below meth c E H locs ls C hw hL hl
  have h1 := (lk_ok ok h).1
  simp only [okb, Bool.and_eq_true, decide_eq_true_eq] at h1
  obtain ⟨hd, ⟨⟨h2, h3⟩, h4⟩, h5⟩ := h1
  have h2 := Nat.eq_of_beq_eq_true h2
  have h4 := Nat.eq_of_beq_eq_true h4
  subst h2; subst h3; subst h4
  exact lv_icmp_lt C.1 C.2.1 (dec_of hd) h5 (fun q => kt q ok p l e s m args below meth c E H locs ls C hw hL hl) (fun q => kf q ok p l e s m args below meth c E H locs ls C hw hL hl)
theorem g_if_lt {x : Int32} {ia : Instr} {off : Int} {nx tg b j : Nat} {v : Int32} {w : Int64} (h : lk pc y.2.2.2.2 = some (pc, ia, .ifCond .lt off, nx, tg, b, v, w, j)) (kt : x < 0 → gG y d mc ms Q cells slots (tg, lo, st, sh, hp)) (kf : ¬ x < 0 → gG y d mc ms Q cells slots (nx, lo, st, sh, hp)) : gG y d mc ms Q cells slots (pc, lo, .int x :: st, sh, hp) := by
  intro ok p l e s m args below meth c E H locs ls C hw hL hl
  have h1 := (lk_ok ok h).1
  simp only [okb, Bool.and_eq_true, decide_eq_true_eq] at h1
  obtain ⟨hd, ⟨⟨h2, h3⟩, h4⟩, h5⟩ := h1
  have h2 := Nat.eq_of_beq_eq_true h2
  have h4 := Nat.eq_of_beq_eq_true h4
  subst h2; subst h3; subst h4
  exact lv_if_lt C.1 C.2.1 (dec_of hd) h5 (fun q => kt q ok p l e s m args below meth c E H locs ls C hw hL hl) (fun q => kf q ok p l e s m args below meth c E H locs ls C hw hL hl)
theorem g_icmp_ge {x z : Int32} {ia : Instr} {off : Int} {nx tg b j : Nat} {v : Int32} {w : Int64} (h : lk pc y.2.2.2.2 = some (pc, ia, .if_icmp .ge off, nx, tg, b, v, w, j)) (kt : z ≤ x → gG y d mc ms Q cells slots (tg, lo, st, sh, hp)) (kf : ¬ z ≤ x → gG y d mc ms Q cells slots (nx, lo, st, sh, hp)) : gG y d mc ms Q cells slots (pc, lo, .int z :: .int x :: st, sh, hp) := by
  intro ok p l e s m args below meth c E H locs ls C hw hL hl
  have h1 := (lk_ok ok h).1
  simp only [okb, Bool.and_eq_true, decide_eq_true_eq] at h1
  obtain ⟨hd, ⟨⟨h2, h3⟩, h4⟩, h5⟩ := h1
  have h2 := Nat.eq_of_beq_eq_true h2
  have h4 := Nat.eq_of_beq_eq_true h4
  subst h2; subst h3; subst h4
  exact lv_icmp_ge C.1 C.2.1 (dec_of hd) h5 (fun q => kt q ok p l e s m args below meth c E H locs ls C hw hL hl) (fun q => kf q ok p l e s m args below meth c E H locs ls C hw hL hl)
theorem g_if_ge {x : Int32} {ia : Instr} {off : Int} {nx tg b j : Nat} {v : Int32} {w : Int64} (h : lk pc y.2.2.2.2 = some (pc, ia, .ifCond .ge off, nx, tg, b, v, w, j)) (kt : 0 ≤ x → gG y d mc ms Q cells slots (tg, lo, st, sh, hp)) (kf : ¬ 0 ≤ x → gG y d mc ms Q cells slots (nx, lo, st, sh, hp)) : gG y d mc ms Q cells slots (pc, lo, .int x :: st, sh, hp) := by
  intro ok p l e s m args below meth c E H locs ls C hw hL hl
  have h1 := (lk_ok ok h).1
  simp only [okb, Bool.and_eq_true, decide_eq_true_eq] at h1
  obtain ⟨hd, ⟨⟨h2, h3⟩, h4⟩, h5⟩ := h1
  have h2 := Nat.eq_of_beq_eq_true h2
  have h4 := Nat.eq_of_beq_eq_true h4
  subst h2; subst h3; subst h4
  exact lv_if_ge C.1 C.2.1 (dec_of hd) h5 (fun q => kt q ok p l e s m args below meth c E H locs ls C hw hL hl) (fun q => kf q ok p l e s m args below meth c E H locs ls C hw hL hl)
theorem g_icmp_gt {x z : Int32} {ia : Instr} {off : Int} {nx tg b j : Nat} {v : Int32} {w : Int64} (h : lk pc y.2.2.2.2 = some (pc, ia, .if_icmp .gt off, nx, tg, b, v, w, j)) (kt : z < x → gG y d mc ms Q cells slots (tg, lo, st, sh, hp)) (kf : ¬ z < x → gG y d mc ms Q cells slots (nx, lo, st, sh, hp)) : gG y d mc ms Q cells slots (pc, lo, .int z :: .int x :: st, sh, hp) := by
  intro ok p l e s m args below meth c E H locs ls C hw hL hl
  have h1 := (lk_ok ok h).1
  simp only [okb, Bool.and_eq_true, decide_eq_true_eq] at h1
  obtain ⟨hd, ⟨⟨h2, h3⟩, h4⟩, h5⟩ := h1
  have h2 := Nat.eq_of_beq_eq_true h2
  have h4 := Nat.eq_of_beq_eq_true h4
  subst h2; subst h3; subst h4
  exact lv_icmp_gt C.1 C.2.1 (dec_of hd) h5 (fun q => kt q ok p l e s m args below meth c E H locs ls C hw hL hl) (fun q => kf q ok p l e s m args below meth c E H locs ls C hw hL hl)
theorem g_if_gt {x : Int32} {ia : Instr} {off : Int} {nx tg b j : Nat} {v : Int32} {w : Int64} (h : lk pc y.2.2.2.2 = some (pc, ia, .ifCond .gt off, nx, tg, b, v, w, j)) (kt : 0 < x → gG y d mc ms Q cells slots (tg, lo, st, sh, hp)) (kf : ¬ 0 < x → gG y d mc ms Q cells slots (nx, lo, st, sh, hp)) : gG y d mc ms Q cells slots (pc, lo, .int x :: st, sh, hp) := by
  intro ok p l e s m args below meth c E H locs ls C hw hL hl
  have h1 := (lk_ok ok h).1
  simp only [okb, Bool.and_eq_true, decide_eq_true_eq] at h1
  obtain ⟨hd, ⟨⟨h2, h3⟩, h4⟩, h5⟩ := h1
  have h2 := Nat.eq_of_beq_eq_true h2
  have h4 := Nat.eq_of_beq_eq_true h4
  subst h2; subst h3; subst h4
  exact lv_if_gt C.1 C.2.1 (dec_of hd) h5 (fun q => kt q ok p l e s m args below meth c E H locs ls C hw hL hl) (fun q => kf q ok p l e s m args below meth c E H locs ls C hw hL hl)
theorem g_icmp_le {x z : Int32} {ia : Instr} {off : Int} {nx tg b j : Nat} {v : Int32} {w : Int64} (h : lk pc y.2.2.2.2 = some (pc, ia, .if_icmp .le off, nx, tg, b, v, w, j)) (kt : x ≤ z → gG y d mc ms Q cells slots (tg, lo, st, sh, hp)) (kf : ¬ x ≤ z → gG y d mc ms Q cells slots (nx, lo, st, sh, hp)) : gG y d mc ms Q cells slots (pc, lo, .int z :: .int x :: st, sh, hp) := by
  intro ok p l e s m args below meth c E H locs ls C hw hL hl
  have h1 := (lk_ok ok h).1
  simp only [okb, Bool.and_eq_true, decide_eq_true_eq] at h1
  obtain ⟨hd, ⟨⟨h2, h3⟩, h4⟩, h5⟩ := h1
  have h2 := Nat.eq_of_beq_eq_true h2
  have h4 := Nat.eq_of_beq_eq_true h4
  subst h2; subst h3; subst h4
  exact lv_icmp_le C.1 C.2.1 (dec_of hd) h5 (fun q => kt q ok p l e s m args below meth c E H locs ls C hw hL hl) (fun q => kf q ok p l e s m args below meth c E H locs ls C hw hL hl)
theorem g_if_le {x : Int32} {ia : Instr} {off : Int} {nx tg b j : Nat} {v : Int32} {w : Int64} (h : lk pc y.2.2.2.2 = some (pc, ia, .ifCond .le off, nx, tg, b, v, w, j)) (kt : x ≤ 0 → gG y d mc ms Q cells slots (tg, lo, st, sh, hp)) (kf : ¬ x ≤ 0 → gG y d mc ms Q cells slots (nx, lo, st, sh, hp)) : gG y d mc ms Q cells slots (pc, lo, .int x :: st, sh, hp) := by
  intro ok p l e s m args below meth c E H locs ls C hw hL hl
  have h1 := (lk_ok ok h).1
  simp only [okb, Bool.and_eq_true, decide_eq_true_eq] at h1
  obtain ⟨hd, ⟨⟨h2, h3⟩, h4⟩, h5⟩ := h1
  have h2 := Nat.eq_of_beq_eq_true h2
  have h4 := Nat.eq_of_beq_eq_true h4
  subst h2; subst h3; subst h4
  exact lv_if_le C.1 C.2.1 (dec_of hd) h5 (fun q => kt q ok p l e s m args below meth c E H locs ls C hw hL hl) (fun q => kf q ok p l e s m args below meth c E H locs ls C hw hL hl)
end GS
end
section
/-! the world under gets, puts, loads and stores -/
def sI (hp : hp_T) (c i : Nat) (x : Int32) : hp_T := (va_up hp.1 c (va_up (hp.1 c) i x), hp.2)
def sL (hp : hp_T) (c i : Nat) (x : Int64) : hp_T := (hp.1, va_up hp.2 c (va_up (hp.2 c) i x))
theorem sI_at (hp : hp_T) (c i : Nat) (x : Int32) : (sI hp c i x).1 c = va_up (hp.1 c) i x := by simp [sI, va_up]
theorem sI_ne {hp : hp_T} {c i k : Nat} {x : Int32} (h : k ≠ c) : (sI hp c i x).1 k = hp.1 k := by simp [sI, va_up, h]
theorem sI_2 (hp : hp_T) (c i : Nat) (x : Int32) : (sI hp c i x).2 = hp.2 := rfl
theorem sL_at (hp : hp_T) (c i : Nat) (x : Int64) : (sL hp c i x).2 c = va_up (hp.2 c) i x := by simp [sL, va_up]
theorem sL_ne {hp : hp_T} {c i k : Nat} {x : Int64} (h : k ≠ c) : (sL hp c i x).2 k = hp.2 k := by simp [sL, va_up, h]
theorem sL_1 (hp : hp_T) (c i : Nat) (x : Int64) : (sL hp c i x).1 = hp.1 := rfl
theorem av_row {hp hp' : hp_T} {c : Nat} (h1 : hp'.1 c = hp.1 c) (h2 : hp'.2 c = hp.2 c) (i : Nat) (v : Value) : av hp' c i v = av hp c i v := by cases v <;> simp [av, h1, h2]
theorem ce_row {E : en_T} {hp hp' : hp_T} {c : Nat} (h1 : hp'.1 c = hp.1 c) (h2 : hp'.2 c = hp.2 c) (e : sh_E) : ce E hp' c e = ce E hp c e := by
  rcases e with ⟨ty, n⟩ | ⟨ci, ks⟩
  · simp only [ce, arc]
    split <;> simp [h1, h2]
  · simp only [ce, fs_of]
    have hf : (fun (i : Nat) (v : Value) => cv E (av hp' c i v)) = (fun i v => cv E (av hp c i v)) := by
      funext i v
      rw [av_row h1 h2]
    rw [hf]
theorem wd_at {E : en_T} {sh : sh_T} {hp : hp_T} {H : Heap} (h : wd E sh hp H) {k : Nat} {e : sh_E} (hk : sh[k]? = some e) : va_at E.2.2.1 kcls (E.1 + k, ce E hp k e) H := h.2.2 k e hk
theorem wd_put {E : en_T} {sh sh' : sh_T} {hp hp' : hp_T} {H H1 : Heap} {c : Nat} (h : wd E sh hp H) (hlen : sh'.length = sh.length) (hz : H1.size = H.size) (ho : ∀ q, q ≠ E.1 + c → H1[q]? = H[q]?) (hn : ∀ e, sh'[c]? = some e → va_at E.2.2.1 kcls (E.1 + c, ce E hp' c e) H1) (hs : ∀ k e, k ≠ c → sh'[k]? = some e → sh[k]? = some e) (hr : ∀ k, k ≠ c → hp'.1 k = hp.1 k ∧ hp'.2 k = hp.2 k) : wd E sh' hp' H1 := by
  refine ⟨by rw [hz, h.1, hlen], fun q hq => by rw [ho q (by omega)]; exact h.2.1 q hq, fun k e hk => ?_⟩
  by_cases hkc : k = c
  · subst hkc; exact hn e hk
  · rw [ce_row (hr k hkc).1 (hr k hkc).2]
    exact (h.2.2 k e (hs k e hkc hk)).kept (ho _ (by simp; omega))
theorem fs_get {E : en_T} {hp : hp_T} {c k : Nat} {ks : List Value} {v : Value} (h : ks[k]? = some v) : (fs_of E hp c ks)[k]? = some (cv E (av hp c k v)) := by
  simp [fs_of, h]
theorem fs_len {E : en_T} {hp : hp_T} {c : Nat} {ks : List Value} : (fs_of E hp c ks).length = ks.length := by simp [fs_of]
theorem fs_set {E : en_T} {hp hp' : hp_T} {c k : Nat} {ks ks' : List Value} {w : Value} (hl : ks'.length = ks.length) (h1 : ∀ i v, ks'[i]? = some v → (i = k → cv E (av hp' c i v) = w) ∧ (i ≠ k → ∃ v', ks[i]? = some v' ∧ cv E (av hp' c i v) = cv E (av hp c i v'))) : fs_of E hp' c ks' = (fs_of E hp c ks).set k w := by
  apply List.ext_getElem?
  intro i
  rw [List.getElem?_set]
  by_cases hi : i < ks.length
  · have hv : ks'[i]? = some (ks'[i]'(by omega)) := List.getElem?_eq_getElem (by omega)
    have hx := h1 i _ hv
    rw [fs_get hv]
    by_cases hik : k = i
    · subst hik
      simp [fs_len, hi, hx.1 rfl]
    · obtain ⟨v', e1, e2⟩ := hx.2 (Ne.symm hik)
      simp [hik, fs_get e1, e2]
  · have a1 : (fs_of E hp' c ks')[i]? = none := by rw [List.getElem?_eq_none_iff, fs_len]; omega
    have a2 : (fs_of E hp c ks)[i]? = none := by rw [List.getElem?_eq_none_iff, fs_len]; omega
    rw [a1, a2]
    split
    · next h => subst h; simp [fs_len, hi]
    · rfl
theorem fk_of {ci k : Nat} {q : vw_C} (hq : kcls[ci]? = some q) (hk : k < q.2.2) : fk ci k = q.2.1 k := by simp [fk, hq, hk]
section PUT
variable {p : Program} {l : Launch} {e : Env} {R : Room} {s : State} {m : MethodId} {args : Array Value} {below : List Frame} {meth : Method} {c0 : Code} {H : Heap} {locs : List Loc} {cells slots : Nat} {QQ : State → Prop} {pc : Nat} {ls : Array Slot} {rest : List Value}
theorem put_core {y : mt_T} {E : en_T} {ws : Nat × va_E} {a ci k x : Nat} {q : vw_C} {fs : List Value} {v : Value} {ty : FieldType} (C : cx y E p s m args meth c0) (hat : va_at E.2.2.1 kcls (a, .inr (ci, fs)) H) (hq : kcls[ci]? = some q) (hk : k < q.2.2) (hl : Cond.fieldLink y.1.cls x (q.2.1 k).1 (q.2.1 k).2.1 (q.2.1 k).2.2.1 ∈ gT) (hfin : (q.2.1 k).2.2.2 = false ∨ ((q.2.1 k).2.2.2 = true ∧ y.1.name = "<init>" ∧ (q.2.1 k).1 = y.1.cls)) (hd : parseFieldDescriptor (q.2.1 k).2.2.1 = some ty) (hn : narrow ty v = v) (hfit : fits ty v = true) (hln : k < fs.length) (hbase : E.1 ≤ a) (hL : ∀ q ∈ locs, E.1 ≤ q.base)
    (hdg : decode y.2.1 pc = .ok (.putfield x, 3)) (kk : ∀ (H1 : Heap) (locs1 : List Loc), H1.size = H.size → (∀ z, z ≠ a → H1[z]? = H[z]?) → va_at E.2.2.1 kcls (a, .inr (ci, fs.set k v)) H1 → (∀ q ∈ locs1, E.1 ≤ q.base) → W p l e R s m args below meth c0 H1 locs1 cells slots QQ (F0 m (pc + 3) ls rest)) : W p l e R s m args below meth c0 H locs cells slots QQ (F0 m pc ls (v :: .ref a :: rest)) := by
  obtain ⟨hexec, hb, -, -, hown, hts, -, hname, hKx⟩ := C
  have hK := hKx.1
  have hin := kin_ok ci q hq
  have hap := va_apart (own := y.1.cls) (C := q.1) (T := q.2.1) (N := q.2.2) hts hin (ktyp ci) (kty_ok ci q hq) (knm_ok ci q hq) hK hq
  obtain ⟨r, h1, cell, q1, q2, q3, q4⟩ := hat
  have hr : r = q := Option.some.inj (h1.symm.trans hq)
  subst hr
  obtain ⟨hS, hfc, kC, hkC, hkind⟩ := hK.1 ci _ hq
  obtain ⟨cf, kf, fi, f, hi, hsl⟩ := hS k hk
  have hlay := hts _ (hin _ (u_in_lay hk))
  unfold u_lay at hlay
  have hst := (u_facts hfc hkC (u_lays hts hin hk) hi).1
  have hbs : ∀ z ∈ locs ++ [(⟨a, f.slot⟩ : Loc)], E.1 ≤ z.base := by
    intro z hz
    rcases List.mem_append.mp hz with h | h
    · exact hL z h
    · rw [List.mem_singleton.mp h]; exact hbase
  rcases hfin with hfin | ⟨hfin, hini, hdecl⟩
  · rw [if_neg (by rw [hfin]; decide)] at hlay
    have h6 := u_store hfc hkC hkind hlay hi hd hn hfit
    refine W.putK hexec hb (f := f) ⟨hown, hts _ hl, ⟨_, _, _, hi⟩, hst⟩ (by rw [q2]; exact h6) q1 q3 (by rw [hsl]; exact k2_hasslot (q4 k hk)) rfl rfl hdg fun H' e1 e2 e3 => ?_
    refine kk H' _ e2 e3 ?_ hbs
    rw [hsl] at e1
    exact ⟨_, hq, t_OB.to (V := updV (vp_V fs) k v) ⟨_, e1, q2, q3, t_set q4 hap hk v⟩ (fun j _ => vp_updV_set hln v j)⟩
  · rw [if_pos hfin] at hlay
    have hcf : m.cls = cf := by
      obtain ⟨_, _, c', _, _, _, -, -, hf', -, -, -, hown2, -⟩ := Cond.laysFinal_spec hlay
      have e1 : c' = cf := by have := hi.symm.trans hf'; simp at this; exact this.1.symm
      rw [hdecl] at hown2
      rw [← e1]; exact Option.some.inj (hown.symm.trans hown2)
    have h6 := u_fits hfc hkC hkind (Or.inr hlay) hi hd hn hfit
    refine W.putFinK hexec hb hown (hts _ hl) hi hst hcf (hname.trans hini) (by rw [q2]; exact h6) q1 q3 (by rw [hsl]; exact k2_hasslot (q4 k hk)) rfl rfl hdg fun H' e1 e2 e3 => ?_
    refine kk H' _ e2 e3 ?_ hbs
    rw [hsl] at e1
    exact ⟨_, hq, t_OB.to (V := updV (vp_V fs) k v) ⟨_, e1, q2, q3, t_set q4 hap hk v⟩ (fun j _ => vp_updV_set hln v j)⟩
theorem get_core {y : mt_T} {E : en_T} {a ci k x : Nat} {q : vw_C} {fs : List Value} {v : Value} (C : cx y E p s m args meth c0) (hat : va_at E.2.2.1 kcls (a, .inr (ci, fs)) H) (hq : kcls[ci]? = some q) (hk : k < q.2.2) (hl : Cond.fieldLink y.1.cls x (q.2.1 k).1 (q.2.1 k).2.1 (q.2.1 k).2.2.1 ∈ gT) (hv : fs[k]? = some v) (hdg : decode y.2.1 pc = .ok (.getfield x, 3))
    (kk : W p l e R s m args below meth c0 H locs cells slots QQ (F0 m (pc + 3) ls (v :: rest))) : W p l e R s m args below meth c0 H locs cells slots QQ (F0 m pc ls (.ref a :: rest)) := by
  obtain ⟨hexec, hb, -, -, hown, hts, -, hname, hKx⟩ := C
  refine va_get (C := q.1) (T := q.2.1) (N := q.2.2) (ci := ci) (D := E.2.2.1) (cl := kcls) (ws := [(a, .inr (ci, fs))]) hexec hb hts (kin_ok ci q hq) hown hKx.1 (fun j z hz => ?_) 0 rfl hq k hk (hts _ hl) (fun _ h => h) hv hdg kk
  match j, hz with
  | 0, hz => cases hz; exact hat
  | j + 1, hz => simp at hz
end PUT
section GH
variable {y : mt_T} {d mc ms : Nat} {Q : Option Value → sh_T → hp_T → Prop} {cells slots : Nat} {pc : Nat} {lo st : List Value} {sh : sh_T} {hp : hp_T}
theorem g1_get {c ci k x : Nat} {q : vw_C} {ks : List Value} {v : Value} (hd : decode y.2.1 pc = .ok (.getfield x, 3)) (hc : sh[c]? = some (.inr (ci, ks))) (hq : kcls[ci]? = some q) (hk : k < q.2.2) (hl : Cond.fieldLink y.1.cls x (q.2.1 k).1 (q.2.1 k).2.1 (q.2.1 k).2.2.1 ∈ gT) (hv : ks[k]? = some v) (kk : gG y d mc ms Q cells slots (pc + 3, lo, av hp c k v :: st, sh, hp)) : gG y d mc ms Q cells slots (pc, lo, .ref c :: st, sh, hp) :=
  fun ok p l e s m args below meth c0 E H locs ls C hw hL hl2 => get_core C (wd_at hw hc) hq hk hl (fs_get hv) hd (kk ok p l e s m args below meth c0 E H locs ls C hw hL hl2)
theorem g1_put {c ci k x : Nat} {q : vw_C} {ks : List Value} {v : Value} {sh' : sh_T} {hp' : hp_T} {ty : FieldType} (hd : decode y.2.1 pc = .ok (.putfield x, 3)) (hc : sh[c]? = some (.inr (ci, ks))) (hq : kcls[ci]? = some q) (hk : k < q.2.2) (hl : Cond.fieldLink y.1.cls x (q.2.1 k).1 (q.2.1 k).2.1 (q.2.1 k).2.2.1 ∈ gT) (hfin : (q.2.1 k).2.2.2 = false ∨ ((q.2.1 k).2.2.2 = true ∧ y.1.name = "<init>" ∧ (q.2.1 k).1 = y.1.cls)) (hty : parseFieldDescriptor (q.2.1 k).2.2.1 = some ty) (hn : ∀ E, narrow ty (cv E v) = cv E v) (hfit : ∀ E, fits ty (cv E v) = true) (hkl : k < ks.length)
    (hsh : ∃ ks', sh' = sh.set c (.inr (ci, ks')) ∧ ks'.length = ks.length ∧ ∀ (E : en_T) (i : Nat) (w : Value), ks'[i]? = some w → (i = k → cv E (av hp' c i w) = cv E v) ∧ (i ≠ k → ∃ w', ks[i]? = some w' ∧ cv E (av hp' c i w) = cv E (av hp c i w'))) (hr : ∀ j, j ≠ c → hp'.1 j = hp.1 j ∧ hp'.2 j = hp.2 j)
    (kk : gG y d mc ms Q cells slots (pc + 3, lo, st, sh', hp')) : gG y d mc ms Q cells slots (pc, lo, v :: .ref c :: st, sh, hp) := by
  intro ok p l e s m args below meth c0 E H locs ls C hw hL hl2
  obtain ⟨ks', rfl, hlen, hks⟩ := hsh
  have hcl : c < sh.length := (List.getElem?_eq_some_iff.mp hc).1
  refine put_core (ws := (0, .inr (0, []))) C (wd_at hw hc) hq hk hl hfin hty (hn E) (hfit E) (by rw [fs_len]; exact hkl) (Nat.le_add_right _ _) hL hd (fun H1 locs1 z1 o1 hat hL1 => ?_)
  refine kk ok p l e s m args below meth c0 E H1 locs1 ls C ?_ hL1 hl2
  refine wd_put (c := c) hw (by simp) z1 o1 (fun e he => ?_) (fun j e hj he => ?_) hr
  · rw [List.getElem?_set_self hcl] at he
    cases he
    simp only [ce]
    rw [fs_set hlen (hks E)]
    exact hat
  · rwa [List.getElem?_set_ne (Ne.symm hj)] at he
theorem sh_same {c : Nat} {e : sh_E} (h : sh[c]? = some e) : sh.set c e = sh := by
  apply List.ext_getElem?
  intro i
  rw [List.getElem?_set]
  split
  · next hi => subst hi; rw [h]; simp [(List.getElem?_eq_some_iff.mp h).1]
  · rfl
theorem g1_putI {c ci k x : Nat} {q : vw_C} {ks : List Value} {v0 v : Int32} {ty : FieldType} (hd : decode y.2.1 pc = .ok (.putfield x, 3)) (hc : sh[c]? = some (.inr (ci, ks))) (hq : kcls[ci]? = some q) (hk : k < q.2.2) (hl : Cond.fieldLink y.1.cls x (q.2.1 k).1 (q.2.1 k).2.1 (q.2.1 k).2.2.1 ∈ gT) (hfin : (q.2.1 k).2.2.2 = false) (hty : parseFieldDescriptor (q.2.1 k).2.2.1 = some ty) (hn : narrow ty (.int v) = .int v) (hfit : fits ty (.int v) = true) (hv : ks[k]? = some (.int v0))
    (kk : gG y d mc ms Q cells slots (pc + 3, lo, st, sh, sI hp c k v)) : gG y d mc ms Q cells slots (pc, lo, .int v :: .ref c :: st, sh, hp) := by
  refine g1_put (sh' := sh) (hp' := sI hp c k v) hd hc hq hk hl (Or.inl hfin) hty (fun E => hn) (fun E => hfit) (List.getElem?_eq_some_iff.mp hv).1 ⟨ks, (sh_same hc).symm, rfl, fun E i w hw => ⟨fun hi => ?_, fun hi => ⟨w, hw, ?_⟩⟩⟩ (fun j hj => ⟨sI_ne hj, rfl⟩) kk
  · subst hi
    rw [hv] at hw; cases hw
    simp [av, sI_at, va_up, cv]
  · cases w <;> simp [av, sI_at, va_up, hi, sI_2]
theorem g1_putL {c ci k x : Nat} {q : vw_C} {ks : List Value} {v0 v : Int64} (hd : decode y.2.1 pc = .ok (.putfield x, 3)) (hc : sh[c]? = some (.inr (ci, ks))) (hq : kcls[ci]? = some q) (hk : k < q.2.2) (hl : Cond.fieldLink y.1.cls x (q.2.1 k).1 (q.2.1 k).2.1 (q.2.1 k).2.2.1 ∈ gT) (hfin : (q.2.1 k).2.2.2 = false) (hty : parseFieldDescriptor (q.2.1 k).2.2.1 = some .long) (hv : ks[k]? = some (.long v0))
    (kk : gG y d mc ms Q cells slots (pc + 3, lo, st, sh, sL hp c k v)) : gG y d mc ms Q cells slots (pc, lo, .long v :: .ref c :: st, sh, hp) := by
  refine g1_put (sh' := sh) (hp' := sL hp c k v) hd hc hq hk hl (Or.inl hfin) hty (fun E => rfl) (fun E => rfl) (List.getElem?_eq_some_iff.mp hv).1 ⟨ks, (sh_same hc).symm, rfl, fun E i w hw => ⟨fun hi => ?_, fun hi => ⟨w, hw, ?_⟩⟩⟩ (fun j hj => ⟨rfl, sL_ne hj⟩) kk
  · subst hi
    rw [hv] at hw; cases hw
    simp [av, sL_at, va_up, cv]
  · cases w <;> simp [av, sL_at, va_up, hi, sL_1]
/-- a reference is put: the shape changes -/
theorem g1_putR {c ci k x : Nat} {q : vw_C} {ks : List Value} {v : Value} {ty : FieldType} (hd : decode y.2.1 pc = .ok (.putfield x, 3)) (hc : sh[c]? = some (.inr (ci, ks))) (hq : kcls[ci]? = some q) (hk : k < q.2.2) (hl : Cond.fieldLink y.1.cls x (q.2.1 k).1 (q.2.1 k).2.1 (q.2.1 k).2.2.1 ∈ gT) (hfin : (q.2.1 k).2.2.2 = false ∨ ((q.2.1 k).2.2.2 = true ∧ y.1.name = "<init>" ∧ (q.2.1 k).1 = y.1.cls)) (hty : parseFieldDescriptor (q.2.1 k).2.2.1 = some ty) (hn : ∀ E, narrow ty (cv E v) = cv E v) (hfit : ∀ E, fits ty (cv E v) = true) (hkl : k < ks.length) (hr : isR v = true)
    (kk : gG y d mc ms Q cells slots (pc + 3, lo, st, sh.set c (.inr (ci, ks.set k v)), hp)) : gG y d mc ms Q cells slots (pc, lo, v :: .ref c :: st, sh, hp) := by
  refine g1_put (hp' := hp) hd hc hq hk hl hfin hty hn hfit hkl ⟨_, rfl, by simp, fun E i w hw => ⟨fun hi => ?_, fun hi => ⟨w, ?_, rfl⟩⟩⟩ (fun j hj => ⟨rfl, rfl⟩) kk
  · subst hi
    rw [List.getElem?_set_self hkl] at hw; cases hw
    cases v <;> first | rfl | cases hr
  · rwa [List.getElem?_set_ne (Ne.symm hi)] at hw
theorem cl_of {i : Int32} {j : Nat} (h : i.toInt = (j : Int)) : i.toNatClampNeg = j := by
  show i.toInt.toNat = j
  omega
theorem in_of {i : Int32} {j n : Nat} (h : i.toInt = (j : Int)) (hj : j < n) : vp_in i n := vp_in_iff.mpr ⟨by omega, by omega⟩
theorem ty_at {E : en_T} {s : State} (h : kx E s) : ArrOfT s (E.2.2.2.1 .int) .int ∧ ArrOfT s (E.2.2.2.1 .byte) .byte ∧ ArrOfT s (E.2.2.2.1 .long) .long := ⟨(h.1.2 0 _ rfl).1, (h.1.2 1 _ rfl).1, (h.1.2 2 _ rfl).1⟩
theorem wd_i {E : en_T} {H : Heap} {c n : Nat} {ty : FieldType} (hw : wd E sh hp H) (hc : sh[c]? = some (.inl (ty, n))) (ht : ty = .int ∨ ty = .byte) : H[E.1 + c]? = some (arrV (E.2.2.2.1 ty) n (fun j => .int (hp.1 c j))) := by
  rcases ht with rfl | rfl <;> exact wd_at hw hc
theorem wd_l {E : en_T} {H : Heap} {c n : Nat} (hw : wd E sh hp H) (hc : sh[c]? = some (.inl (.long, n))) : H[E.1 + c]? = some (arrV (E.2.2.2.1 .long) n (fun j => .long (hp.2 c j))) := wd_at hw hc
theorem g1_iald {c n j : Nat} {i : Int32} (hd : decode y.2.1 pc = .ok (.iaload, 1)) (hc : sh[c]? = some (.inl (.int, n))) (hi : i.toInt = (j : Int)) (hj : j < n) (kk : gG y d mc ms Q cells slots (pc + 1, lo, .int (hp.1 c j) :: st, sh, hp)) : gG y d mc ms Q cells slots (pc, lo, .int i :: .ref c :: st, sh, hp) := by
  intro ok p l e s m args below meth c0 E H locs ls C hw hL hl2
  have k := kk ok p l e s m args below meth c0 E H locs ls C hw hL hl2
  refine W.iald (v := .int (hp.1 c j)) C.1 C.2.1 (wd_i hw hc (Or.inl rfl)) ((ty_at C.2.2.2.2.2.2.2.2).1 n (fun j => .int (hp.1 c j))) (fun q => by cases q) (by show ¬ (i < 0 ∨ (arrV _ _ _).slots.size ≤ _); rw [arrV_size]; exact in_of hi hj) (by show (arrV _ _ _).slots[_]? = _; rw [cl_of hi, arrV_read _ _ hj]) rfl rfl hd k
theorem g1_bald {c n j : Nat} {i : Int32} (hd : decode y.2.1 pc = .ok (.baload, 1)) (hc : sh[c]? = some (.inl (.byte, n))) (hi : i.toInt = (j : Int)) (hj : j < n) (kk : gG y d mc ms Q cells slots (pc + 1, lo, .int (hp.1 c j) :: st, sh, hp)) : gG y d mc ms Q cells slots (pc, lo, .int i :: .ref c :: st, sh, hp) := by
  intro ok p l e s m args below meth c0 E H locs ls C hw hL hl2
  have k := kk ok p l e s m args below meth c0 E H locs ls C hw hL hl2
  refine W.bald (v := .int (hp.1 c j)) C.1 C.2.1 (wd_i hw hc (Or.inr rfl)) ((ty_at C.2.2.2.2.2.2.2.2).2.1 n (fun j => .int (hp.1 c j))) (fun q => by cases q) (by show ¬ (i < 0 ∨ (arrV _ _ _).slots.size ≤ _); rw [arrV_size]; exact in_of hi hj) (by show (arrV _ _ _).slots[_]? = _; rw [cl_of hi, arrV_read _ _ hj]) rfl rfl hd k
theorem g1_lald {c n j : Nat} {i : Int32} (hd : decode y.2.1 pc = .ok (.laload, 1)) (hc : sh[c]? = some (.inl (.long, n))) (hi : i.toInt = (j : Int)) (hj : j < n) (kk : gG y d mc ms Q cells slots (pc + 1, lo, .long (hp.2 c j) :: st, sh, hp)) : gG y d mc ms Q cells slots (pc, lo, .int i :: .ref c :: st, sh, hp) := by
  intro ok p l e s m args below meth c0 E H locs ls C hw hL hl2
  have k := kk ok p l e s m args below meth c0 E H locs ls C hw hL hl2
  refine W.lald (v := .long (hp.2 c j)) C.1 C.2.1 (wd_l hw hc) ((ty_at C.2.2.2.2.2.2.2.2).2.2 n (fun j => .long (hp.2 c j))) (fun q => by cases q) (by show ¬ (i < 0 ∨ (arrV _ _ _).slots.size ≤ _); rw [arrV_size]; exact in_of hi hj) (by show (arrV _ _ _).slots[_]? = _; rw [cl_of hi, arrV_read _ _ hj]) rfl rfl hd k
theorem g1_iast {c n j : Nat} {i x : Int32} (hd : decode y.2.1 pc = .ok (.iastore, 1)) (hc : sh[c]? = some (.inl (.int, n))) (hi : i.toInt = (j : Int)) (hj : j < n) (kk : gG y d mc ms Q cells slots (pc + 1, lo, st, sh, sI hp c j x)) : gG y d mc ms Q cells slots (pc, lo, .int x :: .int i :: .ref c :: st, sh, hp) := by
  intro ok p l e s m args below meth c0 E H locs ls C hw hL hl2
  refine W.iast C.1 C.2.1 (wd_i hw hc (Or.inl rfl)) ((ty_at C.2.2.2.2.2.2.2.2).1 n (fun j => .int (hp.1 c j))) (fun q => by cases q) (by show ¬ (i < 0 ∨ (arrV _ _ _).slots.size ≤ _); rw [arrV_size]; exact in_of hi hj) rfl rfl hd fun H1 e1 z oq => ?_
  refine kk ok p l e s m args below meth c0 E H1 _ ls C (wd_put (c := c) hw rfl z oq (fun e2 he => ?_) (fun j e hj he => he) (fun j hj => ⟨sI_ne hj, rfl⟩)) ?_ hl2
  · rw [hc] at he; cases he
    show H1[E.1 + c]? = some (vp_cell _ _)
    rw [e1]
    simp only [arc, vp_cell_i, arrV_store, sI_at]
    congr 2
    funext q
    rw [cl_of hi]
    by_cases hq : q = j
    · subst hq; simp [updV, va_up]
    · simp [updV, va_up, hq]
  · intro q hq
    rcases List.mem_append.mp hq with h | h
    · exact hL q h
    · rw [List.mem_singleton.mp h]; exact Nat.le_add_right _ _
theorem g1_bast {c n j : Nat} {i x : Int32} (hd : decode y.2.1 pc = .ok (.bastore, 1)) (hc : sh[c]? = some (.inl (.byte, n))) (hi : i.toInt = (j : Int)) (hj : j < n) (kk : gG y d mc ms Q cells slots (pc + 1, lo, st, sh, sI hp c j (vp_nar .byte x))) : gG y d mc ms Q cells slots (pc, lo, .int x :: .int i :: .ref c :: st, sh, hp) := by
  intro ok p l e s m args below meth c0 E H locs ls C hw hL hl2
  refine W.bast C.1 C.2.1 (wd_i hw hc (Or.inr rfl)) ((ty_at C.2.2.2.2.2.2.2.2).2.1 n (fun j => .int (hp.1 c j))) (fun q => by cases q) (by show ¬ (i < 0 ∨ (arrV _ _ _).slots.size ≤ _); rw [arrV_size]; exact in_of hi hj) rfl rfl hd fun H1 e1 z oq => ?_
  refine kk ok p l e s m args below meth c0 E H1 _ ls C (wd_put (c := c) hw rfl z oq (fun e2 he => ?_) (fun j e hj he => he) (fun j hj => ⟨sI_ne hj, rfl⟩)) ?_ hl2
  · rw [hc] at he; cases he
    show H1[E.1 + c]? = some (vp_cell _ _)
    rw [e1]
    simp only [arc, vp_cell_i, arrV_store, sI_at]
    congr 2
    funext q
    rw [cl_of hi]
    by_cases hq : q = j
    · subst hq
      simp [updV, va_up, vp_nar]
      try rfl
    · simp [updV, va_up, hq]
  · intro q hq
    rcases List.mem_append.mp hq with h | h
    · exact hL q h
    · rw [List.mem_singleton.mp h]; exact Nat.le_add_right _ _
theorem g1_last {c n j : Nat} {i : Int32} {x : Int64} (hd : decode y.2.1 pc = .ok (.lastore, 1)) (hc : sh[c]? = some (.inl (.long, n))) (hi : i.toInt = (j : Int)) (hj : j < n) (kk : gG y d mc ms Q cells slots (pc + 1, lo, st, sh, sL hp c j x)) : gG y d mc ms Q cells slots (pc, lo, .long x :: .int i :: .ref c :: st, sh, hp) := by
  intro ok p l e s m args below meth c0 E H locs ls C hw hL hl2
  refine W.last C.1 C.2.1 (wd_l hw hc) ((ty_at C.2.2.2.2.2.2.2.2).2.2 n (fun j => .long (hp.2 c j))) (fun q => by cases q) (by show ¬ (i < 0 ∨ (arrV _ _ _).slots.size ≤ _); rw [arrV_size]; exact in_of hi hj) rfl rfl hd fun H1 e1 z oq => ?_
  refine kk ok p l e s m args below meth c0 E H1 _ ls C (wd_put (c := c) hw rfl z oq (fun e2 he => ?_) (fun j e hj he => he) (fun j hj => ⟨rfl, sL_ne hj⟩)) ?_ hl2
  · rw [hc] at he; cases he
    show H1[E.1 + c]? = some (vp_cell _ _)
    rw [e1]
    simp only [arc, vp_cell_l, arrV_store, sL_at]
    congr 2
    funext q
    rw [cl_of hi]
    by_cases hq : q = j
    · subst hq; simp [updV, va_up]
    · simp [updV, va_up, hq]
  · intro q hq
    rcases List.mem_append.mp hq with h | h
    · exact hL q h
    · rw [List.mem_singleton.mp h]; exact Nat.le_add_right _ _
theorem g1_alen {c n : Nat} {ty : FieldType} (hd : decode y.2.1 pc = .ok (.arraylength, 1)) (hc : sh[c]? = some (.inl (ty, n))) (ht : ty = .int ∨ ty = .byte ∨ ty = .long) (kk : gG y d mc ms Q cells slots (pc + 1, lo, .int (nI n) :: st, sh, hp)) : gG y d mc ms Q cells slots (pc, lo, .ref c :: st, sh, hp) := by
  intro ok p l e s m args below meth c0 E H locs ls C hw hL hl2
  have k := kk ok p l e s m args below meth c0 E H locs ls C hw hL hl2
  rcases ht with rfl | rfl | rfl
  · exact W.alen C.1 C.2.1 (wd_at hw hc) ((ty_at C.2.2.2.2.2.2.2.2).1 n (fun j => .int (hp.1 c j))) (by show (arrV _ _ _).slots.size.toInt32 = _; rw [arrV_size]; rfl) rfl rfl hd k
  · exact W.alen C.1 C.2.1 (wd_at hw hc) ((ty_at C.2.2.2.2.2.2.2.2).2.1 n (fun j => .int (hp.1 c j))) (by show (arrV _ _ _).slots.size.toInt32 = _; rw [arrV_size]; rfl) rfl rfl hd k
  · exact W.alen C.1 C.2.1 (wd_at hw hc) ((ty_at C.2.2.2.2.2.2.2.2).2.2 n (fun j => .long (hp.2 c j))) (by show (arrV _ _ _).slots.size.toInt32 = _; rw [arrV_size]; rfl) rfl rfl hd k
end GH
end
section
/-! many steps at once, by computing -/
def nth {α : Type} : List α → Nat → Option α
  | [], _ => none
  | a :: _, 0 => some a
  | _ :: r, i + 1 => nth r i
theorem nth_eq {α : Type} : ∀ (l : List α) (i : Nat), nth l i = l[i]?
  | [], i => by simp [nth]
  | a :: r, 0 => by simp [nth]
  | a :: r, i + 1 => by simp [nth, nth_eq r i]
def stL {α : Type} : List Value → Nat → Value → (List Value → Option α) → Option α
  | [], _, _, _ => none
  | _ :: r, 0, v, k => k (v :: r)
  | a :: r, i + 1, v, k => stL r i v (fun r' => k (a :: r'))
theorem stL_ok {α : Type} : ∀ (l : List Value) (i : Nat) (v : Value) (k : List Value → Option α) (z : α), stL l i v k = some z → k (l.set i v) = some z
  | [], _, _, _, _, h => by simp [stL] at h
  | _ :: r, 0, v, k, z, h => by simpa [stL] using h
  | a :: r, i + 1, v, k, z, h => by
    have := stL_ok r i v (fun r' => k (a :: r')) z (by simpa [stL] using h)
    simpa using this
def notLb (lo : List Value) (i : Nat) : Bool := match i with
  | 0 => true
  | k + 1 => match nth lo k with
    | some v => Nat.beq v.category 1
    | none => true
theorem notLb_ok {lo : List Value} {i : Nat} (h : notLb lo i = true) : notL lo i = true := by
  cases i with
  | zero => rfl
  | succ k =>
    have e := nth_eq lo k
    simp only [notLb, e] at h
    simp only [notL]
    revert h
    cases lo[k]? <;> exact id
/-- one step that asks for nothing: the next state -/
def s1 (nL : Nat) (e : ie_T) (S : st_T) : Option st_T := match e with
  | (_, _, ic, nx, a, _, v, w, _) => match S with
    | (_, lo, st, sh, hp) => match ic with
      | .iconst _ => some (nx, lo, .int v :: st, sh, hp)
      | .lconst _ => some (nx, lo, .long w :: st, sh, hp)
      | .ldc2_w _ => some (nx, lo, .long w :: st, sh, hp)
      | .iload i => match nth lo i with
        | some (.int x) => some (nx, lo, .int x :: st, sh, hp)
        | _ => none
      | .lload i => match nth lo i with
        | some (.long x) => some (nx, lo, .long x :: st, sh, hp)
        | _ => none
      | .aload i => match nth lo i with
        | some (.ref x) => some (nx, lo, .ref x :: st, sh, hp)
        | some (.float x) => some (nx, lo, .float x :: st, sh, hp)
        | _ => none
      | .istore i => match st with
        | .int x :: r => match Nat.blt i nL && notLb lo i with
          | true => stL lo i (.int x) (fun lo' => some (nx, lo', r, sh, hp))
          | false => none
        | _ => none
      | .astore i => match st with
        | .ref x :: r => match Nat.blt i nL && notLb lo i with
          | true => stL lo i (.ref x) (fun lo' => some (nx, lo', r, sh, hp))
          | false => none
        | _ => none
      | .lstore i => match st with
        | .long x :: r => match Nat.blt (i + 1) nL && notLb lo i with
          | true => stL lo i (.long x) (fun lo' => stL lo' (i + 1) (.retAddr 0) (fun lo2 => some (nx, lo2, r, sh, hp)))
          | false => none
        | _ => none
      | .iinc i _ => match nth lo i with
        | some (.int x) => match Nat.blt i nL && notLb lo i with
          | true => stL lo i (.int (x + v)) (fun lo' => some (nx, lo', st, sh, hp))
          | false => none
        | _ => none
      | .goto _ => some (nx, lo, st, sh, hp)
      | .iadd => match st with
        | .int z :: .int x :: r => some (nx, lo, .int (x + z) :: r, sh, hp)
        | _ => none
      | .isub => match st with
        | .int z :: .int x :: r => some (nx, lo, .int (x - z) :: r, sh, hp)
        | _ => none
      | .imul => match st with
        | .int z :: .int x :: r => some (nx, lo, .int (x * z) :: r, sh, hp)
        | _ => none
      | .iand => match st with
        | .int z :: .int x :: r => some (nx, lo, .int (x &&& z) :: r, sh, hp)
        | _ => none
      | .ishl => match st with
        | .int z :: .int x :: r => some (nx, lo, .int (x <<< (z &&& 31)) :: r, sh, hp)
        | _ => none
      | .ishr => match st with
        | .int z :: .int x :: r => some (nx, lo, .int (x >>> (z &&& 31)) :: r, sh, hp)
        | _ => none
      | .iushr => match st with
        | .int z :: .int x :: r => some (nx, lo, .int (x.toUInt32 >>> (z.toUInt32 &&& Int32.toUInt32 31)).toInt32 :: r, sh, hp)
        | _ => none
      | .ineg => match st with
        | .int x :: r => some (nx, lo, .int (-x) :: r, sh, hp)
        | _ => none
      | .ladd => match st with
        | .long z :: .long x :: r => some (nx, lo, .long (x + z) :: r, sh, hp)
        | _ => none
      | .lsub => match st with
        | .long z :: .long x :: r => some (nx, lo, .long (x - z) :: r, sh, hp)
        | _ => none
      | .lmul => match st with
        | .long z :: .long x :: r => some (nx, lo, .long (x * z) :: r, sh, hp)
        | _ => none
      | .land => match st with
        | .long z :: .long x :: r => some (nx, lo, .long (x &&& z) :: r, sh, hp)
        | _ => none
      | .lor => match st with
        | .long z :: .long x :: r => some (nx, lo, .long (x ||| z) :: r, sh, hp)
        | _ => none
      | .lxor => match st with
        | .long z :: .long x :: r => some (nx, lo, .long (x ^^^ z) :: r, sh, hp)
        | _ => none
      | .lcmp => match st with
        | .long z :: .long x :: r => some (nx, lo, .int (lg_cmp x z) :: r, sh, hp)
        | _ => none
      | .lshl => match st with
        | .int z :: .long x :: r => some (nx, lo, .long (x <<< (z.toInt64 &&& 63)) :: r, sh, hp)
        | _ => none
      | .lshr => match st with
        | .int z :: .long x :: r => some (nx, lo, .long (x >>> (z.toInt64 &&& 63)) :: r, sh, hp)
        | _ => none
      | .lushr => match st with
        | .int z :: .long x :: r => some (nx, lo, .long (x.toUInt64 >>> (z.toInt64.toUInt64 &&& Int64.toUInt64 63)).toInt64 :: r, sh, hp)
        | _ => none
      | .i2l => match st with
        | .int x :: r => some (nx, lo, .long x.toInt64 :: r, sh, hp)
        | _ => none
      | .l2i => match st with
        | .long x :: r => some (nx, lo, .int x.toInt32 :: r, sh, hp)
        | _ => none
      | .i2b => match st with
        | .int x :: r => some (nx, lo, .int x.toInt8.toInt32 :: r, sh, hp)
        | _ => none
      | .dup => match st with
        | .int x :: r => some (nx, lo, .int x :: .int x :: r, sh, hp)
        | .ref x :: r => some (nx, lo, .ref x :: .ref x :: r, sh, hp)
        | _ => none
      | .dup2 => match st with
        | .int x :: .ref z :: r => some (nx, lo, .int x :: .ref z :: .int x :: .ref z :: r, sh, hp)
        | _ => none
      | .getfield k => match st with
        | .ref c :: r => match nth sh c with
          | some (.inr (ci, ks)) => match Nat.beq ci a with
            | true => match nth ks k with
              | some (.int _) => some (nx, lo, .int (hp.1 c k) :: r, sh, hp)
              | some (.long _) => some (nx, lo, .long (hp.2 c k) :: r, sh, hp)
              | some (.ref q) => some (nx, lo, .ref q :: r, sh, hp)
              | _ => none
            | false => none
          | _ => none
        | _ => none
      | .putfield k => match st with
        | .int x :: .ref c :: r => match nth sh c with
          | some (.inr (ci, ks)) => match Nat.beq ci a && decide ((fk a k).2.2 = ("I", false)) with
            | true => match nth ks k with
              | some (.int _) => some (nx, lo, r, sh, sI hp c k x)
              | _ => none
            | false => none
          | _ => none
        | .long x :: .ref c :: r => match nth sh c with
          | some (.inr (ci, ks)) => match Nat.beq ci a && decide ((fk a k).2.2 = ("J", false)) with
            | true => match nth ks k with
              | some (.long _) => some (nx, lo, r, sh, sL hp c k x)
              | _ => none
            | false => none
          | _ => none
        | _ => none
      | .arraylength => match st with
        | .ref c :: r => match nth sh c with
          | some (.inl (.int, n)) => some (nx, lo, .int (nI n) :: r, sh, hp)
          | some (.inl (.byte, n)) => some (nx, lo, .int (nI n) :: r, sh, hp)
          | _ => none
        | _ => none
      | _ => none
section GR
variable {y : mt_T} {d mc ms : Nat} {Q : Option Value → sh_T → hp_T → Prop} {cells slots : Nat} {pc : Nat} {lo st : List Value} {sh : sh_T} {hp : hp_T}
theorem ld_of {cc : ByteArray} {i2 i1 ia : Instr} {i b : Nat} (hd : dec cc pc ia b = true) (h : ((decide (ia = i2) && Nat.beq b 2) || (decide (ia = i1) && Nat.beq b 1 && Nat.blt i 4)) = true) : (decode cc pc = .ok (i2, 2) ∧ b = 2) ∨ (decode cc pc = .ok (i1, 1) ∧ b = 1 ∧ i < 4) := by
  simp only [Bool.or_eq_true, Bool.and_eq_true, decide_eq_true_eq] at h
  rcases h with ⟨h1, h2⟩ | ⟨⟨h1, h2⟩, h3⟩
  · have h2 := Nat.eq_of_beq_eq_true h2
    subst h1; subst h2
    exact Or.inl ⟨dec_of hd, rfl⟩
  · have h2 := Nat.eq_of_beq_eq_true h2
    subst h1; subst h2
    exact Or.inr ⟨dec_of hd, rfl, Nat.lt_of_le_of_lt (by simpa [Nat.blt] using h3) (by decide : 3 < 4)⟩
theorem df_of {cc : ByteArray} {i ia : Instr} {b nx n : Nat} (hn : il i = n) (h0 : n ≠ 0) (hd : dec cc pc ia b = true) (h : (decide (ia = i) && (if il i = 0 then true else Nat.beq b (il i) && Nat.beq nx (pc + il i))) = true) : decode cc pc = .ok (i, n) ∧ nx = pc + n := by
  simp only [Bool.and_eq_true, decide_eq_true_eq] at h
  obtain ⟨h1, h2⟩ := h
  rw [hn, if_neg h0] at h2
  simp only [Bool.and_eq_true] at h2
  have e1 := Nat.eq_of_beq_eq_true h2.1
  have e2 := Nat.eq_of_beq_eq_true h2.2
  subst h1; subst e1
  exact ⟨dec_of hd, e2⟩
theorem bl_of {i n : Nat} (h : Nat.blt i n = true) : i < n := by
  have h9 : i + 1 ≤ n := by simpa [Nat.blt] using h
  omega
theorem ld_blt {cc : ByteArray} {i2 i1 ia : Instr} {i b nx : Nat} (hd : dec cc pc ia b = true) (h : (Nat.beq nx (pc + b) && ((decide (ia = i2) && Nat.beq b 2) || (decide (ia = i1) && Nat.beq b 1 && Nat.blt i 4))) = true) : nx = pc + b ∧ ((decode cc pc = .ok (i2, 2) ∧ b = 2) ∨ (decode cc pc = .ok (i1, 1) ∧ b = 1 ∧ i < 4)) := by
  rw [Bool.and_eq_true] at h
  exact ⟨Nat.eq_of_beq_eq_true h.1, ld_of hd h.2⟩
set_option maxHeartbeats 4000000 in
theorem s1_ok {e : ie_T} (ok : okm y = true) (hl : lk pc y.2.2.2.2 = some e) {S' : st_T} (h : s1 y.2.2.1 e (pc, lo, st, sh, hp) = some S') (k : gG y d mc ms Q cells slots S') : gG y d mc ms Q cells slots (pc, lo, st, sh, hp) := by
  obtain ⟨hb, he⟩ := lk_ok ok hl
  obtain ⟨pc0, ia, ic, nx, a, b, v, w, j⟩ := e
  change pc0 = pc at he
  subst he
  unfold okb at hb
  rw [Bool.and_eq_true] at hb
  obtain ⟨hd, hb⟩ := hb
  cases ic <;> first | (change (none : Option st_T) = some S' at h; cases h; done) | skip
  case iadd =>
    obtain ⟨hd, rfl⟩ := df_of rfl (by decide) hd hb
    simp only [s1] at h
    split at h
    · cases h; exact g1_iadd hd k
    · cases h
  case isub =>
    obtain ⟨hd, rfl⟩ := df_of rfl (by decide) hd hb
    simp only [s1] at h
    split at h
    · cases h; exact g1_isub hd k
    · cases h
  case imul =>
    obtain ⟨hd, rfl⟩ := df_of rfl (by decide) hd hb
    simp only [s1] at h
    split at h
    · cases h; exact g1_imul hd k
    · cases h
  case iand =>
    obtain ⟨hd, rfl⟩ := df_of rfl (by decide) hd hb
    simp only [s1] at h
    split at h
    · cases h; exact g1_iand hd k
    · cases h
  case ishl =>
    obtain ⟨hd, rfl⟩ := df_of rfl (by decide) hd hb
    simp only [s1] at h
    split at h
    · cases h; exact g1_ishl hd k
    · cases h
  case ishr =>
    obtain ⟨hd, rfl⟩ := df_of rfl (by decide) hd hb
    simp only [s1] at h
    split at h
    · cases h; exact g1_ishr hd k
    · cases h
  case iushr =>
    obtain ⟨hd, rfl⟩ := df_of rfl (by decide) hd hb
    simp only [s1] at h
    split at h
    · cases h; exact g1_iushr hd k
    · cases h
  case ineg =>
    obtain ⟨hd, rfl⟩ := df_of rfl (by decide) hd hb
    simp only [s1] at h
    split at h
    · cases h; exact g1_ineg hd k
    · cases h
  case ladd =>
    obtain ⟨hd, rfl⟩ := df_of rfl (by decide) hd hb
    simp only [s1] at h
    split at h
    · cases h; exact g1_ladd hd k
    · cases h
  case lsub =>
    obtain ⟨hd, rfl⟩ := df_of rfl (by decide) hd hb
    simp only [s1] at h
    split at h
    · cases h; exact g1_lsub hd k
    · cases h
  case lmul =>
    obtain ⟨hd, rfl⟩ := df_of rfl (by decide) hd hb
    simp only [s1] at h
    split at h
    · cases h; exact g1_lmul hd k
    · cases h
  case land =>
    obtain ⟨hd, rfl⟩ := df_of rfl (by decide) hd hb
    simp only [s1] at h
    split at h
    · cases h; exact g1_land hd k
    · cases h
  case lor =>
    obtain ⟨hd, rfl⟩ := df_of rfl (by decide) hd hb
    simp only [s1] at h
    split at h
    · cases h; exact g1_lor hd k
    · cases h
  case lxor =>
    obtain ⟨hd, rfl⟩ := df_of rfl (by decide) hd hb
    simp only [s1] at h
    split at h
    · cases h; exact g1_lxor hd k
    · cases h
  case lcmp =>
    obtain ⟨hd, rfl⟩ := df_of rfl (by decide) hd hb
    simp only [s1] at h
    split at h
    · cases h; exact g1_lcmp hd k
    · cases h
  case lshl =>
    obtain ⟨hd, rfl⟩ := df_of rfl (by decide) hd hb
    simp only [s1] at h
    split at h
    · cases h; exact g1_lshl hd k
    · cases h
  case lshr =>
    obtain ⟨hd, rfl⟩ := df_of rfl (by decide) hd hb
    simp only [s1] at h
    split at h
    · cases h; exact g1_lshr hd k
    · cases h
  case lushr =>
    obtain ⟨hd, rfl⟩ := df_of rfl (by decide) hd hb
    simp only [s1] at h
    split at h
    · cases h; exact g1_lushr hd k
    · cases h
  case i2l =>
    obtain ⟨hd, rfl⟩ := df_of rfl (by decide) hd hb
    simp only [s1] at h
    split at h
    · cases h; exact g1_i2l hd k
    · cases h
  case l2i =>
    obtain ⟨hd, rfl⟩ := df_of rfl (by decide) hd hb
    simp only [s1] at h
    split at h
    · cases h; exact g1_l2i hd k
    · cases h
  case i2b =>
    obtain ⟨hd, rfl⟩ := df_of rfl (by decide) hd hb
    simp only [s1] at h
    split at h
    · cases h; exact g1_i2b hd k
    · cases h
  case dup =>
    obtain ⟨hd, rfl⟩ := df_of rfl (by decide) hd hb
    simp only [s1] at h
    split at h
    · cases h; exact g1_dup rfl hd k
    · cases h; exact g1_dup rfl hd k
    · cases h
  case dup2 =>
    obtain ⟨hd, rfl⟩ := df_of rfl (by decide) hd hb
    simp only [s1] at h
    split at h
    · cases h; exact g1_dup2 rfl rfl hd k
    · cases h
  case lconst n =>
    simp only [Bool.and_eq_true, decide_eq_true_eq] at hb
    obtain ⟨⟨⟨h1, h2⟩, h3⟩, h4⟩ := hb
    have h1 := Nat.eq_of_beq_eq_true h1
    have h3 := Nat.eq_of_beq_eq_true h3
    subst h1; subst h2; subst h3
    cases h
    exact g1_lconst (dec_of hd) h4 k
  case ldc2_w n =>
    simp only [Bool.and_eq_true, decide_eq_true_eq] at hb
    obtain ⟨⟨⟨h1, h2⟩, h3⟩, h4⟩ := hb
    have h1 := Nat.eq_of_beq_eq_true h1
    have h3 := Nat.eq_of_beq_eq_true h3
    subst h1; subst h2; subst h3
    cases h
    exact g1_ldc2 (dec_of hd) (tb_of h4) k
  case iconst n =>
    simp only [Bool.and_eq_true, Bool.or_eq_true, decide_eq_true_eq] at hb
    obtain ⟨h1, hb⟩ := hb
    have h1 := Nat.eq_of_beq_eq_true h1
    subst h1
    cases h
    rcases hb with (((⟨⟨h2, h3⟩, h4⟩ | ⟨⟨h2, h3⟩, h4⟩) | ⟨⟨h2, h3⟩, h4⟩) | ⟨⟨h2, h4⟩, h3⟩) | ⟨⟨h2, h4⟩, h3⟩ <;> (have h4 := Nat.eq_of_beq_eq_true h4; subst h2; subst h4)
    · exact g1_iconst (dec_of hd) h3 k
    · exact g1_bipush (dec_of hd) h3 k
    · exact g1_sipush (dec_of hd) h3 k
    · exact g1_ldc (dec_of hd) (tb_of h3) k
    · exact g1_ldcw (dec_of hd) (tb_of h3) k
  case goto off =>
    simp only [Bool.and_eq_true, decide_eq_true_eq] at hb
    obtain ⟨⟨h2, h3⟩, h4⟩ := hb
    have h3 := Nat.eq_of_beq_eq_true h3
    subst h2; subst h3
    cases h
    exact g1_goto (dec_of hd) h4 k
  case iload i =>
    obtain ⟨rfl, hd⟩ := ld_blt hd hb
    simp only [s1] at h
    split at h
    · next x hx => cases h; exact g1_iload hd (by rw [← nth_eq]; exact hx) k
    · cases h
  case lload i =>
    obtain ⟨rfl, hd⟩ := ld_blt hd hb
    simp only [s1] at h
    split at h
    · next x hx => cases h; exact g1_lload hd (by rw [← nth_eq]; exact hx) k
    · cases h
  case aload i =>
    obtain ⟨rfl, hd⟩ := ld_blt hd hb
    simp only [s1] at h
    split at h
    · next x hx => cases h; exact g1_aload hd (by rw [← nth_eq]; exact hx) rfl k
    · next x hx => cases h; exact g1_aload hd (by rw [← nth_eq]; exact hx) rfl k
    · cases h
  case istore i =>
    obtain ⟨rfl, hd⟩ := ld_blt hd hb
    simp only [s1] at h
    split at h
    · split at h
      · next x r hx =>
        rw [Bool.and_eq_true] at hx
        have h := stL_ok _ _ _ _ _ h
        cases h
        exact g1_istore hd (bl_of hx.1) (notLb_ok hx.2) k
      · cases h
    · cases h
  case astore i =>
    obtain ⟨rfl, hd⟩ := ld_blt hd hb
    simp only [s1] at h
    split at h
    · split at h
      · next x r hx =>
        rw [Bool.and_eq_true] at hx
        have h := stL_ok _ _ _ _ _ h
        cases h
        exact g1_astore hd (bl_of hx.1) (notLb_ok hx.2) rfl k
      · cases h
    · cases h
  case lstore i =>
    obtain ⟨rfl, hd⟩ := ld_blt hd hb
    simp only [s1] at h
    split at h
    · split at h
      · next x r hx =>
        rw [Bool.and_eq_true] at hx
        have h := stL_ok _ _ _ _ _ h
        have h := stL_ok _ _ _ _ _ h
        cases h
        exact g1_lstore hd (bl_of hx.1) (notLb_ok hx.2) k
      · cases h
    · cases h
  case iinc i n =>
    simp only [Bool.and_eq_true, decide_eq_true_eq] at hb
    obtain ⟨⟨⟨h1, h2⟩, h3⟩, h4⟩ := hb
    have h1 := Nat.eq_of_beq_eq_true h1
    have h3 := Nat.eq_of_beq_eq_true h3
    subst h1; subst h2; subst h3
    simp only [s1] at h
    split at h
    · next x hx =>
      split at h
      · next hy =>
        rw [Bool.and_eq_true] at hy
        have h := stL_ok _ _ _ _ _ h
        cases h
        exact g1_iinc (dec_of hd) h4 (by rw [← nth_eq]; exact hx) (bl_of hy.1) (notLb_ok hy.2) k
      · cases h
    · cases h
  case arraylength =>
    obtain ⟨hd, rfl⟩ := df_of rfl (by decide) hd hb
    simp only [s1] at h
    split at h
    · split at h
      · next c r n hx => cases h; exact g1_alen hd (by rw [← nth_eq]; exact hx) (Or.inl rfl) k
      · next c r n hx => cases h; exact g1_alen hd (by rw [← nth_eq]; exact hx) (Or.inr (Or.inl rfl)) k
      · cases h
    · cases h
  case getfield kf =>
    rw [Bool.and_eq_true, Bool.and_eq_true] at hb
    obtain ⟨⟨h1, h2⟩, h3⟩ := hb
    have h1 := Nat.eq_of_beq_eq_true h1
    have h2 := Nat.eq_of_beq_eq_true h2
    subst h1; subst h2
    split at h3
    · next x =>
      rw [Bool.and_eq_true] at h3
      obtain ⟨h4, h5⟩ := h3
      split at h5
      · next q hq =>
        have hk := bl_of h5
        have h6 := tb_of h4
        rw [fk_of hq hk] at h6
        simp only [s1] at h
        split at h
        · next c r =>
          split at h
          · next ci ks hc =>
            split at h
            · next hci =>
              have hci := Nat.eq_of_beq_eq_true hci
              subst hci
              rw [nth_eq] at hc
              split at h
              · next z hz => cases h; rw [nth_eq] at hz; exact g1_get (dec_of hd) hc hq hk h6 hz k
              · next z hz => cases h; rw [nth_eq] at hz; exact g1_get (dec_of hd) hc hq hk h6 hz k
              · next z hz => cases h; rw [nth_eq] at hz; exact g1_get (dec_of hd) hc hq hk h6 hz k
              · cases h
            · cases h
          · cases h
        · cases h
      · cases h5
    · cases h3
  case putfield kf =>
    rw [Bool.and_eq_true, Bool.and_eq_true] at hb
    obtain ⟨⟨h1, h2⟩, h3⟩ := hb
    have h1 := Nat.eq_of_beq_eq_true h1
    have h2 := Nat.eq_of_beq_eq_true h2
    subst h1; subst h2
    split at h3
    · next x =>
      rw [Bool.and_eq_true] at h3
      obtain ⟨h4, h5⟩ := h3
      split at h5
      · next q hq =>
        have hk := bl_of h5
        have h6 := tb_of h4
        rw [fk_of hq hk] at h6
        simp only [s1] at h
        split at h
        · next x2 c r =>
          split at h
          · next ci ks hc =>
            split at h
            · next hci =>
              rw [Bool.and_eq_true, decide_eq_true_eq, fk_of hq hk] at hci
              obtain ⟨hci, hty⟩ := hci
              have hci := Nat.eq_of_beq_eq_true hci
              subst hci
              rw [nth_eq] at hc
              split at h
              · next z hz =>
                cases h
                rw [nth_eq] at hz
                refine g1_putI (ty := .int) (dec_of hd) hc hq hk h6 (by rw [hty]) (by rw [hty]; decide +kernel) rfl rfl hz k
              · cases h
            · cases h
          · cases h
        · next x2 c r =>
          split at h
          · next ci ks hc =>
            split at h
            · next hci =>
              rw [Bool.and_eq_true, decide_eq_true_eq, fk_of hq hk] at hci
              obtain ⟨hci, hty⟩ := hci
              have hci := Nat.eq_of_beq_eq_true hci
              subst hci
              rw [nth_eq] at hc
              split at h
              · next z hz =>
                cases h
                rw [nth_eq] at hz
                refine g1_putL (dec_of hd) hc hq hk h6 (by rw [hty]) (by rw [hty]; decide +kernel) hz k
              · cases h
            · cases h
          · cases h
        · cases h
      · cases h5
    · cases h3
/-- n steps -/
def rn (y : mt_T) : Nat → st_T → Option st_T
  | 0, S => some S
  | n + 1, S => match lk S.1 y.2.2.2.2 with
    | some e => match s1 y.2.2.1 e S with
      | some S' => rn y n S'
      | none => none
    | none => none
theorem g_run (n : Nat) {S S' : st_T} (h : rn y n S = some S') (k : gG y d mc ms Q cells slots S') : gG y d mc ms Q cells slots S := by
  induction n generalizing S with
  | zero => cases h; exact k
  | succ n ih =>
    unfold rn at h
    split at h
    · next e he =>
      split at h
      · next S1 h1 =>
        have k1 := ih h
        obtain ⟨pc0, lo0, st0, sh0, hp0⟩ := S
        exact fun ok => s1_ok ok he h1 k1 ok
      · cases h
    · cases h
end GR
end
section
/-! the other steps: array places, divisions, ends, calls, entry -/
section GU
variable {y : mt_T} {d mc ms : Nat} {Q : Option Value → sh_T → hp_T → Prop} {cells slots : Nat} {pc : Nat} {lo st : List Value} {sh : sh_T} {hp : hp_T} {ia : Instr} {nx a b j0 : Nat} {v0 : Int32} {w0 : Int64}
theorem dflt_of {i : Instr} {n : Nat} (hn : il i = n) (h0 : n ≠ 0) (hm : okb y.1.cls y.2.1 (pc, ia, i, nx, a, b, v0, w0, j0) = (dec y.2.1 pc ia b && (decide (ia = i) && (if il i = 0 then true else Nat.beq b (il i) && Nat.beq nx (pc + il i))))) (ok : okm y = true) (h : lk pc y.2.2.2.2 = some (pc, ia, i, nx, a, b, v0, w0, j0)) : decode y.2.1 pc = .ok (i, n) ∧ nx = pc + n := by
  have h1 := (lk_ok ok h).1
  rw [hm, Bool.and_eq_true] at h1
  exact df_of hn h0 h1.1 h1.2
theorem g_iald {c n j : Nat} {i : Int32} (h : lk pc y.2.2.2.2 = some (pc, ia, .iaload, nx, a, b, v0, w0, j0)) (hc : nth sh c = some (.inl (.int, n))) (hi : i.toInt = (j : Int)) (hj : j < n) (kk : gG y d mc ms Q cells slots (nx, lo, .int (hp.1 c j) :: st, sh, hp)) : gG y d mc ms Q cells slots (pc, lo, .int i :: .ref c :: st, sh, hp) := by
  intro ok
  obtain ⟨hd, rfl⟩ := dflt_of rfl (by decide) rfl ok h
  exact g1_iald hd (by rw [← nth_eq]; exact hc) hi hj kk ok
theorem g_bald {c n j : Nat} {i : Int32} (h : lk pc y.2.2.2.2 = some (pc, ia, .baload, nx, a, b, v0, w0, j0)) (hc : nth sh c = some (.inl (.byte, n))) (hi : i.toInt = (j : Int)) (hj : j < n) (kk : gG y d mc ms Q cells slots (nx, lo, .int (hp.1 c j) :: st, sh, hp)) : gG y d mc ms Q cells slots (pc, lo, .int i :: .ref c :: st, sh, hp) := by
  intro ok
  obtain ⟨hd, rfl⟩ := dflt_of rfl (by decide) rfl ok h
  exact g1_bald hd (by rw [← nth_eq]; exact hc) hi hj kk ok
theorem g_lald {c n j : Nat} {i : Int32} (h : lk pc y.2.2.2.2 = some (pc, ia, .laload, nx, a, b, v0, w0, j0)) (hc : nth sh c = some (.inl (.long, n))) (hi : i.toInt = (j : Int)) (hj : j < n) (kk : gG y d mc ms Q cells slots (nx, lo, .long (hp.2 c j) :: st, sh, hp)) : gG y d mc ms Q cells slots (pc, lo, .int i :: .ref c :: st, sh, hp) := by
  intro ok
  obtain ⟨hd, rfl⟩ := dflt_of rfl (by decide) rfl ok h
  exact g1_lald hd (by rw [← nth_eq]; exact hc) hi hj kk ok
theorem g_iast {c n j : Nat} {i x : Int32} (h : lk pc y.2.2.2.2 = some (pc, ia, .iastore, nx, a, b, v0, w0, j0)) (hc : nth sh c = some (.inl (.int, n))) (hi : i.toInt = (j : Int)) (hj : j < n) (kk : gG y d mc ms Q cells slots (nx, lo, st, sh, sI hp c j x)) : gG y d mc ms Q cells slots (pc, lo, .int x :: .int i :: .ref c :: st, sh, hp) := by
  intro ok
  obtain ⟨hd, rfl⟩ := dflt_of rfl (by decide) rfl ok h
  exact g1_iast hd (by rw [← nth_eq]; exact hc) hi hj kk ok
theorem g_bast {c n j : Nat} {i x : Int32} (h : lk pc y.2.2.2.2 = some (pc, ia, .bastore, nx, a, b, v0, w0, j0)) (hc : nth sh c = some (.inl (.byte, n))) (hi : i.toInt = (j : Int)) (hj : j < n) (kk : gG y d mc ms Q cells slots (nx, lo, st, sh, sI hp c j (vp_nar .byte x))) : gG y d mc ms Q cells slots (pc, lo, .int x :: .int i :: .ref c :: st, sh, hp) := by
  intro ok
  obtain ⟨hd, rfl⟩ := dflt_of rfl (by decide) rfl ok h
  exact g1_bast hd (by rw [← nth_eq]; exact hc) hi hj kk ok
theorem g_last {c n j : Nat} {i : Int32} {x : Int64} (h : lk pc y.2.2.2.2 = some (pc, ia, .lastore, nx, a, b, v0, w0, j0)) (hc : nth sh c = some (.inl (.long, n))) (hi : i.toInt = (j : Int)) (hj : j < n) (kk : gG y d mc ms Q cells slots (nx, lo, st, sh, sL hp c j x)) : gG y d mc ms Q cells slots (pc, lo, .long x :: .int i :: .ref c :: st, sh, hp) := by
  intro ok
  obtain ⟨hd, rfl⟩ := dflt_of rfl (by decide) rfl ok h
  exact g1_last hd (by rw [← nth_eq]; exact hc) hi hj kk ok
theorem g_idiv {x z : Int32} (h : lk pc y.2.2.2.2 = some (pc, ia, .idiv, nx, a, b, v0, w0, j0)) (hz : ¬ z = 0) (kk : gG y d mc ms Q cells slots (nx, lo, .int (x / z) :: st, sh, hp)) : gG y d mc ms Q cells slots (pc, lo, .int z :: .int x :: st, sh, hp) := by
  intro ok
  obtain ⟨hd, rfl⟩ := dflt_of rfl (by decide) rfl ok h
  exact g1_idiv hz hd kk ok
theorem g_irem {x z : Int32} (h : lk pc y.2.2.2.2 = some (pc, ia, .irem, nx, a, b, v0, w0, j0)) (hz : ¬ z = 0) (kk : gG y d mc ms Q cells slots (nx, lo, .int (x - x / z * z) :: st, sh, hp)) : gG y d mc ms Q cells slots (pc, lo, .int z :: .int x :: st, sh, hp) := by
  intro ok
  obtain ⟨hd, rfl⟩ := dflt_of rfl (by decide) rfl ok h
  exact g1_irem hz hd kk ok
theorem g_ldiv {x z : Int64} (h : lk pc y.2.2.2.2 = some (pc, ia, .ldiv, nx, a, b, v0, w0, j0)) (hz : ¬ z = 0) (kk : gG y d mc ms Q cells slots (nx, lo, .long (x / z) :: st, sh, hp)) : gG y d mc ms Q cells slots (pc, lo, .long z :: .long x :: st, sh, hp) := by
  intro ok
  obtain ⟨hd, rfl⟩ := dflt_of rfl (by decide) rfl ok h
  exact g1_ldiv hz hd kk ok
theorem g_lrem {x z : Int64} (h : lk pc y.2.2.2.2 = some (pc, ia, .lrem, nx, a, b, v0, w0, j0)) (hz : ¬ z = 0) (kk : gG y d mc ms Q cells slots (nx, lo, .long (x - x / z * z) :: st, sh, hp)) : gG y d mc ms Q cells slots (pc, lo, .long z :: .long x :: st, sh, hp) := by
  intro ok
  obtain ⟨hd, rfl⟩ := dflt_of rfl (by decide) rfl ok h
  exact g1_lrem hz hd kk ok
/-- a switch: the place by computing on what is known of the value -/
theorem g_tabIn {dflt l0 h0 off : Int} {offs : Array Int} {x : Int32} {tgt i : Nat} (h : lk pc y.2.2.2.2 = some (pc, ia, .tableswitch dflt l0 h0 offs, nx, a, b, v0, w0, j0)) (hx : x.toInt = l0 + (i : Int)) (hh : l0 + (i : Int) ≤ h0) (ho : offs[i]? = some off) (ht : (pc : Int) + off = (tgt : Int)) (kk : gG y d mc ms Q cells slots (tgt, lo, st, sh, hp)) : gG y d mc ms Q cells slots (pc, lo, .int x :: st, sh, hp) := by
  intro ok p l e s m args below meth c E H locs ls C hw hL hl
  have h1 := (lk_ok ok h).1
  change (dec y.2.1 pc ia b && (decide (ia = .tableswitch dflt l0 h0 offs) && (if il (.tableswitch dflt l0 h0 offs) = 0 then true else _))) = true at h1
  simp only [Bool.and_eq_true, decide_eq_true_eq] at h1
  obtain ⟨h2, h3, -⟩ := h1
  subst h3
  exact lv_tableIn C.1 C.2.1 (dec_of h2) (by omega) (by omega) (by rw [hx, show l0 + (i : Int) - l0 = (i : Int) by omega, Int.toNat_natCast]; exact ho) ht (kk ok p l e s m args below meth c E H locs ls C hw hL hl)
theorem g_tabOut {dflt l0 h0 : Int} {offs : Array Int} {x : Int32} {tgt : Nat} (h : lk pc y.2.2.2.2 = some (pc, ia, .tableswitch dflt l0 h0 offs, nx, a, b, v0, w0, j0)) (hx : x.toInt < l0 ∨ h0 < x.toInt) (ht : (pc : Int) + dflt = (tgt : Int)) (kk : gG y d mc ms Q cells slots (tgt, lo, st, sh, hp)) : gG y d mc ms Q cells slots (pc, lo, .int x :: st, sh, hp) := by
  intro ok p l e s m args below meth c E H locs ls C hw hL hl
  have h1 := (lk_ok ok h).1
  change (dec y.2.1 pc ia b && (decide (ia = .tableswitch dflt l0 h0 offs) && (if il (.tableswitch dflt l0 h0 offs) = 0 then true else _))) = true at h1
  simp only [Bool.and_eq_true, decide_eq_true_eq] at h1
  obtain ⟨h2, h3, -⟩ := h1
  subst h3
  exact lv_tableOut C.1 C.2.1 (dec_of h2) hx ht (kk ok p l e s m args below meth c E H locs ls C hw hL hl)
theorem g_look {dflt off : Int} {ps : Array (Int × Int)} {x : Int32} {tgt : Nat} (h : lk pc y.2.2.2.2 = some (pc, ia, .lookupswitch dflt ps, nx, a, b, v0, w0, j0)) (hp1 : (ps.toList.zip (ps.toList.drop 1)).all (fun (a, next) => a.1 < next.1) = true) (ho : Op.lookupswitch.offset ps.toList dflt x.toInt = off) (ht : (pc : Int) + off = (tgt : Int)) (kk : gG y d mc ms Q cells slots (tgt, lo, st, sh, hp)) : gG y d mc ms Q cells slots (pc, lo, .int x :: st, sh, hp) := by
  intro ok p l e s m args below meth c E H locs ls C hw hL hl
  have h1 := (lk_ok ok h).1
  change (dec y.2.1 pc ia b && (decide (ia = .lookupswitch dflt ps) && (if il (.lookupswitch dflt ps) = 0 then true else _))) = true at h1
  simp only [Bool.and_eq_true, decide_eq_true_eq] at h1
  obtain ⟨h2, h3, -⟩ := h1
  subst h3
  exact lv_lookup C.1 C.2.1 (dec_of h2) hp1 ho ht (kk ok p l e s m args below meth c E H locs ls C hw hL hl)
/-! ends -/
theorem g_iret {v : Int32} (h : lk pc y.2.2.2.2 = some (pc, ia, .ireturn, nx, a, b, v0, w0, j0)) (hr : y.2.2.2.1 = some .int) (hq : Q (some (.int v)) sh hp) (h1 : cells ≤ mc := by decide) (h2 : slots ≤ ms := by decide) : gG y d mc ms Q cells slots (pc, lo, [.int v], sh, hp) := by
  intro ok p l e s m args below meth c E H locs ls C hw hL hl
  obtain ⟨hd, -⟩ := dflt_of rfl (by decide) rfl ok h
  have hlocks := C.2.2.2.2.2.2.1
  exact W.widen h1 h2 (W.iret (v := v) C.1 C.2.1 (C.2.2.1.trans hr) (fun t ht hW => ⟨some (.int v), sh, hp, rfl, hq, by rw [ht]; exact hw⟩) hL hd hlocks)
theorem g_zret {v : Int32} (h : lk pc y.2.2.2.2 = some (pc, ia, .ireturn, nx, a, b, v0, w0, j0)) (hr : y.2.2.2.1 = some .boolean) (hv : v = 0 ∨ v = 1) (hq : Q (some (.int v)) sh hp) (h1 : cells ≤ mc := by decide) (h2 : slots ≤ ms := by decide) : gG y d mc ms Q cells slots (pc, lo, [.int v], sh, hp) := by
  intro ok p l e s m args below meth c E H locs ls C hw hL hl
  obtain ⟨hd, -⟩ := dflt_of rfl (by decide) rfl ok h
  have hlocks := C.2.2.2.2.2.2.1
  exact W.widen h1 h2 (W.zret (v := v) C.1 C.2.1 (C.2.2.1.trans hr) (by rcases hv with rfl | rfl <;> decide +kernel) (fun t ht hW => ⟨some (.int v), sh, hp, rfl, hq, by rw [ht]; exact hw⟩) hL hd hlocks)
theorem g_lret {v : Int64} (h : lk pc y.2.2.2.2 = some (pc, ia, .lreturn, nx, a, b, v0, w0, j0)) (hr : y.2.2.2.1 = some .long) (hq : Q (some (.long v)) sh hp) (h1 : cells ≤ mc := by decide) (h2 : slots ≤ ms := by decide) : gG y d mc ms Q cells slots (pc, lo, [.long v], sh, hp) := by
  intro ok p l e s m args below meth c E H locs ls C hw hL hl
  obtain ⟨hd, -⟩ := dflt_of rfl (by decide) rfl ok h
  have hlocks := C.2.2.2.2.2.2.1
  exact W.widen h1 h2 (W.lret (v := v) C.1 C.2.1 (C.2.2.1.trans hr) (fun t ht hW => ⟨some (.long v), sh, hp, rfl, hq, by rw [ht]; exact hw⟩) hL hd hlocks)
theorem g_vret (h : lk pc y.2.2.2.2 = some (pc, ia, .return_, nx, a, b, v0, w0, j0)) (hr : y.2.2.2.1 = none) (hq : Q none sh hp) (h1 : cells ≤ mc := by decide) (h2 : slots ≤ ms := by decide) : gG y d mc ms Q cells slots (pc, lo, [], sh, hp) := by
  intro ok p l e s m args below meth c E H locs ls C hw hL hl
  obtain ⟨hd, -⟩ := dflt_of rfl (by decide) rfl ok h
  have hlocks := C.2.2.2.2.2.2.1
  exact W.widen h1 h2 (W.vret C.1 C.2.1 (C.2.2.1.trans hr) (fun t ht hW => ⟨none, sh, hp, rfl, hq, by rw [ht]; exact hw⟩) hL hd hlocks)
theorem g_aret {k : Nat} {nm : String} (h : lk pc y.2.2.2.2 = some (pc, ia, .areturn, nx, a, b, v0, w0, j0)) (hr : y.2.2.2.1 = some (.object nm)) (hq : Q (some (.ref k)) sh hp) (h1 : cells ≤ mc := by decide) (h2 : slots ≤ ms := by decide) : gG y d mc ms Q cells slots (pc, lo, [.ref k], sh, hp) := by
  intro ok p l e s m args below meth c E H locs ls C hw hL hl
  obtain ⟨hd, -⟩ := dflt_of rfl (by decide) rfl ok h
  have hlocks := C.2.2.2.2.2.2.1
  exact W.widen h1 h2 (W.aret (v := .ref (E.1 + k)) C.1 C.2.1 (C.2.2.1.trans hr) (Or.inl ⟨_, rfl⟩) (Or.inr ⟨_, rfl⟩) (fun t ht hW => ⟨some (.ref k), sh, hp, rfl, hq, by rw [ht]; exact hw⟩) hL hd hlocks)
/-! calls -/
def cut : Nat → List Value → List Value → Option (List Value × List Value)
  | 0, as, r => some (as, r)
  | n + 1, as, v :: r => cut n (v :: as) r
  | _ + 1, _, [] => none
theorem cut_ok : ∀ (n : Nat) (as r bs r' : List Value), cut n as r = some (bs, r') → ∃ cs, bs = cs ++ as ∧ cs.length = n ∧ r = cs.reverse ++ r'
  | 0, as, r, bs, r', h => by cases h; exact ⟨[], rfl, rfl, rfl⟩
  | n + 1, as, v :: r, bs, r', h => by
    obtain ⟨cs, h1, h2, h3⟩ := cut_ok n (v :: as) r bs r' h
    exact ⟨cs ++ [v], by rw [h1]; simp, by simp [h2], by rw [h3]; simp⟩
  | n + 1, as, [], bs, r', h => by cases h
def cats : List Value → Nat
  | [] => 0
  | v :: r => v.category + cats r
theorem cats_eq (E : en_T) : ∀ st : List Value, ((st.map (cv E)).map fun v => v.category).sum = cats st
  | [] => rfl
  | v :: r => by simp [cats, cv_cat, ← cats_eq E r]
theorem kx_move {E : en_T} {s U : State} (hW : s.WarmedH U.vm) (h : kx E s) : kx E U := ⟨va_K.moved hW.alike h.1, fun q hq => va_Nw.warmM hW (h.2 q hq)⟩
theorem pcc_blind {E : en_T} {as : List Value} : FrameBlind (pcc E as sh hp) := fun _ U g mk ⟨h1, h2, h3⟩ => ⟨h1, h2, ⟨va_K.moved (u := U) (U := U.calling g mk _) (Vm.Alike.refl U.vm) h3.1, fun q hq => va_Nw.same rfl (u := U) rfl (h3.2 q hq)⟩⟩
theorem wsm_good {y' : mt_T} {Ts : List Cond} (hT : ∀ w ∈ gT, w ∈ Ts) (hc : Cond.code y'.1 y'.2.1 y'.2.2.1 y'.2.2.2.1 ∈ gT) : GoodIn Ts (wsm y') := fun w hw => (List.mem_cons.mp hw).elim (fun e => by subst e; exact ⟨hT _ hc, (gT_good _ hc).2⟩) (fun h => ⟨hT _ h, (gT_good _ h).2⟩)
theorem run_go {p : Program} {l : Launch} {e : Env} {R : Room} {s : State} {m : MethodId} {args : Array Value} {below : List Frame} {meth : Method} {c : Code} {H : Heap} {locs : List Loc} {ls : Array Slot} {st0 rest : List Value} {QQ : State → Prop} {E : en_T} {Q' : Option Value → sh_T → hp_T → Prop} {mc' ms' : Nat} {av : Array Value} (hr : va_Run p l e R s m args below meth c H locs cells slots mc' ms' (F0 m pc ls st0) rest (qcc E Q' av) (fun q => E.1 ≤ q)) (hL : ∀ q ∈ locs, E.1 ≤ q.base)
    (kk : ∀ (r : Option Value) (sh : sh_T) (hp : hp_T) (H1 : Heap) (locs1 : List Loc), Q' r sh hp → wd E sh hp H1 → (∀ q ∈ locs1, E.1 ≤ q.base) → W p l e R s m args below meth c H1 locs1 (cells + mc') (slots + ms') QQ (F0 m (pc + 3) ls ((r.map (cv E)).toList ++ rest))) : W p l e R s m args below meth c H locs cells slots QQ (F0 m pc ls st0) := by
  intro T hT X
  obtain ⟨v, st₀, t, T', L, h0, X', hL', e1, e2, ⟨r, sh, hp, hv, hq, hw⟩, st⟩ := hr T hT X
  cases hv
  obtain ⟨t2, a1, b1⟩ := kk r sh hp T'.heap (locs ++ L) hq (by rw [e1]; exact hw) (fun q hq => (List.mem_append.mp hq).elim (hL q) (hL' q)) T' rfl X'
  exact ⟨t2, st t2 a1, b1⟩
/-- what a call needs of the tables -/
def lC (y' : mt_T) (n : Nat) : Prop := Cond.code y'.1 y'.2.1 y'.2.2.1 y'.2.2.2.1 ∈ gT ∧ Cond.initialized y'.1.cls ∈ gT ∧ (y'.1.cls ≠ "java/lang/invoke/MethodHandle" ∧ y'.1.cls ≠ "java/lang/invoke/VarHandle" ∧ (parseMethodDescriptor y'.1.desc).map (fun d => d.parameters.length) = some n) ∧ y'.2.2.1 ≤ 21
def lV (own : String) (x : Nat) (y' : mt_T) (n : Nat) : Prop := lC y' n ∧ Cond.methodLink own x y'.1 ∈ gT ∧ Cond.instanceMethod y'.1 ∈ gT ∧ Cond.selects y'.1.cls y'.1 y'.1 ∈ gT
def lS (own : String) (x : Nat) (y' : mt_T) (n : Nat) : Prop := lC y' n ∧ Cond.methodLink own x y'.1 ∈ gT ∧ Cond.static y'.1 ∈ gT
def lN2 (own : String) (x : Nat) (y' : mt_T) (n : Nat) : Prop := lC y' n ∧ (own, x) ∈ nests ∧ y'.1 = yX9_within ∧ Cond.static y'.1 ∈ gT
def lI (own : String) (x : Nat) (y' : mt_T) (n : Nat) : Prop := lC y' n ∧ Cond.methodLink own x y'.1 ∈ gT ∧ Cond.instanceMethod y'.1 ∈ gT ∧ y'.1.name = "<init>" ∧ y'.2.2.2.1 = none
theorem g_callV {y' : mt_T} {x n mc' ms' bb ci : Nat} {bs as r ks : List Value} (h : lk pc y.2.2.2.2 = some (pc, ia, .invokevirtual x, nx, a, b, v0, w0, j0)) (hl : lV y.1.cls x y' n) (hcut : cut n [] st = some (as, .ref bb :: r)) (hb : nth sh bb = some (.inr (ci, ks))) (hcls : (kcls[ci]?).map (fun q => q.1) = some y'.1.cls) (hW : Nat.ble (cats r) 8 = true)
    (kk : gC y' d mc' ms' (.ref bb :: as) sh hp (fun ans sh' hp' => gG y (d + 1) mc ms Q (cells + mc') (slots + ms') (nx, lo, ans.toList ++ r, sh', hp'))) (h1 : cells + mc' ≤ mc := by decide) (h2 : slots + ms' ≤ ms := by decide) : gG y (d + 1) mc ms Q cells slots (pc, lo, st, sh, hp) := by
  intro ok p l e s m args below meth c E H locs ls C hw hL hlv
  obtain ⟨hd, rfl⟩ := dflt_of (n := 3) rfl (by decide) rfl ok h
  obtain ⟨⟨hcode, hini, hdd, hml⟩, hlink, hin, hsel⟩ := hl
  obtain ⟨cs, e1, e2, e3⟩ := cut_ok n [] st as _ hcut
  rw [List.append_nil] at e1
  subst e1
  have hts := C.2.2.2.2.2.1
  cases hq : kcls[ci]? with
  | none => rw [hq] at hcls; cases hcls
  | some q =>
    rw [hq] at hcls
    have hcls : q.1 = y'.1.cls := Option.some.inj hcls
    have hrecv := va_recv (D := E.2.2.1) (cl := kcls) (ws := [(E.1 + bb, .inr (ci, fs_of E hp bb ks))]) C.2.2.2.2.2.2.2.2.1 (fun j z hz => by
      match j, hz with
      | 0, hz => cases hz; exact wd_at hw (by rw [← nth_eq]; exact hb)
      | j + 1, hz => simp at hz) hq (q0 := 0) rfl
    rw [hcls] at hrecv
    have hcw : CallW (rm (d + 1) mc ms) s args y.1.cls y'.1.cls x y'.1 y'.2.1 y'.2.2.1 y'.2.2.2.1 (wsm y') (rm d mc' ms') mc' ms' n := ⟨callB_of n hts (wsm_good (fun w hw => hw) hcode) rfl rfl rfl (hts _ hini) (hts _ hlink) hdd ⟨Nat.le_refl _, by show 8 + (y'.2.2.1 + 11) + 40 * d ≤ 40 * (d + 1); omega⟩, hts _ hin, hts _ hsel⟩
    refine run_go (Q' := fun ans sh' hp' => gG y (d + 1) mc ms Q (cells + mc') (slots + ms') (pc + 3, lo, ans.toList ++ r, sh', hp')) (va_runV (As := as.map (cv E)) (rest := r.map (cv E)) (b := E.1 + bb) ⟨C.1, C.2.1, C.2.2.2.1, C.2.2.2.2.1, hts⟩ (kk l E) hcw ⟨pcc_blind, hrecv, fun U hU hWU => ⟨rfl, by rw [hU]; exact hw, kx_move hWU C.2.2.2.2.2.2.2.2⟩⟩ rfl (by simp [e2]) hlv.1 ?_ (lv_room (by rw [cats_eq]; exact Nat.le_of_ble_eq_true hW)) hd ⟨h1, h2⟩) hL (fun ans sh' hp' H1 locs1 hk hw1 hL1 => ?_)
    · show List.map (cv E) st = _
      rw [e3]
      simp [List.map_reverse]
      rfl
    · have := hk ok p l e s m args below meth c E H1 locs1 ls C hw1 hL1 hlv
      have e9 : List.map (cv E) (ans.toList ++ r) = (ans.map (cv E)).toList ++ r.map (cv E) := by cases ans <;> simp
      simp only [e9] at this
      exact this
theorem g_callS {y' : mt_T} {x n mc' ms' : Nat} {as r : List Value} (h : lk pc y.2.2.2.2 = some (pc, ia, .invokestatic x, nx, a, b, v0, w0, j0)) (hl : lS y.1.cls x y' n ∨ lN2 y.1.cls x y' n) (hcut : cut n [] st = some (as, r)) (hW : Nat.ble (cats r) 8 = true)
    (kk : gC y' d mc' ms' as sh hp (fun ans sh' hp' => gG y (d + 1) mc ms Q (cells + mc') (slots + ms') (nx, lo, ans.toList ++ r, sh', hp'))) (h1 : cells + mc' ≤ mc := by decide) (h2 : slots + ms' ≤ ms := by decide) : gG y (d + 1) mc ms Q cells slots (pc, lo, st, sh, hp) := by
  intro ok p l e s m args below meth c E H locs ls C hw hL hlv
  obtain ⟨hd, rfl⟩ := dflt_of (n := 3) rfl (by decide) rfl ok h
  obtain ⟨cs, e1, e2, e3⟩ := cut_ok n [] st as _ hcut
  rw [List.append_nil] at e1
  subst e1
  have hts := C.2.2.2.2.2.1
  have hrun : va_Run p l e (rm (d + 1) mc ms) s m args below meth c H locs cells slots mc' ms' (F0 m pc ls (st.map (cv E))) (r.map (cv E)) (qcc E (fun ans sh' hp' => gG y (d + 1) mc ms Q (cells + mc') (slots + ms') (pc + 3, lo, ans.toList ++ r, sh', hp')) (as.map (cv E)).toArray) (fun q => E.1 ≤ q) := by
    have hstk : List.map (cv E) st = (as.map (cv E)).reverse ++ r.map (cv E) := by rw [e3]; simp [List.map_reverse]
    rcases hl with ⟨⟨hcode, hini, hdd, hml⟩, hlink, hstt⟩ | ⟨⟨hcode, hini, hdd, hml⟩, hnest, hyw, hstt⟩
    · exact va_runS (As := as.map (cv E)) (rest := r.map (cv E)) ⟨C.1, C.2.1, C.2.2.2.1, C.2.2.2.2.1, hts⟩ (kk l E) ⟨callB_of n hts (wsm_good (fun w hw => hw) hcode) rfl rfl rfl (hts _ hini) (hts _ hlink) hdd ⟨Nat.le_refl _, by show 8 + (y'.2.2.1 + 11) + 40 * d ≤ 40 * (d + 1); omega⟩, hts _ hstt⟩ ⟨pcc_blind, fun U hU hWU => ⟨rfl, by rw [hU]; exact hw, kx_move hWU C.2.2.2.2.2.2.2.2⟩⟩ rfl (by simp [e2]) hlv.1 hstk (lv_room (by rw [cats_eq]; exact Nat.le_of_ble_eq_true hW)) hd ⟨h1, h2⟩
    · exact va_runSN (host := "RoastHouse") (As := as.map (cv E)) (rest := r.map (cv E)) ⟨C.1, C.2.1, C.2.2.2.1, C.2.2.2.2.1, hts⟩ (kk l E) ⟨va_cnB n hts (wsm_good (fun w hw => hw) hcode) rfl rfl rfl (by rw [hyw]; exact C.2.2.2.2.2.2.2.2.2 _ hnest) (hts _ hini) hdd ⟨Nat.le_refl _, by show 8 + (y'.2.2.1 + 11) + 40 * d ≤ 40 * (d + 1); omega⟩, hts _ hstt, trivial⟩ ⟨pcc_blind, fun U hU hWU => ⟨rfl, by rw [hU]; exact hw, kx_move hWU C.2.2.2.2.2.2.2.2⟩⟩ rfl (by simp [e2]) hlv.1 hstk (lv_room (by rw [cats_eq]; exact Nat.le_of_ble_eq_true hW)) hd ⟨h1, h2⟩
  refine run_go hrun hL (fun ans sh' hp' H1 locs1 hk hw1 hL1 => ?_)
  have := hk ok p l e s m args below meth c E H1 locs1 ls C hw1 hL1 hlv
  have e9 : List.map (cv E) (ans.toList ++ r) = (ans.map (cv E)).toList ++ r.map (cv E) := by cases ans <;> simp
  simp only [e9] at this
  exact this
theorem g_callI {y' : mt_T} {x n mc' ms' bb : Nat} {as r : List Value} (h : lk pc y.2.2.2.2 = some (pc, ia, .invokespecial x, nx, a, b, v0, w0, j0)) (hl : lI y.1.cls x y' n) (hcut : cut n [] st = some (as, .ref bb :: r)) (hW : Nat.ble (cats r) 8 = true)
    (kk : gC y' d mc' ms' (.ref bb :: as) sh hp (fun ans sh' hp' => gG y (d + 1) mc ms Q (cells + mc') (slots + ms') (nx, lo, ans.toList ++ r, sh', hp'))) (h1 : cells + mc' ≤ mc := by decide) (h2 : slots + ms' ≤ ms := by decide) : gG y (d + 1) mc ms Q cells slots (pc, lo, st, sh, hp) := by
  intro ok p l e s m args below meth c E H locs ls C hw hL hlv
  obtain ⟨hd, rfl⟩ := dflt_of (n := 3) rfl (by decide) rfl ok h
  obtain ⟨⟨hcode, hini, hdd, hml⟩, hlink, hin, hname, hret⟩ := hl
  obtain ⟨cs, e1, e2, e3⟩ := cut_ok n [] st as _ hcut
  rw [List.append_nil] at e1
  subst e1
  have hts := C.2.2.2.2.2.1
  refine run_go (Q' := fun ans sh' hp' => gG y (d + 1) mc ms Q (cells + mc') (slots + ms') (pc + 3, lo, ans.toList ++ r, sh', hp')) (va_runI (As := as.map (cv E)) (rest := r.map (cv E)) (b := E.1 + bb) ⟨C.1, C.2.1, C.2.2.2.1, C.2.2.2.2.1, hts⟩ (kk l E) (cwI (bytes := y'.2.1) (maxL := y'.2.2.1) (ws' := gT) n hts (wsm_good (fun w hw => hw) hcode) (by simp [wsm, hret]) rfl rfl (hts _ hini) (hts _ hlink) (hts _ hin) hname hdd ⟨Nat.le_refl _, by show 8 + (y'.2.2.1 + 11) + 40 * d ≤ 40 * (d + 1); omega⟩) ⟨pcc_blind, fun U hU hWU => ⟨rfl, by rw [hU]; exact hw, kx_move hWU C.2.2.2.2.2.2.2.2⟩⟩ rfl (by simp [e2]) hlv.1 ?_ (lv_room (by rw [cats_eq]; exact Nat.le_of_ble_eq_true hW)) hd ⟨h1, h2⟩) hL (fun ans sh' hp' H1 locs1 hk hw1 hL1 => ?_)
  · show List.map (cv E) st = _
    rw [e3]
    simp [List.map_reverse]
    rfl
  · have := hk ok p l e s m args below meth c E H1 locs1 ls C hw1 hL1 hlv
    have e9 : List.map (cv E) (ans.toList ++ r) = (ans.map (cv E)).toList ++ r.map (cv E) := by cases ans <;> simp
    simp only [e9] at this
    exact this
/-! entry -/
def entK {α : Type} : List Value → Nat → (List Value → Option α) → Option α
  | [], 0, k => k []
  | [], n + 1, k => entK [] n (fun r => k (.retAddr 0 :: r))
  | .long x :: vs, n + 2, k => entK vs n (fun r => k (.long x :: .retAddr 0 :: r))
  | .int x :: vs, n + 1, k => entK vs n (fun r => k (.int x :: r))
  | .ref x :: vs, n + 1, k => entK vs n (fun r => k (.ref x :: r))
  | .float x :: vs, n + 1, k => entK vs n (fun r => k (.float x :: r))
  | _, _, _ => none
theorem lgc (v : Value) (vs : List Value) : (lg_sl (v :: vs)).length = (if v.category = 2 then 2 else 1) + (lg_sl vs).length := by
  simp only [lg_sl, List.flatMap_cons, List.length_append]
  split <;> rfl
theorem entK_ok {α : Type} (E : en_T) : ∀ (n : Nat) (vs : List Value) (k : List Value → Option α) (z : α), entK vs n k = some z → ∃ lo, k lo = some z ∧ (lg_sl (vs.map (cv E))).length ≤ n ∧ ∀ (off i : Nat) (v : Value), lo[i]? = some v → isV v = true → (off + i, cv E v) ∈ lv_args off (vs.map (cv E))
  | 0, [], k, z, h => ⟨[], by simpa [entK] using h, by simp [lg_sl], fun off i v hv => by simp at hv⟩
  | n + 1, [], k, z, h => by
    obtain ⟨lo, h1, h2, h3⟩ := entK_ok E n [] _ z (by simpa [entK] using h)
    refine ⟨_, h1, by simp [lg_sl], fun off i v hv hs => ?_⟩
    cases i with
    | zero => simp at hv; subst hv; cases hs
    | succ i => simp at hv; have := h3 (off + 1) i v hv hs; simp [lv_args] at this
  | n + 2, .long x :: vs, k, z, h => by
    obtain ⟨lo, h1, h2, h3⟩ := entK_ok E n vs _ z (by simpa [entK] using h)
    refine ⟨_, h1, by rw [List.map_cons, lgc]; simp only [cv, Value.category]; simp; omega, fun off i v hv hs => ?_⟩
    match i, hv with
    | 0, hv => simp at hv; subst hv; exact List.mem_cons_self
    | 1, hv => simp at hv; subst hv; cases hs
    | i + 2, hv =>
      simp at hv
      have := h3 (off + 2) i v hv hs
      rw [show off + 2 + i = off + (i + 2) by omega] at this
      exact List.mem_cons_of_mem _ this
  | n + 1, .int x :: vs, k, z, h => by
    obtain ⟨lo, h1, h2, h3⟩ := entK_ok E n vs _ z (by simpa [entK] using h)
    refine ⟨_, h1, by rw [List.map_cons, lgc]; simp only [cv, Value.category]; simp; omega, fun off i v hv hs => ?_⟩
    match i, hv with
    | 0, hv => simp at hv; subst hv; exact List.mem_cons_self
    | i + 1, hv =>
      simp at hv
      have := h3 (off + 1) i v hv hs
      rw [show off + 1 + i = off + (i + 1) by omega] at this
      exact List.mem_cons_of_mem _ this
  | n + 1, .ref x :: vs, k, z, h => by
    obtain ⟨lo, h1, h2, h3⟩ := entK_ok E n vs _ z (by simpa [entK] using h)
    refine ⟨_, h1, by rw [List.map_cons, lgc]; simp only [cv, Value.category]; simp; omega, fun off i v hv hs => ?_⟩
    match i, hv with
    | 0, hv => simp at hv; subst hv; exact List.mem_cons_self
    | i + 1, hv =>
      simp at hv
      have := h3 (off + 1) i v hv hs
      rw [show off + 1 + i = off + (i + 1) by omega] at this
      exact List.mem_cons_of_mem _ this
  | n + 1, .float x :: vs, k, z, h => by
    obtain ⟨lo, h1, h2, h3⟩ := entK_ok E n vs _ z (by simpa [entK] using h)
    refine ⟨_, h1, by rw [List.map_cons, lgc]; simp only [cv, Value.category]; simp; omega, fun off i v hv hs => ?_⟩
    match i, hv with
    | 0, hv => simp at hv; subst hv; exact List.mem_cons_self
    | i + 1, hv =>
      simp at hv
      have := h3 (off + 1) i v hv hs
      rw [show off + 1 + i = off + (i + 1) by omega] at this
      exact List.mem_cons_of_mem _ this
  | 0, .long x :: vs, k, z, h => by simp [entK] at h
  | 1, .long x :: vs, k, z, h => by simp [entK] at h
  | 0, .int x :: vs, k, z, h => by simp [entK] at h
  | 0, .ref x :: vs, k, z, h => by simp [entK] at h
  | 0, .float x :: vs, k, z, h => by simp [entK] at h
  | n, .null :: vs, k, z, h => by simp [entK] at h
  | n, .double x :: vs, k, z, h => by simp [entK] at h
  | n, .retAddr x :: vs, k, z, h => by simp [entK] at h
theorem g_enter {as : List Value} (ok : okm y = true) (hy : plainName y.1.cls = true) (hlo : entK as y.2.2.1 some = some lo) (k : gG y d mc ms Q 0 0 (0, lo, [], sh, hp)) : gC y d mc ms as sh hp Q := by
  intro l E
  refine Met.ofW (cc := y.2.1) (maxL := y.2.2.1) (ret := y.2.2.2.1) hy rfl ?_
  intro p e s m args below meth c s₁ B hml hv
  obtain ⟨rfl, hw, hK⟩ := hv
  have hts := atoms_spec (ws := wsm y) B.pre
  obtain ⟨lo', h1, h2, h3⟩ := entK_ok E y.2.2.1 as some lo hlo
  cases h1
  have hl := lv_entry (as.map (cv E)) (n := y.2.2.1) h2
  rw [lg_entry_eq]
  refine k ok p l e s m _ below meth c E s.heap [] _ ⟨B.exec, B.bytes, B.returns, hml, findClass_of_methodNamed B.named, fun w hw => hts w (List.mem_cons_of_mem _ hw), B.notSynchronized, (name_of_methodNamed B.named B.method).1, hK⟩ hw (fun _ h => by cases h) (hs_sub hl ?_)
  rintro ⟨i, w⟩ hq
  obtain ⟨v, hv, hs, rfl⟩ := al_mem.mp hq
  simpa using h3 0 i v hv hs
end GU
end
