/-! what a call needs of the tables -/
def lC (y' : mt_T) (n : Nat) : Prop := Cond.code y'.1 y'.2.1 y'.2.2.1 y'.2.2.2.1 ∈ gT ∧ Cond.initialized y'.1.cls ∈ gT ∧ (y'.1.cls ≠ "java/lang/invoke/MethodHandle" ∧ y'.1.cls ≠ "java/lang/invoke/VarHandle" ∧ (parseMethodDescriptor y'.1.desc).map (fun d => d.parameters.length) = some n) ∧ y'.2.2.1 ≤ 21
def lV (own : String) (x : Nat) (y' : mt_T) (n : Nat) : Prop := lC y' n ∧ Cond.methodLink own x y'.1 ∈ gT ∧ Cond.instanceMethod y'.1 ∈ gT ∧ Cond.selects y'.1.cls y'.1 y'.1 ∈ gT
def lS (own : String) (x : Nat) (y' : mt_T) (n : Nat) : Prop := lC y' n ∧ Cond.methodLink own x y'.1 ∈ gT ∧ Cond.static y'.1 ∈ gT
def lN2 (own : String) (x : Nat) (y' : mt_T) (n : Nat) : Prop := lC y' n ∧ (own, x) ∈ nests ∧ y'.1 = yX9_within ∧ Cond.static y'.1 ∈ gT
def lI (own : String) (x : Nat) (y' : mt_T) (n : Nat) : Prop := lC y' n ∧ Cond.methodLink own x y'.1 ∈ gT ∧ Cond.instanceMethod y'.1 ∈ gT ∧ y'.1.name = "<init>" ∧ y'.2.2.2.1 = none
/-! calls: what they need of the tables -/
set_option maxRecDepth 100000 in
theorem lcJ13_compare_74951 : lC mJ13_compare_74951 2 := ⟨gT_of (List.mem_of_getElem? (i := 768) rfl) rfl, gT_of (List.mem_of_getElem? (i := 83) rfl) rfl, by decide +kernel, by decide⟩
set_option maxRecDepth 100000 in
theorem lcJ6_bitCount_0f7a4 : lC mJ6_bitCount_0f7a4 1 := ⟨gT_of (List.mem_of_getElem? (i := 801) rfl) rfl, gT_of (List.mem_of_getElem? (i := 84) rfl) rfl, by decide +kernel, by decide⟩
set_option maxRecDepth 100000 in
theorem lcJ7_fill_53178 : lC mJ7_fill_53178 2 := ⟨gT_of (List.mem_of_getElem? (i := 226) rfl) rfl, gT_of (List.mem_of_getElem? (i := 69) rfl) rfl, by decide +kernel, by decide⟩
set_option maxRecDepth 100000 in
theorem lcJ9_abs_0f7a4 : lC mJ9_abs_0f7a4 1 := ⟨gT_of (List.mem_of_getElem? (i := 621) rfl) rfl, gT_of (List.mem_of_getElem? (i := 78) rfl) rfl, by decide +kernel, by decide⟩
set_option maxRecDepth 100000 in
theorem lcJ9_floorDiv_f86c9 : lC mJ9_floorDiv_f86c9 2 := ⟨gT_of (List.mem_of_getElem? (i := 781) rfl) rfl, gT_of (List.mem_of_getElem? (i := 78) rfl) rfl, by decide +kernel, by decide⟩
set_option maxRecDepth 100000 in
theorem lcJ9_max_7cf53 : lC mJ9_max_7cf53 2 := ⟨gT_of (List.mem_of_getElem? (i := 624) rfl) rfl, gT_of (List.mem_of_getElem? (i := 78) rfl) rfl, by decide +kernel, by decide⟩
set_option maxRecDepth 100000 in
theorem lcJ9_min_7cf53 : lC mJ9_min_7cf53 2 := ⟨gT_of (List.mem_of_getElem? (i := 614) rfl) rfl, gT_of (List.mem_of_getElem? (i := 78) rfl) rfl, by decide +kernel, by decide⟩
set_option maxRecDepth 100000 in
theorem lcX0_addEmpty : lC mX0_addEmpty 1 := ⟨gT_of (List.mem_of_getElem? (i := 668) rfl) rfl, gT_of (List.mem_of_getElem? (i := 70) rfl) rfl, by decide +kernel, by decide⟩
set_option maxRecDepth 100000 in
theorem lcX0_addOfOneLot : lC mX0_addOfOneLot 3 := ⟨gT_of (List.mem_of_getElem? (i := 664) rfl) rfl, gT_of (List.mem_of_getElem? (i := 70) rfl) rfl, by decide +kernel, by decide⟩
set_option maxRecDepth 100000 in
theorem lcX0_allGrams : lC mX0_allGrams 0 := ⟨gT_of (List.mem_of_getElem? (i := 873) rfl) rfl, gT_of (List.mem_of_getElem? (i := 70) rfl) rfl, by decide +kernel, by decide⟩
set_option maxRecDepth 100000 in
theorem lcX0_bagWith : lC mX0_bagWith 2 := ⟨gT_of (List.mem_of_getElem? (i := 857) rfl) rfl, gT_of (List.mem_of_getElem? (i := 70) rfl) rfl, by decide +kernel, by decide⟩
set_option maxRecDepth 100000 in
theorem lcX0_blendTaken : lC mX0_blendTaken 0 := ⟨gT_of (List.mem_of_getElem? (i := 697) rfl) rfl, gT_of (List.mem_of_getElem? (i := 70) rfl) rfl, by decide +kernel, by decide⟩
set_option maxRecDepth 100000 in
theorem lcX0_gramsIn : lC mX0_gramsIn 2 := ⟨gT_of (List.mem_of_getElem? (i := 865) rfl) rfl, gT_of (List.mem_of_getElem? (i := 70) rfl) rfl, by decide +kernel, by decide⟩
set_option maxRecDepth 100000 in
theorem lcX0_has : lC mX0_has 1 := ⟨gT_of (List.mem_of_getElem? (i := 688) rfl) rfl, gT_of (List.mem_of_getElem? (i := 70) rfl) rfl, by decide +kernel, by decide⟩
set_option maxRecDepth 100000 in
theorem lcX0_init : lC mX0_init 0 := ⟨gT_of (List.mem_of_getElem? (i := 273) rfl) rfl, gT_of (List.mem_of_getElem? (i := 70) rfl) rfl, by decide +kernel, by decide⟩
set_option maxRecDepth 100000 in
theorem lcX0_lotOfGreatestRest : lC mX0_lotOfGreatestRest 0 := ⟨gT_of (List.mem_of_getElem? (i := 714) rfl) rfl, gT_of (List.mem_of_getElem? (i := 70) rfl) rfl, by decide +kernel, by decide⟩
set_option maxRecDepth 100000 in
theorem lcX0_lotsIn : lC mX0_lotsIn 1 := ⟨gT_of (List.mem_of_getElem? (i := 946) rfl) rfl, gT_of (List.mem_of_getElem? (i := 70) rfl) rfl, by decide +kernel, by decide⟩
set_option maxRecDepth 100000 in
theorem lcX0_olderIn : lC mX0_olderIn 2 := ⟨gT_of (List.mem_of_getElem? (i := 849) rfl) rfl, gT_of (List.mem_of_getElem? (i := 70) rfl) rfl, by decide +kernel, by decide⟩
set_option maxRecDepth 100000 in
theorem lcX0_partOf : lC mX0_partOf 2 := ⟨gT_of (List.mem_of_getElem? (i := 710) rfl) rfl, gT_of (List.mem_of_getElem? (i := 70) rfl) rfl, by decide +kernel, by decide⟩
set_option maxRecDepth 100000 in
theorem lcX0_pour : lC mX0_pour 3 := ⟨gT_of (List.mem_of_getElem? (i := 701) rfl) rfl, gT_of (List.mem_of_getElem? (i := 70) rfl) rfl, by decide +kernel, by decide⟩
set_option maxRecDepth 100000 in
theorem lcX0_sendTo : lC mX0_sendTo 2 := ⟨gT_of (List.mem_of_getElem? (i := 837) rfl) rfl, gT_of (List.mem_of_getElem? (i := 70) rfl) rfl, by decide +kernel, by decide⟩
set_option maxRecDepth 100000 in
theorem lcX0_shareOut : lC mX0_shareOut 2 := ⟨gT_of (List.mem_of_getElem? (i := 705) rfl) rfl, gT_of (List.mem_of_getElem? (i := 70) rfl) rfl, by decide +kernel, by decide⟩
set_option maxRecDepth 100000 in
theorem lcX0_tellForBlend : lC mX0_tellForBlend 2 := ⟨gT_of (List.mem_of_getElem? (i := 684) rfl) rfl, gT_of (List.mem_of_getElem? (i := 70) rfl) rfl, by decide +kernel, by decide⟩
set_option maxRecDepth 100000 in
theorem lcX10_actsBy : lC mX10_actsBy 1 := ⟨gT_of (List.mem_of_getElem? (i := 1264) rfl) rfl, gT_of (List.mem_of_getElem? (i := 73) rfl) rfl, by decide +kernel, by decide⟩
set_option maxRecDepth 100000 in
theorem lcX10_asks : lC mX10_asks 1 := ⟨gT_of (List.mem_of_getElem? (i := 1350) rfl) rfl, gT_of (List.mem_of_getElem? (i := 73) rfl) rfl, by decide +kernel, by decide⟩
set_option maxRecDepth 100000 in
theorem lcX10_cutAll : lC mX10_cutAll 0 := ⟨gT_of (List.mem_of_getElem? (i := 1164) rfl) rfl, gT_of (List.mem_of_getElem? (i := 73) rfl) rfl, by decide +kernel, by decide⟩
set_option maxRecDepth 100000 in
theorem lcX10_emit : lC mX10_emit 2 := ⟨gT_of (List.mem_of_getElem? (i := 1224) rfl) rfl, gT_of (List.mem_of_getElem? (i := 73) rfl) rfl, by decide +kernel, by decide⟩
set_option maxRecDepth 100000 in
theorem lcX10_gives : lC mX10_gives 4 := ⟨gT_of (List.mem_of_getElem? (i := 1300) rfl) rfl, gT_of (List.mem_of_getElem? (i := 73) rfl) rfl, by decide +kernel, by decide⟩
set_option maxRecDepth 100000 in
theorem lcX10_goes : lC mX10_goes 1 := ⟨gT_of (List.mem_of_getElem? (i := 1260) rfl) rfl, gT_of (List.mem_of_getElem? (i := 73) rfl) rfl, by decide +kernel, by decide⟩
set_option maxRecDepth 100000 in
theorem lcX10_goesOnBehind : lC mX10_goesOnBehind 0 := ⟨gT_of (List.mem_of_getElem? (i := 1228) rfl) rfl, gT_of (List.mem_of_getElem? (i := 73) rfl) rfl, by decide +kernel, by decide⟩
set_option maxRecDepth 100000 in
theorem lcX10_gramsIn : lC mX10_gramsIn 1 := ⟨gT_of (List.mem_of_getElem? (i := 1288) rfl) rfl, gT_of (List.mem_of_getElem? (i := 73) rfl) rfl, by decide +kernel, by decide⟩
set_option maxRecDepth 100000 in
theorem lcX10_hasSign : lC mX10_hasSign 1 := ⟨gT_of (List.mem_of_getElem? (i := 1220) rfl) rfl, gT_of (List.mem_of_getElem? (i := 73) rfl) rfl, by decide +kernel, by decide⟩
set_option maxRecDepth 100000 in
theorem lcX10_hasWord : lC mX10_hasWord 1 := ⟨gT_of (List.mem_of_getElem? (i := 1200) rfl) rfl, gT_of (List.mem_of_getElem? (i := 73) rfl) rfl, by decide +kernel, by decide⟩
set_option maxRecDepth 100000 in
theorem lcX10_isBag : lC mX10_isBag 1 := ⟨gT_of (List.mem_of_getElem? (i := 1284) rfl) rfl, gT_of (List.mem_of_getElem? (i := 73) rfl) rfl, by decide +kernel, by decide⟩
set_option maxRecDepth 100000 in
theorem lcX10_isDigit : lC mX10_isDigit 1 := ⟨gT_of (List.mem_of_getElem? (i := 1174) rfl) rfl, gT_of (List.mem_of_getElem? (i := 73) rfl) rfl, by decide +kernel, by decide⟩
set_option maxRecDepth 100000 in
theorem lcX10_isHouse : lC mX10_isHouse 1 := ⟨gT_of (List.mem_of_getElem? (i := 1365) rfl) rfl, gT_of (List.mem_of_getElem? (i := 73) rfl) rfl, by decide +kernel, by decide⟩
set_option maxRecDepth 100000 in
theorem lcX10_isInSpans : lC mX10_isInSpans 0 := ⟨gT_of (List.mem_of_getElem? (i := 1354) rfl) rfl, gT_of (List.mem_of_getElem? (i := 73) rfl) rfl, by decide +kernel, by decide⟩
set_option maxRecDepth 100000 in
theorem lcX10_isLetter : lC mX10_isLetter 1 := ⟨gT_of (List.mem_of_getElem? (i := 1167) rfl) rfl, gT_of (List.mem_of_getElem? (i := 73) rfl) rfl, by decide +kernel, by decide⟩
set_option maxRecDepth 100000 in
theorem lcX10_isLot : lC mX10_isLot 1 := ⟨gT_of (List.mem_of_getElem? (i := 1256) rfl) rfl, gT_of (List.mem_of_getElem? (i := 73) rfl) rfl, by decide +kernel, by decide⟩
set_option maxRecDepth 100000 in
theorem lcX10_isSample : lC mX10_isSample 1 := ⟨gT_of (List.mem_of_getElem? (i := 1315) rfl) rfl, gT_of (List.mem_of_getElem? (i := 73) rfl) rfl, by decide +kernel, by decide⟩
set_option maxRecDepth 100000 in
theorem lcX10_isSign : lC mX10_isSign 1 := ⟨gT_of (List.mem_of_getElem? (i := 1216) rfl) rfl, gT_of (List.mem_of_getElem? (i := 73) rfl) rfl, by decide +kernel, by decide⟩
set_option maxRecDepth 100000 in
theorem lcX10_isSignOf : lC mX10_isSignOf 1 := ⟨gT_of (List.mem_of_getElem? (i := 1179) rfl) rfl, gT_of (List.mem_of_getElem? (i := 73) rfl) rfl, by decide +kernel, by decide⟩
set_option maxRecDepth 100000 in
theorem lcX10_isTaste : lC mX10_isTaste 1 := ⟨gT_of (List.mem_of_getElem? (i := 1240) rfl) rfl, gT_of (List.mem_of_getElem? (i := 73) rfl) rfl, by decide +kernel, by decide⟩
set_option maxRecDepth 100000 in
theorem lcX10_isWord : lC mX10_isWord 1 := ⟨gT_of (List.mem_of_getElem? (i := 1187) rfl) rfl, gT_of (List.mem_of_getElem? (i := 73) rfl) rfl, by decide +kernel, by decide⟩
set_option maxRecDepth 100000 in
theorem lcX10_lay : lC mX10_lay 1 := ⟨gT_of (List.mem_of_getElem? (i := 959) rfl) rfl, gT_of (List.mem_of_getElem? (i := 73) rfl) rfl, by decide +kernel, by decide⟩
set_option maxRecDepth 100000 in
theorem lcX10_line : lC mX10_line 0 := ⟨gT_of (List.mem_of_getElem? (i := 1183) rfl) rfl, gT_of (List.mem_of_getElem? (i := 73) rfl) rfl, by decide +kernel, by decide⟩
set_option maxRecDepth 100000 in
theorem lcX10_moves : lC mX10_moves 3 := ⟨gT_of (List.mem_of_getElem? (i := 1296) rfl) rfl, gT_of (List.mem_of_getElem? (i := 73) rfl) rfl, by decide +kernel, by decide⟩
set_option maxRecDepth 100000 in
theorem lcX10_newBag : lC mX10_newBag 1 := ⟨gT_of (List.mem_of_getElem? (i := 1272) rfl) rfl, gT_of (List.mem_of_getElem? (i := 73) rfl) rfl, by decide +kernel, by decide⟩
set_option maxRecDepth 100000 in
theorem lcX10_opens : lC mX10_opens 0 := ⟨gT_of (List.mem_of_getElem? (i := 1204) rfl) rfl, gT_of (List.mem_of_getElem? (i := 73) rfl) rfl, by decide +kernel, by decide⟩
set_option maxRecDepth 100000 in
theorem lcX10_part : lC mX10_part 0 := ⟨gT_of (List.mem_of_getElem? (i := 1208) rfl) rfl, gT_of (List.mem_of_getElem? (i := 73) rfl) rfl, by decide +kernel, by decide⟩
set_option maxRecDepth 100000 in
theorem lcX10_partWord : lC mX10_partWord 0 := ⟨gT_of (List.mem_of_getElem? (i := 1212) rfl) rfl, gT_of (List.mem_of_getElem? (i := 73) rfl) rfl, by decide +kernel, by decide⟩
set_option maxRecDepth 100000 in
theorem lcX10_rank : lC mX10_rank 1 := ⟨gT_of (List.mem_of_getElem? (i := 1171) rfl) rfl, gT_of (List.mem_of_getElem? (i := 73) rfl) rfl, by decide +kernel, by decide⟩
set_option maxRecDepth 100000 in
theorem lcX10_takeSign : lC mX10_takeSign 1 := ⟨gT_of (List.mem_of_getElem? (i := 1232) rfl) rfl, gT_of (List.mem_of_getElem? (i := 73) rfl) rfl, by decide +kernel, by decide⟩
set_option maxRecDepth 100000 in
theorem lcX10_takeWord : lC mX10_takeWord 1 := ⟨gT_of (List.mem_of_getElem? (i := 1196) rfl) rfl, gT_of (List.mem_of_getElem? (i := 73) rfl) rfl, by decide +kernel, by decide⟩
set_option maxRecDepth 100000 in
theorem lcX10_tries : lC mX10_tries 3 := ⟨gT_of (List.mem_of_getElem? (i := 1346) rfl) rfl, gT_of (List.mem_of_getElem? (i := 73) rfl) rfl, by decide +kernel, by decide⟩
set_option maxRecDepth 100000 in
theorem lcX10_valueOf : lC mX10_valueOf 1 := ⟨gT_of (List.mem_of_getElem? (i := 1268) rfl) rfl, gT_of (List.mem_of_getElem? (i := 73) rfl) rfl, by decide +kernel, by decide⟩
set_option maxRecDepth 100000 in
theorem lcX10_weighs : lC mX10_weighs 1 := ⟨gT_of (List.mem_of_getElem? (i := 1327) rfl) rfl, gT_of (List.mem_of_getElem? (i := 73) rfl) rfl, by decide +kernel, by decide⟩
set_option maxRecDepth 100000 in
theorem lcX10_wrong : lC mX10_wrong 1 := ⟨gT_of (List.mem_of_getElem? (i := 1191) rfl) rfl, gT_of (List.mem_of_getElem? (i := 73) rfl) rfl, by decide +kernel, by decide⟩
set_option maxRecDepth 100000 in
theorem lcX1_gather : lC mX1_gather 3 := ⟨gT_of (List.mem_of_getElem? (i := 809) rfl) rfl, gT_of (List.mem_of_getElem? (i := 72) rfl) rfl, by decide +kernel, by decide⟩
set_option maxRecDepth 100000 in
theorem lcX1_init : lC mX1_init 0 := ⟨gT_of (List.mem_of_getElem? (i := 332) rfl) rfl, gT_of (List.mem_of_getElem? (i := 72) rfl) rfl, by decide +kernel, by decide⟩
set_option maxRecDepth 100000 in
theorem lcX1_keepAsLatest : lC mX1_keepAsLatest 0 := ⟨gT_of (List.mem_of_getElem? (i := 825) rfl) rfl, gT_of (List.mem_of_getElem? (i := 72) rfl) rfl, by decide +kernel, by decide⟩
set_option maxRecDepth 100000 in
theorem lcX1_search : lC mX1_search 3 := ⟨gT_of (List.mem_of_getElem? (i := 798) rfl) rfl, gT_of (List.mem_of_getElem? (i := 72) rfl) rfl, by decide +kernel, by decide⟩
set_option maxRecDepth 100000 in
theorem lcX1_setSpan : lC mX1_setSpan 3 := ⟨gT_of (List.mem_of_getElem? (i := 789) rfl) rfl, gT_of (List.mem_of_getElem? (i := 72) rfl) rfl, by decide +kernel, by decide⟩
set_option maxRecDepth 100000 in
theorem lcX1_tastesFit : lC mX1_tastesFit 1 := ⟨gT_of (List.mem_of_getElem? (i := 818) rfl) rfl, gT_of (List.mem_of_getElem? (i := 72) rfl) rfl, by decide +kernel, by decide⟩
set_option maxRecDepth 100000 in
theorem lcX1_tryMember : lC mX1_tryMember 4 := ⟨gT_of (List.mem_of_getElem? (i := 814) rfl) rfl, gT_of (List.mem_of_getElem? (i := 72) rfl) rfl, by decide +kernel, by decide⟩
set_option maxRecDepth 100000 in
theorem lcX2_compare : lC mX2_compare 2 := ⟨gT_of (List.mem_of_getElem? (i := 749) rfl) rfl, gT_of (List.mem_of_getElem? (i := 71) rfl) rfl, by decide +kernel, by decide⟩
set_option maxRecDepth 100000 in
theorem lcX2_excessOf : lC mX2_excessOf 1 := ⟨gT_of (List.mem_of_getElem? (i := 765) rfl) rfl, gT_of (List.mem_of_getElem? (i := 71) rfl) rfl, by decide +kernel, by decide⟩
set_option maxRecDepth 100000 in
theorem lcX2_giveMark : lC mX2_giveMark 3 := ⟨gT_of (List.mem_of_getElem? (i := 729) rfl) rfl, gT_of (List.mem_of_getElem? (i := 71) rfl) rfl, by decide +kernel, by decide⟩
set_option maxRecDepth 100000 in
theorem lcX2_hasSample : lC mX2_hasSample 1 := ⟨gT_of (List.mem_of_getElem? (i := 733) rfl) rfl, gT_of (List.mem_of_getElem? (i := 71) rfl) rfl, by decide +kernel, by decide⟩
set_option maxRecDepth 100000 in
theorem lcX2_init : lC mX2_init 0 := ⟨gT_of (List.mem_of_getElem? (i := 312) rfl) rfl, gT_of (List.mem_of_getElem? (i := 71) rfl) rfl, by decide +kernel, by decide⟩
set_option maxRecDepth 100000 in
theorem lcX2_isToldAndMarked : lC mX2_isToldAndMarked 2 := ⟨gT_of (List.mem_of_getElem? (i := 761) rfl) rfl, gT_of (List.mem_of_getElem? (i := 71) rfl) rfl, by decide +kernel, by decide⟩
set_option maxRecDepth 100000 in
theorem lcX2_tellWorth : lC mX2_tellWorth 2 := ⟨gT_of (List.mem_of_getElem? (i := 741) rfl) rfl, gT_of (List.mem_of_getElem? (i := 71) rfl) rfl, by decide +kernel, by decide⟩
set_option maxRecDepth 100000 in
theorem lcX2_thousandths : lC mX2_thousandths 1 := ⟨gT_of (List.mem_of_getElem? (i := 776) rfl) rfl, gT_of (List.mem_of_getElem? (i := 71) rfl) rfl, by decide +kernel, by decide⟩
set_option maxRecDepth 100000 in
theorem lcX2_toldMarkedBy : lC mX2_toldMarkedBy 1 := ⟨gT_of (List.mem_of_getElem? (i := 757) rfl) rfl, gT_of (List.mem_of_getElem? (i := 71) rfl) rfl, by decide +kernel, by decide⟩
set_option maxRecDepth 100000 in
theorem lcX2_weigh : lC mX2_weigh 1 := ⟨gT_of (List.mem_of_getElem? (i := 753) rfl) rfl, gT_of (List.mem_of_getElem? (i := 71) rfl) rfl, by decide +kernel, by decide⟩
set_option maxRecDepth 100000 in
theorem lcX3_add : lC mX3_add 5 := ⟨gT_of (List.mem_of_getElem? (i := 413) rfl) rfl, gT_of (List.mem_of_getElem? (i := 63) rfl) rfl, by decide +kernel, by decide⟩
set_option maxRecDepth 100000 in
theorem lcX3_has : lC mX3_has 1 := ⟨gT_of (List.mem_of_getElem? (i := 611) rfl) rfl, gT_of (List.mem_of_getElem? (i := 63) rfl) rfl, by decide +kernel, by decide⟩
set_option maxRecDepth 100000 in
theorem lcX3_init : lC mX3_init 0 := ⟨gT_of (List.mem_of_getElem? (i := 98) rfl) rfl, gT_of (List.mem_of_getElem? (i := 63) rfl) rfl, by decide +kernel, by decide⟩
set_option maxRecDepth 100000 in
theorem lcX4_doAct : lC mX4_doAct 2 := ⟨gT_of (List.mem_of_getElem? (i := 655) rfl) rfl, gT_of (List.mem_of_getElem? (i := 68) rfl) rfl, by decide +kernel, by decide⟩
set_option maxRecDepth 100000 in
theorem lcX4_goThrough : lC mX4_goThrough 1 := ⟨gT_of (List.mem_of_getElem? (i := 628) rfl) rfl, gT_of (List.mem_of_getElem? (i := 68) rfl) rfl, by decide +kernel, by decide⟩
set_option maxRecDepth 100000 in
theorem lcX4_grow : lC mX4_grow 0 := ⟨gT_of (List.mem_of_getElem? (i := 659) rfl) rfl, gT_of (List.mem_of_getElem? (i := 68) rfl) rfl, by decide +kernel, by decide⟩
set_option maxRecDepth 100000 in
theorem lcX4_init : lC mX4_init 0 := ⟨gT_of (List.mem_of_getElem? (i := 222) rfl) rfl, gT_of (List.mem_of_getElem? (i := 68) rfl) rfl, by decide +kernel, by decide⟩
set_option maxRecDepth 100000 in
theorem lcX4_run : lC mX4_run 2 := ⟨gT_of (List.mem_of_getElem? (i := 618) rfl) rfl, gT_of (List.mem_of_getElem? (i := 68) rfl) rfl, by decide +kernel, by decide⟩
set_option maxRecDepth 100000 in
theorem lcX4_start : lC mX4_start 1 := ⟨gT_of (List.mem_of_getElem? (i := 230) rfl) rfl, gT_of (List.mem_of_getElem? (i := 68) rfl) rfl, by decide +kernel, by decide⟩
set_option maxRecDepth 100000 in
theorem lcX4_tell : lC mX4_tell 1 := ⟨gT_of (List.mem_of_getElem? (i := 676) rfl) rfl, gT_of (List.mem_of_getElem? (i := 68) rfl) rfl, by decide +kernel, by decide⟩
set_option maxRecDepth 100000 in
theorem lcX4_tellCurve : lC mX4_tellCurve 2 := ⟨gT_of (List.mem_of_getElem? (i := 425) rfl) rfl, gT_of (List.mem_of_getElem? (i := 68) rfl) rfl, by decide +kernel, by decide⟩
set_option maxRecDepth 100000 in
theorem lcX4_valueNow : lC mX4_valueNow 1 := ⟨gT_of (List.mem_of_getElem? (i := 651) rfl) rfl, gT_of (List.mem_of_getElem? (i := 68) rfl) rfl, by decide +kernel, by decide⟩
set_option maxRecDepth 100000 in
theorem lcX5_exchange : lC mX5_exchange 1 := ⟨gT_of (List.mem_of_getElem? (i := 603) rfl) rfl, gT_of (List.mem_of_getElem? (i := 65) rfl) rfl, by decide +kernel, by decide⟩
set_option maxRecDepth 100000 in
theorem lcX5_init : lC mX5_init 1 := ⟨gT_of (List.mem_of_getElem? (i := 141) rfl) rfl, gT_of (List.mem_of_getElem? (i := 65) rfl) rfl, by decide +kernel, by decide⟩
set_option maxRecDepth 100000 in
theorem lcX5_isName : lC mX5_isName 1 := ⟨gT_of (List.mem_of_getElem? (i := 582) rfl) rfl, gT_of (List.mem_of_getElem? (i := 65) rfl) rfl, by decide +kernel, by decide⟩
set_option maxRecDepth 100000 in
theorem lcX5_isPlusOrMinus : lC mX5_isPlusOrMinus 1 := ⟨gT_of (List.mem_of_getElem? (i := 595) rfl) rfl, gT_of (List.mem_of_getElem? (i := 65) rfl) rfl, by decide +kernel, by decide⟩
set_option maxRecDepth 100000 in
theorem lcX5_pass : lC mX5_pass 1 := ⟨gT_of (List.mem_of_getElem? (i := 563) rfl) rfl, gT_of (List.mem_of_getElem? (i := 65) rfl) rfl, by decide +kernel, by decide⟩
set_option maxRecDepth 100000 in
theorem lcX5_passAmount : lC mX5_passAmount 0 := ⟨gT_of (List.mem_of_getElem? (i := 559) rfl) rfl, gT_of (List.mem_of_getElem? (i := 65) rfl) rfl, by decide +kernel, by decide⟩
set_option maxRecDepth 100000 in
theorem lcX5_readLine : lC mX5_readLine 0 := ⟨gT_of (List.mem_of_getElem? (i := 551) rfl) rfl, gT_of (List.mem_of_getElem? (i := 65) rfl) rfl, by decide +kernel, by decide⟩
set_option maxRecDepth 100000 in
theorem lcX5_readPart : lC mX5_readPart 1 := ⟨gT_of (List.mem_of_getElem? (i := 579) rfl) rfl, gT_of (List.mem_of_getElem? (i := 65) rfl) rfl, by decide +kernel, by decide⟩
set_option maxRecDepth 100000 in
theorem lcX5_readSum : lC mX5_readSum 1 := ⟨gT_of (List.mem_of_getElem? (i := 575) rfl) rfl, gT_of (List.mem_of_getElem? (i := 65) rfl) rfl, by decide +kernel, by decide⟩
set_option maxRecDepth 100000 in
theorem lcX5_readTape : lC mX5_readTape 0 := ⟨gT_of (List.mem_of_getElem? (i := 447) rfl) rfl, gT_of (List.mem_of_getElem? (i := 65) rfl) rfl, by decide +kernel, by decide⟩
set_option maxRecDepth 100000 in
theorem lcX5_readTest : lC mX5_readTest 1 := ⟨gT_of (List.mem_of_getElem? (i := 571) rfl) rfl, gT_of (List.mem_of_getElem? (i := 65) rfl) rfl, by decide +kernel, by decide⟩
set_option maxRecDepth 100000 in
theorem lcX5_readTests : lC mX5_readTests 1 := ⟨gT_of (List.mem_of_getElem? (i := 567) rfl) rfl, gT_of (List.mem_of_getElem? (i := 65) rfl) rfl, by decide +kernel, by decide⟩
set_option maxRecDepth 100000 in
theorem lcX5_wrong : lC mX5_wrong 1 := ⟨gT_of (List.mem_of_getElem? (i := 555) rfl) rfl, gT_of (List.mem_of_getElem? (i := 65) rfl) rfl, by decide +kernel, by decide⟩
set_option maxRecDepth 100000 in
theorem lcX6_addKind : lC mX6_addKind 1 := ⟨gT_of (List.mem_of_getElem? (i := 591) rfl) rfl, gT_of (List.mem_of_getElem? (i := 67) rfl) rfl, by decide +kernel, by decide⟩
set_option maxRecDepth 100000 in
theorem lcX6_addNumber : lC mX6_addNumber 1 := ⟨gT_of (List.mem_of_getElem? (i := 587) rfl) rfl, gT_of (List.mem_of_getElem? (i := 67) rfl) rfl, by decide +kernel, by decide⟩
set_option maxRecDepth 100000 in
theorem lcX6_clear : lC mX6_clear 0 := ⟨gT_of (List.mem_of_getElem? (i := 451) rfl) rfl, gT_of (List.mem_of_getElem? (i := 67) rfl) rfl, by decide +kernel, by decide⟩
set_option maxRecDepth 100000 in
theorem lcX6_endLine : lC mX6_endLine 2 := ⟨gT_of (List.mem_of_getElem? (i := 599) rfl) rfl, gT_of (List.mem_of_getElem? (i := 67) rfl) rfl, by decide +kernel, by decide⟩
set_option maxRecDepth 100000 in
theorem lcX6_init : lC mX6_init 0 := ⟨gT_of (List.mem_of_getElem? (i := 176) rfl) rfl, gT_of (List.mem_of_getElem? (i := 67) rfl) rfl, by decide +kernel, by decide⟩
set_option maxRecDepth 100000 in
theorem lcX6_joined : lC mX6_joined 3 := ⟨gT_of (List.mem_of_getElem? (i := 647) rfl) rfl, gT_of (List.mem_of_getElem? (i := 67) rfl) rfl, by decide +kernel, by decide⟩
set_option maxRecDepth 100000 in
theorem lcX6_joins : lC mX6_joins 1 := ⟨gT_of (List.mem_of_getElem? (i := 639) rfl) rfl, gT_of (List.mem_of_getElem? (i := 67) rfl) rfl, by decide +kernel, by decide⟩
set_option maxRecDepth 100000 in
theorem lcX6_pop : lC mX6_pop 0 := ⟨gT_of (List.mem_of_getElem? (i := 644) rfl) rfl, gT_of (List.mem_of_getElem? (i := 67) rfl) rfl, by decide +kernel, by decide⟩
set_option maxRecDepth 100000 in
theorem lcX6_push : lC mX6_push 1 := ⟨gT_of (List.mem_of_getElem? (i := 636) rfl) rfl, gT_of (List.mem_of_getElem? (i := 67) rfl) rfl, by decide +kernel, by decide⟩
set_option maxRecDepth 100000 in
theorem lcX6_valueOf : lC mX6_valueOf 2 := ⟨gT_of (List.mem_of_getElem? (i := 632) rfl) rfl, gT_of (List.mem_of_getElem? (i := 67) rfl) rfl, by decide +kernel, by decide⟩
set_option maxRecDepth 100000 in
theorem lcX7_addBytes : lC mX7_addBytes 1 := ⟨gT_of (List.mem_of_getElem? (i := 434) rfl) rfl, gT_of (List.mem_of_getElem? (i := 64) rfl) rfl, by decide +kernel, by decide⟩
set_option maxRecDepth 100000 in
theorem lcX7_addSign : lC mX7_addSign 1 := ⟨gT_of (List.mem_of_getElem? (i := 438) rfl) rfl, gT_of (List.mem_of_getElem? (i := 64) rfl) rfl, by decide +kernel, by decide⟩
set_option maxRecDepth 100000 in
theorem lcX7_init : lC mX7_init 0 := ⟨gT_of (List.mem_of_getElem? (i := 124) rfl) rfl, gT_of (List.mem_of_getElem? (i := 64) rfl) rfl, by decide +kernel, by decide⟩
set_option maxRecDepth 100000 in
theorem lcX8_advance : lC mX8_advance 0 := ⟨gT_of (List.mem_of_getElem? (i := 456) rfl) rfl, gT_of (List.mem_of_getElem? (i := 66) rfl) rfl, by decide +kernel, by decide⟩
set_option maxRecDepth 100000 in
theorem lcX8_begin : lC mX8_begin 0 := ⟨gT_of (List.mem_of_getElem? (i := 152) rfl) rfl, gT_of (List.mem_of_getElem? (i := 66) rfl) rfl, by decide +kernel, by decide⟩
set_option maxRecDepth 100000 in
theorem lcX8_goBehindWord : lC mX8_goBehindWord 0 := ⟨gT_of (List.mem_of_getElem? (i := 471) rfl) rfl, gT_of (List.mem_of_getElem? (i := 66) rfl) rfl, by decide +kernel, by decide⟩
set_option maxRecDepth 100000 in
theorem lcX8_init : lC mX8_init 1 := ⟨gT_of (List.mem_of_getElem? (i := 147) rfl) rfl, gT_of (List.mem_of_getElem? (i := 66) rfl) rfl, by decide +kernel, by decide⟩
set_option maxRecDepth 100000 in
theorem lcX8_isBlank : lC mX8_isBlank 1 := ⟨gT_of (List.mem_of_getElem? (i := 463) rfl) rfl, gT_of (List.mem_of_getElem? (i := 66) rfl) rfl, by decide +kernel, by decide⟩
set_option maxRecDepth 100000 in
theorem lcX8_isDigit : lC mX8_isDigit 1 := ⟨gT_of (List.mem_of_getElem? (i := 540) rfl) rfl, gT_of (List.mem_of_getElem? (i := 66) rfl) rfl, by decide +kernel, by decide⟩
set_option maxRecDepth 100000 in
theorem lcX8_isLetter : lC mX8_isLetter 1 := ⟨gT_of (List.mem_of_getElem? (i := 466) rfl) rfl, gT_of (List.mem_of_getElem? (i := 66) rfl) rfl, by decide +kernel, by decide⟩
set_option maxRecDepth 100000 in
theorem lcX8_isWord : lC mX8_isWord 1 := ⟨gT_of (List.mem_of_getElem? (i := 480) rfl) rfl, gT_of (List.mem_of_getElem? (i := 66) rfl) rfl, by decide +kernel, by decide⟩
set_option maxRecDepth 100000 in
theorem lcX8_kindOfSign : lC mX8_kindOfSign 1 := ⟨gT_of (List.mem_of_getElem? (i := 547) rfl) rfl, gT_of (List.mem_of_getElem? (i := 66) rfl) rfl, by decide +kernel, by decide⟩
set_option maxRecDepth 100000 in
theorem lcX8_kindOfWord : lC mX8_kindOfWord 1 := ⟨gT_of (List.mem_of_getElem? (i := 475) rfl) rfl, gT_of (List.mem_of_getElem? (i := 66) rfl) rfl, by decide +kernel, by decide⟩
set_option maxRecDepth 100000 in
theorem lcX8_readNumber : lC mX8_readNumber 0 := ⟨gT_of (List.mem_of_getElem? (i := 544) rfl) rfl, gT_of (List.mem_of_getElem? (i := 66) rfl) rfl, by decide +kernel, by decide⟩
set_option maxRecDepth 100000 in
theorem lcX8_skipBlanks : lC mX8_skipBlanks 0 := ⟨gT_of (List.mem_of_getElem? (i := 460) rfl) rfl, gT_of (List.mem_of_getElem? (i := 66) rfl) rfl, by decide +kernel, by decide⟩
set_option maxRecDepth 100000 in
theorem lcX9_within : lC mX9_within 3 := ⟨gT_of (List.mem_of_getElem? (i := 409) rfl) rfl, gT_of (List.mem_of_getElem? (i := 62) rfl) rfl, by decide +kernel, by decide⟩
set_option maxRecDepth 100000 in
theorem LX0_40 : lV RX0 40 mX0_addEmpty 1 := ⟨lcX0_addEmpty, gT_of (List.mem_of_getElem? (i := 665) rfl) rfl, gT_of (List.mem_of_getElem? (i := 667) rfl) rfl, gT_of (List.mem_of_getElem? (i := 20) rfl) rfl⟩
set_option maxRecDepth 100000 in
theorem LX0_44 : lV RX0 44 mX0_partOf 2 := ⟨lcX0_partOf, gT_of (List.mem_of_getElem? (i := 707) rfl) rfl, gT_of (List.mem_of_getElem? (i := 708) rfl) rfl, gT_of (List.mem_of_getElem? (i := 709) rfl) rfl⟩
set_option maxRecDepth 100000 in
theorem LX0_48 : lV RX0 48 mX0_has 1 := ⟨lcX0_has, gT_of (List.mem_of_getElem? (i := 685) rfl) rfl, gT_of (List.mem_of_getElem? (i := 686) rfl) rfl, gT_of (List.mem_of_getElem? (i := 687) rfl) rfl⟩
set_option maxRecDepth 100000 in
theorem LX0_52 : lS RX0 52 mX9_within 3 ∨ lN2 RX0 52 mX9_within 3 := Or.inr ⟨lcX9_within, by decide +kernel, rfl, gT_of (List.mem_of_getElem? (i := 408) rfl) rfl⟩
set_option maxRecDepth 100000 in
theorem LX0_56 : lV RX0 56 mX0_pour 3 := ⟨lcX0_pour, gT_of (List.mem_of_getElem? (i := 698) rfl) rfl, gT_of (List.mem_of_getElem? (i := 700) rfl) rfl, gT_of (List.mem_of_getElem? (i := 21) rfl) rfl⟩
set_option maxRecDepth 100000 in
theorem LX0_60 : lS RX0 60 mJ9_min_7cf53 2 ∨ lN2 RX0 60 mJ9_min_7cf53 2 := Or.inl ⟨lcJ9_min_7cf53, gT_of (List.mem_of_getElem? (i := 715) rfl) rfl, gT_of (List.mem_of_getElem? (i := 613) rfl) rfl⟩
set_option maxRecDepth 100000 in
theorem LX0_65 : lV RX0 65 mX0_shareOut 2 := ⟨lcX0_shareOut, gT_of (List.mem_of_getElem? (i := 702) rfl) rfl, gT_of (List.mem_of_getElem? (i := 704) rfl) rfl, gT_of (List.mem_of_getElem? (i := 22) rfl) rfl⟩
set_option maxRecDepth 100000 in
theorem LX0_69 : lS RX0 69 mJ9_max_7cf53 2 ∨ lN2 RX0 69 mJ9_max_7cf53 2 := Or.inl ⟨lcJ9_max_7cf53, gT_of (List.mem_of_getElem? (i := 706) rfl) rfl, gT_of (List.mem_of_getElem? (i := 623) rfl) rfl⟩
set_option maxRecDepth 100000 in
theorem LX0_72 : lV RX0 72 mX0_lotOfGreatestRest 0 := ⟨lcX0_lotOfGreatestRest, gT_of (List.mem_of_getElem? (i := 711) rfl) rfl, gT_of (List.mem_of_getElem? (i := 713) rfl) rfl, gT_of (List.mem_of_getElem? (i := 23) rfl) rfl⟩
set_option maxRecDepth 100000 in
theorem LX1_25 : lS RX1 25 mJ7_fill_53178 2 ∨ lN2 RX1 25 mJ7_fill_53178 2 := Or.inl ⟨lcJ7_fill_53178, gT_of (List.mem_of_getElem? (i := 334) rfl) rfl, gT_of (List.mem_of_getElem? (i := 225) rfl) rfl⟩
set_option maxRecDepth 100000 in
theorem LX1_50 : lS RX1 50 mX9_within 3 ∨ lN2 RX1 50 mX9_within 3 := Or.inr ⟨lcX9_within, by decide +kernel, rfl, gT_of (List.mem_of_getElem? (i := 408) rfl) rfl⟩
set_option maxRecDepth 100000 in
theorem LX1_59 : lS RX1 59 mJ6_bitCount_0f7a4 1 ∨ lN2 RX1 59 mJ6_bitCount_0f7a4 1 := Or.inl ⟨lcJ6_bitCount_0f7a4, gT_of (List.mem_of_getElem? (i := 799) rfl) rfl, gT_of (List.mem_of_getElem? (i := 800) rfl) rfl⟩
set_option maxRecDepth 100000 in
theorem LX1_66 : lV RX1 66 mX1_gather 3 := ⟨lcX1_gather, gT_of (List.mem_of_getElem? (i := 806) rfl) rfl, gT_of (List.mem_of_getElem? (i := 808) rfl) rfl, gT_of (List.mem_of_getElem? (i := 28) rfl) rfl⟩
set_option maxRecDepth 100000 in
theorem LX1_70 : lV RX1 70 mX1_tryMember 4 := ⟨lcX1_tryMember, gT_of (List.mem_of_getElem? (i := 811) rfl) rfl, gT_of (List.mem_of_getElem? (i := 813) rfl) rfl, gT_of (List.mem_of_getElem? (i := 29) rfl) rfl⟩
set_option maxRecDepth 100000 in
theorem LX1_74 : lV RX1 74 mX1_keepAsLatest 0 := ⟨lcX1_keepAsLatest, gT_of (List.mem_of_getElem? (i := 822) rfl) rfl, gT_of (List.mem_of_getElem? (i := 824) rfl) rfl, gT_of (List.mem_of_getElem? (i := 31) rfl) rfl⟩
set_option maxRecDepth 100000 in
theorem LX1_80 : lS RX1 80 mJ9_min_7cf53 2 ∨ lN2 RX1 80 mJ9_min_7cf53 2 := Or.inl ⟨lcJ9_min_7cf53, gT_of (List.mem_of_getElem? (i := 810) rfl) rfl, gT_of (List.mem_of_getElem? (i := 613) rfl) rfl⟩
set_option maxRecDepth 100000 in
theorem LX1_86 : lV RX1 86 mX1_tastesFit 1 := ⟨lcX1_tastesFit, gT_of (List.mem_of_getElem? (i := 815) rfl) rfl, gT_of (List.mem_of_getElem? (i := 817) rfl) rfl, gT_of (List.mem_of_getElem? (i := 30) rfl) rfl⟩
set_option maxRecDepth 100000 in
theorem LX2_15 : lS RX2 15 mJ7_fill_53178 2 ∨ lN2 RX2 15 mJ7_fill_53178 2 := Or.inl ⟨lcJ7_fill_53178, gT_of (List.mem_of_getElem? (i := 314) rfl) rfl, gT_of (List.mem_of_getElem? (i := 225) rfl) rfl⟩
set_option maxRecDepth 100000 in
theorem LX2_31 : lS RX2 31 mX9_within 3 ∨ lN2 RX2 31 mX9_within 3 := Or.inr ⟨lcX9_within, by decide +kernel, rfl, gT_of (List.mem_of_getElem? (i := 408) rfl) rfl⟩
set_option maxRecDepth 100000 in
theorem LX2_35 : lS RX2 35 mX2_hasSample 1 ∨ lN2 RX2 35 mX2_hasSample 1 := Or.inl ⟨lcX2_hasSample, gT_of (List.mem_of_getElem? (i := 731) rfl) rfl, gT_of (List.mem_of_getElem? (i := 732) rfl) rfl⟩
set_option maxRecDepth 100000 in
theorem LX2_39 : lV RX2 39 mX2_weigh 1 := ⟨lcX2_weigh, gT_of (List.mem_of_getElem? (i := 750) rfl) rfl, gT_of (List.mem_of_getElem? (i := 752) rfl) rfl, gT_of (List.mem_of_getElem? (i := 24) rfl) rfl⟩
set_option maxRecDepth 100000 in
theorem LX2_42 : lS RX2 42 mJ13_compare_74951 2 ∨ lN2 RX2 42 mJ13_compare_74951 2 := Or.inl ⟨lcJ13_compare_74951, gT_of (List.mem_of_getElem? (i := 766) rfl) rfl, gT_of (List.mem_of_getElem? (i := 767) rfl) rfl⟩
set_option maxRecDepth 100000 in
theorem LX2_51 : lS RX2 51 mJ9_floorDiv_f86c9 2 ∨ lN2 RX2 51 mJ9_floorDiv_f86c9 2 := Or.inl ⟨lcJ9_floorDiv_f86c9, gT_of (List.mem_of_getElem? (i := 779) rfl) rfl, gT_of (List.mem_of_getElem? (i := 780) rfl) rfl⟩
set_option maxRecDepth 100000 in
theorem LX2_57 : lV RX2 57 mX2_toldMarkedBy 1 := ⟨lcX2_toldMarkedBy, gT_of (List.mem_of_getElem? (i := 754) rfl) rfl, gT_of (List.mem_of_getElem? (i := 756) rfl) rfl, gT_of (List.mem_of_getElem? (i := 25) rfl) rfl⟩
set_option maxRecDepth 100000 in
theorem LX2_61 : lV RX2 61 mX2_excessOf 1 := ⟨lcX2_excessOf, gT_of (List.mem_of_getElem? (i := 762) rfl) rfl, gT_of (List.mem_of_getElem? (i := 764) rfl) rfl, gT_of (List.mem_of_getElem? (i := 27) rfl) rfl⟩
set_option maxRecDepth 100000 in
theorem LX2_64 : lV RX2 64 mX2_isToldAndMarked 2 := ⟨lcX2_isToldAndMarked, gT_of (List.mem_of_getElem? (i := 758) rfl) rfl, gT_of (List.mem_of_getElem? (i := 760) rfl) rfl, gT_of (List.mem_of_getElem? (i := 26) rfl) rfl⟩
set_option maxRecDepth 100000 in
theorem LX4_15 : lS RX4 15 mJ7_fill_53178 2 ∨ lN2 RX4 15 mJ7_fill_53178 2 := Or.inl ⟨lcJ7_fill_53178, gT_of (List.mem_of_getElem? (i := 224) rfl) rfl, gT_of (List.mem_of_getElem? (i := 225) rfl) rfl⟩
set_option maxRecDepth 100000 in
theorem LX4_25 : lV RX4 25 mX4_start 1 := ⟨lcX4_start, gT_of (List.mem_of_getElem? (i := 227) rfl) rfl, gT_of (List.mem_of_getElem? (i := 229) rfl) rfl, gT_of (List.mem_of_getElem? (i := 0) rfl) rfl⟩
set_option maxRecDepth 100000 in
theorem LX4_60 : lS RX4 60 mX9_within 3 ∨ lN2 RX4 60 mX9_within 3 := Or.inr ⟨lcX9_within, by decide +kernel, rfl, gT_of (List.mem_of_getElem? (i := 408) rfl) rfl⟩
set_option maxRecDepth 100000 in
theorem LX4_64 : lS RX4 64 mJ9_abs_0f7a4 1 ∨ lN2 RX4 64 mJ9_abs_0f7a4 1 := Or.inl ⟨lcJ9_abs_0f7a4, gT_of (List.mem_of_getElem? (i := 619) rfl) rfl, gT_of (List.mem_of_getElem? (i := 620) rfl) rfl⟩
set_option maxRecDepth 100000 in
theorem LX4_70 : lS RX4 70 mJ9_max_7cf53 2 ∨ lN2 RX4 70 mJ9_max_7cf53 2 := Or.inl ⟨lcJ9_max_7cf53, gT_of (List.mem_of_getElem? (i := 622) rfl) rfl, gT_of (List.mem_of_getElem? (i := 623) rfl) rfl⟩
set_option maxRecDepth 100000 in
theorem LX4_74 : lV RX4 74 mX4_goThrough 1 := ⟨lcX4_goThrough, gT_of (List.mem_of_getElem? (i := 625) rfl) rfl, gT_of (List.mem_of_getElem? (i := 627) rfl) rfl, gT_of (List.mem_of_getElem? (i := 15) rfl) rfl⟩
set_option maxRecDepth 100000 in
theorem LX4_78 : lV RX4 78 mX4_grow 0 := ⟨lcX4_grow, gT_of (List.mem_of_getElem? (i := 656) rfl) rfl, gT_of (List.mem_of_getElem? (i := 658) rfl) rfl, gT_of (List.mem_of_getElem? (i := 19) rfl) rfl⟩
set_option maxRecDepth 100000 in
theorem LX4_81 : lS RX4 81 mJ9_min_7cf53 2 ∨ lN2 RX4 81 mJ9_min_7cf53 2 := Or.inl ⟨lcJ9_min_7cf53, gT_of (List.mem_of_getElem? (i := 660) rfl) rfl, gT_of (List.mem_of_getElem? (i := 613) rfl) rfl⟩
set_option maxRecDepth 100000 in
theorem LX4_89 : lV RX4 89 mX6_valueOf 2 := ⟨lcX6_valueOf, gT_of (List.mem_of_getElem? (i := 629) rfl) rfl, gT_of (List.mem_of_getElem? (i := 630) rfl) rfl, gT_of (List.mem_of_getElem? (i := 631) rfl) rfl⟩
set_option maxRecDepth 100000 in
theorem LX4_99 : lV RX4 99 mX4_doAct 2 := ⟨lcX4_doAct, gT_of (List.mem_of_getElem? (i := 652) rfl) rfl, gT_of (List.mem_of_getElem? (i := 654) rfl) rfl, gT_of (List.mem_of_getElem? (i := 18) rfl) rfl⟩
set_option maxRecDepth 100000 in
theorem LX5_9 : lI RX5 9 mX8_init 1 := ⟨lcX8_init, gT_of (List.mem_of_getElem? (i := 145) rfl) rfl, gT_of (List.mem_of_getElem? (i := 146) rfl) rfl, rfl, rfl⟩
set_option maxRecDepth 100000 in
theorem LX5_20 : lI RX5 20 mX6_init 0 := ⟨lcX6_init, gT_of (List.mem_of_getElem? (i := 174) rfl) rfl, gT_of (List.mem_of_getElem? (i := 175) rfl) rfl, rfl, rfl⟩
set_option maxRecDepth 100000 in
theorem LX5_29 : lV RX5 29 mX6_clear 0 := ⟨lcX6_clear, gT_of (List.mem_of_getElem? (i := 448) rfl) rfl, gT_of (List.mem_of_getElem? (i := 449) rfl) rfl, gT_of (List.mem_of_getElem? (i := 450) rfl) rfl⟩
set_option maxRecDepth 100000 in
theorem LX5_32 : lV RX5 32 mX8_begin 0 := ⟨lcX8_begin, gT_of (List.mem_of_getElem? (i := 452) rfl) rfl, gT_of (List.mem_of_getElem? (i := 150) rfl) rfl, gT_of (List.mem_of_getElem? (i := 151) rfl) rfl⟩
set_option maxRecDepth 100000 in
theorem LX5_35 : lV RX5 35 mX8_advance 0 := ⟨lcX8_advance, gT_of (List.mem_of_getElem? (i := 453) rfl) rfl, gT_of (List.mem_of_getElem? (i := 454) rfl) rfl, gT_of (List.mem_of_getElem? (i := 455) rfl) rfl⟩
set_option maxRecDepth 100000 in
theorem LX5_41 : lV RX5 41 mX5_readLine 0 := ⟨lcX5_readLine, gT_of (List.mem_of_getElem? (i := 548) rfl) rfl, gT_of (List.mem_of_getElem? (i := 550) rfl) rfl, gT_of (List.mem_of_getElem? (i := 7) rfl) rfl⟩
set_option maxRecDepth 100000 in
theorem LX5_48 : lV RX5 48 mX5_wrong 1 := ⟨lcX5_wrong, gT_of (List.mem_of_getElem? (i := 552) rfl) rfl, gT_of (List.mem_of_getElem? (i := 554) rfl) rfl, gT_of (List.mem_of_getElem? (i := 8) rfl) rfl⟩
set_option maxRecDepth 100000 in
theorem LX5_58 : lV RX5 58 mX5_passAmount 0 := ⟨lcX5_passAmount, gT_of (List.mem_of_getElem? (i := 556) rfl) rfl, gT_of (List.mem_of_getElem? (i := 558) rfl) rfl, gT_of (List.mem_of_getElem? (i := 9) rfl) rfl⟩
set_option maxRecDepth 100000 in
theorem LX5_61 : lV RX5 61 mX5_pass 1 := ⟨lcX5_pass, gT_of (List.mem_of_getElem? (i := 560) rfl) rfl, gT_of (List.mem_of_getElem? (i := 562) rfl) rfl, gT_of (List.mem_of_getElem? (i := 10) rfl) rfl⟩
set_option maxRecDepth 100000 in
theorem LX5_64 : lV RX5 64 mX5_readTests 1 := ⟨lcX5_readTests, gT_of (List.mem_of_getElem? (i := 564) rfl) rfl, gT_of (List.mem_of_getElem? (i := 566) rfl) rfl, gT_of (List.mem_of_getElem? (i := 11) rfl) rfl⟩
set_option maxRecDepth 100000 in
theorem LX5_67 : lV RX5 67 mX6_endLine 2 := ⟨lcX6_endLine, gT_of (List.mem_of_getElem? (i := 596) rfl) rfl, gT_of (List.mem_of_getElem? (i := 597) rfl) rfl, gT_of (List.mem_of_getElem? (i := 598) rfl) rfl⟩
set_option maxRecDepth 100000 in
theorem LX5_71 : lV RX5 71 mX5_readTest 1 := ⟨lcX5_readTest, gT_of (List.mem_of_getElem? (i := 568) rfl) rfl, gT_of (List.mem_of_getElem? (i := 570) rfl) rfl, gT_of (List.mem_of_getElem? (i := 12) rfl) rfl⟩
set_option maxRecDepth 100000 in
theorem LX5_76 : lV RX5 76 mX6_addKind 1 := ⟨lcX6_addKind, gT_of (List.mem_of_getElem? (i := 588) rfl) rfl, gT_of (List.mem_of_getElem? (i := 589) rfl) rfl, gT_of (List.mem_of_getElem? (i := 590) rfl) rfl⟩
set_option maxRecDepth 100000 in
theorem LX5_80 : lV RX5 80 mX5_readSum 1 := ⟨lcX5_readSum, gT_of (List.mem_of_getElem? (i := 572) rfl) rfl, gT_of (List.mem_of_getElem? (i := 574) rfl) rfl, gT_of (List.mem_of_getElem? (i := 13) rfl) rfl⟩
set_option maxRecDepth 100000 in
theorem LX5_83 : lV RX5 83 mX5_readPart 1 := ⟨lcX5_readPart, gT_of (List.mem_of_getElem? (i := 576) rfl) rfl, gT_of (List.mem_of_getElem? (i := 578) rfl) rfl, gT_of (List.mem_of_getElem? (i := 14) rfl) rfl⟩
set_option maxRecDepth 100000 in
theorem LX5_86 : lS RX5 86 mX5_isPlusOrMinus 1 ∨ lN2 RX5 86 mX5_isPlusOrMinus 1 := Or.inl ⟨lcX5_isPlusOrMinus, gT_of (List.mem_of_getElem? (i := 593) rfl) rfl, gT_of (List.mem_of_getElem? (i := 594) rfl) rfl⟩
set_option maxRecDepth 100000 in
theorem LX5_89 : lS RX5 89 mX5_isName 1 ∨ lN2 RX5 89 mX5_isName 1 := Or.inl ⟨lcX5_isName, gT_of (List.mem_of_getElem? (i := 580) rfl) rfl, gT_of (List.mem_of_getElem? (i := 581) rfl) rfl⟩
set_option maxRecDepth 100000 in
theorem LX5_92 : lV RX5 92 mX6_addNumber 1 := ⟨lcX6_addNumber, gT_of (List.mem_of_getElem? (i := 584) rfl) rfl, gT_of (List.mem_of_getElem? (i := 585) rfl) rfl, gT_of (List.mem_of_getElem? (i := 586) rfl) rfl⟩
set_option maxRecDepth 100000 in
theorem LX5_95 : lS RX5 95 mX9_within 3 ∨ lN2 RX5 95 mX9_within 3 := Or.inr ⟨lcX9_within, by decide +kernel, rfl, gT_of (List.mem_of_getElem? (i := 408) rfl) rfl⟩
set_option maxRecDepth 100000 in
theorem LX6_37 : lV RX6 37 mX6_addNumber 1 := ⟨lcX6_addNumber, gT_of (List.mem_of_getElem? (i := 592) rfl) rfl, gT_of (List.mem_of_getElem? (i := 585) rfl) rfl, gT_of (List.mem_of_getElem? (i := 586) rfl) rfl⟩
set_option maxRecDepth 100000 in
theorem LX6_41 : lV RX6 41 mX6_push 1 := ⟨lcX6_push, gT_of (List.mem_of_getElem? (i := 633) rfl) rfl, gT_of (List.mem_of_getElem? (i := 635) rfl) rfl, gT_of (List.mem_of_getElem? (i := 16) rfl) rfl⟩
set_option maxRecDepth 100000 in
theorem LX6_44 : lS RX6 44 mX6_joins 1 ∨ lN2 RX6 44 mX6_joins 1 := Or.inl ⟨lcX6_joins, gT_of (List.mem_of_getElem? (i := 637) rfl) rfl, gT_of (List.mem_of_getElem? (i := 638) rfl) rfl⟩
set_option maxRecDepth 100000 in
theorem LX6_48 : lV RX6 48 mX6_pop 0 := ⟨lcX6_pop, gT_of (List.mem_of_getElem? (i := 641) rfl) rfl, gT_of (List.mem_of_getElem? (i := 643) rfl) rfl, gT_of (List.mem_of_getElem? (i := 17) rfl) rfl⟩
set_option maxRecDepth 100000 in
theorem LX6_52 : lS RX6 52 mX6_joined 3 ∨ lN2 RX6 52 mX6_joined 3 := Or.inl ⟨lcX6_joined, gT_of (List.mem_of_getElem? (i := 645) rfl) rfl, gT_of (List.mem_of_getElem? (i := 646) rfl) rfl⟩
set_option maxRecDepth 100000 in
theorem LX6_56 : lV RX6 56 mX4_valueNow 1 := ⟨lcX4_valueNow, gT_of (List.mem_of_getElem? (i := 648) rfl) rfl, gT_of (List.mem_of_getElem? (i := 649) rfl) rfl, gT_of (List.mem_of_getElem? (i := 650) rfl) rfl⟩
set_option maxRecDepth 100000 in
theorem LX6_64 : lS RX6 64 mX9_within 3 ∨ lN2 RX6 64 mX9_within 3 := Or.inr ⟨lcX9_within, by decide +kernel, rfl, gT_of (List.mem_of_getElem? (i := 408) rfl) rfl⟩
set_option maxRecDepth 100000 in
theorem LX7_17 : lV RX7 17 mX7_addSign 1 := ⟨lcX7_addSign, gT_of (List.mem_of_getElem? (i := 435) rfl) rfl, gT_of (List.mem_of_getElem? (i := 437) rfl) rfl, gT_of (List.mem_of_getElem? (i := 1) rfl) rfl⟩
set_option maxRecDepth 100000 in
theorem LX7_21 : lS RX7 21 mX9_within 3 ∨ lN2 RX7 21 mX9_within 3 := Or.inr ⟨lcX9_within, by decide +kernel, rfl, gT_of (List.mem_of_getElem? (i := 408) rfl) rfl⟩
set_option maxRecDepth 100000 in
theorem LX8_13 : lV RX8 13 mX8_begin 0 := ⟨lcX8_begin, gT_of (List.mem_of_getElem? (i := 149) rfl) rfl, gT_of (List.mem_of_getElem? (i := 150) rfl) rfl, gT_of (List.mem_of_getElem? (i := 151) rfl) rfl⟩
set_option maxRecDepth 100000 in
theorem LX8_29 : lV RX8 29 mX8_skipBlanks 0 := ⟨lcX8_skipBlanks, gT_of (List.mem_of_getElem? (i := 457) rfl) rfl, gT_of (List.mem_of_getElem? (i := 459) rfl) rfl, gT_of (List.mem_of_getElem? (i := 2) rfl) rfl⟩
set_option maxRecDepth 100000 in
theorem LX8_41 : lS RX8 41 mX8_isLetter 1 ∨ lN2 RX8 41 mX8_isLetter 1 := Or.inl ⟨lcX8_isLetter, gT_of (List.mem_of_getElem? (i := 464) rfl) rfl, gT_of (List.mem_of_getElem? (i := 465) rfl) rfl⟩
set_option maxRecDepth 100000 in
theorem LX8_45 : lV RX8 45 mX8_goBehindWord 0 := ⟨lcX8_goBehindWord, gT_of (List.mem_of_getElem? (i := 468) rfl) rfl, gT_of (List.mem_of_getElem? (i := 470) rfl) rfl, gT_of (List.mem_of_getElem? (i := 3) rfl) rfl⟩
set_option maxRecDepth 100000 in
theorem LX8_48 : lV RX8 48 mX8_kindOfWord 1 := ⟨lcX8_kindOfWord, gT_of (List.mem_of_getElem? (i := 472) rfl) rfl, gT_of (List.mem_of_getElem? (i := 474) rfl) rfl, gT_of (List.mem_of_getElem? (i := 4) rfl) rfl⟩
set_option maxRecDepth 100000 in
theorem LX8_52 : lS RX8 52 mX8_isDigit 1 ∨ lN2 RX8 52 mX8_isDigit 1 := Or.inl ⟨lcX8_isDigit, gT_of (List.mem_of_getElem? (i := 538) rfl) rfl, gT_of (List.mem_of_getElem? (i := 539) rfl) rfl⟩
set_option maxRecDepth 100000 in
theorem LX8_55 : lV RX8 55 mX8_readNumber 0 := ⟨lcX8_readNumber, gT_of (List.mem_of_getElem? (i := 541) rfl) rfl, gT_of (List.mem_of_getElem? (i := 543) rfl) rfl, gT_of (List.mem_of_getElem? (i := 6) rfl) rfl⟩
set_option maxRecDepth 100000 in
theorem LX8_58 : lS RX8 58 mX8_kindOfSign 1 ∨ lN2 RX8 58 mX8_kindOfSign 1 := Or.inl ⟨lcX8_kindOfSign, gT_of (List.mem_of_getElem? (i := 545) rfl) rfl, gT_of (List.mem_of_getElem? (i := 546) rfl) rfl⟩
set_option maxRecDepth 100000 in
theorem LX8_61 : lS RX8 61 mX8_isBlank 1 ∨ lN2 RX8 61 mX8_isBlank 1 := Or.inl ⟨lcX8_isBlank, gT_of (List.mem_of_getElem? (i := 461) rfl) rfl, gT_of (List.mem_of_getElem? (i := 462) rfl) rfl⟩
set_option maxRecDepth 100000 in
theorem LX8_66 : lV RX8 66 mX8_isWord 1 := ⟨lcX8_isWord, gT_of (List.mem_of_getElem? (i := 477) rfl) rfl, gT_of (List.mem_of_getElem? (i := 479) rfl) rfl, gT_of (List.mem_of_getElem? (i := 5) rfl) rfl⟩
set_option maxRecDepth 100000 in
theorem LX8_97 : lS RX8 97 mX9_within 3 ∨ lN2 RX8 97 mX9_within 3 := Or.inr ⟨lcX9_within, by decide +kernel, rfl, gT_of (List.mem_of_getElem? (i := 408) rfl) rfl⟩
set_option maxRecDepth 100000 in
theorem LX9_9 : lI RX9 9 mX3_init 0 := ⟨lcX3_init, gT_of (List.mem_of_getElem? (i := 96) rfl) rfl, gT_of (List.mem_of_getElem? (i := 97) rfl) rfl, rfl, rfl⟩
set_option maxRecDepth 100000 in
theorem LX9_18 : lI RX9 18 mX7_init 0 := ⟨lcX7_init, gT_of (List.mem_of_getElem? (i := 122) rfl) rfl, gT_of (List.mem_of_getElem? (i := 123) rfl) rfl, rfl, rfl⟩
set_option maxRecDepth 100000 in
theorem LX9_25 : lI RX9 25 mX5_init 1 := ⟨lcX5_init, gT_of (List.mem_of_getElem? (i := 139) rfl) rfl, gT_of (List.mem_of_getElem? (i := 140) rfl) rfl, rfl, rfl⟩
set_option maxRecDepth 100000 in
theorem LX9_34 : lI RX9 34 mX4_init 0 := ⟨lcX4_init, gT_of (List.mem_of_getElem? (i := 220) rfl) rfl, gT_of (List.mem_of_getElem? (i := 221) rfl) rfl, rfl, rfl⟩
set_option maxRecDepth 100000 in
theorem LX9_41 : lI RX9 41 mX0_init 0 := ⟨lcX0_init, gT_of (List.mem_of_getElem? (i := 271) rfl) rfl, gT_of (List.mem_of_getElem? (i := 272) rfl) rfl, rfl, rfl⟩
set_option maxRecDepth 100000 in
theorem LX9_48 : lI RX9 48 mX2_init 0 := ⟨lcX2_init, gT_of (List.mem_of_getElem? (i := 310) rfl) rfl, gT_of (List.mem_of_getElem? (i := 311) rfl) rfl, rfl, rfl⟩
set_option maxRecDepth 100000 in
theorem LX9_55 : lI RX9 55 mX1_init 0 := ⟨lcX1_init, gT_of (List.mem_of_getElem? (i := 330) rfl) rfl, gT_of (List.mem_of_getElem? (i := 331) rfl) rfl, rfl, rfl⟩
set_option maxRecDepth 100000 in
theorem LX9_64 : lS RX9 64 mJ7_fill_53178 2 ∨ lN2 RX9 64 mJ7_fill_53178 2 := Or.inl ⟨lcJ7_fill_53178, gT_of (List.mem_of_getElem? (i := 368) rfl) rfl, gT_of (List.mem_of_getElem? (i := 225) rfl) rfl⟩
set_option maxRecDepth 100000 in
theorem LX9_72 : lI RX9 72 mX6_init 0 := ⟨lcX6_init, gT_of (List.mem_of_getElem? (i := 370) rfl) rfl, gT_of (List.mem_of_getElem? (i := 175) rfl) rfl, rfl, rfl⟩
set_option maxRecDepth 100000 in
theorem LX9_82 : lS RX9 82 mX9_within 3 ∨ lN2 RX9 82 mX9_within 3 := Or.inl ⟨lcX9_within, gT_of (List.mem_of_getElem? (i := 407) rfl) rfl, gT_of (List.mem_of_getElem? (i := 408) rfl) rfl⟩
set_option maxRecDepth 100000 in
theorem LX9_89 : lV RX9 89 mX3_add 5 := ⟨lcX3_add, gT_of (List.mem_of_getElem? (i := 410) rfl) rfl, gT_of (List.mem_of_getElem? (i := 411) rfl) rfl, gT_of (List.mem_of_getElem? (i := 412) rfl) rfl⟩
set_option maxRecDepth 100000 in
theorem LX9_93 : lV RX9 93 mX4_tellCurve 2 := ⟨lcX4_tellCurve, gT_of (List.mem_of_getElem? (i := 422) rfl) rfl, gT_of (List.mem_of_getElem? (i := 423) rfl) rfl, gT_of (List.mem_of_getElem? (i := 424) rfl) rfl⟩
set_option maxRecDepth 100000 in
theorem LX9_97 : lV RX9 97 mX7_addBytes 1 := ⟨lcX7_addBytes, gT_of (List.mem_of_getElem? (i := 431) rfl) rfl, gT_of (List.mem_of_getElem? (i := 432) rfl) rfl, gT_of (List.mem_of_getElem? (i := 433) rfl) rfl⟩
set_option maxRecDepth 100000 in
theorem LX9_104 : lV RX9 104 mX5_readTape 0 := ⟨lcX5_readTape, gT_of (List.mem_of_getElem? (i := 444) rfl) rfl, gT_of (List.mem_of_getElem? (i := 445) rfl) rfl, gT_of (List.mem_of_getElem? (i := 446) rfl) rfl⟩
set_option maxRecDepth 100000 in
theorem LX9_108 : lV RX9 108 mX5_exchange 1 := ⟨lcX5_exchange, gT_of (List.mem_of_getElem? (i := 600) rfl) rfl, gT_of (List.mem_of_getElem? (i := 601) rfl) rfl, gT_of (List.mem_of_getElem? (i := 602) rfl) rfl⟩
set_option maxRecDepth 100000 in
theorem LX9_112 : lV RX9 112 mX3_has 1 := ⟨lcX3_has, gT_of (List.mem_of_getElem? (i := 608) rfl) rfl, gT_of (List.mem_of_getElem? (i := 609) rfl) rfl, gT_of (List.mem_of_getElem? (i := 610) rfl) rfl⟩
set_option maxRecDepth 100000 in
theorem LX9_119 : lS RX9 119 mJ9_min_7cf53 2 ∨ lN2 RX9 119 mJ9_min_7cf53 2 := Or.inl ⟨lcJ9_min_7cf53, gT_of (List.mem_of_getElem? (i := 612) rfl) rfl, gT_of (List.mem_of_getElem? (i := 613) rfl) rfl⟩
set_option maxRecDepth 100000 in
theorem LX9_126 : lV RX9 126 mX4_run 2 := ⟨lcX4_run, gT_of (List.mem_of_getElem? (i := 615) rfl) rfl, gT_of (List.mem_of_getElem? (i := 616) rfl) rfl, gT_of (List.mem_of_getElem? (i := 617) rfl) rfl⟩
set_option maxRecDepth 100000 in
theorem LX9_133 : lV RX9 133 mX0_addOfOneLot 3 := ⟨lcX0_addOfOneLot, gT_of (List.mem_of_getElem? (i := 661) rfl) rfl, gT_of (List.mem_of_getElem? (i := 662) rfl) rfl, gT_of (List.mem_of_getElem? (i := 663) rfl) rfl⟩
set_option maxRecDepth 100000 in
theorem LX9_137 : lV RX9 137 mX4_tell 1 := ⟨lcX4_tell, gT_of (List.mem_of_getElem? (i := 673) rfl) rfl, gT_of (List.mem_of_getElem? (i := 674) rfl) rfl, gT_of (List.mem_of_getElem? (i := 675) rfl) rfl⟩
set_option maxRecDepth 100000 in
theorem LX9_141 : lV RX9 141 mX0_tellForBlend 2 := ⟨lcX0_tellForBlend, gT_of (List.mem_of_getElem? (i := 681) rfl) rfl, gT_of (List.mem_of_getElem? (i := 682) rfl) rfl, gT_of (List.mem_of_getElem? (i := 683) rfl) rfl⟩
set_option maxRecDepth 100000 in
theorem LX9_144 : lV RX9 144 mX0_blendTaken 0 := ⟨lcX0_blendTaken, gT_of (List.mem_of_getElem? (i := 694) rfl) rfl, gT_of (List.mem_of_getElem? (i := 695) rfl) rfl, gT_of (List.mem_of_getElem? (i := 696) rfl) rfl⟩
set_option maxRecDepth 100000 in
theorem LX9_147 : lV RX9 147 mX0_has 1 := ⟨lcX0_has, gT_of (List.mem_of_getElem? (i := 720) rfl) rfl, gT_of (List.mem_of_getElem? (i := 686) rfl) rfl, gT_of (List.mem_of_getElem? (i := 687) rfl) rfl⟩
set_option maxRecDepth 100000 in
theorem LX9_160 : lV RX9 160 mX0_lotsIn 1 := ⟨lcX0_lotsIn, gT_of (List.mem_of_getElem? (i := 943) rfl) rfl, gT_of (List.mem_of_getElem? (i := 944) rfl) rfl, gT_of (List.mem_of_getElem? (i := 945) rfl) rfl⟩
set_option maxRecDepth 100000 in
theorem LX9_163 : lV RX9 163 mX0_partOf 2 := ⟨lcX0_partOf, gT_of (List.mem_of_getElem? (i := 721) rfl) rfl, gT_of (List.mem_of_getElem? (i := 708) rfl) rfl, gT_of (List.mem_of_getElem? (i := 709) rfl) rfl⟩
set_option maxRecDepth 100000 in
theorem LX9_166 : lV RX9 166 mX2_giveMark 3 := ⟨lcX2_giveMark, gT_of (List.mem_of_getElem? (i := 726) rfl) rfl, gT_of (List.mem_of_getElem? (i := 727) rfl) rfl, gT_of (List.mem_of_getElem? (i := 728) rfl) rfl⟩
set_option maxRecDepth 100000 in
theorem LX9_169 : lV RX9 169 mX2_tellWorth 2 := ⟨lcX2_tellWorth, gT_of (List.mem_of_getElem? (i := 738) rfl) rfl, gT_of (List.mem_of_getElem? (i := 739) rfl) rfl, gT_of (List.mem_of_getElem? (i := 740) rfl) rfl⟩
set_option maxRecDepth 100000 in
theorem LX9_172 : lV RX9 172 mX2_compare 2 := ⟨lcX2_compare, gT_of (List.mem_of_getElem? (i := 746) rfl) rfl, gT_of (List.mem_of_getElem? (i := 747) rfl) rfl, gT_of (List.mem_of_getElem? (i := 748) rfl) rfl⟩
set_option maxRecDepth 100000 in
theorem LX9_175 : lV RX9 175 mX2_thousandths 1 := ⟨lcX2_thousandths, gT_of (List.mem_of_getElem? (i := 773) rfl) rfl, gT_of (List.mem_of_getElem? (i := 774) rfl) rfl, gT_of (List.mem_of_getElem? (i := 775) rfl) rfl⟩
set_option maxRecDepth 100000 in
theorem LX9_178 : lV RX9 178 mX1_setSpan 3 := ⟨lcX1_setSpan, gT_of (List.mem_of_getElem? (i := 786) rfl) rfl, gT_of (List.mem_of_getElem? (i := 787) rfl) rfl, gT_of (List.mem_of_getElem? (i := 788) rfl) rfl⟩
set_option maxRecDepth 100000 in
theorem LX9_181 : lV RX9 181 mX1_search 3 := ⟨lcX1_search, gT_of (List.mem_of_getElem? (i := 795) rfl) rfl, gT_of (List.mem_of_getElem? (i := 796) rfl) rfl, gT_of (List.mem_of_getElem? (i := 797) rfl) rfl⟩
set_option maxRecDepth 100000 in
theorem LX9_192 : lV RX9 192 mX0_sendTo 2 := ⟨lcX0_sendTo, gT_of (List.mem_of_getElem? (i := 834) rfl) rfl, gT_of (List.mem_of_getElem? (i := 835) rfl) rfl, gT_of (List.mem_of_getElem? (i := 836) rfl) rfl⟩
set_option maxRecDepth 100000 in
theorem LX9_195 : lV RX9 195 mX0_olderIn 2 := ⟨lcX0_olderIn, gT_of (List.mem_of_getElem? (i := 846) rfl) rfl, gT_of (List.mem_of_getElem? (i := 847) rfl) rfl, gT_of (List.mem_of_getElem? (i := 848) rfl) rfl⟩
set_option maxRecDepth 100000 in
theorem LX9_198 : lV RX9 198 mX0_bagWith 2 := ⟨lcX0_bagWith, gT_of (List.mem_of_getElem? (i := 854) rfl) rfl, gT_of (List.mem_of_getElem? (i := 855) rfl) rfl, gT_of (List.mem_of_getElem? (i := 856) rfl) rfl⟩
set_option maxRecDepth 100000 in
theorem LX9_201 : lV RX9 201 mX0_gramsIn 2 := ⟨lcX0_gramsIn, gT_of (List.mem_of_getElem? (i := 862) rfl) rfl, gT_of (List.mem_of_getElem? (i := 863) rfl) rfl, gT_of (List.mem_of_getElem? (i := 864) rfl) rfl⟩
set_option maxRecDepth 100000 in
theorem LX9_210 : lV RX9 210 mX0_allGrams 0 := ⟨lcX0_allGrams, gT_of (List.mem_of_getElem? (i := 870) rfl) rfl, gT_of (List.mem_of_getElem? (i := 871) rfl) rfl, gT_of (List.mem_of_getElem? (i := 872) rfl) rfl⟩
set_option maxRecDepth 100000 in
theorem LX10_7 : lV RX10 7 mX10_lay 1 := ⟨lcX10_lay, gT_of (List.mem_of_getElem? (i := 955) rfl) rfl, gT_of (List.mem_of_getElem? (i := 957) rfl) rfl, gT_of (List.mem_of_getElem? (i := 33) rfl) rfl⟩
set_option maxRecDepth 100000 in
theorem LX10_141 : lS RX10 141 mX10_isLetter 1 ∨ lN2 RX10 141 mX10_isLetter 1 := Or.inl ⟨lcX10_isLetter, gT_of (List.mem_of_getElem? (i := 1165) rfl) rfl, gT_of (List.mem_of_getElem? (i := 1166) rfl) rfl⟩
set_option maxRecDepth 100000 in
theorem LX10_150 : lS RX10 150 mX10_rank 1 ∨ lN2 RX10 150 mX10_rank 1 := Or.inl ⟨lcX10_rank, gT_of (List.mem_of_getElem? (i := 1169) rfl) rfl, gT_of (List.mem_of_getElem? (i := 1170) rfl) rfl⟩
set_option maxRecDepth 100000 in
theorem LX10_154 : lS RX10 154 mX10_isDigit 1 ∨ lN2 RX10 154 mX10_isDigit 1 := Or.inl ⟨lcX10_isDigit, gT_of (List.mem_of_getElem? (i := 1172) rfl) rfl, gT_of (List.mem_of_getElem? (i := 1173) rfl) rfl⟩
set_option maxRecDepth 100000 in
theorem LX10_161 : lS RX10 161 mX10_isSignOf 1 ∨ lN2 RX10 161 mX10_isSignOf 1 := Or.inl ⟨lcX10_isSignOf, gT_of (List.mem_of_getElem? (i := 1177) rfl) rfl, gT_of (List.mem_of_getElem? (i := 1178) rfl) rfl⟩
set_option maxRecDepth 100000 in
theorem LX10_170 : lV RX10 170 mX10_isSign 1 := ⟨lcX10_isSign, gT_of (List.mem_of_getElem? (i := 1213) rfl) rfl, gT_of (List.mem_of_getElem? (i := 1215) rfl) rfl, gT_of (List.mem_of_getElem? (i := 43) rfl) rfl⟩
set_option maxRecDepth 100000 in
theorem LX10_173 : lV RX10 173 mX10_wrong 1 := ⟨lcX10_wrong, gT_of (List.mem_of_getElem? (i := 1188) rfl) rfl, gT_of (List.mem_of_getElem? (i := 1190) rfl) rfl, gT_of (List.mem_of_getElem? (i := 37) rfl) rfl⟩
set_option maxRecDepth 100000 in
theorem LX10_177 : lV RX10 177 mX10_isWord 1 := ⟨lcX10_isWord, gT_of (List.mem_of_getElem? (i := 1184) rfl) rfl, gT_of (List.mem_of_getElem? (i := 1186) rfl) rfl, gT_of (List.mem_of_getElem? (i := 36) rfl) rfl⟩
set_option maxRecDepth 100000 in
theorem LX10_180 : lV RX10 180 mX10_hasWord 1 := ⟨lcX10_hasWord, gT_of (List.mem_of_getElem? (i := 1197) rfl) rfl, gT_of (List.mem_of_getElem? (i := 1199) rfl) rfl, gT_of (List.mem_of_getElem? (i := 39) rfl) rfl⟩
set_option maxRecDepth 100000 in
theorem LX10_189 : lV RX10 189 mX10_cutAll 0 := ⟨lcX10_cutAll, gT_of (List.mem_of_getElem? (i := 1161) rfl) rfl, gT_of (List.mem_of_getElem? (i := 1163) rfl) rfl, gT_of (List.mem_of_getElem? (i := 34) rfl) rfl⟩
set_option maxRecDepth 100000 in
theorem LX10_195 : lV RX10 195 mX10_line 0 := ⟨lcX10_line, gT_of (List.mem_of_getElem? (i := 1180) rfl) rfl, gT_of (List.mem_of_getElem? (i := 1182) rfl) rfl, gT_of (List.mem_of_getElem? (i := 35) rfl) rfl⟩
set_option maxRecDepth 100000 in
theorem LX10_200 : lV RX10 200 mX10_takeWord 1 := ⟨lcX10_takeWord, gT_of (List.mem_of_getElem? (i := 1193) rfl) rfl, gT_of (List.mem_of_getElem? (i := 1195) rfl) rfl, gT_of (List.mem_of_getElem? (i := 38) rfl) rfl⟩
set_option maxRecDepth 100000 in
theorem LX10_206 : lV RX10 206 mX10_opens 0 := ⟨lcX10_opens, gT_of (List.mem_of_getElem? (i := 1201) rfl) rfl, gT_of (List.mem_of_getElem? (i := 1203) rfl) rfl, gT_of (List.mem_of_getElem? (i := 40) rfl) rfl⟩
set_option maxRecDepth 100000 in
theorem LX10_209 : lV RX10 209 mX10_part 0 := ⟨lcX10_part, gT_of (List.mem_of_getElem? (i := 1205) rfl) rfl, gT_of (List.mem_of_getElem? (i := 1207) rfl) rfl, gT_of (List.mem_of_getElem? (i := 41) rfl) rfl⟩
set_option maxRecDepth 100000 in
theorem LX10_213 : lV RX10 213 mX10_goesOnBehind 0 := ⟨lcX10_goesOnBehind, gT_of (List.mem_of_getElem? (i := 1225) rfl) rfl, gT_of (List.mem_of_getElem? (i := 1227) rfl) rfl, gT_of (List.mem_of_getElem? (i := 46) rfl) rfl⟩
set_option maxRecDepth 100000 in
theorem LX10_216 : lV RX10 216 mX10_emit 2 := ⟨lcX10_emit, gT_of (List.mem_of_getElem? (i := 1221) rfl) rfl, gT_of (List.mem_of_getElem? (i := 1223) rfl) rfl, gT_of (List.mem_of_getElem? (i := 45) rfl) rfl⟩
set_option maxRecDepth 100000 in
theorem LX10_220 : lV RX10 220 mX10_takeSign 1 := ⟨lcX10_takeSign, gT_of (List.mem_of_getElem? (i := 1229) rfl) rfl, gT_of (List.mem_of_getElem? (i := 1231) rfl) rfl, gT_of (List.mem_of_getElem? (i := 47) rfl) rfl⟩
set_option maxRecDepth 100000 in
theorem LX10_223 : lV RX10 223 mX10_partWord 0 := ⟨lcX10_partWord, gT_of (List.mem_of_getElem? (i := 1209) rfl) rfl, gT_of (List.mem_of_getElem? (i := 1211) rfl) rfl, gT_of (List.mem_of_getElem? (i := 42) rfl) rfl⟩
set_option maxRecDepth 100000 in
theorem LX10_227 : lV RX10 227 mX10_hasSign 1 := ⟨lcX10_hasSign, gT_of (List.mem_of_getElem? (i := 1217) rfl) rfl, gT_of (List.mem_of_getElem? (i := 1219) rfl) rfl, gT_of (List.mem_of_getElem? (i := 44) rfl) rfl⟩
set_option maxRecDepth 100000 in
theorem LX10_231 : lS RX10 231 mX10_isTaste 1 ∨ lN2 RX10 231 mX10_isTaste 1 := Or.inl ⟨lcX10_isTaste, gT_of (List.mem_of_getElem? (i := 1238) rfl) rfl, gT_of (List.mem_of_getElem? (i := 1239) rfl) rfl⟩
set_option maxRecDepth 100000 in
theorem LX10_262 : lV RX10 262 mX10_valueOf 1 := ⟨lcX10_valueOf, gT_of (List.mem_of_getElem? (i := 1265) rfl) rfl, gT_of (List.mem_of_getElem? (i := 1267) rfl) rfl, gT_of (List.mem_of_getElem? (i := 51) rfl) rfl⟩
set_option maxRecDepth 100000 in
theorem LX10_268 : lV RX10 268 mX10_actsBy 1 := ⟨lcX10_actsBy, gT_of (List.mem_of_getElem? (i := 1261) rfl) rfl, gT_of (List.mem_of_getElem? (i := 1263) rfl) rfl, gT_of (List.mem_of_getElem? (i := 50) rfl) rfl⟩
set_option maxRecDepth 100000 in
theorem LX10_274 : lV RX10 274 mX10_isLot 1 := ⟨lcX10_isLot, gT_of (List.mem_of_getElem? (i := 1253) rfl) rfl, gT_of (List.mem_of_getElem? (i := 1255) rfl) rfl, gT_of (List.mem_of_getElem? (i := 48) rfl) rfl⟩
set_option maxRecDepth 100000 in
theorem LX10_280 : lV RX10 280 mX10_goes 1 := ⟨lcX10_goes, gT_of (List.mem_of_getElem? (i := 1257) rfl) rfl, gT_of (List.mem_of_getElem? (i := 1259) rfl) rfl, gT_of (List.mem_of_getElem? (i := 49) rfl) rfl⟩
set_option maxRecDepth 100000 in
theorem LX10_283 : lV RX10 283 mX10_newBag 1 := ⟨lcX10_newBag, gT_of (List.mem_of_getElem? (i := 1269) rfl) rfl, gT_of (List.mem_of_getElem? (i := 1271) rfl) rfl, gT_of (List.mem_of_getElem? (i := 52) rfl) rfl⟩
set_option maxRecDepth 100000 in
theorem LX10_286 : lV RX10 286 mX10_isBag 1 := ⟨lcX10_isBag, gT_of (List.mem_of_getElem? (i := 1281) rfl) rfl, gT_of (List.mem_of_getElem? (i := 1283) rfl) rfl, gT_of (List.mem_of_getElem? (i := 53) rfl) rfl⟩
set_option maxRecDepth 100000 in
theorem LX10_289 : lV RX10 289 mX10_gramsIn 1 := ⟨lcX10_gramsIn, gT_of (List.mem_of_getElem? (i := 1285) rfl) rfl, gT_of (List.mem_of_getElem? (i := 1287) rfl) rfl, gT_of (List.mem_of_getElem? (i := 54) rfl) rfl⟩
set_option maxRecDepth 100000 in
theorem LX10_295 : lV RX10 295 mX10_gives 4 := ⟨lcX10_gives, gT_of (List.mem_of_getElem? (i := 1297) rfl) rfl, gT_of (List.mem_of_getElem? (i := 1299) rfl) rfl, gT_of (List.mem_of_getElem? (i := 56) rfl) rfl⟩
set_option maxRecDepth 100000 in
theorem LX10_299 : lV RX10 299 mX10_moves 3 := ⟨lcX10_moves, gT_of (List.mem_of_getElem? (i := 1293) rfl) rfl, gT_of (List.mem_of_getElem? (i := 1295) rfl) rfl, gT_of (List.mem_of_getElem? (i := 55) rfl) rfl⟩
set_option maxRecDepth 100000 in
theorem LX10_303 : lS RX10 303 mX10_isSample 1 ∨ lN2 RX10 303 mX10_isSample 1 := Or.inl ⟨lcX10_isSample, gT_of (List.mem_of_getElem? (i := 1313) rfl) rfl, gT_of (List.mem_of_getElem? (i := 1314) rfl) rfl⟩
set_option maxRecDepth 100000 in
theorem LX10_313 : lV RX10 313 mX10_weighs 1 := ⟨lcX10_weighs, gT_of (List.mem_of_getElem? (i := 1324) rfl) rfl, gT_of (List.mem_of_getElem? (i := 1326) rfl) rfl, gT_of (List.mem_of_getElem? (i := 57) rfl) rfl⟩
set_option maxRecDepth 100000 in
theorem LX10_319 : lS RX10 319 mJ9_floorDiv_f86c9 2 ∨ lN2 RX10 319 mJ9_floorDiv_f86c9 2 := Or.inl ⟨lcJ9_floorDiv_f86c9, gT_of (List.mem_of_getElem? (i := 1334) rfl) rfl, gT_of (List.mem_of_getElem? (i := 780) rfl) rfl⟩
set_option maxRecDepth 100000 in
theorem LX10_328 : lV RX10 328 mX10_asks 1 := ⟨lcX10_asks, gT_of (List.mem_of_getElem? (i := 1347) rfl) rfl, gT_of (List.mem_of_getElem? (i := 1349) rfl) rfl, gT_of (List.mem_of_getElem? (i := 59) rfl) rfl⟩
set_option maxRecDepth 100000 in
theorem LX10_331 : lV RX10 331 mX10_tries 3 := ⟨lcX10_tries, gT_of (List.mem_of_getElem? (i := 1343) rfl) rfl, gT_of (List.mem_of_getElem? (i := 1345) rfl) rfl, gT_of (List.mem_of_getElem? (i := 58) rfl) rfl⟩
set_option maxRecDepth 100000 in
theorem LX10_337 : lV RX10 337 mX10_isInSpans 0 := ⟨lcX10_isInSpans, gT_of (List.mem_of_getElem? (i := 1351) rfl) rfl, gT_of (List.mem_of_getElem? (i := 1353) rfl) rfl, gT_of (List.mem_of_getElem? (i := 60) rfl) rfl⟩
set_option maxRecDepth 100000 in
theorem LX10_343 : lS RX10 343 mX10_isHouse 1 ∨ lN2 RX10 343 mX10_isHouse 1 := Or.inl ⟨lcX10_isHouse, gT_of (List.mem_of_getElem? (i := 1363) rfl) rfl, gT_of (List.mem_of_getElem? (i := 1364) rfl) rfl⟩
