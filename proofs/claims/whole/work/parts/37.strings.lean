/-! constant Strings: length and charAt, down to the JDK's own code -/
def mJ0_length_8abf5 : mt_T := (yJ0_length_8abf5, cJ0_length_8abf5, 1, (some .int), [
  (0, .aload_n 0, .aload 0, 1, 0, 1, 0, 0, 0),
  (4, .arraylength, .arraylength, 5, 0, 1, 0, 0, 0),
  (5, .aload_n 0, .aload 0, 6, 0, 1, 0, 0, 0),
  (6, .invokevirtual 335, .invokevirtual 335, 9, 0, 3, 0, 0, 0),
  (9, .ishr, .ishr, 10, 0, 1, 0, 0, 0),
  (10, .ireturn, .ireturn, 11, 0, 1, 0, 0, 0)])
set_option maxRecDepth 100000 in
theorem okJ0_length_8abf5 : okm mJ0_length_8abf5 = true := by decide +kernel
def mJ0_charAt_5068e : mt_T := (yJ0_charAt_5068e, cJ0_charAt_5068e, 2, (some .char), [
  (0, .aload_n 0, .aload 0, 1, 0, 1, 0, 0, 0),
  (1, .invokevirtual 492, .invokevirtual 492, 4, 0, 3, 0, 0, 0),
  (4, .ifCond .eq 12, .ifCond .eq 12, 7, 16, 3, 0, 0, 0),
  (7, .aload_n 0, .aload 0, 8, 0, 1, 0, 0, 0),
  (11, .iload_n 1, .iload 1, 12, 0, 1, 0, 0, 0),
  (12, .invokestatic 495, .invokestatic 495, 15, 0, 3, 0, 0, 0),
  (15, .ireturn, .ireturn, 16, 0, 1, 0, 0, 0),
  (16, .aload_n 0, .aload 0, 17, 0, 1, 0, 0, 0),
  (20, .iload_n 1, .iload 1, 21, 0, 1, 0, 0, 0),
  (21, .invokestatic 498, .invokestatic 498, 24, 0, 3, 0, 0, 0),
  (24, .ireturn, .ireturn, 25, 0, 1, 0, 0, 0)])
set_option maxRecDepth 100000 in
theorem okJ0_charAt_5068e : okm mJ0_charAt_5068e = true := by decide +kernel
def mJ0_coder_7d493 : mt_T := (yJ0_coder_7d493, cJ0_coder_7d493, 1, (some .byte), [
  (0, .getstatic 38, .getstatic 38, 3, 0, 3, 0, 0, 0),
  (3, .ifCond .eq 10, .ifCond .eq 10, 6, 13, 3, 0, 0, 0),
  (6, .aload_n 0, .aload 0, 7, 0, 1, 0, 0, 0),
  (10, .goto 4, .goto 4, 14, 0, 3, 0, 0, 0),
  (13, .iconst 1, .iconst 1, 14, 0, 1, 1, 0, 0),
  (14, .ireturn, .ireturn, 15, 0, 1, 0, 0, 0)])
set_option maxRecDepth 100000 in
theorem okJ0_coder_7d493 : okm mJ0_coder_7d493 = true := by decide +kernel
def mJ0_isLatin1_aae02 : mt_T := (yJ0_isLatin1_aae02, cJ0_isLatin1_aae02, 1, (some .boolean), [
  (0, .getstatic 38, .getstatic 38, 3, 0, 3, 0, 0, 0),
  (3, .ifCond .eq 14, .ifCond .eq 14, 6, 17, 3, 0, 0, 0),
  (6, .aload_n 0, .aload 0, 7, 0, 1, 0, 0, 0),
  (10, .ifCond .ne 7, .ifCond .ne 7, 13, 17, 3, 0, 0, 0),
  (13, .iconst 1, .iconst 1, 14, 0, 1, 1, 0, 0),
  (14, .goto 4, .goto 4, 18, 0, 3, 0, 0, 0),
  (17, .iconst 0, .iconst 0, 18, 0, 1, 0, 0, 0),
  (18, .ireturn, .ireturn, 19, 0, 1, 0, 0, 0)])
set_option maxRecDepth 100000 in
theorem okJ0_isLatin1_aae02 : okm mJ0_isLatin1_aae02 = true := by decide +kernel
def mJ0_checkIndex_df160 : mt_T := (yJ0_checkIndex_df160, cJ0_checkIndex_df160, 2, none, [
  (0, .iload_n 0, .iload 0, 1, 0, 1, 0, 0, 0),
  (1, .iload_n 1, .iload 1, 2, 0, 1, 0, 0, 0),
  (2, .getstatic 1053, .getstatic 1053, 5, 0, 3, 0, 0, 0),
  (5, .invokestatic 1059, .invokestatic 1059, 8, 0, 3, 0, 0, 0),
  (8, .pop, .pop, 9, 0, 1, 0, 0, 0),
  (9, .return_, .return_, 10, 0, 1, 0, 0, 0)])
set_option maxRecDepth 100000 in
theorem okJ0_checkIndex_df160 : okm mJ0_checkIndex_df160 = true := by decide +kernel
def mJ1_charAt_3b067 : mt_T := (yJ1_charAt_3b067, cJ1_charAt_3b067, 2, (some .char), [
  (0, .iload_n 1, .iload 1, 1, 0, 1, 0, 0, 0),
  (1, .aload_n 0, .aload 0, 2, 0, 1, 0, 0, 0),
  (2, .arraylength, .arraylength, 3, 0, 1, 0, 0, 0),
  (3, .invokestatic 9, .invokestatic 9, 6, 0, 3, 0, 0, 0),
  (6, .aload_n 0, .aload 0, 7, 0, 1, 0, 0, 0),
  (7, .iload_n 1, .iload 1, 8, 0, 1, 0, 0, 0),
  (8, .baload, .baload, 9, 0, 1, 0, 0, 0),
  (9, .sipush 255, .iconst 255, 12, 0, 3, 255, 0, 0),
  (12, .iand, .iand, 13, 0, 1, 0, 0, 0),
  (13, .i2c, .i2c, 14, 0, 1, 0, 0, 0),
  (14, .ireturn, .ireturn, 15, 0, 1, 0, 0, 0)])
set_option maxRecDepth 100000 in
theorem okJ1_charAt_3b067 : okm mJ1_charAt_3b067 = true := by decide +kernel
def mJ3_checkIndex_8e157 : mt_T := (yJ3_checkIndex_8e157, cJ3_checkIndex_8e157, 3, (some .int), [
  (0, .iload_n 0, .iload 0, 1, 0, 1, 0, 0, 0),
  (1, .ifCond .lt 8, .ifCond .lt 8, 4, 9, 3, 0, 0, 0),
  (4, .iload_n 0, .iload 0, 5, 0, 1, 0, 0, 0),
  (5, .iload_n 1, .iload 1, 6, 0, 1, 0, 0, 0),
  (6, .if_icmp .lt 10, .if_icmp .lt 10, 9, 16, 3, 0, 0, 0),
  (9, .aload_n 2, .aload 2, 10, 0, 1, 0, 0, 0),
  (10, .iload_n 0, .iload 0, 11, 0, 1, 0, 0, 0),
  (11, .iload_n 1, .iload 1, 12, 0, 1, 0, 0, 0),
  (12, .invokestatic 95, .invokestatic 95, 15, 0, 3, 0, 0, 0),
  (16, .iload_n 0, .iload 0, 17, 0, 1, 0, 0, 0),
  (17, .ireturn, .ireturn, 18, 0, 1, 0, 0, 0)])
set_option maxRecDepth 100000 in
theorem okJ3_checkIndex_8e157 : okm mJ3_checkIndex_8e157 = true := by decide +kernel
set_option maxRecDepth 100000 in
theorem lcJ0_charAt_5068e : lC mJ0_charAt_5068e 1 := ⟨gT_of (List.mem_of_getElem? (i := 494) rfl) rfl, gT_of (List.mem_of_getElem? (i := 74) rfl) rfl, by decide +kernel, by decide⟩
set_option maxRecDepth 100000 in
theorem lcJ0_checkIndex_df160 : lC mJ0_checkIndex_df160 2 := ⟨gT_of (List.mem_of_getElem? (i := 504) rfl) rfl, gT_of (List.mem_of_getElem? (i := 74) rfl) rfl, by decide +kernel, by decide⟩
set_option maxRecDepth 100000 in
theorem lcJ0_coder_7d493 : lC mJ0_coder_7d493 0 := ⟨gT_of (List.mem_of_getElem? (i := 488) rfl) rfl, gT_of (List.mem_of_getElem? (i := 74) rfl) rfl, by decide +kernel, by decide⟩
set_option maxRecDepth 100000 in
theorem lcJ0_isLatin1_aae02 : lC mJ0_isLatin1_aae02 0 := ⟨gT_of (List.mem_of_getElem? (i := 498) rfl) rfl, gT_of (List.mem_of_getElem? (i := 74) rfl) rfl, by decide +kernel, by decide⟩
set_option maxRecDepth 100000 in
theorem lcJ0_length_8abf5 : lC mJ0_length_8abf5 0 := ⟨gT_of (List.mem_of_getElem? (i := 484) rfl) rfl, gT_of (List.mem_of_getElem? (i := 74) rfl) rfl, by decide +kernel, by decide⟩
set_option maxRecDepth 100000 in
theorem lcJ1_charAt_3b067 : lC mJ1_charAt_3b067 2 := ⟨gT_of (List.mem_of_getElem? (i := 501) rfl) rfl, gT_of (List.mem_of_getElem? (i := 75) rfl) rfl, by decide +kernel, by decide⟩
set_option maxRecDepth 100000 in
theorem lcJ3_checkIndex_8e157 : lC mJ3_checkIndex_8e157 3 := ⟨gT_of (List.mem_of_getElem? (i := 509) rfl) rfl, gT_of (List.mem_of_getElem? (i := 76) rfl) rfl, by decide +kernel, by decide⟩
set_option maxRecDepth 100000 in
theorem LJ0_335 : lV RJ0 335 mJ0_coder_7d493 0 := ⟨lcJ0_coder_7d493, gT_of (List.mem_of_getElem? (i := 485) rfl) rfl, gT_of (List.mem_of_getElem? (i := 486) rfl) rfl, gT_of (List.mem_of_getElem? (i := 487) rfl) rfl⟩
set_option maxRecDepth 100000 in
theorem LJ0_492 : lV RJ0 492 mJ0_isLatin1_aae02 0 := ⟨lcJ0_isLatin1_aae02, gT_of (List.mem_of_getElem? (i := 495) rfl) rfl, gT_of (List.mem_of_getElem? (i := 496) rfl) rfl, gT_of (List.mem_of_getElem? (i := 497) rfl) rfl⟩
set_option maxRecDepth 100000 in
theorem LJ0_495 : lS RJ0 495 mJ1_charAt_3b067 2 ∨ lN2 RJ0 495 mJ1_charAt_3b067 2 := Or.inl ⟨lcJ1_charAt_3b067, gT_of (List.mem_of_getElem? (i := 499) rfl) rfl, gT_of (List.mem_of_getElem? (i := 500) rfl) rfl⟩
set_option maxRecDepth 100000 in
theorem LJ0_1059 : lS RJ0 1059 mJ3_checkIndex_8e157 3 ∨ lN2 RJ0 1059 mJ3_checkIndex_8e157 3 := Or.inl ⟨lcJ3_checkIndex_8e157, gT_of (List.mem_of_getElem? (i := 507) rfl) rfl, gT_of (List.mem_of_getElem? (i := 508) rfl) rfl⟩
set_option maxRecDepth 100000 in
theorem LJ1_9 : lS RJ1 9 mJ0_checkIndex_df160 2 ∨ lN2 RJ1 9 mJ0_checkIndex_df160 2 := Or.inl ⟨lcJ0_checkIndex_df160, gT_of (List.mem_of_getElem? (i := 502) rfl) rfl, gT_of (List.mem_of_getElem? (i := 503) rfl) rfl⟩
set_option maxRecDepth 100000 in
theorem LX8_88 : lV RX8 88 mJ0_length_8abf5 0 := ⟨lcJ0_length_8abf5, gT_of (List.mem_of_getElem? (i := 481) rfl) rfl, gT_of (List.mem_of_getElem? (i := 482) rfl) rfl, gT_of (List.mem_of_getElem? (i := 483) rfl) rfl⟩
set_option maxRecDepth 100000 in
theorem LX8_93 : lV RX8 93 mJ0_charAt_5068e 1 := ⟨lcJ0_charAt_5068e, gT_of (List.mem_of_getElem? (i := 491) rfl) rfl, gT_of (List.mem_of_getElem? (i := 492) rfl) rfl, gT_of (List.mem_of_getElem? (i := 493) rfl) rfl⟩
set_option maxRecDepth 100000 in
theorem kfValue : Cond.fieldLink RJ0 9 "java/lang/String" "value" "[B" ∈ gT := gT_of (List.mem_of_getElem? (i := 1402) rfl) rfl
set_option maxRecDepth 100000 in
theorem kfCoder : Cond.fieldLink RJ0 15 "java/lang/String" "coder" "B" ∈ gT := gT_of (List.mem_of_getElem? (i := 1403) rfl) rfl
set_option maxRecDepth 100000 in
theorem kfCompact : Cond.fieldLink RJ0 38 "java/lang/String" "COMPACT_STRINGS" "Z" ∈ gT := gT_of (List.mem_of_getElem? (i := 489) rfl) rfl
set_option maxRecDepth 100000 in
theorem kfSioobe : Cond.fieldLink RJ0 1053 "jdk/internal/util/Preconditions" "SIOOBE_FORMATTER" "Ljava/util/function/BiFunction;" ∈ gT := gT_of (List.mem_of_getElem? (i := 505) rfl) rfl
section GST
variable {y : mt_T} {d mc ms : Nat} {Q : zt} {cells slots : Nat} {pc : Nat} {lo st : List Value} {sh : sh_T} {hp : hp_T} {ia : Instr} {nx a b j0 : Nat} {v0 : Int32} {w0 : Int64}
theorem kS {E : en_T} {s : State} {H : Heap} (h : kx E s) (hw : wd E sh hp H) : vk_S 10 slen sbyt E.2.2.2.2 (fun i => E.2.2.2.2 (200 + i)) (fun q => E.1 ≤ q) s H ∧ va_Z "java/lang/String" "COMPACT_STRINGS" "Z" (.int 1) (fun q => E.1 ≤ q) s H ∧ kst E s H := h.2.2.2 H (by rw [hw.1]; omega) hw.2.1
theorem g_ldcS {u : UInt32} {x : Nat} (h : lk pc y.2.2.2.2 = some (pc, ia, .ldc x, nx, a, b, v0, w0, j0)) (ho : y.1.cls = RX8) (hi : u.toNat < 10) (hx : sidx.getD u.toNat 0 = x) (kk : gG y d mc ms Q cells slots (nx, lo, .float u :: st, sh, hp)) : gG y d mc ms Q cells slots (pc, lo, st, sh, hp) := by
  intro ok p l e s m args below meth c E H locs ls C hX hw hL hlv
  obtain ⟨hd, rfl⟩ := dflt_of (n := 2) rfl (by decide) rfl ok h
  have hr := C.2.2.2.2.2.2.2.2.2.2.1 u.toNat hi
  rw [hx] at hr
  exact va_ldcS C.1 C.2.1 (own := RX8) (by rw [← ho]; exact C.2.2.2.2.1) hr hd (kk ok p l e s m args below meth c E H locs ls C hX hw hL hlv)
theorem g_getV {u w : UInt32} {x : Nat} (hd : decode y.2.1 pc = .ok (.getfield x, 3)) (hl : Cond.fieldLink y.1.cls x "java/lang/String" "value" "[B" ∈ gT) (hi : u.toNat < 10) (hw2 : w.toNat = 200 + u.toNat) (kk : gG y d mc ms Q cells slots (pc + 3, lo, .float w :: st, sh, hp)) : gG y d mc ms Q cells slots (pc, lo, .float u :: st, sh, hp) := by
  intro ok p l e s m args below meth c E H locs ls C hX hw hL hlv
  have k := kk ok p l e s m args below meth c E H locs ls C hX hw hL hlv
  obtain ⟨cf, kf, fi, f, cell, h1, h2, h3, h4, h5, h6⟩ := ((kS C.2.2.2.2.2.2.2.2 hw).1.1 u.toNat hi).2.2.1
  have hv : cv E (.float w) = .ref (E.2.2.2.2 (200 + u.toNat)) := by show Value.ref (E.2.2.2.2 w.toNat) = _; rw [hw2]
  exact W.getf C.1 C.2.1 C.2.2.2.2.1 (C.2.2.2.2.2.1 _ hl) h1 h2 h3 h4 (v := cv E (.float w)) (by rw [hv]; exact h5) rfl rfl hd k
theorem g_getC {u : UInt32} {x : Nat} (hd : decode y.2.1 pc = .ok (.getfield x, 3)) (hl : Cond.fieldLink y.1.cls x "java/lang/String" "coder" "B" ∈ gT) (hi : u.toNat < 10) (kk : gG y d mc ms Q cells slots (pc + 3, lo, .int 0 :: st, sh, hp)) : gG y d mc ms Q cells slots (pc, lo, .float u :: st, sh, hp) := by
  intro ok p l e s m args below meth c E H locs ls C hX hw hL hlv
  have k := kk ok p l e s m args below meth c E H locs ls C hX hw hL hlv
  obtain ⟨cf, kf, fi, f, cell, h1, h2, h3, h4, h5, h6⟩ := ((kS C.2.2.2.2.2.2.2.2 hw).1.1 u.toNat hi).2.1
  exact W.getf C.1 C.2.1 C.2.2.2.2.1 (C.2.2.2.2.2.1 _ hl) h1 h2 h3 h4 (v := .int 0) h5 rfl rfl hd k
theorem g_getCo {x : Nat} (hd : decode y.2.1 pc = .ok (.getstatic x, 3)) (hl : Cond.fieldLink y.1.cls x "java/lang/String" "COMPACT_STRINGS" "Z" ∈ gT) (kk : gG y d mc ms Q cells slots (pc + 3, lo, .int 1 :: st, sh, hp)) : gG y d mc ms Q cells slots (pc, lo, st, sh, hp) := by
  intro ok p l e s m args below meth c E H locs ls C hX hw hL hlv
  have k := kk ok p l e s m args below meth c E H locs ls C hX hw hL hlv
  obtain ⟨cf, kf, fi, f, a, cell, h1, h2, h3, h4, h5, h6, h7, h8⟩ := (kS C.2.2.2.2.2.2.2.2 hw).2.1
  exact W.gets C.1 C.2.1 C.2.2.2.2.1 (C.2.2.2.2.2.1 _ hl) h1 h2 h3 h4 h5 (fun e => by rw [e] at h6; cases h6) h7 rfl hd k
theorem g_getSi {x : Nat} (hd : decode y.2.1 pc = .ok (.getstatic x, 3)) (hl : Cond.fieldLink y.1.cls x "jdk/internal/util/Preconditions" "SIOOBE_FORMATTER" "Ljava/util/function/BiFunction;" ∈ gT) (kk : ∀ w : Value, (w = .null ∨ w = .float 150) → gG y d mc ms Q cells slots (pc + 3, lo, w :: st, sh, hp)) : gG y d mc ms Q cells slots (pc, lo, st, sh, hp) := by
  intro ok p l e s m args below meth c E H locs ls C hX hw hL hlv
  rcases (kS C.2.2.2.2.2.2.2.2 hw).2.2.1 with q | q
  · have k := kk .null (Or.inl rfl) ok p l e s m args below meth c E H locs ls C hX hw hL hlv
    obtain ⟨cf, kf, fi, f, a, cell, h1, h2, h3, h4, h5, h6, h7, h8⟩ := q
    exact W.gets C.1 C.2.1 C.2.2.2.2.1 (C.2.2.2.2.2.1 _ hl) h1 h2 h3 h4 h5 (fun e => by rw [e] at h6; cases h6) h7 rfl hd k
  · have k := kk (.float 150) (Or.inr rfl) ok p l e s m args below meth c E H locs ls C hX hw hL hlv
    obtain ⟨cf, kf, fi, f, a, cell, h1, h2, h3, h4, h5, h6, h7, h8⟩ := q
    exact W.gets C.1 C.2.1 C.2.2.2.2.1 (C.2.2.2.2.2.1 _ hl) h1 h2 h3 h4 h5 (fun e => by rw [e] at h6; cases h6) h7 rfl hd k
theorem g_alenS {w : UInt32} {i : Nat} (h : lk pc y.2.2.2.2 = some (pc, ia, .arraylength, nx, a, b, v0, w0, j0)) (hi : i < 10) (hw2 : w.toNat = 200 + i) (kk : gG y d mc ms Q cells slots (nx, lo, .int (nI (slen.getD i 0)) :: st, sh, hp)) : gG y d mc ms Q cells slots (pc, lo, .float w :: st, sh, hp) := by
  intro ok p l e s m args below meth c E H locs ls C hX hw hL hlv
  obtain ⟨hd, rfl⟩ := dflt_of (n := 1) rfl (by decide) rfl ok h
  have k := kk ok p l e s m args below meth c E H locs ls C hX hw hL hlv
  obtain ⟨cell, h1, h2, h3, h4, h5, h6, h7⟩ := ((kS C.2.2.2.2.2.2.2.2 hw).1.1 i hi).2.2.2
  have hv : cv E (.float w) = .ref (E.2.2.2.2 (200 + i)) := by show Value.ref (E.2.2.2.2 w.toNat) = _; rw [hw2]
  show W p l e _ s m args below meth c H locs cells slots _ (F0 m pc ls (cv E (.float w) :: st.map (cv E)))
  rw [hv]
  exact W.alen (n := nI (slen.getD i 0)) C.1 C.2.1 h1 h2 h5 rfl rfl hd k
theorem g_baldS {w : UInt32} {i j : Nat} {x : Int32} (h : lk pc y.2.2.2.2 = some (pc, ia, .baload, nx, a, b, v0, w0, j0)) (hi : i < 10) (hw2 : w.toNat = 200 + i) (hx : x.toInt = (j : Int)) (hj : j < slen.getD i 0) (kk : gG y d mc ms Q cells slots (nx, lo, .int ((sbyt.getD i []).getD j 0) :: st, sh, hp)) : gG y d mc ms Q cells slots (pc, lo, .int x :: .float w :: st, sh, hp) := by
  intro ok p l e s m args below meth c E H locs ls C hX hw hL hlv
  obtain ⟨hd, rfl⟩ := dflt_of (n := 1) rfl (by decide) rfl ok h
  have k := kk ok p l e s m args below meth c E H locs ls C hX hw hL hlv
  obtain ⟨cell, h1, h2, h3, h4, h5, h6, h7⟩ := ((kS C.2.2.2.2.2.2.2.2 hw).1.1 i hi).2.2.2
  have hv : cv E (.float w) = .ref (E.2.2.2.2 (200 + i)) := by show Value.ref (E.2.2.2.2 w.toNat) = _; rw [hw2]
  show W p l e _ s m args below meth c H locs cells slots _ (F0 m pc ls (.int x :: cv E (.float w) :: st.map (cv E)))
  rw [hv]
  have hcl := cl_of hx
  have hin := in_of hx hj
  exact W.bald (v := .int ((sbyt.getD i []).getD j 0)) C.1 C.2.1 h1 h2 h3 (fun q => hin (q.imp id (fun q => by omega))) (by rw [hcl, h6 _ hj]) rfl rfl hd k
theorem g_nret {Q : Option Value → sh_T → hp_T → Prop} {v : Int32} {ty : FieldType} (h : lk pc y.2.2.2.2 = some (pc, ia, .ireturn, nx, a, b, v0, w0, j0)) (hr : y.2.2.2.1 = some ty) (hv : narrow ty (.int v) = .int v) (hq : Q (some (.int v)) sh hp) (h1 : cells ≤ mc := by decide) (h2 : slots ≤ ms := by decide) : gG y d mc ms (zQ mc ms Q) cells slots (pc, lo, [.int v], sh, hp) := by
  intro ok p l e s m args below meth c E H locs ls C hX hw hL hl
  obtain ⟨hd, -⟩ := dflt_of rfl (by decide) rfl ok h
  have hlocks := C.2.2.2.2.2.2.1
  exact W.widen h1 h2 (W.zret (v := v) C.1 C.2.1 (C.2.2.1.trans hr) hv (fun t ht hW => ⟨some (.int v), sh, hp, rfl, hq, by rw [ht]; exact hw⟩) hL hd hlocks)
theorem g_i2c {x : Int32} (h : lk pc y.2.2.2.2 = some (pc, ia, .i2c, nx, a, b, v0, w0, j0)) (kk : gG y d mc ms Q cells slots (nx, lo, .int (x.toUInt32 % 65536).toInt32 :: st, sh, hp)) : gG y d mc ms Q cells slots (pc, lo, .int x :: st, sh, hp) := by
  intro ok p l e s m args below meth c E H locs ls C hX hw hL hlv
  obtain ⟨hd, rfl⟩ := dflt_of (n := 1) rfl (by decide) rfl ok h
  exact lv_i2c C.1 C.2.1 hd rfl (kk ok p l e s m args below meth c E H locs ls C hX hw hL hlv)
theorem g_pop {v : Value} (h : lk pc y.2.2.2.2 = some (pc, ia, .pop, nx, a, b, v0, w0, j0)) (hv : v.category = 1) (kk : gG y d mc ms Q cells slots (nx, lo, st, sh, hp)) : gG y d mc ms Q cells slots (pc, lo, v :: st, sh, hp) := by
  intro ok p l e s m args below meth c E H locs ls C hX hw hL hlv
  obtain ⟨hd, rfl⟩ := dflt_of (n := 1) rfl (by decide) rfl ok h
  exact lv_pop C.1 C.2.1 hd (by rw [cv_cat]; exact hv) (kk ok p l e s m args below meth c E H locs ls C hX hw hL hlv)
theorem g_callVS {y' : mt_T} {x n : Nat} {u : UInt32} {as r : List Value} (h : lk pc y.2.2.2.2 = some (pc, ia, .invokevirtual x, nx, a, b, v0, w0, j0)) (hl : lV y.1.cls x y' n) (hcut : cut n [] st = some (as, .float u :: r)) (hi : u.toNat < 10) (hcls : y'.1.cls = "java/lang/String") (hW : Nat.ble (cats r) 8 = true)
    (kk : gC y' d 0 0 (.float u :: as) sh hp (fun ans sh' hp' => gG y (d + 1) mc ms Q cells slots (nx, lo, ans.toList ++ r, sh', hp'))) (h1 : cells ≤ mc := by decide) (h2 : slots ≤ ms := by decide) : gG y (d + 1) mc ms Q cells slots (pc, lo, st, sh, hp) := by
  intro ok p l e s m args below meth c E H locs ls C hX hw hL hlv
  obtain ⟨hd, rfl⟩ := dflt_of (n := 3) rfl (by decide) rfl ok h
  obtain ⟨⟨hcode, hini, hdd, hml⟩, hlink, hin, hsel⟩ := hl
  obtain ⟨cs, e1, e2, e3⟩ := cut_ok n [] st as _ hcut
  rw [List.append_nil] at e1
  subst e1
  have hts := C.2.2.2.2.2.1
  have hrecv : ∃ cell : Cell, H[E.2.2.2.2 u.toNat]? = some cell ∧ cell.vm.isStatics = false ∧ s.vm.findClass y'.1.cls = some cell.cls := by
    obtain ⟨cell, h1, h2, h3, -⟩ := ((kS C.2.2.2.2.2.2.2.2 hw).1.1 u.toNat hi).1
    exact ⟨cell, h1, h2, by rw [hcls]; exact h3⟩
  have hcw : CallW (rm (d + 1) mc ms) s args y.1.cls y'.1.cls x y'.1 y'.2.1 y'.2.2.1 y'.2.2.2.1 (wsm y') (rm d 0 0) 0 0 n := ⟨callB_of n hts (wsm_good (fun w hw => hw) hcode) rfl rfl rfl (hts _ hini) (hts _ hlink) hdd ⟨Nat.le_refl _, by show 8 + (y'.2.2.1 + 11) + (40 * d + 2080) ≤ 40 * (d + 1) + 2080; omega⟩, hts _ hin, hts _ hsel⟩
  refine run_go (Q' := fun ans sh' hp' => gG y (d + 1) mc ms Q cells slots (pc + 3, lo, ans.toList ++ r, sh', hp')) (va_runV (As := as.map (cv E)) (rest := r.map (cv E)) (b := E.2.2.2.2 u.toNat) ⟨C.1, C.2.1, C.2.2.2.1, C.2.2.2.2.1, hts⟩ (kk l E) hcw ⟨pcc_blind, hrecv, fun U hU hWU => ⟨rfl, by rw [hU]; exact hw, kx_move hWU C.2.2.2.2.2.2.2.2⟩⟩ rfl (by simp [e2]) hlv.1 ?_ (lv_room (by rw [cats_eq]; exact Nat.le_of_ble_eq_true hW)) hd ⟨h1, h2⟩) hL (fun ans sh' hp' H1 locs1 hk hw1 hL1 => ?_)
  · show List.map (cv E) st = _
    rw [e3]
    simp [List.map_reverse]
    rfl
  · have := hk ok p l e s m args below meth c E H1 locs1 ls C hX hw1 hL1 hlv
    have e9 : List.map (cv E) (ans.toList ++ r) = (ans.map (cv E)).toList ++ r.map (cv E) := by cases ans <;> simp
    simp only [e9] at this
    exact this
end GST
theorem g_enterN {y : mt_T} {d mc ms : Nat} {lo : List Value} {sh : sh_T} {hp : hp_T} {Q : Option Value → sh_T → hp_T → Prop} {as : List Value} (ok : okm y = true) (hy : plainFor y.1 = true) (h2 : ∀ E : en_T, (lg_sl (as.map (cv E))).length ≤ y.2.2.1) (h3 : ∀ (E : en_T) (i : Nat) (v : Value), lo[i]? = some v → isV v = true → (i, cv E v) ∈ lv_args 0 (as.map (cv E))) (k : gG y d mc ms (zQ mc ms Q) 0 0 (0, lo, [], sh, hp)) : gC y d mc ms as sh hp Q := by
  intro l E
  refine met_ofF (cc := y.2.1) (maxL := y.2.2.1) (ret := y.2.2.2.1) hy rfl ?_
  intro p e s m args below meth c s₁ B hml hv
  obtain ⟨rfl, hw, hK⟩ := hv
  have hts := atoms_spec (ws := wsm y) B.pre
  have hl := lv_entry (as.map (cv E)) (n := y.2.2.1) (h2 E)
  rw [lg_entry_eq]
  refine k ok p l e s m _ below meth c E s.heap [] _ ⟨B.exec, B.bytes, B.returns, hml, findClass_of_methodNamed B.named, fun w hw => hts w (List.mem_cons_of_mem _ hw), B.notSynchronized, (name_of_methodNamed B.named B.method).1, hK⟩ trivial hw (fun _ h => by cases h) (hs_sub hl ?_)
  rintro ⟨i, w⟩ hq
  obtain ⟨v, hv, hs, rfl⟩ := al_mem.mp hq
  exact h3 E i v hv hs
def chS (i j : Nat) : Int32 := (sbyt.getD i []).getD j 0
theorem chS_ok : ∀ i, i < 10 → ∀ j, j < slen.getD i 0 → ((((sbyt.getD i []).getD j 0) &&& 255).toUInt32 % 65536).toInt32 = chS i j ∧ narrow .char (.int (chS i j)) = .int (chS i j) := by decide +kernel
theorem slen_ok : ∀ i, i < 10 → slen.getD i 0 < 9 ∧ 3 ≤ slen.getD i 0 ∧ (nI (slen.getD i 0)) >>> ((0 : Int32) &&& 31) = nI (slen.getD i 0) := by decide +kernel
section S37
variable {d : Nat} {sh : sh_T} {hp : hp_T} {Q : Option Value → sh_T → hp_T → Prop} {b : Bool} {xs : sh_T}
theorem c_J3_checkIndex {i n : Int32} {iI nI : Int} {w : Value} (iE : i.toInt = iI) (nE : n.toInt = nI) (h0 : 0 ≤ iI) (h1 : iI < nI) (hw : w = .null ∨ w = .float 150) (hq : Q (some (.int i)) sh hp) : gC mJ3_checkIndex_8e157 d 0 0 [.int i, .int n, w] sh hp Q := by
  rcases hw with rfl | rfl
  · refine g_enterN (lo := [.int i, .int n, .retAddr 0]) okJ3_checkIndex_8e157 (by decide +kernel) (fun E => Nat.le_refl 3) (fun E i2 v hv hs => ?_) ?_
    · match i2, hv with
      | 0, hv => simp at hv; subst hv; exact List.mem_cons_self
      | 1, hv => simp at hv; subst hv; exact List.mem_cons_of_mem _ List.mem_cons_self
      | 2, hv => simp at hv; subst hv; cases hs
      | k + 3, hv => simp at hv
    refine g_run 1 rfl ?_
    refine gz_lt (kx := iI) rfl iE (fun k => by exfalso; omega) (fun _ => ?_)
    refine g_run 2 rfl ?_
    refine gj_lt (kx := iI) (kz := nI) rfl iE nE (fun _ => ?_) (fun k => by exfalso; omega)
    refine g_run 1 rfl ?_
    exact g_iret rfl rfl hq
  · refine g_enter okJ3_checkIndex_8e157 (by decide +kernel) rfl ?_
    refine g_run 1 rfl ?_
    refine gz_lt (kx := iI) rfl iE (fun k => by exfalso; omega) (fun _ => ?_)
    refine g_run 2 rfl ?_
    refine gj_lt (kx := iI) (kz := nI) rfl iE nE (fun _ => ?_) (fun k => by exfalso; omega)
    refine g_run 1 rfl ?_
    exact g_iret rfl rfl hq
theorem c_J0_checkIndex {i n : Int32} {iI nI : Int} (iE : i.toInt = iI) (nE : n.toInt = nI) (h0 : 0 ≤ iI) (h1 : iI < nI) (hq : Q none sh hp) : gC mJ0_checkIndex_df160 (d + 1) 0 0 [.int i, .int n] sh hp Q := by
  refine g_enter okJ0_checkIndex_df160 (by decide +kernel) rfl ?_
  refine g_run 2 rfl ?_
  refine g_getSi (x := 1053) (by decide +kernel) kfSioobe (fun w hw => ?_)
  rcases hw with rfl | rfl
  · refine g_callS0 rfl LJ0_1059 rfl rfl ?_
    refine c_J3_checkIndex iE nE h0 h1 (Or.inl rfl) ?_
    refine g_pop rfl rfl ?_
    exact g_vret rfl rfl hq
  · refine g_callS0 rfl LJ0_1059 rfl rfl ?_
    refine c_J3_checkIndex iE nE h0 h1 (Or.inr rfl) ?_
    refine g_pop rfl rfl ?_
    exact g_vret rfl rfl hq
theorem c_J1_charAt {w : UInt32} {i j : Nat} {x : Int32} (hi : i < 10) (hw : w.toNat = 200 + i) (xE : x.toInt = (j : Int)) (hj : j < slen.getD i 0) (hq : Q (some (.int (chS i j))) sh hp) : gC mJ1_charAt_3b067 (d + 2) 0 0 [.float w, .int x] sh hp Q := by
  refine g_enter okJ1_charAt_3b067 (by decide +kernel) rfl ?_
  have hs := slen_ok i hi
  refine g_run 2 rfl ?_
  refine g_alenS rfl hi hw ?_
  refine g_callS0 rfl LJ1_9 rfl rfl ?_
  refine c_J0_checkIndex xE (nI_toInt (by omega)) (by omega) (by omega) ?_
  refine g_run 2 rfl ?_
  refine g_baldS rfl hi hw xE hj ?_
  refine g_run 2 rfl ?_
  refine g_i2c rfl ?_
  obtain ⟨e1, e2⟩ := chS_ok i hi j hj
  rw [e1]
  exact g_nret rfl rfl e2 hq
theorem c_J0_isLatin1 {u : UInt32} (hi : u.toNat < 10) (hq : Q (some (.int 1)) sh hp) : gC mJ0_isLatin1_aae02 d 0 0 [.float u] sh hp Q := by
  refine g_enter okJ0_isLatin1_aae02 (by decide +kernel) rfl ?_
  refine g_getCo (x := 38) (by decide +kernel) kfCompact ?_
  refine gz_eq (kx := 1) rfl (show (1 : Int32).toInt = 1 from by decide) (fun q => absurd q (by decide)) (fun _ => ?_)
  refine g_run 1 rfl ?_
  refine g_getC (x := 15) (by decide +kernel) kfCoder hi ?_
  refine gz_ne (kx := 0) rfl (show (0 : Int32).toInt = 0 from by decide) (fun q => absurd rfl q) (fun _ => ?_)
  refine g_run 2 rfl ?_
  exact g_zret rfl rfl (Or.inr rfl) hq
theorem c_J0_coder {u : UInt32} (hi : u.toNat < 10) (hq : Q (some (.int 0)) sh hp) : gC mJ0_coder_7d493 d 0 0 [.float u] sh hp Q := by
  refine g_enter okJ0_coder_7d493 (by decide +kernel) rfl ?_
  refine g_getCo (x := 38) (by decide +kernel) kfCompact ?_
  refine gz_eq (kx := 1) rfl (show (1 : Int32).toInt = 1 from by decide) (fun q => absurd q (by decide)) (fun _ => ?_)
  refine g_run 1 rfl ?_
  refine g_getC (x := 15) (by decide +kernel) kfCoder hi ?_
  refine g_run 1 rfl ?_
  exact g_nret rfl rfl (by decide +kernel) hq
theorem f200 {u : UInt32} (hi : u.toNat < 10) : (u + 200).toNat = 200 + u.toNat := by
  rw [UInt32.toNat_add]
  have : (200 : UInt32).toNat = 200 := rfl
  omega
theorem c_J0_length {u : UInt32} (hi : u.toNat < 10) (hq : Q (some (.int (nI (slen.getD u.toNat 0)))) sh hp) : gC mJ0_length_8abf5 (d + 1) 0 0 [.float u] sh hp Q := by
  refine g_enter okJ0_length_8abf5 (by decide +kernel) rfl ?_
  refine g_run 1 rfl ?_
  refine g_getV (x := 9) (w := u + 200) (by decide +kernel) kfValue hi (f200 hi) ?_
  refine g_alenS rfl hi (f200 hi) ?_
  refine g_run 1 rfl ?_
  refine g_callVS rfl LJ0_335 rfl hi rfl rfl ?_
  refine c_J0_coder hi ?_
  refine g_run 1 rfl ?_
  rw [(slen_ok u.toNat hi).2.2]
  exact g_iret rfl rfl hq
theorem c_J0_charAt {u : UInt32} {j : Nat} {x : Int32} (hi : u.toNat < 10) (xE : x.toInt = (j : Int)) (hj : j < slen.getD u.toNat 0) (hq : Q (some (.int (chS u.toNat j))) sh hp) : gC mJ0_charAt_5068e (d + 3) 0 0 [.float u, .int x] sh hp Q := by
  refine g_enter okJ0_charAt_5068e (by decide +kernel) rfl ?_
  refine g_run 1 rfl ?_
  refine g_callVS rfl LJ0_492 rfl hi rfl rfl ?_
  refine c_J0_isLatin1 hi ?_
  refine gz_eq (kx := 1) rfl (show (1 : Int32).toInt = 1 from by decide) (fun q => absurd q (by decide)) (fun _ => ?_)
  refine g_run 1 rfl ?_
  refine g_getV (x := 9) (w := u + 200) (by decide +kernel) kfValue hi (f200 hi) ?_
  refine g_run 1 rfl ?_
  refine g_callS0 rfl LJ0_495 rfl rfl ?_
  refine c_J1_charAt hi (f200 hi) xE hj ?_
  exact g_nret rfl rfl (chS_ok _ hi _ hj).2 hq
end S37
