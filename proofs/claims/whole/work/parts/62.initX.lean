/-! the constructors of the class -/
set_option maxRecDepth 100000 in
theorem n_X3_init_1 {d : Nat} {Q : Option Value → sh_T → hp_T → Prop} (hq : Q none PW7 HP1) : gC mX3_init (d + 1) 3 60 [.ref 1] PW1 HP0 Q := by
  refine g_enter okX3_init (plainFor_of_name rfl) rfl ?_
  refine g_run 1 rfl ?_
  refine g_obj rfl ko_99 rfl ?_
  refine g_run 5 rfl ?_
  refine g_arrI (N := 12) (k := 2) (sh' := PW2) rfl rfl rfl (by decide) (by decide) rfl (by decide) (by decide) ?_
  refine g_putW (ty := .array .int) (sh' := PW3) rfl rfl rfl (by first | exact Or.inl rfl | exact Or.inr ⟨rfl, rfl, rfl⟩) (by decide +kernel) (fun E => rfl) (fun E => rfl) (by decide) rfl ?_
  refine g_run 2 rfl ?_
  refine g_arrI (N := 12) (k := 3) (sh' := PW4) rfl rfl rfl (by decide) (by decide) rfl (by decide) (by decide) ?_
  refine g_putW (ty := .array .int) (sh' := PW5) rfl rfl rfl (by first | exact Or.inl rfl | exact Or.inr ⟨rfl, rfl, rfl⟩) (by decide +kernel) (fun E => rfl) (fun E => rfl) (by decide) rfl ?_
  refine g_run 2 rfl ?_
  refine g_arrI (N := 36) (k := 4) (sh' := PW6) rfl rfl rfl (by decide) (by decide) rfl (by decide) (by decide) ?_
  refine g_putW (ty := .array .int) (sh' := PW7) rfl rfl rfl (by first | exact Or.inl rfl | exact Or.inr ⟨rfl, rfl, rfl⟩) (by decide +kernel) (fun E => rfl) (fun E => rfl) (by decide) rfl ?_
  exact g_vret rfl rfl hq
set_option maxRecDepth 100000 in
theorem n_X7_init_1 {d : Nat} {Q : Option Value → sh_T → hp_T → Prop} (hq : Q none PW11 HP2) : gC mX7_init (d + 1) 1 600 [.ref 5] PW9 HP1 Q := by
  refine g_enter okX7_init (plainFor_of_name rfl) rfl ?_
  refine g_run 1 rfl ?_
  refine g_obj rfl ko_125 rfl ?_
  refine g_run 2 rfl ?_
  refine g_arrB (N := 600) (k := 6) (sh' := PW10) rfl rfl rfl (by decide) (by decide) rfl (by decide) (by decide) ?_
  refine g_putW (ty := .array .byte) (sh' := PW11) rfl rfl rfl (by first | exact Or.inl rfl | exact Or.inr ⟨rfl, rfl, rfl⟩) (by decide +kernel) (fun E => rfl) (fun E => rfl) (by decide) rfl ?_
  refine g_run 3 rfl ?_
  exact g_vret rfl rfl hq
set_option maxRecDepth 100000 in
theorem n_X8_begin_1 {d : Nat} {Q : Option Value → sh_T → hp_T → Prop} (hq : Q none PW15 HP3) : gC mX8_begin (d + 0) 0 0 [.ref 8] PW15 HP2 Q := by
  refine g_enter okX8_begin (plainFor_of_name rfl) rfl ?_
  refine g_run 12 rfl ?_
  exact g_vret rfl rfl hq
set_option maxRecDepth 100000 in
theorem n_X8_init_1 {d : Nat} {Q : Option Value → sh_T → hp_T → Prop} (hq : Q none PW15 HP3) : gC mX8_init (d + 1) 0 0 [.ref 8, .ref 5] PW14 HP2 Q := by
  refine g_enter okX8_init (plainFor_of_name rfl) rfl ?_
  refine g_run 1 rfl ?_
  refine g_obj rfl ko_148 rfl ?_
  refine g_run 2 rfl ?_
  refine g_putW (ty := .object "RoastHouse$Tape") (sh' := PW15) rfl rfl rfl (by first | exact Or.inl rfl | exact Or.inr ⟨rfl, rfl, rfl⟩) (by decide +kernel) (fun E => rfl) (fun E => rfl) (by decide) rfl ?_
  refine g_run 1 rfl ?_
  refine g_callV0 rfl LX8_13 rfl rfl rfl rfl ?_
  refine n_X8_begin_1 ?_
  exact g_vret rfl rfl hq
set_option maxRecDepth 100000 in
theorem n_X6_init_1 {d : Nat} {Q : Option Value → sh_T → hp_T → Prop} (hq : Q none PW27 HP4) : gC mX6_init (d + 1) 5 664 [.ref 9] PW17 HP3 Q := by
  refine g_enter okX6_init (plainFor_of_name rfl) rfl ?_
  refine g_run 1 rfl ?_
  refine g_obj rfl ko_177 rfl ?_
  refine g_run 5 rfl ?_
  refine g_arrI (N := 16) (k := 10) (sh' := PW18) rfl rfl rfl (by decide) (by decide) rfl (by decide) (by decide) ?_
  refine g_putW (ty := .array .int) (sh' := PW19) rfl rfl rfl (by first | exact Or.inl rfl | exact Or.inr ⟨rfl, rfl, rfl⟩) (by decide +kernel) (fun E => rfl) (fun E => rfl) (by decide) rfl ?_
  refine g_run 2 rfl ?_
  refine g_arrI (N := 16) (k := 11) (sh' := PW20) rfl rfl rfl (by decide) (by decide) rfl (by decide) (by decide) ?_
  refine g_putW (ty := .array .int) (sh' := PW21) rfl rfl rfl (by first | exact Or.inl rfl | exact Or.inr ⟨rfl, rfl, rfl⟩) (by decide +kernel) (fun E => rfl) (fun E => rfl) (by decide) rfl ?_
  refine g_run 2 rfl ?_
  refine g_arrI (N := 16) (k := 12) (sh' := PW22) rfl rfl rfl (by decide) (by decide) rfl (by decide) (by decide) ?_
  refine g_putW (ty := .array .int) (sh' := PW23) rfl rfl rfl (by first | exact Or.inl rfl | exact Or.inr ⟨rfl, rfl, rfl⟩) (by decide +kernel) (fun E => rfl) (fun E => rfl) (by decide) rfl ?_
  refine g_run 2 rfl ?_
  refine g_arrI (N := 600) (k := 13) (sh' := PW24) rfl rfl rfl (by decide) (by decide) rfl (by decide) (by decide) ?_
  refine g_putW (ty := .array .int) (sh' := PW25) rfl rfl rfl (by first | exact Or.inl rfl | exact Or.inr ⟨rfl, rfl, rfl⟩) (by decide +kernel) (fun E => rfl) (fun E => rfl) (by decide) rfl ?_
  refine g_run 5 rfl ?_
  refine g_arrI (N := 16) (k := 14) (sh' := PW26) rfl rfl rfl (by decide) (by decide) rfl (by decide) (by decide) ?_
  refine g_putW (ty := .array .int) (sh' := PW27) rfl rfl rfl (by first | exact Or.inl rfl | exact Or.inr ⟨rfl, rfl, rfl⟩) (by decide +kernel) (fun E => rfl) (fun E => rfl) (by decide) rfl ?_
  refine g_run 3 rfl ?_
  exact g_vret rfl rfl hq
set_option maxRecDepth 100000 in
theorem n_X5_init_1 {d : Nat} {Q : Option Value → sh_T → hp_T → Prop} (hq : Q none PW28 HP5) : gC mX5_init (d + 2) 7 677 [.ref 7, .ref 5] PW13 HP2 Q := by
  refine g_enter okX5_init (plainFor_of_name rfl) rfl ?_
  refine g_run 1 rfl ?_
  refine g_obj rfl ko_142 rfl ?_
  refine g_run 1 rfl ?_
  refine g_new (ci := 8) (N := 5) (k := 8) (fs := [.null, .int 0, .int 0, .int 0, .int 0]) (sh' := PW14) rfl rfl rfl kl_143 ki_8 kn_8 rfl rfl rfl (by decide) rfl (by decide) (by decide) ?_
  refine g_run 2 rfl ?_
  refine g_callI (mc' := 0) (ms' := 0) rfl LX5_9 rfl rfl ?_
  refine n_X8_init_1 ?_
  refine g_putW (ty := .object "RoastHouse$Tokens") (sh' := PW16) rfl rfl rfl (by first | exact Or.inl rfl | exact Or.inr ⟨rfl, rfl, rfl⟩) (by decide +kernel) (fun E => rfl) (fun E => rfl) (by decide) rfl ?_
  refine g_run 1 rfl ?_
  refine g_new (ci := 6) (N := 8) (k := 9) (fs := [.int 0, .null, .null, .null, .null, .int 0, .null, .int 0]) (sh' := PW17) rfl rfl rfl kl_172 ki_6 kn_6 rfl rfl rfl (by decide) rfl (by decide) (by decide) ?_
  refine g_run 1 rfl ?_
  refine g_callI (mc' := 5) (ms' := 664) rfl LX5_20 rfl rfl ?_
  refine n_X6_init_1 ?_
  refine g_putW (ty := .object "RoastHouse$Rules") (sh' := PW28) rfl rfl rfl (by first | exact Or.inl rfl | exact Or.inr ⟨rfl, rfl, rfl⟩) (by decide +kernel) (fun E => rfl) (fun E => rfl) (by decide) rfl ?_
  refine g_run 3 rfl ?_
  exact g_vret rfl rfl hq
set_option maxRecDepth 100000 in
theorem n_X4_start_1 {d : Nat} {Q : Option Value → sh_T → hp_T → Prop} (hq : Q none PW32 HP8) : gC mX4_start (d + 0) 0 0 [.ref 15, .int 0] PW32 HP7 Q := by
  refine g_enter okX4_start (plainFor_of_name rfl) rfl ?_
  refine g_run 23 rfl ?_
  refine g_putZ rfl rfl rfl rfl (by decide) ?_
  refine g_run 6 rfl ?_
  exact g_vret rfl rfl hq
set_option maxRecDepth 100000 in
theorem n_X4_init_1 {d : Nat} {Q : Option Value → sh_T → hp_T → Prop} (hq : Q none PW32 HP8) : gC mX4_init (d + 1) 1 20 [.ref 15] PW30 HP5 Q := by
  refine g_enter okX4_init (plainFor_of_name rfl) rfl ?_
  refine g_run 1 rfl ?_
  refine g_obj rfl ko_223 rfl ?_
  refine g_run 2 rfl ?_
  refine g_arrI (N := 20) (k := 16) (sh' := PW31) rfl rfl rfl (by decide) (by decide) rfl (by decide) (by decide) ?_
  refine g_putW (ty := .array .int) (sh' := PW32) rfl rfl rfl (by first | exact Or.inl rfl | exact Or.inr ⟨rfl, rfl, rfl⟩) (by decide +kernel) (fun E => rfl) (fun E => rfl) (by decide) rfl ?_
  refine g_run 3 rfl ?_
  refine g_callS0 rfl LX4_15 rfl rfl ?_
  refine c_fil (c := 16) (n := 20) rfl (by decide) ?_
  show gG _ _ _ _ _ _ _ (_, _, _, _, HP6)
  refine g_run 2 rfl ?_
  refine g_putZ rfl rfl rfl rfl (by decide) ?_
  refine g_run 2 rfl ?_
  refine g_callV0 rfl LX4_25 rfl rfl rfl rfl ?_
  refine n_X4_start_1 ?_
  exact g_vret rfl rfl hq
set_option maxRecDepth 100000 in
theorem n_X0_init_1 {d : Nat} {Q : Option Value → sh_T → hp_T → Prop} (hq : Q none PW48 HP9) : gC mX0_init (d + 1) 7 984 [.ref 17] PW34 HP8 Q := by
  refine g_enter okX0_init (plainFor_of_name rfl) rfl ?_
  refine g_run 1 rfl ?_
  refine g_obj rfl ko_274 rfl ?_
  refine g_run 8 rfl ?_
  refine g_arrI (N := 60) (k := 18) (sh' := PW35) rfl rfl rfl (by decide) (by decide) rfl (by decide) (by decide) ?_
  refine g_putW (ty := .array .int) (sh' := PW36) rfl rfl rfl (by first | exact Or.inl rfl | exact Or.inr ⟨rfl, rfl, rfl⟩) (by decide +kernel) (fun E => rfl) (fun E => rfl) (by decide) rfl ?_
  refine g_run 2 rfl ?_
  refine g_arrI (N := 60) (k := 19) (sh' := PW37) rfl rfl rfl (by decide) (by decide) rfl (by decide) (by decide) ?_
  refine g_putW (ty := .array .int) (sh' := PW38) rfl rfl rfl (by first | exact Or.inl rfl | exact Or.inr ⟨rfl, rfl, rfl⟩) (by decide +kernel) (fun E => rfl) (fun E => rfl) (by decide) rfl ?_
  refine g_run 2 rfl ?_
  refine g_arrI (N := 60) (k := 20) (sh' := PW39) rfl rfl rfl (by decide) (by decide) rfl (by decide) (by decide) ?_
  refine g_putW (ty := .array .int) (sh' := PW40) rfl rfl rfl (by first | exact Or.inl rfl | exact Or.inr ⟨rfl, rfl, rfl⟩) (by decide +kernel) (fun E => rfl) (fun E => rfl) (by decide) rfl ?_
  refine g_run 2 rfl ?_
  refine g_arrI (N := 60) (k := 21) (sh' := PW41) rfl rfl rfl (by decide) (by decide) rfl (by decide) (by decide) ?_
  refine g_putW (ty := .array .int) (sh' := PW42) rfl rfl rfl (by first | exact Or.inl rfl | exact Or.inr ⟨rfl, rfl, rfl⟩) (by decide +kernel) (fun E => rfl) (fun E => rfl) (by decide) rfl ?_
  refine g_run 2 rfl ?_
  refine g_arrI (N := 720) (k := 22) (sh' := PW43) rfl rfl rfl (by decide) (by decide) rfl (by decide) (by decide) ?_
  refine g_putW (ty := .array .int) (sh' := PW44) rfl rfl rfl (by first | exact Or.inl rfl | exact Or.inr ⟨rfl, rfl, rfl⟩) (by decide +kernel) (fun E => rfl) (fun E => rfl) (by decide) rfl ?_
  refine g_run 2 rfl ?_
  refine g_arrI (N := 12) (k := 23) (sh' := PW45) rfl rfl rfl (by decide) (by decide) rfl (by decide) (by decide) ?_
  refine g_putW (ty := .array .int) (sh' := PW46) rfl rfl rfl (by first | exact Or.inl rfl | exact Or.inr ⟨rfl, rfl, rfl⟩) (by decide +kernel) (fun E => rfl) (fun E => rfl) (by decide) rfl ?_
  refine g_run 2 rfl ?_
  refine g_arrI (N := 12) (k := 24) (sh' := PW47) rfl rfl rfl (by decide) (by decide) rfl (by decide) (by decide) ?_
  refine g_putW (ty := .array .int) (sh' := PW48) rfl rfl rfl (by first | exact Or.inl rfl | exact Or.inr ⟨rfl, rfl, rfl⟩) (by decide +kernel) (fun E => rfl) (fun E => rfl) (by decide) rfl ?_
  exact g_vret rfl rfl hq
set_option maxRecDepth 100000 in
theorem n_X2_init_1 {d : Nat} {Q : Option Value → sh_T → hp_T → Prop} (hq : Q none PW54 HP12) : gC mX2_init (d + 1) 2 120 [.ref 25] PW50 HP9 Q := by
  refine g_enter okX2_init (plainFor_of_name rfl) rfl ?_
  refine g_run 1 rfl ?_
  refine g_obj rfl ko_313 rfl ?_
  refine g_run 2 rfl ?_
  refine g_arrI (N := 100) (k := 26) (sh' := PW51) rfl rfl rfl (by decide) (by decide) rfl (by decide) (by decide) ?_
  refine g_putW (ty := .array .int) (sh' := PW52) rfl rfl rfl (by first | exact Or.inl rfl | exact Or.inr ⟨rfl, rfl, rfl⟩) (by decide +kernel) (fun E => rfl) (fun E => rfl) (by decide) rfl ?_
  refine g_run 3 rfl ?_
  refine g_callS0 rfl LX2_15 rfl rfl ?_
  refine c_fil (c := 26) (n := 100) rfl (by decide) ?_
  show gG _ _ _ _ _ _ _ (_, _, _, _, HP10)
  refine g_run 2 rfl ?_
  refine g_arrI (N := 20) (k := 27) (sh' := PW53) rfl rfl rfl (by decide) (by decide) rfl (by decide) (by decide) ?_
  refine g_putW (ty := .array .int) (sh' := PW54) rfl rfl rfl (by first | exact Or.inl rfl | exact Or.inr ⟨rfl, rfl, rfl⟩) (by decide +kernel) (fun E => rfl) (fun E => rfl) (by decide) rfl ?_
  refine g_run 3 rfl ?_
  refine g_callS0 rfl LX2_15 rfl rfl ?_
  refine c_fil (c := 27) (n := 20) rfl (by decide) ?_
  show gG _ _ _ _ _ _ _ (_, _, _, _, HP11)
  refine g_run 6 rfl ?_
  exact g_vret rfl rfl hq
set_option maxRecDepth 100000 in
theorem n_X1_init_1 {d : Nat} {Q : Option Value → sh_T → hp_T → Prop} (hq : Q none PW70 HP14) : gC mX1_init (d + 1) 7 42 [.ref 28] PW56 HP12 Q := by
  refine g_enter okX1_init (plainFor_of_name rfl) rfl ?_
  refine g_run 1 rfl ?_
  refine g_obj rfl ko_333 rfl ?_
  refine g_run 2 rfl ?_
  refine g_putZ rfl rfl rfl rfl (by decide) ?_
  refine g_run 2 rfl ?_
  refine g_arrI (N := 12) (k := 29) (sh' := PW57) rfl rfl rfl (by decide) (by decide) rfl (by decide) (by decide) ?_
  refine g_putW (ty := .array .int) (sh' := PW58) rfl rfl rfl (by first | exact Or.inl rfl | exact Or.inr ⟨rfl, rfl, rfl⟩) (by decide +kernel) (fun E => rfl) (fun E => rfl) (by decide) rfl ?_
  refine g_run 2 rfl ?_
  refine g_arrI (N := 3) (k := 30) (sh' := PW59) rfl rfl rfl (by decide) (by decide) rfl (by decide) (by decide) ?_
  refine g_putW (ty := .array .int) (sh' := PW60) rfl rfl rfl (by first | exact Or.inl rfl | exact Or.inr ⟨rfl, rfl, rfl⟩) (by decide +kernel) (fun E => rfl) (fun E => rfl) (by decide) rfl ?_
  refine g_run 2 rfl ?_
  refine g_arrI (N := 3) (k := 31) (sh' := PW61) rfl rfl rfl (by decide) (by decide) rfl (by decide) (by decide) ?_
  refine g_putW (ty := .array .int) (sh' := PW62) rfl rfl rfl (by first | exact Or.inl rfl | exact Or.inr ⟨rfl, rfl, rfl⟩) (by decide +kernel) (fun E => rfl) (fun E => rfl) (by decide) rfl ?_
  refine g_run 3 rfl ?_
  refine g_callS0 rfl LX1_25 rfl rfl ?_
  refine c_fil (c := 31) (n := 3) rfl (by decide) ?_
  show gG _ _ _ _ _ _ _ (_, _, _, _, HP13)
  refine g_run 5 rfl ?_
  refine g_arrI (N := 6) (k := 32) (sh' := PW63) rfl rfl rfl (by decide) (by decide) rfl (by decide) (by decide) ?_
  refine g_putW (ty := .array .int) (sh' := PW64) rfl rfl rfl (by first | exact Or.inl rfl | exact Or.inr ⟨rfl, rfl, rfl⟩) (by decide +kernel) (fun E => rfl) (fun E => rfl) (by decide) rfl ?_
  refine g_run 2 rfl ?_
  refine g_arrI (N := 6) (k := 33) (sh' := PW65) rfl rfl rfl (by decide) (by decide) rfl (by decide) (by decide) ?_
  refine g_putW (ty := .array .int) (sh' := PW66) rfl rfl rfl (by first | exact Or.inl rfl | exact Or.inr ⟨rfl, rfl, rfl⟩) (by decide +kernel) (fun E => rfl) (fun E => rfl) (by decide) rfl ?_
  refine g_run 2 rfl ?_
  refine g_arrI (N := 6) (k := 34) (sh' := PW67) rfl rfl rfl (by decide) (by decide) rfl (by decide) (by decide) ?_
  refine g_putW (ty := .array .int) (sh' := PW68) rfl rfl rfl (by first | exact Or.inl rfl | exact Or.inr ⟨rfl, rfl, rfl⟩) (by decide +kernel) (fun E => rfl) (fun E => rfl) (by decide) rfl ?_
  refine g_run 2 rfl ?_
  refine g_arrI (N := 6) (k := 35) (sh' := PW69) rfl rfl rfl (by decide) (by decide) rfl (by decide) (by decide) ?_
  refine g_putW (ty := .array .int) (sh' := PW70) rfl rfl rfl (by first | exact Or.inl rfl | exact Or.inr ⟨rfl, rfl, rfl⟩) (by decide +kernel) (fun E => rfl) (fun E => rfl) (by decide) rfl ?_
  refine g_run 3 rfl ?_
  exact g_vret rfl rfl hq
set_option maxRecDepth 100000 in
theorem n_X6_init_2 {d : Nat} {Q : Option Value → sh_T → hp_T → Prop} (hq : Q none PW84 HP16) : gC mX6_init (d + 1) 5 664 [.ref 37] PW74 HP15 Q := by
  refine g_enter okX6_init (plainFor_of_name rfl) rfl ?_
  refine g_run 1 rfl ?_
  refine g_obj rfl ko_177 rfl ?_
  refine g_run 5 rfl ?_
  refine g_arrI (N := 16) (k := 38) (sh' := PW75) rfl rfl rfl (by decide) (by decide) rfl (by decide) (by decide) ?_
  refine g_putW (ty := .array .int) (sh' := PW76) rfl rfl rfl (by first | exact Or.inl rfl | exact Or.inr ⟨rfl, rfl, rfl⟩) (by decide +kernel) (fun E => rfl) (fun E => rfl) (by decide) rfl ?_
  refine g_run 2 rfl ?_
  refine g_arrI (N := 16) (k := 39) (sh' := PW77) rfl rfl rfl (by decide) (by decide) rfl (by decide) (by decide) ?_
  refine g_putW (ty := .array .int) (sh' := PW78) rfl rfl rfl (by first | exact Or.inl rfl | exact Or.inr ⟨rfl, rfl, rfl⟩) (by decide +kernel) (fun E => rfl) (fun E => rfl) (by decide) rfl ?_
  refine g_run 2 rfl ?_
  refine g_arrI (N := 16) (k := 40) (sh' := PW79) rfl rfl rfl (by decide) (by decide) rfl (by decide) (by decide) ?_
  refine g_putW (ty := .array .int) (sh' := PW80) rfl rfl rfl (by first | exact Or.inl rfl | exact Or.inr ⟨rfl, rfl, rfl⟩) (by decide +kernel) (fun E => rfl) (fun E => rfl) (by decide) rfl ?_
  refine g_run 2 rfl ?_
  refine g_arrI (N := 600) (k := 41) (sh' := PW81) rfl rfl rfl (by decide) (by decide) rfl (by decide) (by decide) ?_
  refine g_putW (ty := .array .int) (sh' := PW82) rfl rfl rfl (by first | exact Or.inl rfl | exact Or.inr ⟨rfl, rfl, rfl⟩) (by decide +kernel) (fun E => rfl) (fun E => rfl) (by decide) rfl ?_
  refine g_run 5 rfl ?_
  refine g_arrI (N := 16) (k := 42) (sh' := PW83) rfl rfl rfl (by decide) (by decide) rfl (by decide) (by decide) ?_
  refine g_putW (ty := .array .int) (sh' := PW84) rfl rfl rfl (by first | exact Or.inl rfl | exact Or.inr ⟨rfl, rfl, rfl⟩) (by decide +kernel) (fun E => rfl) (fun E => rfl) (by decide) rfl ?_
  refine g_run 3 rfl ?_
  exact g_vret rfl rfl hq
set_option maxRecDepth 100000 in
theorem n_X9_init_1 {d : Nat} {Q : Option Value → sh_T → hp_T → Prop} (hq : Q none PW85 HP17) : gC mX9_init (d + 3) 42 3229 [.ref 0] PW0 HP0 Q := by
  refine g_enter okX9_init (plainFor_of_name rfl) rfl ?_
  refine g_run 1 rfl ?_
  refine g_obj rfl ko_91 rfl ?_
  refine g_run 1 rfl ?_
  refine g_new (ci := 3) (N := 4) (k := 1) (fs := [.int 0, .null, .null, .null]) (sh' := PW1) rfl rfl rfl kl_94 ki_3 kn_3 rfl rfl rfl (by decide) rfl (by decide) (by decide) ?_
  refine g_run 1 rfl ?_
  refine g_callI (mc' := 3) (ms' := 60) rfl LX9_9 rfl rfl ?_
  refine n_X3_init_1 ?_
  refine g_putW (ty := .object "RoastHouse$GreenStore") (sh' := PW8) rfl rfl rfl (by first | exact Or.inl rfl | exact Or.inr ⟨rfl, rfl, rfl⟩) (by decide +kernel) (fun E => rfl) (fun E => rfl) (by decide) rfl ?_
  refine g_run 1 rfl ?_
  refine g_new (ci := 7) (N := 2) (k := 5) (fs := [.null, .int 0]) (sh' := PW9) rfl rfl rfl kl_120 ki_7 kn_7 rfl rfl rfl (by decide) rfl (by decide) (by decide) ?_
  refine g_run 1 rfl ?_
  refine g_callI (mc' := 1) (ms' := 600) rfl LX9_18 rfl rfl ?_
  refine n_X7_init_1 ?_
  refine g_putW (ty := .object "RoastHouse$Tape") (sh' := PW12) rfl rfl rfl (by first | exact Or.inl rfl | exact Or.inr ⟨rfl, rfl, rfl⟩) (by decide +kernel) (fun E => rfl) (fun E => rfl) (by decide) rfl ?_
  refine g_run 1 rfl ?_
  refine g_new (ci := 5) (N := 3) (k := 7) (fs := [.null, .null, .int 0]) (sh' := PW13) rfl rfl rfl kl_137 ki_5 kn_5 rfl rfl rfl (by decide) rfl (by decide) (by decide) ?_
  refine g_run 3 rfl ?_
  refine g_callI (mc' := 7) (ms' := 677) rfl LX9_25 rfl rfl ?_
  refine n_X5_init_1 ?_
  refine g_putW (ty := .object "RoastHouse$RuleReader") (sh' := PW29) rfl rfl rfl (by first | exact Or.inl rfl | exact Or.inr ⟨rfl, rfl, rfl⟩) (by decide +kernel) (fun E => rfl) (fun E => rfl) (by decide) rfl ?_
  refine g_run 1 rfl ?_
  refine g_new (ci := 4) (N := 12) (k := 15) (fs := [.int 0, .null, .int 0, .int 0, .int 0, .int 0, .int 0, .int 0, .int 0, .int 0, .int 0, .int 0]) (sh' := PW30) rfl rfl rfl kl_218 ki_4 kn_4 rfl rfl rfl (by decide) rfl (by decide) (by decide) ?_
  refine g_run 1 rfl ?_
  refine g_callI (mc' := 1) (ms' := 20) rfl LX9_34 rfl rfl ?_
  refine n_X4_init_1 ?_
  refine g_putW (ty := .object "RoastHouse$Roaster") (sh' := PW33) rfl rfl rfl (by first | exact Or.inl rfl | exact Or.inr ⟨rfl, rfl, rfl⟩) (by decide +kernel) (fun E => rfl) (fun E => rfl) (by decide) rfl ?_
  refine g_run 1 rfl ?_
  refine g_new (ci := 0) (N := 9) (k := 17) (fs := [.int 0, .int 0, .null, .null, .null, .null, .null, .null, .null]) (sh' := PW34) rfl rfl rfl kl_269 ki_0 kn_0 rfl rfl rfl (by decide) rfl (by decide) (by decide) ?_
  refine g_run 1 rfl ?_
  refine g_callI (mc' := 7) (ms' := 984) rfl LX9_41 rfl rfl ?_
  refine n_X0_init_1 ?_
  refine g_putW (ty := .object "RoastHouse$Bags") (sh' := PW49) rfl rfl rfl (by first | exact Or.inl rfl | exact Or.inr ⟨rfl, rfl, rfl⟩) (by decide +kernel) (fun E => rfl) (fun E => rfl) (by decide) rfl ?_
  refine g_run 1 rfl ?_
  refine g_new (ci := 2) (N := 4) (k := 25) (fs := [.null, .null, .long 0, .long 0]) (sh' := PW50) rfl rfl rfl kl_308 ki_2 kn_2 rfl rfl rfl (by decide) rfl (by decide) (by decide) ?_
  refine g_run 1 rfl ?_
  refine g_callI (mc' := 2) (ms' := 120) rfl LX9_48 rfl rfl ?_
  refine n_X2_init_1 ?_
  refine g_putW (ty := .object "RoastHouse$Cups") (sh' := PW55) rfl rfl rfl (by first | exact Or.inl rfl | exact Or.inr ⟨rfl, rfl, rfl⟩) (by decide +kernel) (fun E => rfl) (fun E => rfl) (by decide) rfl ?_
  refine g_run 1 rfl ?_
  refine g_new (ci := 1) (N := 10) (k := 28) (fs := [.int 0, .null, .null, .null, .int 0, .null, .null, .null, .null, .int 0]) (sh' := PW56) rfl rfl rfl kl_328 ki_1 kn_1 rfl rfl rfl (by decide) rfl (by decide) (by decide) ?_
  refine g_run 1 rfl ?_
  refine g_callI (mc' := 7) (ms' := 42) rfl LX9_55 rfl rfl ?_
  refine n_X1_init_1 ?_
  refine g_putW (ty := .object "RoastHouse$Blender") (sh' := PW71) rfl rfl rfl (by first | exact Or.inl rfl | exact Or.inr ⟨rfl, rfl, rfl⟩) (by decide +kernel) (fun E => rfl) (fun E => rfl) (by decide) rfl ?_
  refine g_run 2 rfl ?_
  refine g_arrI (N := 10) (k := 36) (sh' := PW72) rfl rfl rfl (by decide) (by decide) rfl (by decide) (by decide) ?_
  refine g_putW (ty := .array .int) (sh' := PW73) rfl rfl rfl (by first | exact Or.inl rfl | exact Or.inr ⟨rfl, rfl, rfl⟩) (by decide +kernel) (fun E => rfl) (fun E => rfl) (by decide) rfl ?_
  refine g_run 3 rfl ?_
  refine g_callS0 rfl LX9_64 rfl rfl ?_
  refine c_fil (c := 36) (n := 10) rfl (by decide) ?_
  show gG _ _ _ _ _ _ _ (_, _, _, _, HP15)
  refine g_run 1 rfl ?_
  refine g_new (ci := 6) (N := 8) (k := 37) (fs := [.int 0, .null, .null, .null, .null, .int 0, .null, .int 0]) (sh' := PW74) rfl rfl rfl kl_369 ki_6 kn_6 rfl rfl rfl (by decide) rfl (by decide) (by decide) ?_
  refine g_run 1 rfl ?_
  refine g_callI (mc' := 5) (ms' := 664) rfl LX9_72 rfl rfl ?_
  refine n_X6_init_2 ?_
  refine g_putW (ty := .object "RoastHouse$Rules") (sh' := PW85) rfl rfl rfl (by first | exact Or.inl rfl | exact Or.inr ⟨rfl, rfl, rfl⟩) (by decide +kernel) (fun E => rfl) (fun E => rfl) (by decide) rfl ?_
  refine g_run 3 rfl ?_
  exact g_vret rfl rfl hq
