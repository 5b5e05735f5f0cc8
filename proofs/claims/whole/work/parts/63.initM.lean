/-! the constructor of the reference: its straight part -/
set_option maxRecDepth 100000 in
theorem n_X10a {d : Nat} {Q : Option Value → sh_T → hp_T → Prop} (hq : gG mX10_init (d + 1) 33 6994 (zQ 33 6994 Q) 33 6994 (337, [.ref 43, .retAddr 0, .retAddr 0], [], PW152, HP18)) : gC mX10_init (d + 1) 33 6994 [.ref 43] PW86 HP17 Q := by
  refine g_enter okX10_init (plainFor_of_name rfl) rfl ?_
  refine g_run 1 rfl ?_
  refine g_obj rfl ko_964 rfl ?_
  refine g_run 2 rfl ?_
  refine g_arrI (N := 600) (k := 44) (sh' := PW87) rfl rfl rfl (by decide) (by decide) rfl (by decide) (by decide) ?_
  refine g_putW (ty := .array .int) (sh' := PW88) rfl rfl rfl (by first | exact Or.inl rfl | exact Or.inr ⟨rfl, rfl, rfl⟩) (by decide +kernel) (fun E => rfl) (fun E => rfl) (by decide) rfl ?_
  refine g_run 2 rfl ?_
  refine g_arrI (N := 602) (k := 45) (sh' := PW89) rfl rfl rfl (by decide) (by decide) rfl (by decide) (by decide) ?_
  refine g_putW (ty := .array .int) (sh' := PW90) rfl rfl rfl (by first | exact Or.inl rfl | exact Or.inr ⟨rfl, rfl, rfl⟩) (by decide +kernel) (fun E => rfl) (fun E => rfl) (by decide) rfl ?_
  refine g_run 2 rfl ?_
  refine g_arrI (N := 602) (k := 46) (sh' := PW91) rfl rfl rfl (by decide) (by decide) rfl (by decide) (by decide) ?_
  refine g_putW (ty := .array .int) (sh' := PW92) rfl rfl rfl (by first | exact Or.inl rfl | exact Or.inr ⟨rfl, rfl, rfl⟩) (by decide +kernel) (fun E => rfl) (fun E => rfl) (by decide) rfl ?_
  refine g_run 2 rfl ?_
  refine g_arrL (N := 602) (k := 47) (sh' := PW93) rfl rfl rfl (by decide) (by decide) rfl (by decide) (by decide) ?_
  refine g_putW (ty := .array .long) (sh' := PW94) rfl rfl rfl (by first | exact Or.inl rfl | exact Or.inr ⟨rfl, rfl, rfl⟩) (by decide +kernel) (fun E => rfl) (fun E => rfl) (by decide) rfl ?_
  refine g_run 2 rfl ?_
  refine g_arrL (N := 10) (k := 48) (sh' := PW95) rfl rfl rfl (by decide) (by decide) rfl (by decide) (by decide) ?_
  refine g_run 3 rfl ?_
  refine g_last (j := 0) rfl rfl (by decide) (by decide) ?_
  refine g_run 3 rfl ?_
  refine g_last (j := 1) rfl rfl (by decide) (by decide) ?_
  refine g_run 3 rfl ?_
  refine g_last (j := 2) rfl rfl (by decide) (by decide) ?_
  refine g_run 3 rfl ?_
  refine g_last (j := 3) rfl rfl (by decide) (by decide) ?_
  refine g_run 3 rfl ?_
  refine g_last (j := 4) rfl rfl (by decide) (by decide) ?_
  refine g_run 3 rfl ?_
  refine g_last (j := 5) rfl rfl (by decide) (by decide) ?_
  refine g_run 3 rfl ?_
  refine g_last (j := 6) rfl rfl (by decide) (by decide) ?_
  refine g_run 3 rfl ?_
  refine g_last (j := 7) rfl rfl (by decide) (by decide) ?_
  refine g_run 3 rfl ?_
  refine g_last (j := 8) rfl rfl (by decide) (by decide) ?_
  refine g_run 3 rfl ?_
  refine g_last (j := 9) rfl rfl (by decide) (by decide) ?_
  refine g_putW (ty := .array .long) (sh' := PW96) rfl rfl rfl (by first | exact Or.inl rfl | exact Or.inr ⟨rfl, rfl, rfl⟩) (by decide +kernel) (fun E => rfl) (fun E => rfl) (by decide) rfl ?_
  refine g_run 2 rfl ?_
  refine g_arrI (N := 2) (k := 49) (sh' := PW97) rfl rfl rfl (by decide) (by decide) rfl (by decide) (by decide) ?_
  refine g_putW (ty := .array .int) (sh' := PW98) rfl rfl rfl (by first | exact Or.inl rfl | exact Or.inr ⟨rfl, rfl, rfl⟩) (by decide +kernel) (fun E => rfl) (fun E => rfl) (by decide) rfl ?_
  refine g_run 2 rfl ?_
  refine g_arrI (N := 32) (k := 50) (sh' := PW99) rfl rfl rfl (by decide) (by decide) rfl (by decide) (by decide) ?_
  refine g_putW (ty := .array .int) (sh' := PW100) rfl rfl rfl (by first | exact Or.inl rfl | exact Or.inr ⟨rfl, rfl, rfl⟩) (by decide +kernel) (fun E => rfl) (fun E => rfl) (by decide) rfl ?_
  refine g_run 2 rfl ?_
  refine g_arrI (N := 32) (k := 51) (sh' := PW101) rfl rfl rfl (by decide) (by decide) rfl (by decide) (by decide) ?_
  refine g_putW (ty := .array .int) (sh' := PW102) rfl rfl rfl (by first | exact Or.inl rfl | exact Or.inr ⟨rfl, rfl, rfl⟩) (by decide +kernel) (fun E => rfl) (fun E => rfl) (by decide) rfl ?_
  refine g_run 2 rfl ?_
  refine g_arrI (N := 32) (k := 52) (sh' := PW103) rfl rfl rfl (by decide) (by decide) rfl (by decide) (by decide) ?_
  refine g_putW (ty := .array .int) (sh' := PW104) rfl rfl rfl (by first | exact Or.inl rfl | exact Or.inr ⟨rfl, rfl, rfl⟩) (by decide +kernel) (fun E => rfl) (fun E => rfl) (by decide) rfl ?_
  refine g_run 2 rfl ?_
  refine g_arrI (N := 1320) (k := 53) (sh' := PW105) rfl rfl rfl (by decide) (by decide) rfl (by decide) (by decide) ?_
  refine g_putW (ty := .array .int) (sh' := PW106) rfl rfl rfl (by first | exact Or.inl rfl | exact Or.inr ⟨rfl, rfl, rfl⟩) (by decide +kernel) (fun E => rfl) (fun E => rfl) (by decide) rfl ?_
  refine g_run 2 rfl ?_
  refine g_arrI (N := 1320) (k := 54) (sh' := PW107) rfl rfl rfl (by decide) (by decide) rfl (by decide) (by decide) ?_
  refine g_putW (ty := .array .int) (sh' := PW108) rfl rfl rfl (by first | exact Or.inl rfl | exact Or.inr ⟨rfl, rfl, rfl⟩) (by decide +kernel) (fun E => rfl) (fun E => rfl) (by decide) rfl ?_
  refine g_run 2 rfl ?_
  refine g_arrI (N := 7) (k := 55) (sh' := PW109) rfl rfl rfl (by decide) (by decide) rfl (by decide) (by decide) ?_
  refine g_putW (ty := .array .int) (sh' := PW110) rfl rfl rfl (by first | exact Or.inl rfl | exact Or.inr ⟨rfl, rfl, rfl⟩) (by decide +kernel) (fun E => rfl) (fun E => rfl) (by decide) rfl ?_
  refine g_run 2 rfl ?_
  refine g_arrI (N := 7) (k := 56) (sh' := PW111) rfl rfl rfl (by decide) (by decide) rfl (by decide) (by decide) ?_
  refine g_putW (ty := .array .int) (sh' := PW112) rfl rfl rfl (by first | exact Or.inl rfl | exact Or.inr ⟨rfl, rfl, rfl⟩) (by decide +kernel) (fun E => rfl) (fun E => rfl) (by decide) rfl ?_
  refine g_run 2 rfl ?_
  refine g_arrI (N := 7) (k := 57) (sh' := PW113) rfl rfl rfl (by decide) (by decide) rfl (by decide) (by decide) ?_
  refine g_putW (ty := .array .int) (sh' := PW114) rfl rfl rfl (by first | exact Or.inl rfl | exact Or.inr ⟨rfl, rfl, rfl⟩) (by decide +kernel) (fun E => rfl) (fun E => rfl) (by decide) rfl ?_
  refine g_run 2 rfl ?_
  refine g_arrI (N := 7) (k := 58) (sh' := PW115) rfl rfl rfl (by decide) (by decide) rfl (by decide) (by decide) ?_
  refine g_putW (ty := .array .int) (sh' := PW116) rfl rfl rfl (by first | exact Or.inl rfl | exact Or.inr ⟨rfl, rfl, rfl⟩) (by decide +kernel) (fun E => rfl) (fun E => rfl) (by decide) rfl ?_
  refine g_run 2 rfl ?_
  refine g_arrI (N := 660) (k := 59) (sh' := PW117) rfl rfl rfl (by decide) (by decide) rfl (by decide) (by decide) ?_
  refine g_putW (ty := .array .int) (sh' := PW118) rfl rfl rfl (by first | exact Or.inl rfl | exact Or.inr ⟨rfl, rfl, rfl⟩) (by decide +kernel) (fun E => rfl) (fun E => rfl) (by decide) rfl ?_
  refine g_run 2 rfl ?_
  refine g_arrI (N := 12) (k := 60) (sh' := PW119) rfl rfl rfl (by decide) (by decide) rfl (by decide) (by decide) ?_
  refine g_putW (ty := .array .int) (sh' := PW120) rfl rfl rfl (by first | exact Or.inl rfl | exact Or.inr ⟨rfl, rfl, rfl⟩) (by decide +kernel) (fun E => rfl) (fun E => rfl) (by decide) rfl ?_
  refine g_run 2 rfl ?_
  refine g_arrI (N := 12) (k := 61) (sh' := PW121) rfl rfl rfl (by decide) (by decide) rfl (by decide) (by decide) ?_
  refine g_putW (ty := .array .int) (sh' := PW122) rfl rfl rfl (by first | exact Or.inl rfl | exact Or.inr ⟨rfl, rfl, rfl⟩) (by decide +kernel) (fun E => rfl) (fun E => rfl) (by decide) rfl ?_
  refine g_run 2 rfl ?_
  refine g_arrI (N := 36) (k := 62) (sh' := PW123) rfl rfl rfl (by decide) (by decide) rfl (by decide) (by decide) ?_
  refine g_putW (ty := .array .int) (sh' := PW124) rfl rfl rfl (by first | exact Or.inl rfl | exact Or.inr ⟨rfl, rfl, rfl⟩) (by decide +kernel) (fun E => rfl) (fun E => rfl) (by decide) rfl ?_
  refine g_run 2 rfl ?_
  refine g_arrI (N := 720) (k := 63) (sh' := PW125) rfl rfl rfl (by decide) (by decide) rfl (by decide) (by decide) ?_
  refine g_putW (ty := .array .int) (sh' := PW126) rfl rfl rfl (by first | exact Or.inl rfl | exact Or.inr ⟨rfl, rfl, rfl⟩) (by decide +kernel) (fun E => rfl) (fun E => rfl) (by decide) rfl ?_
  refine g_run 2 rfl ?_
  refine g_arrI (N := 60) (k := 64) (sh' := PW127) rfl rfl rfl (by decide) (by decide) rfl (by decide) (by decide) ?_
  refine g_putW (ty := .array .int) (sh' := PW128) rfl rfl rfl (by first | exact Or.inl rfl | exact Or.inr ⟨rfl, rfl, rfl⟩) (by decide +kernel) (fun E => rfl) (fun E => rfl) (by decide) rfl ?_
  refine g_run 2 rfl ?_
  refine g_arrI (N := 60) (k := 65) (sh' := PW129) rfl rfl rfl (by decide) (by decide) rfl (by decide) (by decide) ?_
  refine g_putW (ty := .array .int) (sh' := PW130) rfl rfl rfl (by first | exact Or.inl rfl | exact Or.inr ⟨rfl, rfl, rfl⟩) (by decide +kernel) (fun E => rfl) (fun E => rfl) (by decide) rfl ?_
  refine g_run 2 rfl ?_
  refine g_arrI (N := 20) (k := 66) (sh' := PW131) rfl rfl rfl (by decide) (by decide) rfl (by decide) (by decide) ?_
  refine g_putW (ty := .array .int) (sh' := PW132) rfl rfl rfl (by first | exact Or.inl rfl | exact Or.inr ⟨rfl, rfl, rfl⟩) (by decide +kernel) (fun E => rfl) (fun E => rfl) (by decide) rfl ?_
  refine g_run 2 rfl ?_
  refine g_arrI (N := 60) (k := 67) (sh' := PW133) rfl rfl rfl (by decide) (by decide) rfl (by decide) (by decide) ?_
  refine g_putW (ty := .array .int) (sh' := PW134) rfl rfl rfl (by first | exact Or.inl rfl | exact Or.inr ⟨rfl, rfl, rfl⟩) (by decide +kernel) (fun E => rfl) (fun E => rfl) (by decide) rfl ?_
  refine g_run 2 rfl ?_
  refine g_arrI (N := 12) (k := 68) (sh' := PW135) rfl rfl rfl (by decide) (by decide) rfl (by decide) (by decide) ?_
  refine g_putW (ty := .array .int) (sh' := PW136) rfl rfl rfl (by first | exact Or.inl rfl | exact Or.inr ⟨rfl, rfl, rfl⟩) (by decide +kernel) (fun E => rfl) (fun E => rfl) (by decide) rfl ?_
  refine g_run 2 rfl ?_
  refine g_arrI (N := 100) (k := 69) (sh' := PW137) rfl rfl rfl (by decide) (by decide) rfl (by decide) (by decide) ?_
  refine g_putW (ty := .array .int) (sh' := PW138) rfl rfl rfl (by first | exact Or.inl rfl | exact Or.inr ⟨rfl, rfl, rfl⟩) (by decide +kernel) (fun E => rfl) (fun E => rfl) (by decide) rfl ?_
  refine g_run 2 rfl ?_
  refine g_arrI (N := 20) (k := 70) (sh' := PW139) rfl rfl rfl (by decide) (by decide) rfl (by decide) (by decide) ?_
  refine g_putW (ty := .array .int) (sh' := PW140) rfl rfl rfl (by first | exact Or.inl rfl | exact Or.inr ⟨rfl, rfl, rfl⟩) (by decide +kernel) (fun E => rfl) (fun E => rfl) (by decide) rfl ?_
  refine g_run 2 rfl ?_
  refine g_arrI (N := 3) (k := 71) (sh' := PW141) rfl rfl rfl (by decide) (by decide) rfl (by decide) (by decide) ?_
  refine g_putW (ty := .array .int) (sh' := PW142) rfl rfl rfl (by first | exact Or.inl rfl | exact Or.inr ⟨rfl, rfl, rfl⟩) (by decide +kernel) (fun E => rfl) (fun E => rfl) (by decide) rfl ?_
  refine g_run 2 rfl ?_
  refine g_arrI (N := 3) (k := 72) (sh' := PW143) rfl rfl rfl (by decide) (by decide) rfl (by decide) (by decide) ?_
  refine g_putW (ty := .array .int) (sh' := PW144) rfl rfl rfl (by first | exact Or.inl rfl | exact Or.inr ⟨rfl, rfl, rfl⟩) (by decide +kernel) (fun E => rfl) (fun E => rfl) (by decide) rfl ?_
  refine g_run 2 rfl ?_
  refine g_arrI (N := 6) (k := 73) (sh' := PW145) rfl rfl rfl (by decide) (by decide) rfl (by decide) (by decide) ?_
  refine g_putW (ty := .array .int) (sh' := PW146) rfl rfl rfl (by first | exact Or.inl rfl | exact Or.inr ⟨rfl, rfl, rfl⟩) (by decide +kernel) (fun E => rfl) (fun E => rfl) (by decide) rfl ?_
  refine g_run 2 rfl ?_
  refine g_arrI (N := 6) (k := 74) (sh' := PW147) rfl rfl rfl (by decide) (by decide) rfl (by decide) (by decide) ?_
  refine g_putW (ty := .array .int) (sh' := PW148) rfl rfl rfl (by first | exact Or.inl rfl | exact Or.inr ⟨rfl, rfl, rfl⟩) (by decide +kernel) (fun E => rfl) (fun E => rfl) (by decide) rfl ?_
  refine g_run 2 rfl ?_
  refine g_arrI (N := 12) (k := 75) (sh' := PW149) rfl rfl rfl (by decide) (by decide) rfl (by decide) (by decide) ?_
  refine g_putW (ty := .array .int) (sh' := PW150) rfl rfl rfl (by first | exact Or.inl rfl | exact Or.inr ⟨rfl, rfl, rfl⟩) (by decide +kernel) (fun E => rfl) (fun E => rfl) (by decide) rfl ?_
  refine g_run 2 rfl ?_
  refine g_arrI (N := 10) (k := 76) (sh' := PW151) rfl rfl rfl (by decide) (by decide) rfl (by decide) (by decide) ?_
  refine g_putW (ty := .array .int) (sh' := PW152) rfl rfl rfl (by first | exact Or.inl rfl | exact Or.inr ⟨rfl, rfl, rfl⟩) (by decide +kernel) (fun E => rfl) (fun E => rfl) (by decide) rfl ?_
  exact hq
