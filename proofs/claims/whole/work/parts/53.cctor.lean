set_option maxRecDepth 100000 in
set_option maxHeartbeats 4000000 in
theorem c_X2_init (l : Launch) (D : va_G) (g : Nat → ClassId) (lv : Nat → Bool) (a : Nat → Nat) (R : RS) (h0 : lv 1 = true) (hfr : ∀ i, i = 2 ∨ i = 3 → lv i = false) (w d : Nat) : aV l D g lv a yX2_init wsX2_init ({ frames := 1, cells := 2, slots := 72, locals := 60 } : Room) [.ref (a 1), .int (nI (w)), .int (nI (d))] (clr R 1) (fun lv' a' R' => ∃ (q2 : Nat) (q3 : Nat), lv' = va_up (va_up lv 2 true) 3 true ∧ a' = va_up (va_up a 2 q2) 3 q3 ∧ R' = sfi (sfi (sfi (sfi (sfi (sfi (sfi (sfr (clr (sfr (clr (clr R 1) 2) 1 3 (some (q2))) 3) 1 4 (some (q3))) 1 5 (nI (0))) 1 6 (nI (0))) 1 7 ((-1))) 1 8 (nI (0))) 1 0 (nI (w))) 1 1 (nI (d))) 1 2 (nI (w * d))) 2 72 := by
  refine c_body (cc := cX2_init) (maxL := 3) (ret := none) (by decide) rfl (Nat.le_of_ble_eq_true rfl) ?_
  intro pr en st mi bl me co ls B hl
  obtain ⟨hx, hb, hr, hml, hown, hts, hlocks, hnm, hK, hZ, hc, hA⟩ := B
  have hl : lv_has ls 3 [(0, .ref (a 1)), (1, .int (nI (w))), (2, .int (nI (d)))] := hl
  have hinX2 : ∀ w ∈ u_ws RX2 TX2 9, w ∈ wsX2_init := (fun _ h => List.mem_cons_of_mem _ (List.mem_append_right _ h))
  have hf_9 := hts (.fieldLink RX2 9 "PalletLayers$PatternSearch" "corners" "[I") (by decide +kernel)
  have hf_15 := hts (.fieldLink RX2 15 "PalletLayers$PatternSearch" "ways" "[I") (by decide +kernel)
  have hf_18 := hts (.fieldLink RX2 18 "PalletLayers$PatternSearch" "mostSteps" "I") (by decide +kernel)
  have hf_22 := hts (.fieldLink RX2 22 "PalletLayers$PatternSearch" "stepsMade" "I") (by decide +kernel)
  have hf_25 := hts (.fieldLink RX2 25 "PalletLayers$PatternSearch" "best" "I") (by decide +kernel)
  have hf_28 := hts (.fieldLink RX2 28 "PalletLayers$PatternSearch" "lackedSteps" "Z") (by decide +kernel)
  have hf_32 := hts (.fieldLink RX2 32 "PalletLayers$PatternSearch" "areaWidth" "I") (by decide +kernel)
  have hf_35 := hts (.fieldLink RX2 35 "PalletLayers$PatternSearch" "areaDepth" "I") (by decide +kernel)
  have hf_38 := hts (.fieldLink RX2 38 "PalletLayers$PatternSearch" "cellCount" "I") (by decide +kernel)
  refine lv_aload_n hx hb dX2_init_0 rfl (lv_at hl 0 rfl) ?_
  refine W.objInit hx hb hown (hts (.methodLink RX2 3 objectInit) (by decide +kernel)) (hts (.instanceMethod objectInit) (by decide +kernel)) (hts (.code objectInit ⟨#[0xb1]⟩ 1 none) (by decide +kernel)) rfl (hl.1.trans hml.symm) rfl dX2_init_1 (Nat.le_of_ble_eq_true rfl) (Nat.le_of_ble_eq_true rfl) ?_
  show W _ _ _ _ _ _ _ _ _ _ _ _ _ _ _ (F0 mi 4 ls [])
  refine lv_aload_n hx hb dX2_init_4 rfl (lv_at hl 0 rfl) ?_
  refine lv_bipush (v := nI (36)) hx hb dX2_init_5 (by decide) ?_
  refine r_newa (N := 36) (t0 := 0) (ty := .int) (cA := g 0) (n := nI (36)) (x := 1) (atype := .int) (R := clr R 1) hx hb (hts (.arrayClass .int) (by decide +kernel)) rfl hK.1 hc hA 2 (hfr 2 (by decide)) rfl rfl (fun h9 => h9) (nct_i rfl) (by decide) (by decide) (by decide) (Nat.le_of_ble_eq_true rfl) (Nat.le_of_ble_eq_true rfl) dX2_init_7 (fun q2 H _ hc => ?_)
  refine r_putF (a := (va_up a 2 q2)) (i := 1) (C := RX2) (T := TX2) (N := 9) (R' := sfr (clr (clr R 1) 2) 1 3 (some (q2))) hx hb hts hown hK.1 hc (h0) (rfl) rfl rfl hinX2 tyX2 tyX2_ok nmX2 3 (by decide) hf_9 (fun _ h9 => h9) rfl hnm rfl (tyX2_ok 3 (by decide)) rfl rfl dX2_init_9 (fds_sfr (by decide) (by decide)) (fun _ h9 => ct_sfr h9) (fun H locs hc => ?_)
  refine lv_aload_n hx hb dX2_init_12 rfl (lv_at hl 0 rfl) ?_
  refine lv_bipush (v := nI (36)) hx hb dX2_init_13 (by decide) ?_
  refine r_newa (N := 36) (t0 := 0) (ty := .int) (cA := g 0) (n := nI (36)) (x := 1) (atype := .int) (R := sfr (clr (clr R 1) 2) 1 3 (some (q2))) hx hb (hts (.arrayClass .int) (by decide +kernel)) rfl hK.1 hc hA 3 (hfr 3 (by decide)) rfl rfl (fun h9 => h9) (nct_i rfl) (by decide) (by decide) (by decide) (Nat.le_of_ble_eq_true rfl) (Nat.le_of_ble_eq_true rfl) dX2_init_15 (fun q3 H _ hc => ?_)
  refine r_putF (a := (va_up (va_up a 2 q2) 3 q3)) (i := 1) (C := RX2) (T := TX2) (N := 9) (R' := sfr (clr (sfr (clr (clr R 1) 2) 1 3 (some (q2))) 3) 1 4 (some (q3))) hx hb hts hown hK.1 hc (h0) (rfl) rfl rfl hinX2 tyX2 tyX2_ok nmX2 4 (by decide) hf_15 (fun _ h9 => h9) rfl hnm rfl (tyX2_ok 4 (by decide)) rfl rfl dX2_init_17 (fds_sfr (by decide) (by decide)) (fun _ h9 => ct_sfr h9) (fun H locs hc => ?_)
  refine lv_aload_n hx hb dX2_init_20 rfl (lv_at hl 0 rfl) ?_
  refine lv_iconst (v := nI (0)) hx hb dX2_init_21 (by decide) ?_
  refine r_put (a := (va_up (va_up a 2 q2) 3 q3)) (i := 1) (C := RX2) (T := TX2) (N := 9) (R' := sfi (sfr (clr (sfr (clr (clr R 1) 2) 1 3 (some (q2))) 3) 1 4 (some (q3))) 1 5 (nI (0))) hx hb hts hown hK.1 hc (h0) (rfl) rfl rfl hinX2 tyX2 tyX2_ok nmX2 5 (by decide) hf_18 (fun _ h9 => h9) rfl (tyX2_ok 5 (by decide)) rfl rfl dX2_init_22 (fds_sfi (by decide) (by decide)) (fun _ h9 => ct_sfi h9) (fun H locs hc => ?_)
  refine lv_aload_n hx hb dX2_init_25 rfl (lv_at hl 0 rfl) ?_
  refine lv_iconst (v := nI (0)) hx hb dX2_init_26 (by decide) ?_
  refine r_put (a := (va_up (va_up a 2 q2) 3 q3)) (i := 1) (C := RX2) (T := TX2) (N := 9) (R' := sfi (sfi (sfr (clr (sfr (clr (clr R 1) 2) 1 3 (some (q2))) 3) 1 4 (some (q3))) 1 5 (nI (0))) 1 6 (nI (0))) hx hb hts hown hK.1 hc (h0) (rfl) rfl rfl hinX2 tyX2 tyX2_ok nmX2 6 (by decide) hf_22 (fun _ h9 => h9) rfl (tyX2_ok 6 (by decide)) rfl rfl dX2_init_27 (fds_sfi (by decide) (by decide)) (fun _ h9 => ct_sfi h9) (fun H locs hc => ?_)
  refine lv_aload_n hx hb dX2_init_30 rfl (lv_at hl 0 rfl) ?_
  refine lv_iconst (v := (-1)) hx hb dX2_init_31 (by decide) ?_
  refine r_put (a := (va_up (va_up a 2 q2) 3 q3)) (i := 1) (C := RX2) (T := TX2) (N := 9) (R' := sfi (sfi (sfi (sfr (clr (sfr (clr (clr R 1) 2) 1 3 (some (q2))) 3) 1 4 (some (q3))) 1 5 (nI (0))) 1 6 (nI (0))) 1 7 ((-1))) hx hb hts hown hK.1 hc (h0) (rfl) rfl rfl hinX2 tyX2 tyX2_ok nmX2 7 (by decide) hf_25 (fun _ h9 => h9) rfl (tyX2_ok 7 (by decide)) rfl rfl dX2_init_32 (fds_sfi (by decide) (by decide)) (fun _ h9 => ct_sfi h9) (fun H locs hc => ?_)
  refine lv_aload_n hx hb dX2_init_35 rfl (lv_at hl 0 rfl) ?_
  refine lv_iconst (v := nI (0)) hx hb dX2_init_36 (by decide) ?_
  refine r_put (a := (va_up (va_up a 2 q2) 3 q3)) (i := 1) (C := RX2) (T := TX2) (N := 9) (R' := sfi (sfi (sfi (sfi (sfr (clr (sfr (clr (clr R 1) 2) 1 3 (some (q2))) 3) 1 4 (some (q3))) 1 5 (nI (0))) 1 6 (nI (0))) 1 7 ((-1))) 1 8 (nI (0))) hx hb hts hown hK.1 hc (h0) (rfl) rfl rfl hinX2 tyX2 tyX2_ok nmX2 8 (by decide) hf_28 (fun _ h9 => h9) rfl (tyX2_ok 8 (by decide)) rfl rfl dX2_init_37 (fds_sfi (by decide) (by decide)) (fun _ h9 => ct_sfi h9) (fun H locs hc => ?_)
  refine lv_aload_n hx hb dX2_init_40 rfl (lv_at hl 0 rfl) ?_
  refine lv_iload_n hx hb dX2_init_41 rfl (lv_at hl 1 rfl) ?_
  refine r_putF (a := (va_up (va_up a 2 q2) 3 q3)) (i := 1) (C := RX2) (T := TX2) (N := 9) (R' := sfi (sfi (sfi (sfi (sfi (sfr (clr (sfr (clr (clr R 1) 2) 1 3 (some (q2))) 3) 1 4 (some (q3))) 1 5 (nI (0))) 1 6 (nI (0))) 1 7 ((-1))) 1 8 (nI (0))) 1 0 (nI (w))) hx hb hts hown hK.1 hc (h0) (rfl) rfl rfl hinX2 tyX2 tyX2_ok nmX2 0 (by decide) hf_32 (fun _ h9 => h9) rfl hnm rfl (tyX2_ok 0 (by decide)) rfl rfl dX2_init_42 (fds_sfi (by decide) (by decide)) (fun _ h9 => ct_sfi h9) (fun H locs hc => ?_)
  refine lv_aload_n hx hb dX2_init_45 rfl (lv_at hl 0 rfl) ?_
  refine lv_iload_n hx hb dX2_init_46 rfl (lv_at hl 2 rfl) ?_
  refine r_putF (a := (va_up (va_up a 2 q2) 3 q3)) (i := 1) (C := RX2) (T := TX2) (N := 9) (R' := sfi (sfi (sfi (sfi (sfi (sfi (sfr (clr (sfr (clr (clr R 1) 2) 1 3 (some (q2))) 3) 1 4 (some (q3))) 1 5 (nI (0))) 1 6 (nI (0))) 1 7 ((-1))) 1 8 (nI (0))) 1 0 (nI (w))) 1 1 (nI (d))) hx hb hts hown hK.1 hc (h0) (rfl) rfl rfl hinX2 tyX2 tyX2_ok nmX2 1 (by decide) hf_35 (fun _ h9 => h9) rfl hnm rfl (tyX2_ok 1 (by decide)) rfl rfl dX2_init_47 (fds_sfi (by decide) (by decide)) (fun _ h9 => ct_sfi h9) (fun H locs hc => ?_)
  refine lv_aload_n hx hb dX2_init_50 rfl (lv_at hl 0 rfl) ?_
  refine lv_iload_n hx hb dX2_init_51 rfl (lv_at hl 1 rfl) ?_
  refine lv_iload_n hx hb dX2_init_52 rfl (lv_at hl 2 rfl) ?_
  refine nv_imul hx hb dX2_init_53 ?_
  refine r_putF (a := (va_up (va_up a 2 q2) 3 q3)) (i := 1) (C := RX2) (T := TX2) (N := 9) (R' := sfi (sfi (sfi (sfi (sfi (sfi (sfi (sfr (clr (sfr (clr (clr R 1) 2) 1 3 (some (q2))) 3) 1 4 (some (q3))) 1 5 (nI (0))) 1 6 (nI (0))) 1 7 ((-1))) 1 8 (nI (0))) 1 0 (nI (w))) 1 1 (nI (d))) 1 2 (nI (w * d))) hx hb hts hown hK.1 hc (h0) (rfl) rfl rfl hinX2 tyX2 tyX2_ok nmX2 2 (by decide) hf_38 (fun _ h9 => h9) rfl hnm rfl (tyX2_ok 2 (by decide)) rfl rfl dX2_init_54 (fds_sfi (by decide) (by decide)) (fun _ h9 => ct_sfi h9) (fun H locs hc => ?_)
  exact r_vretA (post := fun lv' a' R' => ∃ (q2 : Nat) (q3 : Nat), lv' = va_up (va_up lv 2 true) 3 true ∧ a' = va_up (va_up a 2 q2) 3 q3 ∧ R' = sfi (sfi (sfi (sfi (sfi (sfi (sfi (sfr (clr (sfr (clr (clr R 1) 2) 1 3 (some (q2))) 3) 1 4 (some (q3))) 1 5 (nI (0))) 1 6 (nI (0))) 1 7 ((-1))) 1 8 (nI (0))) 1 0 (nI (w))) 1 1 (nI (d))) 1 2 (nI (w * d))) hx hb hr hlocks hc dX2_init_57 ⟨q2, q3, rfl, rfl, rfl⟩
set_option maxRecDepth 100000 in
set_option maxHeartbeats 4000000 in
theorem c_X0_init_0 (l : Launch) (D : va_G) (g : Nat → ClassId) (lv : Nat → Bool) (a : Nat → Nat) (R : RS) (h0 : lv 10 = true) (hfr : ∀ i, i = 11 ∨ i = 12 → lv i = false) (aw w d h q : Nat) (hW : aw ≤ 6) (hw : w ≤ 6) (hd : d ≤ 6) : aV l D g lv a yX0_init wsX0_init ({ frames := 2, cells := 2, slots := 72, locals := 80 } : Room) [.ref (a 10), .int (nI (aw)), .int (nI (w)), .int (nI (d)), .int (nI (h)), .int (nI (q))] (clr R 10) (fun lv' a' R' => ∃ (q11 : Nat) (q12 : Nat), lv' = va_up (va_up lv 11 true) 12 true ∧ a' = va_up (va_up a 11 q11) 12 q12 ∧ R' = sfl (sfl (sfi (sfi (sfi (sfi (sfi (sfi (sfi (sfr (clr (sfr (clr (clr R 10) 11) 10 7 (some (q11))) 12) 10 8 (some (q12))) 10 9 (nI (0))) 10 10 (nI (0))) 10 0 (nI (w))) 10 1 (nI (d))) 10 2 (nI (h))) 10 3 (nI (q))) 10 4 (nI (w * d))) 10 5 (lN (bm aw 0 w d))) 10 6 (lN (bm aw 0 d w))) 2 72 := by
  refine c_body (cc := cX0_init) (maxL := 6) (ret := none) (by decide) rfl (Nat.le_of_ble_eq_true rfl) ?_
  intro pr en st mi bl me co ls B hl
  obtain ⟨hx, hb, hr, hml, hown, hts, hlocks, hnm, hK, hZ, hc, hA⟩ := B
  have hl : lv_has ls 6 [(0, .ref (a 10)), (1, .int (nI (aw))), (2, .int (nI (w))), (3, .int (nI (d))), (4, .int (nI (h))), (5, .int (nI (q)))] := hl
  have hinX0 : ∀ w ∈ u_ws RX0 TX0 11, w ∈ wsX0_init := (fun _ h => List.mem_cons_of_mem _ (List.mem_append_right _ h))
  have hf_9 := hts (.fieldLink RX0 9 "PalletLayers$Kind" "corners" "[I") (by decide +kernel)
  have hf_15 := hts (.fieldLink RX0 15 "PalletLayers$Kind" "ways" "[I") (by decide +kernel)
  have hf_18 := hts (.fieldLink RX0 18 "PalletLayers$Kind" "boxes" "I") (by decide +kernel)
  have hf_22 := hts (.fieldLink RX0 22 "PalletLayers$Kind" "soughtExactly" "Z") (by decide +kernel)
  have hf_26 := hts (.fieldLink RX0 26 "PalletLayers$Kind" "width" "I") (by decide +kernel)
  have hf_29 := hts (.fieldLink RX0 29 "PalletLayers$Kind" "depth" "I") (by decide +kernel)
  have hf_32 := hts (.fieldLink RX0 32 "PalletLayers$Kind" "height" "I") (by decide +kernel)
  have hf_35 := hts (.fieldLink RX0 35 "PalletLayers$Kind" "weight" "I") (by decide +kernel)
  have hf_38 := hts (.fieldLink RX0 38 "PalletLayers$Kind" "area" "I") (by decide +kernel)
  have hf_45 := hts (.fieldLink RX0 45 "PalletLayers$Kind" "straightShape" "J") (by decide +kernel)
  have hf_49 := hts (.fieldLink RX0 49 "PalletLayers$Kind" "turnedShape" "J") (by decide +kernel)
  refine lv_aload_n hx hb dX0_init_0 rfl (lv_at hl 0 rfl) ?_
  refine W.objInit hx hb hown (hts (.methodLink RX0 3 objectInit) (by decide +kernel)) (hts (.instanceMethod objectInit) (by decide +kernel)) (hts (.code objectInit ⟨#[0xb1]⟩ 1 none) (by decide +kernel)) rfl (hl.1.trans hml.symm) rfl dX0_init_1 (Nat.le_of_ble_eq_true rfl) (Nat.le_of_ble_eq_true rfl) ?_
  show W _ _ _ _ _ _ _ _ _ _ _ _ _ _ _ (F0 mi 4 ls [])
  refine lv_aload_n hx hb dX0_init_4 rfl (lv_at hl 0 rfl) ?_
  refine lv_bipush (v := nI (36)) hx hb dX0_init_5 (by decide) ?_
  refine r_newa (N := 36) (t0 := 0) (ty := .int) (cA := g 0) (n := nI (36)) (x := 1) (atype := .int) (R := clr R 10) hx hb (hts (.arrayClass .int) (by decide +kernel)) rfl hK.1 hc hA 11 (hfr 11 (by decide)) rfl rfl (fun h9 => h9) (nct_i rfl) (by decide) (by decide) (by decide) (Nat.le_of_ble_eq_true rfl) (Nat.le_of_ble_eq_true rfl) dX0_init_7 (fun q11 H _ hc => ?_)
  refine r_putF (a := (va_up a 11 q11)) (i := 10) (C := RX0) (T := TX0) (N := 11) (R' := sfr (clr (clr R 10) 11) 10 7 (some (q11))) hx hb hts hown hK.1 hc (h0) (rfl) rfl rfl hinX0 tyX0 tyX0_ok nmX0 7 (by decide) hf_9 (fun _ h9 => h9) rfl hnm rfl (tyX0_ok 7 (by decide)) rfl rfl dX0_init_9 (fds_sfr (by decide) (by decide)) (fun _ h9 => ct_sfr h9) (fun H locs hc => ?_)
  refine lv_aload_n hx hb dX0_init_12 rfl (lv_at hl 0 rfl) ?_
  refine lv_bipush (v := nI (36)) hx hb dX0_init_13 (by decide) ?_
  refine r_newa (N := 36) (t0 := 0) (ty := .int) (cA := g 0) (n := nI (36)) (x := 1) (atype := .int) (R := sfr (clr (clr R 10) 11) 10 7 (some (q11))) hx hb (hts (.arrayClass .int) (by decide +kernel)) rfl hK.1 hc hA 12 (hfr 12 (by decide)) rfl rfl (fun h9 => h9) (nct_i rfl) (by decide) (by decide) (by decide) (Nat.le_of_ble_eq_true rfl) (Nat.le_of_ble_eq_true rfl) dX0_init_15 (fun q12 H _ hc => ?_)
  refine r_putF (a := (va_up (va_up a 11 q11) 12 q12)) (i := 10) (C := RX0) (T := TX0) (N := 11) (R' := sfr (clr (sfr (clr (clr R 10) 11) 10 7 (some (q11))) 12) 10 8 (some (q12))) hx hb hts hown hK.1 hc (h0) (rfl) rfl rfl hinX0 tyX0 tyX0_ok nmX0 8 (by decide) hf_15 (fun _ h9 => h9) rfl hnm rfl (tyX0_ok 8 (by decide)) rfl rfl dX0_init_17 (fds_sfr (by decide) (by decide)) (fun _ h9 => ct_sfr h9) (fun H locs hc => ?_)
  refine lv_aload_n hx hb dX0_init_20 rfl (lv_at hl 0 rfl) ?_
  refine lv_iconst (v := nI (0)) hx hb dX0_init_21 (by decide) ?_
  refine r_put (a := (va_up (va_up a 11 q11) 12 q12)) (i := 10) (C := RX0) (T := TX0) (N := 11) (R' := sfi (sfr (clr (sfr (clr (clr R 10) 11) 10 7 (some (q11))) 12) 10 8 (some (q12))) 10 9 (nI (0))) hx hb hts hown hK.1 hc (h0) (rfl) rfl rfl hinX0 tyX0 tyX0_ok nmX0 9 (by decide) hf_18 (fun _ h9 => h9) rfl (tyX0_ok 9 (by decide)) rfl rfl dX0_init_22 (fds_sfi (by decide) (by decide)) (fun _ h9 => ct_sfi h9) (fun H locs hc => ?_)
  refine lv_aload_n hx hb dX0_init_25 rfl (lv_at hl 0 rfl) ?_
  refine lv_iconst (v := nI (0)) hx hb dX0_init_26 (by decide) ?_
  refine r_put (a := (va_up (va_up a 11 q11) 12 q12)) (i := 10) (C := RX0) (T := TX0) (N := 11) (R' := sfi (sfi (sfr (clr (sfr (clr (clr R 10) 11) 10 7 (some (q11))) 12) 10 8 (some (q12))) 10 9 (nI (0))) 10 10 (nI (0))) hx hb hts hown hK.1 hc (h0) (rfl) rfl rfl hinX0 tyX0 tyX0_ok nmX0 10 (by decide) hf_22 (fun _ h9 => h9) rfl (tyX0_ok 10 (by decide)) rfl rfl dX0_init_27 (fds_sfi (by decide) (by decide)) (fun _ h9 => ct_sfi h9) (fun H locs hc => ?_)
  refine lv_aload_n hx hb dX0_init_30 rfl (lv_at hl 0 rfl) ?_
  refine lv_iload_n hx hb dX0_init_31 rfl (lv_at hl 2 rfl) ?_
  refine r_putF (a := (va_up (va_up a 11 q11) 12 q12)) (i := 10) (C := RX0) (T := TX0) (N := 11) (R' := sfi (sfi (sfi (sfr (clr (sfr (clr (clr R 10) 11) 10 7 (some (q11))) 12) 10 8 (some (q12))) 10 9 (nI (0))) 10 10 (nI (0))) 10 0 (nI (w))) hx hb hts hown hK.1 hc (h0) (rfl) rfl rfl hinX0 tyX0 tyX0_ok nmX0 0 (by decide) hf_26 (fun _ h9 => h9) rfl hnm rfl (tyX0_ok 0 (by decide)) rfl rfl dX0_init_32 (fds_sfi (by decide) (by decide)) (fun _ h9 => ct_sfi h9) (fun H locs hc => ?_)
  refine lv_aload_n hx hb dX0_init_35 rfl (lv_at hl 0 rfl) ?_
  refine lv_iload_n hx hb dX0_init_36 rfl (lv_at hl 3 rfl) ?_
  refine r_putF (a := (va_up (va_up a 11 q11) 12 q12)) (i := 10) (C := RX0) (T := TX0) (N := 11) (R' := sfi (sfi (sfi (sfi (sfr (clr (sfr (clr (clr R 10) 11) 10 7 (some (q11))) 12) 10 8 (some (q12))) 10 9 (nI (0))) 10 10 (nI (0))) 10 0 (nI (w))) 10 1 (nI (d))) hx hb hts hown hK.1 hc (h0) (rfl) rfl rfl hinX0 tyX0 tyX0_ok nmX0 1 (by decide) hf_29 (fun _ h9 => h9) rfl hnm rfl (tyX0_ok 1 (by decide)) rfl rfl dX0_init_37 (fds_sfi (by decide) (by decide)) (fun _ h9 => ct_sfi h9) (fun H locs hc => ?_)
  refine lv_aload_n hx hb dX0_init_40 rfl (lv_at hl 0 rfl) ?_
  refine lv_iload hx hb dX0_init_41 (lv_at hl 4 rfl) ?_
  refine r_putF (a := (va_up (va_up a 11 q11) 12 q12)) (i := 10) (C := RX0) (T := TX0) (N := 11) (R' := sfi (sfi (sfi (sfi (sfi (sfr (clr (sfr (clr (clr R 10) 11) 10 7 (some (q11))) 12) 10 8 (some (q12))) 10 9 (nI (0))) 10 10 (nI (0))) 10 0 (nI (w))) 10 1 (nI (d))) 10 2 (nI (h))) hx hb hts hown hK.1 hc (h0) (rfl) rfl rfl hinX0 tyX0 tyX0_ok nmX0 2 (by decide) hf_32 (fun _ h9 => h9) rfl hnm rfl (tyX0_ok 2 (by decide)) rfl rfl dX0_init_43 (fds_sfi (by decide) (by decide)) (fun _ h9 => ct_sfi h9) (fun H locs hc => ?_)
  refine lv_aload_n hx hb dX0_init_46 rfl (lv_at hl 0 rfl) ?_
  refine lv_iload hx hb dX0_init_47 (lv_at hl 5 rfl) ?_
  refine r_putF (a := (va_up (va_up a 11 q11) 12 q12)) (i := 10) (C := RX0) (T := TX0) (N := 11) (R' := sfi (sfi (sfi (sfi (sfi (sfi (sfr (clr (sfr (clr (clr R 10) 11) 10 7 (some (q11))) 12) 10 8 (some (q12))) 10 9 (nI (0))) 10 10 (nI (0))) 10 0 (nI (w))) 10 1 (nI (d))) 10 2 (nI (h))) 10 3 (nI (q))) hx hb hts hown hK.1 hc (h0) (rfl) rfl rfl hinX0 tyX0 tyX0_ok nmX0 3 (by decide) hf_35 (fun _ h9 => h9) rfl hnm rfl (tyX0_ok 3 (by decide)) rfl rfl dX0_init_49 (fds_sfi (by decide) (by decide)) (fun _ h9 => ct_sfi h9) (fun H locs hc => ?_)
  refine lv_aload_n hx hb dX0_init_52 rfl (lv_at hl 0 rfl) ?_
  refine lv_iload_n hx hb dX0_init_53 rfl (lv_at hl 2 rfl) ?_
  refine lv_iload_n hx hb dX0_init_54 rfl (lv_at hl 3 rfl) ?_
  refine nv_imul hx hb dX0_init_55 ?_
  refine r_putF (a := (va_up (va_up a 11 q11) 12 q12)) (i := 10) (C := RX0) (T := TX0) (N := 11) (R' := sfi (sfi (sfi (sfi (sfi (sfi (sfi (sfr (clr (sfr (clr (clr R 10) 11) 10 7 (some (q11))) 12) 10 8 (some (q12))) 10 9 (nI (0))) 10 10 (nI (0))) 10 0 (nI (w))) 10 1 (nI (d))) 10 2 (nI (h))) 10 3 (nI (q))) 10 4 (nI (w * d))) hx hb hts hown hK.1 hc (h0) (rfl) rfl rfl hinX0 tyX0 tyX0_ok nmX0 4 (by decide) hf_38 (fun _ h9 => h9) rfl hnm rfl (tyX0_ok 4 (by decide)) rfl rfl dX0_init_56 (fds_sfi (by decide) (by decide)) (fun _ h9 => ct_sfi h9) (fun H locs hc => ?_)
  refine lv_aload_n hx hb dX0_init_59 rfl (lv_at hl 0 rfl) ?_
  refine lv_iload_n hx hb dX0_init_60 rfl (lv_at hl 1 rfl) ?_
  refine lv_iload_n hx hb dX0_init_61 rfl (lv_at hl 2 rfl) ?_
  refine lv_iload_n hx hb dX0_init_62 rfl (lv_at hl 3 rfl) ?_
  refine r_calll hc hA (va_runS (As := [.int (nI (aw)), .int (nI (w)), .int (nI (d))]) (rest := [.ref (a 10)]) ⟨hx, hb, hml, hown, hts⟩ (c_X0_shape l D g _ _ _ aw w d hW hw hd _) (va_cwS 3 hts gX0_init_X0_shape rfl rfl rfl (by decide +kernel) ⟨Nat.le_of_ble_eq_true rfl, Nat.le_of_ble_eq_true rfl⟩) (r_preS hK hZ hc hA) rfl rfl hl.1 rfl (lv_room (Nat.le_of_ble_eq_true rfl)) dX0_init_63 ⟨Nat.le_of_ble_eq_true rfl, Nat.le_of_ble_eq_true rfl⟩) (fun r R' H locs hp hc => ?_)
  obtain ⟨hre, hRe⟩ := hp
  rw [hRe] at hc
  rw [hre]
  refine r_putF (a := (va_up (va_up a 11 q11) 12 q12)) (i := 10) (C := RX0) (T := TX0) (N := 11) (R' := sfl (sfi (sfi (sfi (sfi (sfi (sfi (sfi (sfr (clr (sfr (clr (clr R 10) 11) 10 7 (some (q11))) 12) 10 8 (some (q12))) 10 9 (nI (0))) 10 10 (nI (0))) 10 0 (nI (w))) 10 1 (nI (d))) 10 2 (nI (h))) 10 3 (nI (q))) 10 4 (nI (w * d))) 10 5 (lN (bm aw 0 w d))) hx hb hts hown hK.1 hc (h0) (rfl) rfl rfl hinX0 tyX0 tyX0_ok nmX0 5 (by decide) hf_45 (fun _ h9 => h9) rfl hnm rfl (tyX0_ok 5 (by decide)) rfl rfl dX0_init_66 (fds_sfl (by decide) (by decide)) (fun _ h9 => ct_sfl h9) (fun H locs hc => ?_)
  refine lv_aload_n hx hb dX0_init_69 rfl (lv_at hl 0 rfl) ?_
  refine lv_iload_n hx hb dX0_init_70 rfl (lv_at hl 1 rfl) ?_
  refine lv_iload_n hx hb dX0_init_71 rfl (lv_at hl 3 rfl) ?_
  refine lv_iload_n hx hb dX0_init_72 rfl (lv_at hl 2 rfl) ?_
  refine r_calll hc hA (va_runS (As := [.int (nI (aw)), .int (nI (d)), .int (nI (w))]) (rest := [.ref (a 10)]) ⟨hx, hb, hml, hown, hts⟩ (c_X0_shape l D g _ _ _ aw d w hW hd hw _) (va_cwS 3 hts gX0_init_X0_shape rfl rfl rfl (by decide +kernel) ⟨Nat.le_of_ble_eq_true rfl, Nat.le_of_ble_eq_true rfl⟩) (r_preS hK hZ hc hA) rfl rfl hl.1 rfl (lv_room (Nat.le_of_ble_eq_true rfl)) dX0_init_73 ⟨Nat.le_of_ble_eq_true rfl, Nat.le_of_ble_eq_true rfl⟩) (fun r R' H locs hp hc => ?_)
  obtain ⟨hre, hRe⟩ := hp
  rw [hRe] at hc
  rw [hre]
  refine r_putF (a := (va_up (va_up a 11 q11) 12 q12)) (i := 10) (C := RX0) (T := TX0) (N := 11) (R' := sfl (sfl (sfi (sfi (sfi (sfi (sfi (sfi (sfi (sfr (clr (sfr (clr (clr R 10) 11) 10 7 (some (q11))) 12) 10 8 (some (q12))) 10 9 (nI (0))) 10 10 (nI (0))) 10 0 (nI (w))) 10 1 (nI (d))) 10 2 (nI (h))) 10 3 (nI (q))) 10 4 (nI (w * d))) 10 5 (lN (bm aw 0 w d))) 10 6 (lN (bm aw 0 d w))) hx hb hts hown hK.1 hc (h0) (rfl) rfl rfl hinX0 tyX0 tyX0_ok nmX0 6 (by decide) hf_49 (fun _ h9 => h9) rfl hnm rfl (tyX0_ok 6 (by decide)) rfl rfl dX0_init_76 (fds_sfl (by decide) (by decide)) (fun _ h9 => ct_sfl h9) (fun H locs hc => ?_)
  exact r_vretA (post := fun lv' a' R' => ∃ (q11 : Nat) (q12 : Nat), lv' = va_up (va_up lv 11 true) 12 true ∧ a' = va_up (va_up a 11 q11) 12 q12 ∧ R' = sfl (sfl (sfi (sfi (sfi (sfi (sfi (sfi (sfi (sfr (clr (sfr (clr (clr R 10) 11) 10 7 (some (q11))) 12) 10 8 (some (q12))) 10 9 (nI (0))) 10 10 (nI (0))) 10 0 (nI (w))) 10 1 (nI (d))) 10 2 (nI (h))) 10 3 (nI (q))) 10 4 (nI (w * d))) 10 5 (lN (bm aw 0 w d))) 10 6 (lN (bm aw 0 d w))) hx hb hr hlocks hc dX0_init_79 ⟨q11, q12, rfl, rfl, rfl⟩
set_option maxRecDepth 100000 in
set_option maxHeartbeats 4000000 in
theorem c_X0_init_1 (l : Launch) (D : va_G) (g : Nat → ClassId) (lv : Nat → Bool) (a : Nat → Nat) (R : RS) (h0 : lv 13 = true) (hfr : ∀ i, i = 14 ∨ i = 15 → lv i = false) (aw w d h q : Nat) (hW : aw ≤ 6) (hw : w ≤ 6) (hd : d ≤ 6) : aV l D g lv a yX0_init wsX0_init ({ frames := 2, cells := 2, slots := 72, locals := 80 } : Room) [.ref (a 13), .int (nI (aw)), .int (nI (w)), .int (nI (d)), .int (nI (h)), .int (nI (q))] (clr R 13) (fun lv' a' R' => ∃ (q14 : Nat) (q15 : Nat), lv' = va_up (va_up lv 14 true) 15 true ∧ a' = va_up (va_up a 14 q14) 15 q15 ∧ R' = sfl (sfl (sfi (sfi (sfi (sfi (sfi (sfi (sfi (sfr (clr (sfr (clr (clr R 13) 14) 13 7 (some (q14))) 15) 13 8 (some (q15))) 13 9 (nI (0))) 13 10 (nI (0))) 13 0 (nI (w))) 13 1 (nI (d))) 13 2 (nI (h))) 13 3 (nI (q))) 13 4 (nI (w * d))) 13 5 (lN (bm aw 0 w d))) 13 6 (lN (bm aw 0 d w))) 2 72 := by
  refine c_body (cc := cX0_init) (maxL := 6) (ret := none) (by decide) rfl (Nat.le_of_ble_eq_true rfl) ?_
  intro pr en st mi bl me co ls B hl
  obtain ⟨hx, hb, hr, hml, hown, hts, hlocks, hnm, hK, hZ, hc, hA⟩ := B
  have hl : lv_has ls 6 [(0, .ref (a 13)), (1, .int (nI (aw))), (2, .int (nI (w))), (3, .int (nI (d))), (4, .int (nI (h))), (5, .int (nI (q)))] := hl
  have hinX0 : ∀ w ∈ u_ws RX0 TX0 11, w ∈ wsX0_init := (fun _ h => List.mem_cons_of_mem _ (List.mem_append_right _ h))
  have hf_9 := hts (.fieldLink RX0 9 "PalletLayers$Kind" "corners" "[I") (by decide +kernel)
  have hf_15 := hts (.fieldLink RX0 15 "PalletLayers$Kind" "ways" "[I") (by decide +kernel)
  have hf_18 := hts (.fieldLink RX0 18 "PalletLayers$Kind" "boxes" "I") (by decide +kernel)
  have hf_22 := hts (.fieldLink RX0 22 "PalletLayers$Kind" "soughtExactly" "Z") (by decide +kernel)
  have hf_26 := hts (.fieldLink RX0 26 "PalletLayers$Kind" "width" "I") (by decide +kernel)
  have hf_29 := hts (.fieldLink RX0 29 "PalletLayers$Kind" "depth" "I") (by decide +kernel)
  have hf_32 := hts (.fieldLink RX0 32 "PalletLayers$Kind" "height" "I") (by decide +kernel)
  have hf_35 := hts (.fieldLink RX0 35 "PalletLayers$Kind" "weight" "I") (by decide +kernel)
  have hf_38 := hts (.fieldLink RX0 38 "PalletLayers$Kind" "area" "I") (by decide +kernel)
  have hf_45 := hts (.fieldLink RX0 45 "PalletLayers$Kind" "straightShape" "J") (by decide +kernel)
  have hf_49 := hts (.fieldLink RX0 49 "PalletLayers$Kind" "turnedShape" "J") (by decide +kernel)
  refine lv_aload_n hx hb dX0_init_0 rfl (lv_at hl 0 rfl) ?_
  refine W.objInit hx hb hown (hts (.methodLink RX0 3 objectInit) (by decide +kernel)) (hts (.instanceMethod objectInit) (by decide +kernel)) (hts (.code objectInit ⟨#[0xb1]⟩ 1 none) (by decide +kernel)) rfl (hl.1.trans hml.symm) rfl dX0_init_1 (Nat.le_of_ble_eq_true rfl) (Nat.le_of_ble_eq_true rfl) ?_
  show W _ _ _ _ _ _ _ _ _ _ _ _ _ _ _ (F0 mi 4 ls [])
  refine lv_aload_n hx hb dX0_init_4 rfl (lv_at hl 0 rfl) ?_
  refine lv_bipush (v := nI (36)) hx hb dX0_init_5 (by decide) ?_
  refine r_newa (N := 36) (t0 := 0) (ty := .int) (cA := g 0) (n := nI (36)) (x := 1) (atype := .int) (R := clr R 13) hx hb (hts (.arrayClass .int) (by decide +kernel)) rfl hK.1 hc hA 14 (hfr 14 (by decide)) rfl rfl (fun h9 => h9) (nct_i rfl) (by decide) (by decide) (by decide) (Nat.le_of_ble_eq_true rfl) (Nat.le_of_ble_eq_true rfl) dX0_init_7 (fun q14 H _ hc => ?_)
  refine r_putF (a := (va_up a 14 q14)) (i := 13) (C := RX0) (T := TX0) (N := 11) (R' := sfr (clr (clr R 13) 14) 13 7 (some (q14))) hx hb hts hown hK.1 hc (h0) (rfl) rfl rfl hinX0 tyX0 tyX0_ok nmX0 7 (by decide) hf_9 (fun _ h9 => h9) rfl hnm rfl (tyX0_ok 7 (by decide)) rfl rfl dX0_init_9 (fds_sfr (by decide) (by decide)) (fun _ h9 => ct_sfr h9) (fun H locs hc => ?_)
  refine lv_aload_n hx hb dX0_init_12 rfl (lv_at hl 0 rfl) ?_
  refine lv_bipush (v := nI (36)) hx hb dX0_init_13 (by decide) ?_
  refine r_newa (N := 36) (t0 := 0) (ty := .int) (cA := g 0) (n := nI (36)) (x := 1) (atype := .int) (R := sfr (clr (clr R 13) 14) 13 7 (some (q14))) hx hb (hts (.arrayClass .int) (by decide +kernel)) rfl hK.1 hc hA 15 (hfr 15 (by decide)) rfl rfl (fun h9 => h9) (nct_i rfl) (by decide) (by decide) (by decide) (Nat.le_of_ble_eq_true rfl) (Nat.le_of_ble_eq_true rfl) dX0_init_15 (fun q15 H _ hc => ?_)
  refine r_putF (a := (va_up (va_up a 14 q14) 15 q15)) (i := 13) (C := RX0) (T := TX0) (N := 11) (R' := sfr (clr (sfr (clr (clr R 13) 14) 13 7 (some (q14))) 15) 13 8 (some (q15))) hx hb hts hown hK.1 hc (h0) (rfl) rfl rfl hinX0 tyX0 tyX0_ok nmX0 8 (by decide) hf_15 (fun _ h9 => h9) rfl hnm rfl (tyX0_ok 8 (by decide)) rfl rfl dX0_init_17 (fds_sfr (by decide) (by decide)) (fun _ h9 => ct_sfr h9) (fun H locs hc => ?_)
  refine lv_aload_n hx hb dX0_init_20 rfl (lv_at hl 0 rfl) ?_
  refine lv_iconst (v := nI (0)) hx hb dX0_init_21 (by decide) ?_
  refine r_put (a := (va_up (va_up a 14 q14) 15 q15)) (i := 13) (C := RX0) (T := TX0) (N := 11) (R' := sfi (sfr (clr (sfr (clr (clr R 13) 14) 13 7 (some (q14))) 15) 13 8 (some (q15))) 13 9 (nI (0))) hx hb hts hown hK.1 hc (h0) (rfl) rfl rfl hinX0 tyX0 tyX0_ok nmX0 9 (by decide) hf_18 (fun _ h9 => h9) rfl (tyX0_ok 9 (by decide)) rfl rfl dX0_init_22 (fds_sfi (by decide) (by decide)) (fun _ h9 => ct_sfi h9) (fun H locs hc => ?_)
  refine lv_aload_n hx hb dX0_init_25 rfl (lv_at hl 0 rfl) ?_
  refine lv_iconst (v := nI (0)) hx hb dX0_init_26 (by decide) ?_
  refine r_put (a := (va_up (va_up a 14 q14) 15 q15)) (i := 13) (C := RX0) (T := TX0) (N := 11) (R' := sfi (sfi (sfr (clr (sfr (clr (clr R 13) 14) 13 7 (some (q14))) 15) 13 8 (some (q15))) 13 9 (nI (0))) 13 10 (nI (0))) hx hb hts hown hK.1 hc (h0) (rfl) rfl rfl hinX0 tyX0 tyX0_ok nmX0 10 (by decide) hf_22 (fun _ h9 => h9) rfl (tyX0_ok 10 (by decide)) rfl rfl dX0_init_27 (fds_sfi (by decide) (by decide)) (fun _ h9 => ct_sfi h9) (fun H locs hc => ?_)
  refine lv_aload_n hx hb dX0_init_30 rfl (lv_at hl 0 rfl) ?_
  refine lv_iload_n hx hb dX0_init_31 rfl (lv_at hl 2 rfl) ?_
  refine r_putF (a := (va_up (va_up a 14 q14) 15 q15)) (i := 13) (C := RX0) (T := TX0) (N := 11) (R' := sfi (sfi (sfi (sfr (clr (sfr (clr (clr R 13) 14) 13 7 (some (q14))) 15) 13 8 (some (q15))) 13 9 (nI (0))) 13 10 (nI (0))) 13 0 (nI (w))) hx hb hts hown hK.1 hc (h0) (rfl) rfl rfl hinX0 tyX0 tyX0_ok nmX0 0 (by decide) hf_26 (fun _ h9 => h9) rfl hnm rfl (tyX0_ok 0 (by decide)) rfl rfl dX0_init_32 (fds_sfi (by decide) (by decide)) (fun _ h9 => ct_sfi h9) (fun H locs hc => ?_)
  refine lv_aload_n hx hb dX0_init_35 rfl (lv_at hl 0 rfl) ?_
  refine lv_iload_n hx hb dX0_init_36 rfl (lv_at hl 3 rfl) ?_
  refine r_putF (a := (va_up (va_up a 14 q14) 15 q15)) (i := 13) (C := RX0) (T := TX0) (N := 11) (R' := sfi (sfi (sfi (sfi (sfr (clr (sfr (clr (clr R 13) 14) 13 7 (some (q14))) 15) 13 8 (some (q15))) 13 9 (nI (0))) 13 10 (nI (0))) 13 0 (nI (w))) 13 1 (nI (d))) hx hb hts hown hK.1 hc (h0) (rfl) rfl rfl hinX0 tyX0 tyX0_ok nmX0 1 (by decide) hf_29 (fun _ h9 => h9) rfl hnm rfl (tyX0_ok 1 (by decide)) rfl rfl dX0_init_37 (fds_sfi (by decide) (by decide)) (fun _ h9 => ct_sfi h9) (fun H locs hc => ?_)
  refine lv_aload_n hx hb dX0_init_40 rfl (lv_at hl 0 rfl) ?_
  refine lv_iload hx hb dX0_init_41 (lv_at hl 4 rfl) ?_
  refine r_putF (a := (va_up (va_up a 14 q14) 15 q15)) (i := 13) (C := RX0) (T := TX0) (N := 11) (R' := sfi (sfi (sfi (sfi (sfi (sfr (clr (sfr (clr (clr R 13) 14) 13 7 (some (q14))) 15) 13 8 (some (q15))) 13 9 (nI (0))) 13 10 (nI (0))) 13 0 (nI (w))) 13 1 (nI (d))) 13 2 (nI (h))) hx hb hts hown hK.1 hc (h0) (rfl) rfl rfl hinX0 tyX0 tyX0_ok nmX0 2 (by decide) hf_32 (fun _ h9 => h9) rfl hnm rfl (tyX0_ok 2 (by decide)) rfl rfl dX0_init_43 (fds_sfi (by decide) (by decide)) (fun _ h9 => ct_sfi h9) (fun H locs hc => ?_)
  refine lv_aload_n hx hb dX0_init_46 rfl (lv_at hl 0 rfl) ?_
  refine lv_iload hx hb dX0_init_47 (lv_at hl 5 rfl) ?_
  refine r_putF (a := (va_up (va_up a 14 q14) 15 q15)) (i := 13) (C := RX0) (T := TX0) (N := 11) (R' := sfi (sfi (sfi (sfi (sfi (sfi (sfr (clr (sfr (clr (clr R 13) 14) 13 7 (some (q14))) 15) 13 8 (some (q15))) 13 9 (nI (0))) 13 10 (nI (0))) 13 0 (nI (w))) 13 1 (nI (d))) 13 2 (nI (h))) 13 3 (nI (q))) hx hb hts hown hK.1 hc (h0) (rfl) rfl rfl hinX0 tyX0 tyX0_ok nmX0 3 (by decide) hf_35 (fun _ h9 => h9) rfl hnm rfl (tyX0_ok 3 (by decide)) rfl rfl dX0_init_49 (fds_sfi (by decide) (by decide)) (fun _ h9 => ct_sfi h9) (fun H locs hc => ?_)
  refine lv_aload_n hx hb dX0_init_52 rfl (lv_at hl 0 rfl) ?_
  refine lv_iload_n hx hb dX0_init_53 rfl (lv_at hl 2 rfl) ?_
  refine lv_iload_n hx hb dX0_init_54 rfl (lv_at hl 3 rfl) ?_
  refine nv_imul hx hb dX0_init_55 ?_
  refine r_putF (a := (va_up (va_up a 14 q14) 15 q15)) (i := 13) (C := RX0) (T := TX0) (N := 11) (R' := sfi (sfi (sfi (sfi (sfi (sfi (sfi (sfr (clr (sfr (clr (clr R 13) 14) 13 7 (some (q14))) 15) 13 8 (some (q15))) 13 9 (nI (0))) 13 10 (nI (0))) 13 0 (nI (w))) 13 1 (nI (d))) 13 2 (nI (h))) 13 3 (nI (q))) 13 4 (nI (w * d))) hx hb hts hown hK.1 hc (h0) (rfl) rfl rfl hinX0 tyX0 tyX0_ok nmX0 4 (by decide) hf_38 (fun _ h9 => h9) rfl hnm rfl (tyX0_ok 4 (by decide)) rfl rfl dX0_init_56 (fds_sfi (by decide) (by decide)) (fun _ h9 => ct_sfi h9) (fun H locs hc => ?_)
  refine lv_aload_n hx hb dX0_init_59 rfl (lv_at hl 0 rfl) ?_
  refine lv_iload_n hx hb dX0_init_60 rfl (lv_at hl 1 rfl) ?_
  refine lv_iload_n hx hb dX0_init_61 rfl (lv_at hl 2 rfl) ?_
  refine lv_iload_n hx hb dX0_init_62 rfl (lv_at hl 3 rfl) ?_
  refine r_calll hc hA (va_runS (As := [.int (nI (aw)), .int (nI (w)), .int (nI (d))]) (rest := [.ref (a 13)]) ⟨hx, hb, hml, hown, hts⟩ (c_X0_shape l D g _ _ _ aw w d hW hw hd _) (va_cwS 3 hts gX0_init_X0_shape rfl rfl rfl (by decide +kernel) ⟨Nat.le_of_ble_eq_true rfl, Nat.le_of_ble_eq_true rfl⟩) (r_preS hK hZ hc hA) rfl rfl hl.1 rfl (lv_room (Nat.le_of_ble_eq_true rfl)) dX0_init_63 ⟨Nat.le_of_ble_eq_true rfl, Nat.le_of_ble_eq_true rfl⟩) (fun r R' H locs hp hc => ?_)
  obtain ⟨hre, hRe⟩ := hp
  rw [hRe] at hc
  rw [hre]
  refine r_putF (a := (va_up (va_up a 14 q14) 15 q15)) (i := 13) (C := RX0) (T := TX0) (N := 11) (R' := sfl (sfi (sfi (sfi (sfi (sfi (sfi (sfi (sfr (clr (sfr (clr (clr R 13) 14) 13 7 (some (q14))) 15) 13 8 (some (q15))) 13 9 (nI (0))) 13 10 (nI (0))) 13 0 (nI (w))) 13 1 (nI (d))) 13 2 (nI (h))) 13 3 (nI (q))) 13 4 (nI (w * d))) 13 5 (lN (bm aw 0 w d))) hx hb hts hown hK.1 hc (h0) (rfl) rfl rfl hinX0 tyX0 tyX0_ok nmX0 5 (by decide) hf_45 (fun _ h9 => h9) rfl hnm rfl (tyX0_ok 5 (by decide)) rfl rfl dX0_init_66 (fds_sfl (by decide) (by decide)) (fun _ h9 => ct_sfl h9) (fun H locs hc => ?_)
  refine lv_aload_n hx hb dX0_init_69 rfl (lv_at hl 0 rfl) ?_
  refine lv_iload_n hx hb dX0_init_70 rfl (lv_at hl 1 rfl) ?_
  refine lv_iload_n hx hb dX0_init_71 rfl (lv_at hl 3 rfl) ?_
  refine lv_iload_n hx hb dX0_init_72 rfl (lv_at hl 2 rfl) ?_
  refine r_calll hc hA (va_runS (As := [.int (nI (aw)), .int (nI (d)), .int (nI (w))]) (rest := [.ref (a 13)]) ⟨hx, hb, hml, hown, hts⟩ (c_X0_shape l D g _ _ _ aw d w hW hd hw _) (va_cwS 3 hts gX0_init_X0_shape rfl rfl rfl (by decide +kernel) ⟨Nat.le_of_ble_eq_true rfl, Nat.le_of_ble_eq_true rfl⟩) (r_preS hK hZ hc hA) rfl rfl hl.1 rfl (lv_room (Nat.le_of_ble_eq_true rfl)) dX0_init_73 ⟨Nat.le_of_ble_eq_true rfl, Nat.le_of_ble_eq_true rfl⟩) (fun r R' H locs hp hc => ?_)
  obtain ⟨hre, hRe⟩ := hp
  rw [hRe] at hc
  rw [hre]
  refine r_putF (a := (va_up (va_up a 14 q14) 15 q15)) (i := 13) (C := RX0) (T := TX0) (N := 11) (R' := sfl (sfl (sfi (sfi (sfi (sfi (sfi (sfi (sfi (sfr (clr (sfr (clr (clr R 13) 14) 13 7 (some (q14))) 15) 13 8 (some (q15))) 13 9 (nI (0))) 13 10 (nI (0))) 13 0 (nI (w))) 13 1 (nI (d))) 13 2 (nI (h))) 13 3 (nI (q))) 13 4 (nI (w * d))) 13 5 (lN (bm aw 0 w d))) 13 6 (lN (bm aw 0 d w))) hx hb hts hown hK.1 hc (h0) (rfl) rfl rfl hinX0 tyX0 tyX0_ok nmX0 6 (by decide) hf_49 (fun _ h9 => h9) rfl hnm rfl (tyX0_ok 6 (by decide)) rfl rfl dX0_init_76 (fds_sfl (by decide) (by decide)) (fun _ h9 => ct_sfl h9) (fun H locs hc => ?_)
  exact r_vretA (post := fun lv' a' R' => ∃ (q14 : Nat) (q15 : Nat), lv' = va_up (va_up lv 14 true) 15 true ∧ a' = va_up (va_up a 14 q14) 15 q15 ∧ R' = sfl (sfl (sfi (sfi (sfi (sfi (sfi (sfi (sfi (sfr (clr (sfr (clr (clr R 13) 14) 13 7 (some (q14))) 15) 13 8 (some (q15))) 13 9 (nI (0))) 13 10 (nI (0))) 13 0 (nI (w))) 13 1 (nI (d))) 13 2 (nI (h))) 13 3 (nI (q))) 13 4 (nI (w * d))) 13 5 (lN (bm aw 0 w d))) 13 6 (lN (bm aw 0 d w))) hx hb hr hlocks hc dX0_init_79 ⟨q14, q15, rfl, rfl, rfl⟩
set_option maxRecDepth 100000 in
set_option maxHeartbeats 4000000 in
theorem c_X0_init_2 (l : Launch) (D : va_G) (g : Nat → ClassId) (lv : Nat → Bool) (a : Nat → Nat) (R : RS) (h0 : lv 16 = true) (hfr : ∀ i, i = 17 ∨ i = 18 → lv i = false) (aw w d h q : Nat) (hW : aw ≤ 6) (hw : w ≤ 6) (hd : d ≤ 6) : aV l D g lv a yX0_init wsX0_init ({ frames := 2, cells := 2, slots := 72, locals := 80 } : Room) [.ref (a 16), .int (nI (aw)), .int (nI (w)), .int (nI (d)), .int (nI (h)), .int (nI (q))] (clr R 16) (fun lv' a' R' => ∃ (q17 : Nat) (q18 : Nat), lv' = va_up (va_up lv 17 true) 18 true ∧ a' = va_up (va_up a 17 q17) 18 q18 ∧ R' = sfl (sfl (sfi (sfi (sfi (sfi (sfi (sfi (sfi (sfr (clr (sfr (clr (clr R 16) 17) 16 7 (some (q17))) 18) 16 8 (some (q18))) 16 9 (nI (0))) 16 10 (nI (0))) 16 0 (nI (w))) 16 1 (nI (d))) 16 2 (nI (h))) 16 3 (nI (q))) 16 4 (nI (w * d))) 16 5 (lN (bm aw 0 w d))) 16 6 (lN (bm aw 0 d w))) 2 72 := by
  refine c_body (cc := cX0_init) (maxL := 6) (ret := none) (by decide) rfl (Nat.le_of_ble_eq_true rfl) ?_
  intro pr en st mi bl me co ls B hl
  obtain ⟨hx, hb, hr, hml, hown, hts, hlocks, hnm, hK, hZ, hc, hA⟩ := B
  have hl : lv_has ls 6 [(0, .ref (a 16)), (1, .int (nI (aw))), (2, .int (nI (w))), (3, .int (nI (d))), (4, .int (nI (h))), (5, .int (nI (q)))] := hl
  have hinX0 : ∀ w ∈ u_ws RX0 TX0 11, w ∈ wsX0_init := (fun _ h => List.mem_cons_of_mem _ (List.mem_append_right _ h))
  have hf_9 := hts (.fieldLink RX0 9 "PalletLayers$Kind" "corners" "[I") (by decide +kernel)
  have hf_15 := hts (.fieldLink RX0 15 "PalletLayers$Kind" "ways" "[I") (by decide +kernel)
  have hf_18 := hts (.fieldLink RX0 18 "PalletLayers$Kind" "boxes" "I") (by decide +kernel)
  have hf_22 := hts (.fieldLink RX0 22 "PalletLayers$Kind" "soughtExactly" "Z") (by decide +kernel)
  have hf_26 := hts (.fieldLink RX0 26 "PalletLayers$Kind" "width" "I") (by decide +kernel)
  have hf_29 := hts (.fieldLink RX0 29 "PalletLayers$Kind" "depth" "I") (by decide +kernel)
  have hf_32 := hts (.fieldLink RX0 32 "PalletLayers$Kind" "height" "I") (by decide +kernel)
  have hf_35 := hts (.fieldLink RX0 35 "PalletLayers$Kind" "weight" "I") (by decide +kernel)
  have hf_38 := hts (.fieldLink RX0 38 "PalletLayers$Kind" "area" "I") (by decide +kernel)
  have hf_45 := hts (.fieldLink RX0 45 "PalletLayers$Kind" "straightShape" "J") (by decide +kernel)
  have hf_49 := hts (.fieldLink RX0 49 "PalletLayers$Kind" "turnedShape" "J") (by decide +kernel)
  refine lv_aload_n hx hb dX0_init_0 rfl (lv_at hl 0 rfl) ?_
  refine W.objInit hx hb hown (hts (.methodLink RX0 3 objectInit) (by decide +kernel)) (hts (.instanceMethod objectInit) (by decide +kernel)) (hts (.code objectInit ⟨#[0xb1]⟩ 1 none) (by decide +kernel)) rfl (hl.1.trans hml.symm) rfl dX0_init_1 (Nat.le_of_ble_eq_true rfl) (Nat.le_of_ble_eq_true rfl) ?_
  show W _ _ _ _ _ _ _ _ _ _ _ _ _ _ _ (F0 mi 4 ls [])
  refine lv_aload_n hx hb dX0_init_4 rfl (lv_at hl 0 rfl) ?_
  refine lv_bipush (v := nI (36)) hx hb dX0_init_5 (by decide) ?_
  refine r_newa (N := 36) (t0 := 0) (ty := .int) (cA := g 0) (n := nI (36)) (x := 1) (atype := .int) (R := clr R 16) hx hb (hts (.arrayClass .int) (by decide +kernel)) rfl hK.1 hc hA 17 (hfr 17 (by decide)) rfl rfl (fun h9 => h9) (nct_i rfl) (by decide) (by decide) (by decide) (Nat.le_of_ble_eq_true rfl) (Nat.le_of_ble_eq_true rfl) dX0_init_7 (fun q17 H _ hc => ?_)
  refine r_putF (a := (va_up a 17 q17)) (i := 16) (C := RX0) (T := TX0) (N := 11) (R' := sfr (clr (clr R 16) 17) 16 7 (some (q17))) hx hb hts hown hK.1 hc (h0) (rfl) rfl rfl hinX0 tyX0 tyX0_ok nmX0 7 (by decide) hf_9 (fun _ h9 => h9) rfl hnm rfl (tyX0_ok 7 (by decide)) rfl rfl dX0_init_9 (fds_sfr (by decide) (by decide)) (fun _ h9 => ct_sfr h9) (fun H locs hc => ?_)
  refine lv_aload_n hx hb dX0_init_12 rfl (lv_at hl 0 rfl) ?_
  refine lv_bipush (v := nI (36)) hx hb dX0_init_13 (by decide) ?_
  refine r_newa (N := 36) (t0 := 0) (ty := .int) (cA := g 0) (n := nI (36)) (x := 1) (atype := .int) (R := sfr (clr (clr R 16) 17) 16 7 (some (q17))) hx hb (hts (.arrayClass .int) (by decide +kernel)) rfl hK.1 hc hA 18 (hfr 18 (by decide)) rfl rfl (fun h9 => h9) (nct_i rfl) (by decide) (by decide) (by decide) (Nat.le_of_ble_eq_true rfl) (Nat.le_of_ble_eq_true rfl) dX0_init_15 (fun q18 H _ hc => ?_)
  refine r_putF (a := (va_up (va_up a 17 q17) 18 q18)) (i := 16) (C := RX0) (T := TX0) (N := 11) (R' := sfr (clr (sfr (clr (clr R 16) 17) 16 7 (some (q17))) 18) 16 8 (some (q18))) hx hb hts hown hK.1 hc (h0) (rfl) rfl rfl hinX0 tyX0 tyX0_ok nmX0 8 (by decide) hf_15 (fun _ h9 => h9) rfl hnm rfl (tyX0_ok 8 (by decide)) rfl rfl dX0_init_17 (fds_sfr (by decide) (by decide)) (fun _ h9 => ct_sfr h9) (fun H locs hc => ?_)
  refine lv_aload_n hx hb dX0_init_20 rfl (lv_at hl 0 rfl) ?_
  refine lv_iconst (v := nI (0)) hx hb dX0_init_21 (by decide) ?_
  refine r_put (a := (va_up (va_up a 17 q17) 18 q18)) (i := 16) (C := RX0) (T := TX0) (N := 11) (R' := sfi (sfr (clr (sfr (clr (clr R 16) 17) 16 7 (some (q17))) 18) 16 8 (some (q18))) 16 9 (nI (0))) hx hb hts hown hK.1 hc (h0) (rfl) rfl rfl hinX0 tyX0 tyX0_ok nmX0 9 (by decide) hf_18 (fun _ h9 => h9) rfl (tyX0_ok 9 (by decide)) rfl rfl dX0_init_22 (fds_sfi (by decide) (by decide)) (fun _ h9 => ct_sfi h9) (fun H locs hc => ?_)
  refine lv_aload_n hx hb dX0_init_25 rfl (lv_at hl 0 rfl) ?_
  refine lv_iconst (v := nI (0)) hx hb dX0_init_26 (by decide) ?_
  refine r_put (a := (va_up (va_up a 17 q17) 18 q18)) (i := 16) (C := RX0) (T := TX0) (N := 11) (R' := sfi (sfi (sfr (clr (sfr (clr (clr R 16) 17) 16 7 (some (q17))) 18) 16 8 (some (q18))) 16 9 (nI (0))) 16 10 (nI (0))) hx hb hts hown hK.1 hc (h0) (rfl) rfl rfl hinX0 tyX0 tyX0_ok nmX0 10 (by decide) hf_22 (fun _ h9 => h9) rfl (tyX0_ok 10 (by decide)) rfl rfl dX0_init_27 (fds_sfi (by decide) (by decide)) (fun _ h9 => ct_sfi h9) (fun H locs hc => ?_)
  refine lv_aload_n hx hb dX0_init_30 rfl (lv_at hl 0 rfl) ?_
  refine lv_iload_n hx hb dX0_init_31 rfl (lv_at hl 2 rfl) ?_
  refine r_putF (a := (va_up (va_up a 17 q17) 18 q18)) (i := 16) (C := RX0) (T := TX0) (N := 11) (R' := sfi (sfi (sfi (sfr (clr (sfr (clr (clr R 16) 17) 16 7 (some (q17))) 18) 16 8 (some (q18))) 16 9 (nI (0))) 16 10 (nI (0))) 16 0 (nI (w))) hx hb hts hown hK.1 hc (h0) (rfl) rfl rfl hinX0 tyX0 tyX0_ok nmX0 0 (by decide) hf_26 (fun _ h9 => h9) rfl hnm rfl (tyX0_ok 0 (by decide)) rfl rfl dX0_init_32 (fds_sfi (by decide) (by decide)) (fun _ h9 => ct_sfi h9) (fun H locs hc => ?_)
  refine lv_aload_n hx hb dX0_init_35 rfl (lv_at hl 0 rfl) ?_
  refine lv_iload_n hx hb dX0_init_36 rfl (lv_at hl 3 rfl) ?_
  refine r_putF (a := (va_up (va_up a 17 q17) 18 q18)) (i := 16) (C := RX0) (T := TX0) (N := 11) (R' := sfi (sfi (sfi (sfi (sfr (clr (sfr (clr (clr R 16) 17) 16 7 (some (q17))) 18) 16 8 (some (q18))) 16 9 (nI (0))) 16 10 (nI (0))) 16 0 (nI (w))) 16 1 (nI (d))) hx hb hts hown hK.1 hc (h0) (rfl) rfl rfl hinX0 tyX0 tyX0_ok nmX0 1 (by decide) hf_29 (fun _ h9 => h9) rfl hnm rfl (tyX0_ok 1 (by decide)) rfl rfl dX0_init_37 (fds_sfi (by decide) (by decide)) (fun _ h9 => ct_sfi h9) (fun H locs hc => ?_)
  refine lv_aload_n hx hb dX0_init_40 rfl (lv_at hl 0 rfl) ?_
  refine lv_iload hx hb dX0_init_41 (lv_at hl 4 rfl) ?_
  refine r_putF (a := (va_up (va_up a 17 q17) 18 q18)) (i := 16) (C := RX0) (T := TX0) (N := 11) (R' := sfi (sfi (sfi (sfi (sfi (sfr (clr (sfr (clr (clr R 16) 17) 16 7 (some (q17))) 18) 16 8 (some (q18))) 16 9 (nI (0))) 16 10 (nI (0))) 16 0 (nI (w))) 16 1 (nI (d))) 16 2 (nI (h))) hx hb hts hown hK.1 hc (h0) (rfl) rfl rfl hinX0 tyX0 tyX0_ok nmX0 2 (by decide) hf_32 (fun _ h9 => h9) rfl hnm rfl (tyX0_ok 2 (by decide)) rfl rfl dX0_init_43 (fds_sfi (by decide) (by decide)) (fun _ h9 => ct_sfi h9) (fun H locs hc => ?_)
  refine lv_aload_n hx hb dX0_init_46 rfl (lv_at hl 0 rfl) ?_
  refine lv_iload hx hb dX0_init_47 (lv_at hl 5 rfl) ?_
  refine r_putF (a := (va_up (va_up a 17 q17) 18 q18)) (i := 16) (C := RX0) (T := TX0) (N := 11) (R' := sfi (sfi (sfi (sfi (sfi (sfi (sfr (clr (sfr (clr (clr R 16) 17) 16 7 (some (q17))) 18) 16 8 (some (q18))) 16 9 (nI (0))) 16 10 (nI (0))) 16 0 (nI (w))) 16 1 (nI (d))) 16 2 (nI (h))) 16 3 (nI (q))) hx hb hts hown hK.1 hc (h0) (rfl) rfl rfl hinX0 tyX0 tyX0_ok nmX0 3 (by decide) hf_35 (fun _ h9 => h9) rfl hnm rfl (tyX0_ok 3 (by decide)) rfl rfl dX0_init_49 (fds_sfi (by decide) (by decide)) (fun _ h9 => ct_sfi h9) (fun H locs hc => ?_)
  refine lv_aload_n hx hb dX0_init_52 rfl (lv_at hl 0 rfl) ?_
  refine lv_iload_n hx hb dX0_init_53 rfl (lv_at hl 2 rfl) ?_
  refine lv_iload_n hx hb dX0_init_54 rfl (lv_at hl 3 rfl) ?_
  refine nv_imul hx hb dX0_init_55 ?_
  refine r_putF (a := (va_up (va_up a 17 q17) 18 q18)) (i := 16) (C := RX0) (T := TX0) (N := 11) (R' := sfi (sfi (sfi (sfi (sfi (sfi (sfi (sfr (clr (sfr (clr (clr R 16) 17) 16 7 (some (q17))) 18) 16 8 (some (q18))) 16 9 (nI (0))) 16 10 (nI (0))) 16 0 (nI (w))) 16 1 (nI (d))) 16 2 (nI (h))) 16 3 (nI (q))) 16 4 (nI (w * d))) hx hb hts hown hK.1 hc (h0) (rfl) rfl rfl hinX0 tyX0 tyX0_ok nmX0 4 (by decide) hf_38 (fun _ h9 => h9) rfl hnm rfl (tyX0_ok 4 (by decide)) rfl rfl dX0_init_56 (fds_sfi (by decide) (by decide)) (fun _ h9 => ct_sfi h9) (fun H locs hc => ?_)
  refine lv_aload_n hx hb dX0_init_59 rfl (lv_at hl 0 rfl) ?_
  refine lv_iload_n hx hb dX0_init_60 rfl (lv_at hl 1 rfl) ?_
  refine lv_iload_n hx hb dX0_init_61 rfl (lv_at hl 2 rfl) ?_
  refine lv_iload_n hx hb dX0_init_62 rfl (lv_at hl 3 rfl) ?_
  refine r_calll hc hA (va_runS (As := [.int (nI (aw)), .int (nI (w)), .int (nI (d))]) (rest := [.ref (a 16)]) ⟨hx, hb, hml, hown, hts⟩ (c_X0_shape l D g _ _ _ aw w d hW hw hd _) (va_cwS 3 hts gX0_init_X0_shape rfl rfl rfl (by decide +kernel) ⟨Nat.le_of_ble_eq_true rfl, Nat.le_of_ble_eq_true rfl⟩) (r_preS hK hZ hc hA) rfl rfl hl.1 rfl (lv_room (Nat.le_of_ble_eq_true rfl)) dX0_init_63 ⟨Nat.le_of_ble_eq_true rfl, Nat.le_of_ble_eq_true rfl⟩) (fun r R' H locs hp hc => ?_)
  obtain ⟨hre, hRe⟩ := hp
  rw [hRe] at hc
  rw [hre]
  refine r_putF (a := (va_up (va_up a 17 q17) 18 q18)) (i := 16) (C := RX0) (T := TX0) (N := 11) (R' := sfl (sfi (sfi (sfi (sfi (sfi (sfi (sfi (sfr (clr (sfr (clr (clr R 16) 17) 16 7 (some (q17))) 18) 16 8 (some (q18))) 16 9 (nI (0))) 16 10 (nI (0))) 16 0 (nI (w))) 16 1 (nI (d))) 16 2 (nI (h))) 16 3 (nI (q))) 16 4 (nI (w * d))) 16 5 (lN (bm aw 0 w d))) hx hb hts hown hK.1 hc (h0) (rfl) rfl rfl hinX0 tyX0 tyX0_ok nmX0 5 (by decide) hf_45 (fun _ h9 => h9) rfl hnm rfl (tyX0_ok 5 (by decide)) rfl rfl dX0_init_66 (fds_sfl (by decide) (by decide)) (fun _ h9 => ct_sfl h9) (fun H locs hc => ?_)
  refine lv_aload_n hx hb dX0_init_69 rfl (lv_at hl 0 rfl) ?_
  refine lv_iload_n hx hb dX0_init_70 rfl (lv_at hl 1 rfl) ?_
  refine lv_iload_n hx hb dX0_init_71 rfl (lv_at hl 3 rfl) ?_
  refine lv_iload_n hx hb dX0_init_72 rfl (lv_at hl 2 rfl) ?_
  refine r_calll hc hA (va_runS (As := [.int (nI (aw)), .int (nI (d)), .int (nI (w))]) (rest := [.ref (a 16)]) ⟨hx, hb, hml, hown, hts⟩ (c_X0_shape l D g _ _ _ aw d w hW hd hw _) (va_cwS 3 hts gX0_init_X0_shape rfl rfl rfl (by decide +kernel) ⟨Nat.le_of_ble_eq_true rfl, Nat.le_of_ble_eq_true rfl⟩) (r_preS hK hZ hc hA) rfl rfl hl.1 rfl (lv_room (Nat.le_of_ble_eq_true rfl)) dX0_init_73 ⟨Nat.le_of_ble_eq_true rfl, Nat.le_of_ble_eq_true rfl⟩) (fun r R' H locs hp hc => ?_)
  obtain ⟨hre, hRe⟩ := hp
  rw [hRe] at hc
  rw [hre]
  refine r_putF (a := (va_up (va_up a 17 q17) 18 q18)) (i := 16) (C := RX0) (T := TX0) (N := 11) (R' := sfl (sfl (sfi (sfi (sfi (sfi (sfi (sfi (sfi (sfr (clr (sfr (clr (clr R 16) 17) 16 7 (some (q17))) 18) 16 8 (some (q18))) 16 9 (nI (0))) 16 10 (nI (0))) 16 0 (nI (w))) 16 1 (nI (d))) 16 2 (nI (h))) 16 3 (nI (q))) 16 4 (nI (w * d))) 16 5 (lN (bm aw 0 w d))) 16 6 (lN (bm aw 0 d w))) hx hb hts hown hK.1 hc (h0) (rfl) rfl rfl hinX0 tyX0 tyX0_ok nmX0 6 (by decide) hf_49 (fun _ h9 => h9) rfl hnm rfl (tyX0_ok 6 (by decide)) rfl rfl dX0_init_76 (fds_sfl (by decide) (by decide)) (fun _ h9 => ct_sfl h9) (fun H locs hc => ?_)
  exact r_vretA (post := fun lv' a' R' => ∃ (q17 : Nat) (q18 : Nat), lv' = va_up (va_up lv 17 true) 18 true ∧ a' = va_up (va_up a 17 q17) 18 q18 ∧ R' = sfl (sfl (sfi (sfi (sfi (sfi (sfi (sfi (sfi (sfr (clr (sfr (clr (clr R 16) 17) 16 7 (some (q17))) 18) 16 8 (some (q18))) 16 9 (nI (0))) 16 10 (nI (0))) 16 0 (nI (w))) 16 1 (nI (d))) 16 2 (nI (h))) 16 3 (nI (q))) 16 4 (nI (w * d))) 16 5 (lN (bm aw 0 w d))) 16 6 (lN (bm aw 0 d w))) hx hb hr hlocks hc dX0_init_79 ⟨q17, q18, rfl, rfl, rfl⟩
set_option maxRecDepth 100000 in
set_option maxHeartbeats 4000000 in
theorem c_X0_init_3 (l : Launch) (D : va_G) (g : Nat → ClassId) (lv : Nat → Bool) (a : Nat → Nat) (R : RS) (h0 : lv 19 = true) (hfr : ∀ i, i = 20 ∨ i = 21 → lv i = false) (aw w d h q : Nat) (hW : aw ≤ 6) (hw : w ≤ 6) (hd : d ≤ 6) : aV l D g lv a yX0_init wsX0_init ({ frames := 2, cells := 2, slots := 72, locals := 80 } : Room) [.ref (a 19), .int (nI (aw)), .int (nI (w)), .int (nI (d)), .int (nI (h)), .int (nI (q))] (clr R 19) (fun lv' a' R' => ∃ (q20 : Nat) (q21 : Nat), lv' = va_up (va_up lv 20 true) 21 true ∧ a' = va_up (va_up a 20 q20) 21 q21 ∧ R' = sfl (sfl (sfi (sfi (sfi (sfi (sfi (sfi (sfi (sfr (clr (sfr (clr (clr R 19) 20) 19 7 (some (q20))) 21) 19 8 (some (q21))) 19 9 (nI (0))) 19 10 (nI (0))) 19 0 (nI (w))) 19 1 (nI (d))) 19 2 (nI (h))) 19 3 (nI (q))) 19 4 (nI (w * d))) 19 5 (lN (bm aw 0 w d))) 19 6 (lN (bm aw 0 d w))) 2 72 := by
  refine c_body (cc := cX0_init) (maxL := 6) (ret := none) (by decide) rfl (Nat.le_of_ble_eq_true rfl) ?_
  intro pr en st mi bl me co ls B hl
  obtain ⟨hx, hb, hr, hml, hown, hts, hlocks, hnm, hK, hZ, hc, hA⟩ := B
  have hl : lv_has ls 6 [(0, .ref (a 19)), (1, .int (nI (aw))), (2, .int (nI (w))), (3, .int (nI (d))), (4, .int (nI (h))), (5, .int (nI (q)))] := hl
  have hinX0 : ∀ w ∈ u_ws RX0 TX0 11, w ∈ wsX0_init := (fun _ h => List.mem_cons_of_mem _ (List.mem_append_right _ h))
  have hf_9 := hts (.fieldLink RX0 9 "PalletLayers$Kind" "corners" "[I") (by decide +kernel)
  have hf_15 := hts (.fieldLink RX0 15 "PalletLayers$Kind" "ways" "[I") (by decide +kernel)
  have hf_18 := hts (.fieldLink RX0 18 "PalletLayers$Kind" "boxes" "I") (by decide +kernel)
  have hf_22 := hts (.fieldLink RX0 22 "PalletLayers$Kind" "soughtExactly" "Z") (by decide +kernel)
  have hf_26 := hts (.fieldLink RX0 26 "PalletLayers$Kind" "width" "I") (by decide +kernel)
  have hf_29 := hts (.fieldLink RX0 29 "PalletLayers$Kind" "depth" "I") (by decide +kernel)
  have hf_32 := hts (.fieldLink RX0 32 "PalletLayers$Kind" "height" "I") (by decide +kernel)
  have hf_35 := hts (.fieldLink RX0 35 "PalletLayers$Kind" "weight" "I") (by decide +kernel)
  have hf_38 := hts (.fieldLink RX0 38 "PalletLayers$Kind" "area" "I") (by decide +kernel)
  have hf_45 := hts (.fieldLink RX0 45 "PalletLayers$Kind" "straightShape" "J") (by decide +kernel)
  have hf_49 := hts (.fieldLink RX0 49 "PalletLayers$Kind" "turnedShape" "J") (by decide +kernel)
  refine lv_aload_n hx hb dX0_init_0 rfl (lv_at hl 0 rfl) ?_
  refine W.objInit hx hb hown (hts (.methodLink RX0 3 objectInit) (by decide +kernel)) (hts (.instanceMethod objectInit) (by decide +kernel)) (hts (.code objectInit ⟨#[0xb1]⟩ 1 none) (by decide +kernel)) rfl (hl.1.trans hml.symm) rfl dX0_init_1 (Nat.le_of_ble_eq_true rfl) (Nat.le_of_ble_eq_true rfl) ?_
  show W _ _ _ _ _ _ _ _ _ _ _ _ _ _ _ (F0 mi 4 ls [])
  refine lv_aload_n hx hb dX0_init_4 rfl (lv_at hl 0 rfl) ?_
  refine lv_bipush (v := nI (36)) hx hb dX0_init_5 (by decide) ?_
  refine r_newa (N := 36) (t0 := 0) (ty := .int) (cA := g 0) (n := nI (36)) (x := 1) (atype := .int) (R := clr R 19) hx hb (hts (.arrayClass .int) (by decide +kernel)) rfl hK.1 hc hA 20 (hfr 20 (by decide)) rfl rfl (fun h9 => h9) (nct_i rfl) (by decide) (by decide) (by decide) (Nat.le_of_ble_eq_true rfl) (Nat.le_of_ble_eq_true rfl) dX0_init_7 (fun q20 H _ hc => ?_)
  refine r_putF (a := (va_up a 20 q20)) (i := 19) (C := RX0) (T := TX0) (N := 11) (R' := sfr (clr (clr R 19) 20) 19 7 (some (q20))) hx hb hts hown hK.1 hc (h0) (rfl) rfl rfl hinX0 tyX0 tyX0_ok nmX0 7 (by decide) hf_9 (fun _ h9 => h9) rfl hnm rfl (tyX0_ok 7 (by decide)) rfl rfl dX0_init_9 (fds_sfr (by decide) (by decide)) (fun _ h9 => ct_sfr h9) (fun H locs hc => ?_)
  refine lv_aload_n hx hb dX0_init_12 rfl (lv_at hl 0 rfl) ?_
  refine lv_bipush (v := nI (36)) hx hb dX0_init_13 (by decide) ?_
  refine r_newa (N := 36) (t0 := 0) (ty := .int) (cA := g 0) (n := nI (36)) (x := 1) (atype := .int) (R := sfr (clr (clr R 19) 20) 19 7 (some (q20))) hx hb (hts (.arrayClass .int) (by decide +kernel)) rfl hK.1 hc hA 21 (hfr 21 (by decide)) rfl rfl (fun h9 => h9) (nct_i rfl) (by decide) (by decide) (by decide) (Nat.le_of_ble_eq_true rfl) (Nat.le_of_ble_eq_true rfl) dX0_init_15 (fun q21 H _ hc => ?_)
  refine r_putF (a := (va_up (va_up a 20 q20) 21 q21)) (i := 19) (C := RX0) (T := TX0) (N := 11) (R' := sfr (clr (sfr (clr (clr R 19) 20) 19 7 (some (q20))) 21) 19 8 (some (q21))) hx hb hts hown hK.1 hc (h0) (rfl) rfl rfl hinX0 tyX0 tyX0_ok nmX0 8 (by decide) hf_15 (fun _ h9 => h9) rfl hnm rfl (tyX0_ok 8 (by decide)) rfl rfl dX0_init_17 (fds_sfr (by decide) (by decide)) (fun _ h9 => ct_sfr h9) (fun H locs hc => ?_)
  refine lv_aload_n hx hb dX0_init_20 rfl (lv_at hl 0 rfl) ?_
  refine lv_iconst (v := nI (0)) hx hb dX0_init_21 (by decide) ?_
  refine r_put (a := (va_up (va_up a 20 q20) 21 q21)) (i := 19) (C := RX0) (T := TX0) (N := 11) (R' := sfi (sfr (clr (sfr (clr (clr R 19) 20) 19 7 (some (q20))) 21) 19 8 (some (q21))) 19 9 (nI (0))) hx hb hts hown hK.1 hc (h0) (rfl) rfl rfl hinX0 tyX0 tyX0_ok nmX0 9 (by decide) hf_18 (fun _ h9 => h9) rfl (tyX0_ok 9 (by decide)) rfl rfl dX0_init_22 (fds_sfi (by decide) (by decide)) (fun _ h9 => ct_sfi h9) (fun H locs hc => ?_)
  refine lv_aload_n hx hb dX0_init_25 rfl (lv_at hl 0 rfl) ?_
  refine lv_iconst (v := nI (0)) hx hb dX0_init_26 (by decide) ?_
  refine r_put (a := (va_up (va_up a 20 q20) 21 q21)) (i := 19) (C := RX0) (T := TX0) (N := 11) (R' := sfi (sfi (sfr (clr (sfr (clr (clr R 19) 20) 19 7 (some (q20))) 21) 19 8 (some (q21))) 19 9 (nI (0))) 19 10 (nI (0))) hx hb hts hown hK.1 hc (h0) (rfl) rfl rfl hinX0 tyX0 tyX0_ok nmX0 10 (by decide) hf_22 (fun _ h9 => h9) rfl (tyX0_ok 10 (by decide)) rfl rfl dX0_init_27 (fds_sfi (by decide) (by decide)) (fun _ h9 => ct_sfi h9) (fun H locs hc => ?_)
  refine lv_aload_n hx hb dX0_init_30 rfl (lv_at hl 0 rfl) ?_
  refine lv_iload_n hx hb dX0_init_31 rfl (lv_at hl 2 rfl) ?_
  refine r_putF (a := (va_up (va_up a 20 q20) 21 q21)) (i := 19) (C := RX0) (T := TX0) (N := 11) (R' := sfi (sfi (sfi (sfr (clr (sfr (clr (clr R 19) 20) 19 7 (some (q20))) 21) 19 8 (some (q21))) 19 9 (nI (0))) 19 10 (nI (0))) 19 0 (nI (w))) hx hb hts hown hK.1 hc (h0) (rfl) rfl rfl hinX0 tyX0 tyX0_ok nmX0 0 (by decide) hf_26 (fun _ h9 => h9) rfl hnm rfl (tyX0_ok 0 (by decide)) rfl rfl dX0_init_32 (fds_sfi (by decide) (by decide)) (fun _ h9 => ct_sfi h9) (fun H locs hc => ?_)
  refine lv_aload_n hx hb dX0_init_35 rfl (lv_at hl 0 rfl) ?_
  refine lv_iload_n hx hb dX0_init_36 rfl (lv_at hl 3 rfl) ?_
  refine r_putF (a := (va_up (va_up a 20 q20) 21 q21)) (i := 19) (C := RX0) (T := TX0) (N := 11) (R' := sfi (sfi (sfi (sfi (sfr (clr (sfr (clr (clr R 19) 20) 19 7 (some (q20))) 21) 19 8 (some (q21))) 19 9 (nI (0))) 19 10 (nI (0))) 19 0 (nI (w))) 19 1 (nI (d))) hx hb hts hown hK.1 hc (h0) (rfl) rfl rfl hinX0 tyX0 tyX0_ok nmX0 1 (by decide) hf_29 (fun _ h9 => h9) rfl hnm rfl (tyX0_ok 1 (by decide)) rfl rfl dX0_init_37 (fds_sfi (by decide) (by decide)) (fun _ h9 => ct_sfi h9) (fun H locs hc => ?_)
  refine lv_aload_n hx hb dX0_init_40 rfl (lv_at hl 0 rfl) ?_
  refine lv_iload hx hb dX0_init_41 (lv_at hl 4 rfl) ?_
  refine r_putF (a := (va_up (va_up a 20 q20) 21 q21)) (i := 19) (C := RX0) (T := TX0) (N := 11) (R' := sfi (sfi (sfi (sfi (sfi (sfr (clr (sfr (clr (clr R 19) 20) 19 7 (some (q20))) 21) 19 8 (some (q21))) 19 9 (nI (0))) 19 10 (nI (0))) 19 0 (nI (w))) 19 1 (nI (d))) 19 2 (nI (h))) hx hb hts hown hK.1 hc (h0) (rfl) rfl rfl hinX0 tyX0 tyX0_ok nmX0 2 (by decide) hf_32 (fun _ h9 => h9) rfl hnm rfl (tyX0_ok 2 (by decide)) rfl rfl dX0_init_43 (fds_sfi (by decide) (by decide)) (fun _ h9 => ct_sfi h9) (fun H locs hc => ?_)
  refine lv_aload_n hx hb dX0_init_46 rfl (lv_at hl 0 rfl) ?_
  refine lv_iload hx hb dX0_init_47 (lv_at hl 5 rfl) ?_
  refine r_putF (a := (va_up (va_up a 20 q20) 21 q21)) (i := 19) (C := RX0) (T := TX0) (N := 11) (R' := sfi (sfi (sfi (sfi (sfi (sfi (sfr (clr (sfr (clr (clr R 19) 20) 19 7 (some (q20))) 21) 19 8 (some (q21))) 19 9 (nI (0))) 19 10 (nI (0))) 19 0 (nI (w))) 19 1 (nI (d))) 19 2 (nI (h))) 19 3 (nI (q))) hx hb hts hown hK.1 hc (h0) (rfl) rfl rfl hinX0 tyX0 tyX0_ok nmX0 3 (by decide) hf_35 (fun _ h9 => h9) rfl hnm rfl (tyX0_ok 3 (by decide)) rfl rfl dX0_init_49 (fds_sfi (by decide) (by decide)) (fun _ h9 => ct_sfi h9) (fun H locs hc => ?_)
  refine lv_aload_n hx hb dX0_init_52 rfl (lv_at hl 0 rfl) ?_
  refine lv_iload_n hx hb dX0_init_53 rfl (lv_at hl 2 rfl) ?_
  refine lv_iload_n hx hb dX0_init_54 rfl (lv_at hl 3 rfl) ?_
  refine nv_imul hx hb dX0_init_55 ?_
  refine r_putF (a := (va_up (va_up a 20 q20) 21 q21)) (i := 19) (C := RX0) (T := TX0) (N := 11) (R' := sfi (sfi (sfi (sfi (sfi (sfi (sfi (sfr (clr (sfr (clr (clr R 19) 20) 19 7 (some (q20))) 21) 19 8 (some (q21))) 19 9 (nI (0))) 19 10 (nI (0))) 19 0 (nI (w))) 19 1 (nI (d))) 19 2 (nI (h))) 19 3 (nI (q))) 19 4 (nI (w * d))) hx hb hts hown hK.1 hc (h0) (rfl) rfl rfl hinX0 tyX0 tyX0_ok nmX0 4 (by decide) hf_38 (fun _ h9 => h9) rfl hnm rfl (tyX0_ok 4 (by decide)) rfl rfl dX0_init_56 (fds_sfi (by decide) (by decide)) (fun _ h9 => ct_sfi h9) (fun H locs hc => ?_)
  refine lv_aload_n hx hb dX0_init_59 rfl (lv_at hl 0 rfl) ?_
  refine lv_iload_n hx hb dX0_init_60 rfl (lv_at hl 1 rfl) ?_
  refine lv_iload_n hx hb dX0_init_61 rfl (lv_at hl 2 rfl) ?_
  refine lv_iload_n hx hb dX0_init_62 rfl (lv_at hl 3 rfl) ?_
  refine r_calll hc hA (va_runS (As := [.int (nI (aw)), .int (nI (w)), .int (nI (d))]) (rest := [.ref (a 19)]) ⟨hx, hb, hml, hown, hts⟩ (c_X0_shape l D g _ _ _ aw w d hW hw hd _) (va_cwS 3 hts gX0_init_X0_shape rfl rfl rfl (by decide +kernel) ⟨Nat.le_of_ble_eq_true rfl, Nat.le_of_ble_eq_true rfl⟩) (r_preS hK hZ hc hA) rfl rfl hl.1 rfl (lv_room (Nat.le_of_ble_eq_true rfl)) dX0_init_63 ⟨Nat.le_of_ble_eq_true rfl, Nat.le_of_ble_eq_true rfl⟩) (fun r R' H locs hp hc => ?_)
  obtain ⟨hre, hRe⟩ := hp
  rw [hRe] at hc
  rw [hre]
  refine r_putF (a := (va_up (va_up a 20 q20) 21 q21)) (i := 19) (C := RX0) (T := TX0) (N := 11) (R' := sfl (sfi (sfi (sfi (sfi (sfi (sfi (sfi (sfr (clr (sfr (clr (clr R 19) 20) 19 7 (some (q20))) 21) 19 8 (some (q21))) 19 9 (nI (0))) 19 10 (nI (0))) 19 0 (nI (w))) 19 1 (nI (d))) 19 2 (nI (h))) 19 3 (nI (q))) 19 4 (nI (w * d))) 19 5 (lN (bm aw 0 w d))) hx hb hts hown hK.1 hc (h0) (rfl) rfl rfl hinX0 tyX0 tyX0_ok nmX0 5 (by decide) hf_45 (fun _ h9 => h9) rfl hnm rfl (tyX0_ok 5 (by decide)) rfl rfl dX0_init_66 (fds_sfl (by decide) (by decide)) (fun _ h9 => ct_sfl h9) (fun H locs hc => ?_)
  refine lv_aload_n hx hb dX0_init_69 rfl (lv_at hl 0 rfl) ?_
  refine lv_iload_n hx hb dX0_init_70 rfl (lv_at hl 1 rfl) ?_
  refine lv_iload_n hx hb dX0_init_71 rfl (lv_at hl 3 rfl) ?_
  refine lv_iload_n hx hb dX0_init_72 rfl (lv_at hl 2 rfl) ?_
  refine r_calll hc hA (va_runS (As := [.int (nI (aw)), .int (nI (d)), .int (nI (w))]) (rest := [.ref (a 19)]) ⟨hx, hb, hml, hown, hts⟩ (c_X0_shape l D g _ _ _ aw d w hW hd hw _) (va_cwS 3 hts gX0_init_X0_shape rfl rfl rfl (by decide +kernel) ⟨Nat.le_of_ble_eq_true rfl, Nat.le_of_ble_eq_true rfl⟩) (r_preS hK hZ hc hA) rfl rfl hl.1 rfl (lv_room (Nat.le_of_ble_eq_true rfl)) dX0_init_73 ⟨Nat.le_of_ble_eq_true rfl, Nat.le_of_ble_eq_true rfl⟩) (fun r R' H locs hp hc => ?_)
  obtain ⟨hre, hRe⟩ := hp
  rw [hRe] at hc
  rw [hre]
  refine r_putF (a := (va_up (va_up a 20 q20) 21 q21)) (i := 19) (C := RX0) (T := TX0) (N := 11) (R' := sfl (sfl (sfi (sfi (sfi (sfi (sfi (sfi (sfi (sfr (clr (sfr (clr (clr R 19) 20) 19 7 (some (q20))) 21) 19 8 (some (q21))) 19 9 (nI (0))) 19 10 (nI (0))) 19 0 (nI (w))) 19 1 (nI (d))) 19 2 (nI (h))) 19 3 (nI (q))) 19 4 (nI (w * d))) 19 5 (lN (bm aw 0 w d))) 19 6 (lN (bm aw 0 d w))) hx hb hts hown hK.1 hc (h0) (rfl) rfl rfl hinX0 tyX0 tyX0_ok nmX0 6 (by decide) hf_49 (fun _ h9 => h9) rfl hnm rfl (tyX0_ok 6 (by decide)) rfl rfl dX0_init_76 (fds_sfl (by decide) (by decide)) (fun _ h9 => ct_sfl h9) (fun H locs hc => ?_)
  exact r_vretA (post := fun lv' a' R' => ∃ (q20 : Nat) (q21 : Nat), lv' = va_up (va_up lv 20 true) 21 true ∧ a' = va_up (va_up a 20 q20) 21 q21 ∧ R' = sfl (sfl (sfi (sfi (sfi (sfi (sfi (sfi (sfi (sfr (clr (sfr (clr (clr R 19) 20) 19 7 (some (q20))) 21) 19 8 (some (q21))) 19 9 (nI (0))) 19 10 (nI (0))) 19 0 (nI (w))) 19 1 (nI (d))) 19 2 (nI (h))) 19 3 (nI (q))) 19 4 (nI (w * d))) 19 5 (lN (bm aw 0 w d))) 19 6 (lN (bm aw 0 d w))) hx hb hr hlocks hc dX0_init_79 ⟨q20, q21, rfl, rfl, rfl⟩
set_option maxRecDepth 100000 in
set_option maxHeartbeats 4000000 in
theorem c_X0_init_4 (l : Launch) (D : va_G) (g : Nat → ClassId) (lv : Nat → Bool) (a : Nat → Nat) (R : RS) (h0 : lv 22 = true) (hfr : ∀ i, i = 23 ∨ i = 24 → lv i = false) (aw w d h q : Nat) (hW : aw ≤ 6) (hw : w ≤ 6) (hd : d ≤ 6) : aV l D g lv a yX0_init wsX0_init ({ frames := 2, cells := 2, slots := 72, locals := 80 } : Room) [.ref (a 22), .int (nI (aw)), .int (nI (w)), .int (nI (d)), .int (nI (h)), .int (nI (q))] (clr R 22) (fun lv' a' R' => ∃ (q23 : Nat) (q24 : Nat), lv' = va_up (va_up lv 23 true) 24 true ∧ a' = va_up (va_up a 23 q23) 24 q24 ∧ R' = sfl (sfl (sfi (sfi (sfi (sfi (sfi (sfi (sfi (sfr (clr (sfr (clr (clr R 22) 23) 22 7 (some (q23))) 24) 22 8 (some (q24))) 22 9 (nI (0))) 22 10 (nI (0))) 22 0 (nI (w))) 22 1 (nI (d))) 22 2 (nI (h))) 22 3 (nI (q))) 22 4 (nI (w * d))) 22 5 (lN (bm aw 0 w d))) 22 6 (lN (bm aw 0 d w))) 2 72 := by
  refine c_body (cc := cX0_init) (maxL := 6) (ret := none) (by decide) rfl (Nat.le_of_ble_eq_true rfl) ?_
  intro pr en st mi bl me co ls B hl
  obtain ⟨hx, hb, hr, hml, hown, hts, hlocks, hnm, hK, hZ, hc, hA⟩ := B
  have hl : lv_has ls 6 [(0, .ref (a 22)), (1, .int (nI (aw))), (2, .int (nI (w))), (3, .int (nI (d))), (4, .int (nI (h))), (5, .int (nI (q)))] := hl
  have hinX0 : ∀ w ∈ u_ws RX0 TX0 11, w ∈ wsX0_init := (fun _ h => List.mem_cons_of_mem _ (List.mem_append_right _ h))
  have hf_9 := hts (.fieldLink RX0 9 "PalletLayers$Kind" "corners" "[I") (by decide +kernel)
  have hf_15 := hts (.fieldLink RX0 15 "PalletLayers$Kind" "ways" "[I") (by decide +kernel)
  have hf_18 := hts (.fieldLink RX0 18 "PalletLayers$Kind" "boxes" "I") (by decide +kernel)
  have hf_22 := hts (.fieldLink RX0 22 "PalletLayers$Kind" "soughtExactly" "Z") (by decide +kernel)
  have hf_26 := hts (.fieldLink RX0 26 "PalletLayers$Kind" "width" "I") (by decide +kernel)
  have hf_29 := hts (.fieldLink RX0 29 "PalletLayers$Kind" "depth" "I") (by decide +kernel)
  have hf_32 := hts (.fieldLink RX0 32 "PalletLayers$Kind" "height" "I") (by decide +kernel)
  have hf_35 := hts (.fieldLink RX0 35 "PalletLayers$Kind" "weight" "I") (by decide +kernel)
  have hf_38 := hts (.fieldLink RX0 38 "PalletLayers$Kind" "area" "I") (by decide +kernel)
  have hf_45 := hts (.fieldLink RX0 45 "PalletLayers$Kind" "straightShape" "J") (by decide +kernel)
  have hf_49 := hts (.fieldLink RX0 49 "PalletLayers$Kind" "turnedShape" "J") (by decide +kernel)
  refine lv_aload_n hx hb dX0_init_0 rfl (lv_at hl 0 rfl) ?_
  refine W.objInit hx hb hown (hts (.methodLink RX0 3 objectInit) (by decide +kernel)) (hts (.instanceMethod objectInit) (by decide +kernel)) (hts (.code objectInit ⟨#[0xb1]⟩ 1 none) (by decide +kernel)) rfl (hl.1.trans hml.symm) rfl dX0_init_1 (Nat.le_of_ble_eq_true rfl) (Nat.le_of_ble_eq_true rfl) ?_
  show W _ _ _ _ _ _ _ _ _ _ _ _ _ _ _ (F0 mi 4 ls [])
  refine lv_aload_n hx hb dX0_init_4 rfl (lv_at hl 0 rfl) ?_
  refine lv_bipush (v := nI (36)) hx hb dX0_init_5 (by decide) ?_
  refine r_newa (N := 36) (t0 := 0) (ty := .int) (cA := g 0) (n := nI (36)) (x := 1) (atype := .int) (R := clr R 22) hx hb (hts (.arrayClass .int) (by decide +kernel)) rfl hK.1 hc hA 23 (hfr 23 (by decide)) rfl rfl (fun h9 => h9) (nct_i rfl) (by decide) (by decide) (by decide) (Nat.le_of_ble_eq_true rfl) (Nat.le_of_ble_eq_true rfl) dX0_init_7 (fun q23 H _ hc => ?_)
  refine r_putF (a := (va_up a 23 q23)) (i := 22) (C := RX0) (T := TX0) (N := 11) (R' := sfr (clr (clr R 22) 23) 22 7 (some (q23))) hx hb hts hown hK.1 hc (h0) (rfl) rfl rfl hinX0 tyX0 tyX0_ok nmX0 7 (by decide) hf_9 (fun _ h9 => h9) rfl hnm rfl (tyX0_ok 7 (by decide)) rfl rfl dX0_init_9 (fds_sfr (by decide) (by decide)) (fun _ h9 => ct_sfr h9) (fun H locs hc => ?_)
  refine lv_aload_n hx hb dX0_init_12 rfl (lv_at hl 0 rfl) ?_
  refine lv_bipush (v := nI (36)) hx hb dX0_init_13 (by decide) ?_
  refine r_newa (N := 36) (t0 := 0) (ty := .int) (cA := g 0) (n := nI (36)) (x := 1) (atype := .int) (R := sfr (clr (clr R 22) 23) 22 7 (some (q23))) hx hb (hts (.arrayClass .int) (by decide +kernel)) rfl hK.1 hc hA 24 (hfr 24 (by decide)) rfl rfl (fun h9 => h9) (nct_i rfl) (by decide) (by decide) (by decide) (Nat.le_of_ble_eq_true rfl) (Nat.le_of_ble_eq_true rfl) dX0_init_15 (fun q24 H _ hc => ?_)
  refine r_putF (a := (va_up (va_up a 23 q23) 24 q24)) (i := 22) (C := RX0) (T := TX0) (N := 11) (R' := sfr (clr (sfr (clr (clr R 22) 23) 22 7 (some (q23))) 24) 22 8 (some (q24))) hx hb hts hown hK.1 hc (h0) (rfl) rfl rfl hinX0 tyX0 tyX0_ok nmX0 8 (by decide) hf_15 (fun _ h9 => h9) rfl hnm rfl (tyX0_ok 8 (by decide)) rfl rfl dX0_init_17 (fds_sfr (by decide) (by decide)) (fun _ h9 => ct_sfr h9) (fun H locs hc => ?_)
  refine lv_aload_n hx hb dX0_init_20 rfl (lv_at hl 0 rfl) ?_
  refine lv_iconst (v := nI (0)) hx hb dX0_init_21 (by decide) ?_
  refine r_put (a := (va_up (va_up a 23 q23) 24 q24)) (i := 22) (C := RX0) (T := TX0) (N := 11) (R' := sfi (sfr (clr (sfr (clr (clr R 22) 23) 22 7 (some (q23))) 24) 22 8 (some (q24))) 22 9 (nI (0))) hx hb hts hown hK.1 hc (h0) (rfl) rfl rfl hinX0 tyX0 tyX0_ok nmX0 9 (by decide) hf_18 (fun _ h9 => h9) rfl (tyX0_ok 9 (by decide)) rfl rfl dX0_init_22 (fds_sfi (by decide) (by decide)) (fun _ h9 => ct_sfi h9) (fun H locs hc => ?_)
  refine lv_aload_n hx hb dX0_init_25 rfl (lv_at hl 0 rfl) ?_
  refine lv_iconst (v := nI (0)) hx hb dX0_init_26 (by decide) ?_
  refine r_put (a := (va_up (va_up a 23 q23) 24 q24)) (i := 22) (C := RX0) (T := TX0) (N := 11) (R' := sfi (sfi (sfr (clr (sfr (clr (clr R 22) 23) 22 7 (some (q23))) 24) 22 8 (some (q24))) 22 9 (nI (0))) 22 10 (nI (0))) hx hb hts hown hK.1 hc (h0) (rfl) rfl rfl hinX0 tyX0 tyX0_ok nmX0 10 (by decide) hf_22 (fun _ h9 => h9) rfl (tyX0_ok 10 (by decide)) rfl rfl dX0_init_27 (fds_sfi (by decide) (by decide)) (fun _ h9 => ct_sfi h9) (fun H locs hc => ?_)
  refine lv_aload_n hx hb dX0_init_30 rfl (lv_at hl 0 rfl) ?_
  refine lv_iload_n hx hb dX0_init_31 rfl (lv_at hl 2 rfl) ?_
  refine r_putF (a := (va_up (va_up a 23 q23) 24 q24)) (i := 22) (C := RX0) (T := TX0) (N := 11) (R' := sfi (sfi (sfi (sfr (clr (sfr (clr (clr R 22) 23) 22 7 (some (q23))) 24) 22 8 (some (q24))) 22 9 (nI (0))) 22 10 (nI (0))) 22 0 (nI (w))) hx hb hts hown hK.1 hc (h0) (rfl) rfl rfl hinX0 tyX0 tyX0_ok nmX0 0 (by decide) hf_26 (fun _ h9 => h9) rfl hnm rfl (tyX0_ok 0 (by decide)) rfl rfl dX0_init_32 (fds_sfi (by decide) (by decide)) (fun _ h9 => ct_sfi h9) (fun H locs hc => ?_)
  refine lv_aload_n hx hb dX0_init_35 rfl (lv_at hl 0 rfl) ?_
  refine lv_iload_n hx hb dX0_init_36 rfl (lv_at hl 3 rfl) ?_
  refine r_putF (a := (va_up (va_up a 23 q23) 24 q24)) (i := 22) (C := RX0) (T := TX0) (N := 11) (R' := sfi (sfi (sfi (sfi (sfr (clr (sfr (clr (clr R 22) 23) 22 7 (some (q23))) 24) 22 8 (some (q24))) 22 9 (nI (0))) 22 10 (nI (0))) 22 0 (nI (w))) 22 1 (nI (d))) hx hb hts hown hK.1 hc (h0) (rfl) rfl rfl hinX0 tyX0 tyX0_ok nmX0 1 (by decide) hf_29 (fun _ h9 => h9) rfl hnm rfl (tyX0_ok 1 (by decide)) rfl rfl dX0_init_37 (fds_sfi (by decide) (by decide)) (fun _ h9 => ct_sfi h9) (fun H locs hc => ?_)
  refine lv_aload_n hx hb dX0_init_40 rfl (lv_at hl 0 rfl) ?_
  refine lv_iload hx hb dX0_init_41 (lv_at hl 4 rfl) ?_
  refine r_putF (a := (va_up (va_up a 23 q23) 24 q24)) (i := 22) (C := RX0) (T := TX0) (N := 11) (R' := sfi (sfi (sfi (sfi (sfi (sfr (clr (sfr (clr (clr R 22) 23) 22 7 (some (q23))) 24) 22 8 (some (q24))) 22 9 (nI (0))) 22 10 (nI (0))) 22 0 (nI (w))) 22 1 (nI (d))) 22 2 (nI (h))) hx hb hts hown hK.1 hc (h0) (rfl) rfl rfl hinX0 tyX0 tyX0_ok nmX0 2 (by decide) hf_32 (fun _ h9 => h9) rfl hnm rfl (tyX0_ok 2 (by decide)) rfl rfl dX0_init_43 (fds_sfi (by decide) (by decide)) (fun _ h9 => ct_sfi h9) (fun H locs hc => ?_)
  refine lv_aload_n hx hb dX0_init_46 rfl (lv_at hl 0 rfl) ?_
  refine lv_iload hx hb dX0_init_47 (lv_at hl 5 rfl) ?_
  refine r_putF (a := (va_up (va_up a 23 q23) 24 q24)) (i := 22) (C := RX0) (T := TX0) (N := 11) (R' := sfi (sfi (sfi (sfi (sfi (sfi (sfr (clr (sfr (clr (clr R 22) 23) 22 7 (some (q23))) 24) 22 8 (some (q24))) 22 9 (nI (0))) 22 10 (nI (0))) 22 0 (nI (w))) 22 1 (nI (d))) 22 2 (nI (h))) 22 3 (nI (q))) hx hb hts hown hK.1 hc (h0) (rfl) rfl rfl hinX0 tyX0 tyX0_ok nmX0 3 (by decide) hf_35 (fun _ h9 => h9) rfl hnm rfl (tyX0_ok 3 (by decide)) rfl rfl dX0_init_49 (fds_sfi (by decide) (by decide)) (fun _ h9 => ct_sfi h9) (fun H locs hc => ?_)
  refine lv_aload_n hx hb dX0_init_52 rfl (lv_at hl 0 rfl) ?_
  refine lv_iload_n hx hb dX0_init_53 rfl (lv_at hl 2 rfl) ?_
  refine lv_iload_n hx hb dX0_init_54 rfl (lv_at hl 3 rfl) ?_
  refine nv_imul hx hb dX0_init_55 ?_
  refine r_putF (a := (va_up (va_up a 23 q23) 24 q24)) (i := 22) (C := RX0) (T := TX0) (N := 11) (R' := sfi (sfi (sfi (sfi (sfi (sfi (sfi (sfr (clr (sfr (clr (clr R 22) 23) 22 7 (some (q23))) 24) 22 8 (some (q24))) 22 9 (nI (0))) 22 10 (nI (0))) 22 0 (nI (w))) 22 1 (nI (d))) 22 2 (nI (h))) 22 3 (nI (q))) 22 4 (nI (w * d))) hx hb hts hown hK.1 hc (h0) (rfl) rfl rfl hinX0 tyX0 tyX0_ok nmX0 4 (by decide) hf_38 (fun _ h9 => h9) rfl hnm rfl (tyX0_ok 4 (by decide)) rfl rfl dX0_init_56 (fds_sfi (by decide) (by decide)) (fun _ h9 => ct_sfi h9) (fun H locs hc => ?_)
  refine lv_aload_n hx hb dX0_init_59 rfl (lv_at hl 0 rfl) ?_
  refine lv_iload_n hx hb dX0_init_60 rfl (lv_at hl 1 rfl) ?_
  refine lv_iload_n hx hb dX0_init_61 rfl (lv_at hl 2 rfl) ?_
  refine lv_iload_n hx hb dX0_init_62 rfl (lv_at hl 3 rfl) ?_
  refine r_calll hc hA (va_runS (As := [.int (nI (aw)), .int (nI (w)), .int (nI (d))]) (rest := [.ref (a 22)]) ⟨hx, hb, hml, hown, hts⟩ (c_X0_shape l D g _ _ _ aw w d hW hw hd _) (va_cwS 3 hts gX0_init_X0_shape rfl rfl rfl (by decide +kernel) ⟨Nat.le_of_ble_eq_true rfl, Nat.le_of_ble_eq_true rfl⟩) (r_preS hK hZ hc hA) rfl rfl hl.1 rfl (lv_room (Nat.le_of_ble_eq_true rfl)) dX0_init_63 ⟨Nat.le_of_ble_eq_true rfl, Nat.le_of_ble_eq_true rfl⟩) (fun r R' H locs hp hc => ?_)
  obtain ⟨hre, hRe⟩ := hp
  rw [hRe] at hc
  rw [hre]
  refine r_putF (a := (va_up (va_up a 23 q23) 24 q24)) (i := 22) (C := RX0) (T := TX0) (N := 11) (R' := sfl (sfi (sfi (sfi (sfi (sfi (sfi (sfi (sfr (clr (sfr (clr (clr R 22) 23) 22 7 (some (q23))) 24) 22 8 (some (q24))) 22 9 (nI (0))) 22 10 (nI (0))) 22 0 (nI (w))) 22 1 (nI (d))) 22 2 (nI (h))) 22 3 (nI (q))) 22 4 (nI (w * d))) 22 5 (lN (bm aw 0 w d))) hx hb hts hown hK.1 hc (h0) (rfl) rfl rfl hinX0 tyX0 tyX0_ok nmX0 5 (by decide) hf_45 (fun _ h9 => h9) rfl hnm rfl (tyX0_ok 5 (by decide)) rfl rfl dX0_init_66 (fds_sfl (by decide) (by decide)) (fun _ h9 => ct_sfl h9) (fun H locs hc => ?_)
  refine lv_aload_n hx hb dX0_init_69 rfl (lv_at hl 0 rfl) ?_
  refine lv_iload_n hx hb dX0_init_70 rfl (lv_at hl 1 rfl) ?_
  refine lv_iload_n hx hb dX0_init_71 rfl (lv_at hl 3 rfl) ?_
  refine lv_iload_n hx hb dX0_init_72 rfl (lv_at hl 2 rfl) ?_
  refine r_calll hc hA (va_runS (As := [.int (nI (aw)), .int (nI (d)), .int (nI (w))]) (rest := [.ref (a 22)]) ⟨hx, hb, hml, hown, hts⟩ (c_X0_shape l D g _ _ _ aw d w hW hd hw _) (va_cwS 3 hts gX0_init_X0_shape rfl rfl rfl (by decide +kernel) ⟨Nat.le_of_ble_eq_true rfl, Nat.le_of_ble_eq_true rfl⟩) (r_preS hK hZ hc hA) rfl rfl hl.1 rfl (lv_room (Nat.le_of_ble_eq_true rfl)) dX0_init_73 ⟨Nat.le_of_ble_eq_true rfl, Nat.le_of_ble_eq_true rfl⟩) (fun r R' H locs hp hc => ?_)
  obtain ⟨hre, hRe⟩ := hp
  rw [hRe] at hc
  rw [hre]
  refine r_putF (a := (va_up (va_up a 23 q23) 24 q24)) (i := 22) (C := RX0) (T := TX0) (N := 11) (R' := sfl (sfl (sfi (sfi (sfi (sfi (sfi (sfi (sfi (sfr (clr (sfr (clr (clr R 22) 23) 22 7 (some (q23))) 24) 22 8 (some (q24))) 22 9 (nI (0))) 22 10 (nI (0))) 22 0 (nI (w))) 22 1 (nI (d))) 22 2 (nI (h))) 22 3 (nI (q))) 22 4 (nI (w * d))) 22 5 (lN (bm aw 0 w d))) 22 6 (lN (bm aw 0 d w))) hx hb hts hown hK.1 hc (h0) (rfl) rfl rfl hinX0 tyX0 tyX0_ok nmX0 6 (by decide) hf_49 (fun _ h9 => h9) rfl hnm rfl (tyX0_ok 6 (by decide)) rfl rfl dX0_init_76 (fds_sfl (by decide) (by decide)) (fun _ h9 => ct_sfl h9) (fun H locs hc => ?_)
  exact r_vretA (post := fun lv' a' R' => ∃ (q23 : Nat) (q24 : Nat), lv' = va_up (va_up lv 23 true) 24 true ∧ a' = va_up (va_up a 23 q23) 24 q24 ∧ R' = sfl (sfl (sfi (sfi (sfi (sfi (sfi (sfi (sfi (sfr (clr (sfr (clr (clr R 22) 23) 22 7 (some (q23))) 24) 22 8 (some (q24))) 22 9 (nI (0))) 22 10 (nI (0))) 22 0 (nI (w))) 22 1 (nI (d))) 22 2 (nI (h))) 22 3 (nI (q))) 22 4 (nI (w * d))) 22 5 (lN (bm aw 0 w d))) 22 6 (lN (bm aw 0 d w))) hx hb hr hlocks hc dX0_init_79 ⟨q23, q24, rfl, rfl, rfl⟩
set_option maxRecDepth 100000 in
set_option maxHeartbeats 4000000 in
theorem c_X0_init_5 (l : Launch) (D : va_G) (g : Nat → ClassId) (lv : Nat → Bool) (a : Nat → Nat) (R : RS) (h0 : lv 25 = true) (hfr : ∀ i, i = 26 ∨ i = 27 → lv i = false) (aw w d h q : Nat) (hW : aw ≤ 6) (hw : w ≤ 6) (hd : d ≤ 6) : aV l D g lv a yX0_init wsX0_init ({ frames := 2, cells := 2, slots := 72, locals := 80 } : Room) [.ref (a 25), .int (nI (aw)), .int (nI (w)), .int (nI (d)), .int (nI (h)), .int (nI (q))] (clr R 25) (fun lv' a' R' => ∃ (q26 : Nat) (q27 : Nat), lv' = va_up (va_up lv 26 true) 27 true ∧ a' = va_up (va_up a 26 q26) 27 q27 ∧ R' = sfl (sfl (sfi (sfi (sfi (sfi (sfi (sfi (sfi (sfr (clr (sfr (clr (clr R 25) 26) 25 7 (some (q26))) 27) 25 8 (some (q27))) 25 9 (nI (0))) 25 10 (nI (0))) 25 0 (nI (w))) 25 1 (nI (d))) 25 2 (nI (h))) 25 3 (nI (q))) 25 4 (nI (w * d))) 25 5 (lN (bm aw 0 w d))) 25 6 (lN (bm aw 0 d w))) 2 72 := by
  refine c_body (cc := cX0_init) (maxL := 6) (ret := none) (by decide) rfl (Nat.le_of_ble_eq_true rfl) ?_
  intro pr en st mi bl me co ls B hl
  obtain ⟨hx, hb, hr, hml, hown, hts, hlocks, hnm, hK, hZ, hc, hA⟩ := B
  have hl : lv_has ls 6 [(0, .ref (a 25)), (1, .int (nI (aw))), (2, .int (nI (w))), (3, .int (nI (d))), (4, .int (nI (h))), (5, .int (nI (q)))] := hl
  have hinX0 : ∀ w ∈ u_ws RX0 TX0 11, w ∈ wsX0_init := (fun _ h => List.mem_cons_of_mem _ (List.mem_append_right _ h))
  have hf_9 := hts (.fieldLink RX0 9 "PalletLayers$Kind" "corners" "[I") (by decide +kernel)
  have hf_15 := hts (.fieldLink RX0 15 "PalletLayers$Kind" "ways" "[I") (by decide +kernel)
  have hf_18 := hts (.fieldLink RX0 18 "PalletLayers$Kind" "boxes" "I") (by decide +kernel)
  have hf_22 := hts (.fieldLink RX0 22 "PalletLayers$Kind" "soughtExactly" "Z") (by decide +kernel)
  have hf_26 := hts (.fieldLink RX0 26 "PalletLayers$Kind" "width" "I") (by decide +kernel)
  have hf_29 := hts (.fieldLink RX0 29 "PalletLayers$Kind" "depth" "I") (by decide +kernel)
  have hf_32 := hts (.fieldLink RX0 32 "PalletLayers$Kind" "height" "I") (by decide +kernel)
  have hf_35 := hts (.fieldLink RX0 35 "PalletLayers$Kind" "weight" "I") (by decide +kernel)
  have hf_38 := hts (.fieldLink RX0 38 "PalletLayers$Kind" "area" "I") (by decide +kernel)
  have hf_45 := hts (.fieldLink RX0 45 "PalletLayers$Kind" "straightShape" "J") (by decide +kernel)
  have hf_49 := hts (.fieldLink RX0 49 "PalletLayers$Kind" "turnedShape" "J") (by decide +kernel)
  refine lv_aload_n hx hb dX0_init_0 rfl (lv_at hl 0 rfl) ?_
  refine W.objInit hx hb hown (hts (.methodLink RX0 3 objectInit) (by decide +kernel)) (hts (.instanceMethod objectInit) (by decide +kernel)) (hts (.code objectInit ⟨#[0xb1]⟩ 1 none) (by decide +kernel)) rfl (hl.1.trans hml.symm) rfl dX0_init_1 (Nat.le_of_ble_eq_true rfl) (Nat.le_of_ble_eq_true rfl) ?_
  show W _ _ _ _ _ _ _ _ _ _ _ _ _ _ _ (F0 mi 4 ls [])
  refine lv_aload_n hx hb dX0_init_4 rfl (lv_at hl 0 rfl) ?_
  refine lv_bipush (v := nI (36)) hx hb dX0_init_5 (by decide) ?_
  refine r_newa (N := 36) (t0 := 0) (ty := .int) (cA := g 0) (n := nI (36)) (x := 1) (atype := .int) (R := clr R 25) hx hb (hts (.arrayClass .int) (by decide +kernel)) rfl hK.1 hc hA 26 (hfr 26 (by decide)) rfl rfl (fun h9 => h9) (nct_i rfl) (by decide) (by decide) (by decide) (Nat.le_of_ble_eq_true rfl) (Nat.le_of_ble_eq_true rfl) dX0_init_7 (fun q26 H _ hc => ?_)
  refine r_putF (a := (va_up a 26 q26)) (i := 25) (C := RX0) (T := TX0) (N := 11) (R' := sfr (clr (clr R 25) 26) 25 7 (some (q26))) hx hb hts hown hK.1 hc (h0) (rfl) rfl rfl hinX0 tyX0 tyX0_ok nmX0 7 (by decide) hf_9 (fun _ h9 => h9) rfl hnm rfl (tyX0_ok 7 (by decide)) rfl rfl dX0_init_9 (fds_sfr (by decide) (by decide)) (fun _ h9 => ct_sfr h9) (fun H locs hc => ?_)
  refine lv_aload_n hx hb dX0_init_12 rfl (lv_at hl 0 rfl) ?_
  refine lv_bipush (v := nI (36)) hx hb dX0_init_13 (by decide) ?_
  refine r_newa (N := 36) (t0 := 0) (ty := .int) (cA := g 0) (n := nI (36)) (x := 1) (atype := .int) (R := sfr (clr (clr R 25) 26) 25 7 (some (q26))) hx hb (hts (.arrayClass .int) (by decide +kernel)) rfl hK.1 hc hA 27 (hfr 27 (by decide)) rfl rfl (fun h9 => h9) (nct_i rfl) (by decide) (by decide) (by decide) (Nat.le_of_ble_eq_true rfl) (Nat.le_of_ble_eq_true rfl) dX0_init_15 (fun q27 H _ hc => ?_)
  refine r_putF (a := (va_up (va_up a 26 q26) 27 q27)) (i := 25) (C := RX0) (T := TX0) (N := 11) (R' := sfr (clr (sfr (clr (clr R 25) 26) 25 7 (some (q26))) 27) 25 8 (some (q27))) hx hb hts hown hK.1 hc (h0) (rfl) rfl rfl hinX0 tyX0 tyX0_ok nmX0 8 (by decide) hf_15 (fun _ h9 => h9) rfl hnm rfl (tyX0_ok 8 (by decide)) rfl rfl dX0_init_17 (fds_sfr (by decide) (by decide)) (fun _ h9 => ct_sfr h9) (fun H locs hc => ?_)
  refine lv_aload_n hx hb dX0_init_20 rfl (lv_at hl 0 rfl) ?_
  refine lv_iconst (v := nI (0)) hx hb dX0_init_21 (by decide) ?_
  refine r_put (a := (va_up (va_up a 26 q26) 27 q27)) (i := 25) (C := RX0) (T := TX0) (N := 11) (R' := sfi (sfr (clr (sfr (clr (clr R 25) 26) 25 7 (some (q26))) 27) 25 8 (some (q27))) 25 9 (nI (0))) hx hb hts hown hK.1 hc (h0) (rfl) rfl rfl hinX0 tyX0 tyX0_ok nmX0 9 (by decide) hf_18 (fun _ h9 => h9) rfl (tyX0_ok 9 (by decide)) rfl rfl dX0_init_22 (fds_sfi (by decide) (by decide)) (fun _ h9 => ct_sfi h9) (fun H locs hc => ?_)
  refine lv_aload_n hx hb dX0_init_25 rfl (lv_at hl 0 rfl) ?_
  refine lv_iconst (v := nI (0)) hx hb dX0_init_26 (by decide) ?_
  refine r_put (a := (va_up (va_up a 26 q26) 27 q27)) (i := 25) (C := RX0) (T := TX0) (N := 11) (R' := sfi (sfi (sfr (clr (sfr (clr (clr R 25) 26) 25 7 (some (q26))) 27) 25 8 (some (q27))) 25 9 (nI (0))) 25 10 (nI (0))) hx hb hts hown hK.1 hc (h0) (rfl) rfl rfl hinX0 tyX0 tyX0_ok nmX0 10 (by decide) hf_22 (fun _ h9 => h9) rfl (tyX0_ok 10 (by decide)) rfl rfl dX0_init_27 (fds_sfi (by decide) (by decide)) (fun _ h9 => ct_sfi h9) (fun H locs hc => ?_)
  refine lv_aload_n hx hb dX0_init_30 rfl (lv_at hl 0 rfl) ?_
  refine lv_iload_n hx hb dX0_init_31 rfl (lv_at hl 2 rfl) ?_
  refine r_putF (a := (va_up (va_up a 26 q26) 27 q27)) (i := 25) (C := RX0) (T := TX0) (N := 11) (R' := sfi (sfi (sfi (sfr (clr (sfr (clr (clr R 25) 26) 25 7 (some (q26))) 27) 25 8 (some (q27))) 25 9 (nI (0))) 25 10 (nI (0))) 25 0 (nI (w))) hx hb hts hown hK.1 hc (h0) (rfl) rfl rfl hinX0 tyX0 tyX0_ok nmX0 0 (by decide) hf_26 (fun _ h9 => h9) rfl hnm rfl (tyX0_ok 0 (by decide)) rfl rfl dX0_init_32 (fds_sfi (by decide) (by decide)) (fun _ h9 => ct_sfi h9) (fun H locs hc => ?_)
  refine lv_aload_n hx hb dX0_init_35 rfl (lv_at hl 0 rfl) ?_
  refine lv_iload_n hx hb dX0_init_36 rfl (lv_at hl 3 rfl) ?_
  refine r_putF (a := (va_up (va_up a 26 q26) 27 q27)) (i := 25) (C := RX0) (T := TX0) (N := 11) (R' := sfi (sfi (sfi (sfi (sfr (clr (sfr (clr (clr R 25) 26) 25 7 (some (q26))) 27) 25 8 (some (q27))) 25 9 (nI (0))) 25 10 (nI (0))) 25 0 (nI (w))) 25 1 (nI (d))) hx hb hts hown hK.1 hc (h0) (rfl) rfl rfl hinX0 tyX0 tyX0_ok nmX0 1 (by decide) hf_29 (fun _ h9 => h9) rfl hnm rfl (tyX0_ok 1 (by decide)) rfl rfl dX0_init_37 (fds_sfi (by decide) (by decide)) (fun _ h9 => ct_sfi h9) (fun H locs hc => ?_)
  refine lv_aload_n hx hb dX0_init_40 rfl (lv_at hl 0 rfl) ?_
  refine lv_iload hx hb dX0_init_41 (lv_at hl 4 rfl) ?_
  refine r_putF (a := (va_up (va_up a 26 q26) 27 q27)) (i := 25) (C := RX0) (T := TX0) (N := 11) (R' := sfi (sfi (sfi (sfi (sfi (sfr (clr (sfr (clr (clr R 25) 26) 25 7 (some (q26))) 27) 25 8 (some (q27))) 25 9 (nI (0))) 25 10 (nI (0))) 25 0 (nI (w))) 25 1 (nI (d))) 25 2 (nI (h))) hx hb hts hown hK.1 hc (h0) (rfl) rfl rfl hinX0 tyX0 tyX0_ok nmX0 2 (by decide) hf_32 (fun _ h9 => h9) rfl hnm rfl (tyX0_ok 2 (by decide)) rfl rfl dX0_init_43 (fds_sfi (by decide) (by decide)) (fun _ h9 => ct_sfi h9) (fun H locs hc => ?_)
  refine lv_aload_n hx hb dX0_init_46 rfl (lv_at hl 0 rfl) ?_
  refine lv_iload hx hb dX0_init_47 (lv_at hl 5 rfl) ?_
  refine r_putF (a := (va_up (va_up a 26 q26) 27 q27)) (i := 25) (C := RX0) (T := TX0) (N := 11) (R' := sfi (sfi (sfi (sfi (sfi (sfi (sfr (clr (sfr (clr (clr R 25) 26) 25 7 (some (q26))) 27) 25 8 (some (q27))) 25 9 (nI (0))) 25 10 (nI (0))) 25 0 (nI (w))) 25 1 (nI (d))) 25 2 (nI (h))) 25 3 (nI (q))) hx hb hts hown hK.1 hc (h0) (rfl) rfl rfl hinX0 tyX0 tyX0_ok nmX0 3 (by decide) hf_35 (fun _ h9 => h9) rfl hnm rfl (tyX0_ok 3 (by decide)) rfl rfl dX0_init_49 (fds_sfi (by decide) (by decide)) (fun _ h9 => ct_sfi h9) (fun H locs hc => ?_)
  refine lv_aload_n hx hb dX0_init_52 rfl (lv_at hl 0 rfl) ?_
  refine lv_iload_n hx hb dX0_init_53 rfl (lv_at hl 2 rfl) ?_
  refine lv_iload_n hx hb dX0_init_54 rfl (lv_at hl 3 rfl) ?_
  refine nv_imul hx hb dX0_init_55 ?_
  refine r_putF (a := (va_up (va_up a 26 q26) 27 q27)) (i := 25) (C := RX0) (T := TX0) (N := 11) (R' := sfi (sfi (sfi (sfi (sfi (sfi (sfi (sfr (clr (sfr (clr (clr R 25) 26) 25 7 (some (q26))) 27) 25 8 (some (q27))) 25 9 (nI (0))) 25 10 (nI (0))) 25 0 (nI (w))) 25 1 (nI (d))) 25 2 (nI (h))) 25 3 (nI (q))) 25 4 (nI (w * d))) hx hb hts hown hK.1 hc (h0) (rfl) rfl rfl hinX0 tyX0 tyX0_ok nmX0 4 (by decide) hf_38 (fun _ h9 => h9) rfl hnm rfl (tyX0_ok 4 (by decide)) rfl rfl dX0_init_56 (fds_sfi (by decide) (by decide)) (fun _ h9 => ct_sfi h9) (fun H locs hc => ?_)
  refine lv_aload_n hx hb dX0_init_59 rfl (lv_at hl 0 rfl) ?_
  refine lv_iload_n hx hb dX0_init_60 rfl (lv_at hl 1 rfl) ?_
  refine lv_iload_n hx hb dX0_init_61 rfl (lv_at hl 2 rfl) ?_
  refine lv_iload_n hx hb dX0_init_62 rfl (lv_at hl 3 rfl) ?_
  refine r_calll hc hA (va_runS (As := [.int (nI (aw)), .int (nI (w)), .int (nI (d))]) (rest := [.ref (a 25)]) ⟨hx, hb, hml, hown, hts⟩ (c_X0_shape l D g _ _ _ aw w d hW hw hd _) (va_cwS 3 hts gX0_init_X0_shape rfl rfl rfl (by decide +kernel) ⟨Nat.le_of_ble_eq_true rfl, Nat.le_of_ble_eq_true rfl⟩) (r_preS hK hZ hc hA) rfl rfl hl.1 rfl (lv_room (Nat.le_of_ble_eq_true rfl)) dX0_init_63 ⟨Nat.le_of_ble_eq_true rfl, Nat.le_of_ble_eq_true rfl⟩) (fun r R' H locs hp hc => ?_)
  obtain ⟨hre, hRe⟩ := hp
  rw [hRe] at hc
  rw [hre]
  refine r_putF (a := (va_up (va_up a 26 q26) 27 q27)) (i := 25) (C := RX0) (T := TX0) (N := 11) (R' := sfl (sfi (sfi (sfi (sfi (sfi (sfi (sfi (sfr (clr (sfr (clr (clr R 25) 26) 25 7 (some (q26))) 27) 25 8 (some (q27))) 25 9 (nI (0))) 25 10 (nI (0))) 25 0 (nI (w))) 25 1 (nI (d))) 25 2 (nI (h))) 25 3 (nI (q))) 25 4 (nI (w * d))) 25 5 (lN (bm aw 0 w d))) hx hb hts hown hK.1 hc (h0) (rfl) rfl rfl hinX0 tyX0 tyX0_ok nmX0 5 (by decide) hf_45 (fun _ h9 => h9) rfl hnm rfl (tyX0_ok 5 (by decide)) rfl rfl dX0_init_66 (fds_sfl (by decide) (by decide)) (fun _ h9 => ct_sfl h9) (fun H locs hc => ?_)
  refine lv_aload_n hx hb dX0_init_69 rfl (lv_at hl 0 rfl) ?_
  refine lv_iload_n hx hb dX0_init_70 rfl (lv_at hl 1 rfl) ?_
  refine lv_iload_n hx hb dX0_init_71 rfl (lv_at hl 3 rfl) ?_
  refine lv_iload_n hx hb dX0_init_72 rfl (lv_at hl 2 rfl) ?_
  refine r_calll hc hA (va_runS (As := [.int (nI (aw)), .int (nI (d)), .int (nI (w))]) (rest := [.ref (a 25)]) ⟨hx, hb, hml, hown, hts⟩ (c_X0_shape l D g _ _ _ aw d w hW hd hw _) (va_cwS 3 hts gX0_init_X0_shape rfl rfl rfl (by decide +kernel) ⟨Nat.le_of_ble_eq_true rfl, Nat.le_of_ble_eq_true rfl⟩) (r_preS hK hZ hc hA) rfl rfl hl.1 rfl (lv_room (Nat.le_of_ble_eq_true rfl)) dX0_init_73 ⟨Nat.le_of_ble_eq_true rfl, Nat.le_of_ble_eq_true rfl⟩) (fun r R' H locs hp hc => ?_)
  obtain ⟨hre, hRe⟩ := hp
  rw [hRe] at hc
  rw [hre]
  refine r_putF (a := (va_up (va_up a 26 q26) 27 q27)) (i := 25) (C := RX0) (T := TX0) (N := 11) (R' := sfl (sfl (sfi (sfi (sfi (sfi (sfi (sfi (sfi (sfr (clr (sfr (clr (clr R 25) 26) 25 7 (some (q26))) 27) 25 8 (some (q27))) 25 9 (nI (0))) 25 10 (nI (0))) 25 0 (nI (w))) 25 1 (nI (d))) 25 2 (nI (h))) 25 3 (nI (q))) 25 4 (nI (w * d))) 25 5 (lN (bm aw 0 w d))) 25 6 (lN (bm aw 0 d w))) hx hb hts hown hK.1 hc (h0) (rfl) rfl rfl hinX0 tyX0 tyX0_ok nmX0 6 (by decide) hf_49 (fun _ h9 => h9) rfl hnm rfl (tyX0_ok 6 (by decide)) rfl rfl dX0_init_76 (fds_sfl (by decide) (by decide)) (fun _ h9 => ct_sfl h9) (fun H locs hc => ?_)
  exact r_vretA (post := fun lv' a' R' => ∃ (q26 : Nat) (q27 : Nat), lv' = va_up (va_up lv 26 true) 27 true ∧ a' = va_up (va_up a 26 q26) 27 q27 ∧ R' = sfl (sfl (sfi (sfi (sfi (sfi (sfi (sfi (sfi (sfr (clr (sfr (clr (clr R 25) 26) 25 7 (some (q26))) 27) 25 8 (some (q27))) 25 9 (nI (0))) 25 10 (nI (0))) 25 0 (nI (w))) 25 1 (nI (d))) 25 2 (nI (h))) 25 3 (nI (q))) 25 4 (nI (w * d))) 25 5 (lN (bm aw 0 w d))) 25 6 (lN (bm aw 0 d w))) hx hb hr hlocks hc dX0_init_79 ⟨q26, q27, rfl, rfl, rfl⟩
set_option maxRecDepth 100000 in
set_option maxHeartbeats 4000000 in
theorem c_X1_init_0 (l : Launch) (D : va_G) (g : Nat → ClassId) (lv : Nat → Bool) (a : Nat → Nat) (R : RS) (h0 : lv 40 = true) (hfr : ∀ i, i = 41 ∨ i = 42 ∨ i = 43 ∨ i = 44 ∨ i = 45 → lv i = false)  : aV l D g lv a yX1_init wsX1_init ({ frames := 1, cells := 5, slots := 50, locals := 60 } : Room) [.ref (a 40)] (clr R 40) (fun lv' a' R' => ∃ (q41 : Nat) (q42 : Nat) (q43 : Nat) (q44 : Nat) (q45 : Nat), lv' = va_up (va_up (va_up (va_up (va_up lv 41 true) 42 true) 43 true) 44 true) 45 true ∧ a' = va_up (va_up (va_up (va_up (va_up a 41 q41) 42 q42) 43 q43) 44 q44) 45 q45 ∧ R' = sfi (sfi (sfi (sfi (sfi (sfr (clr (sfr (clr (sfr (clr (sfr (clr (sfr (clr (clr R 40) 41) 40 0 (some (q41))) 42) 40 1 (some (q42))) 43) 40 2 (some (q43))) 44) 40 3 (some (q44))) 45) 40 4 (some (q45))) 40 5 (nI (0))) 40 6 (nI (0))) 40 7 (nI (0))) 40 8 (nI (0))) 40 9 ((-1))) 5 50 := by
  refine c_body (cc := cX1_init) (maxL := 1) (ret := none) (by decide) rfl (Nat.le_of_ble_eq_true rfl) ?_
  intro pr en st mi bl me co ls B hl
  obtain ⟨hx, hb, hr, hml, hown, hts, hlocks, hnm, hK, hZ, hc, hA⟩ := B
  have hl : lv_has ls 1 [(0, .ref (a 40))] := hl
  have hinX1 : ∀ w ∈ u_ws RX1 TX1 10, w ∈ wsX1_init := (fun _ h => List.mem_cons_of_mem _ (List.mem_append_right _ h))
  have hf_9 := hts (.fieldLink RX1 9 "PalletLayers$Pallet" "kindOf" "[I") (by decide +kernel)
  have hf_15 := hts (.fieldLink RX1 15 "PalletLayers$Pallet" "boxesOf" "[I") (by decide +kernel)
  have hf_18 := hts (.fieldLink RX1 18 "PalletLayers$Pallet" "bottomOf" "[I") (by decide +kernel)
  have hf_21 := hts (.fieldLink RX1 21 "PalletLayers$Pallet" "weightOf" "[I") (by decide +kernel)
  have hf_24 := hts (.fieldLink RX1 24 "PalletLayers$Pallet" "coveredOf" "[J") (by decide +kernel)
  have hf_28 := hts (.fieldLink RX1 28 "PalletLayers$Pallet" "layers" "I") (by decide +kernel)
  have hf_32 := hts (.fieldLink RX1 32 "PalletLayers$Pallet" "height" "I") (by decide +kernel)
  have hf_35 := hts (.fieldLink RX1 35 "PalletLayers$Pallet" "weight" "I") (by decide +kernel)
  have hf_38 := hts (.fieldLink RX1 38 "PalletLayers$Pallet" "boxes" "I") (by decide +kernel)
  have hf_41 := hts (.fieldLink RX1 41 "PalletLayers$Pallet" "stop" "I") (by decide +kernel)
  refine lv_aload_n hx hb dX1_init_0 rfl (lv_at hl 0 rfl) ?_
  refine W.objInit hx hb hown (hts (.methodLink RX1 3 objectInit) (by decide +kernel)) (hts (.instanceMethod objectInit) (by decide +kernel)) (hts (.code objectInit ⟨#[0xb1]⟩ 1 none) (by decide +kernel)) rfl (hl.1.trans hml.symm) rfl dX1_init_1 (Nat.le_of_ble_eq_true rfl) (Nat.le_of_ble_eq_true rfl) ?_
  show W _ _ _ _ _ _ _ _ _ _ _ _ _ _ _ (F0 mi 4 ls [])
  refine lv_aload_n hx hb dX1_init_4 rfl (lv_at hl 0 rfl) ?_
  refine lv_bipush (v := nI (10)) hx hb dX1_init_5 (by decide) ?_
  refine r_newa (N := 10) (t0 := 0) (ty := .int) (cA := g 0) (n := nI (10)) (x := 1) (atype := .int) (R := clr R 40) hx hb (hts (.arrayClass .int) (by decide +kernel)) rfl hK.1 hc hA 41 (hfr 41 (by decide)) rfl rfl (fun h9 => h9) (nct_i rfl) (by decide) (by decide) (by decide) (Nat.le_of_ble_eq_true rfl) (Nat.le_of_ble_eq_true rfl) dX1_init_7 (fun q41 H _ hc => ?_)
  refine r_putF (a := (va_up a 41 q41)) (i := 40) (C := RX1) (T := TX1) (N := 10) (R' := sfr (clr (clr R 40) 41) 40 0 (some (q41))) hx hb hts hown hK.1 hc (h0) (rfl) rfl rfl hinX1 tyX1 tyX1_ok nmX1 0 (by decide) hf_9 (fun _ h9 => h9) rfl hnm rfl (tyX1_ok 0 (by decide)) rfl rfl dX1_init_9 (fds_sfr (by decide) (by decide)) (fun _ h9 => ct_sfr h9) (fun H locs hc => ?_)
  refine lv_aload_n hx hb dX1_init_12 rfl (lv_at hl 0 rfl) ?_
  refine lv_bipush (v := nI (10)) hx hb dX1_init_13 (by decide) ?_
  refine r_newa (N := 10) (t0 := 0) (ty := .int) (cA := g 0) (n := nI (10)) (x := 1) (atype := .int) (R := sfr (clr (clr R 40) 41) 40 0 (some (q41))) hx hb (hts (.arrayClass .int) (by decide +kernel)) rfl hK.1 hc hA 42 (hfr 42 (by decide)) rfl rfl (fun h9 => h9) (nct_i rfl) (by decide) (by decide) (by decide) (Nat.le_of_ble_eq_true rfl) (Nat.le_of_ble_eq_true rfl) dX1_init_15 (fun q42 H _ hc => ?_)
  refine r_putF (a := (va_up (va_up a 41 q41) 42 q42)) (i := 40) (C := RX1) (T := TX1) (N := 10) (R' := sfr (clr (sfr (clr (clr R 40) 41) 40 0 (some (q41))) 42) 40 1 (some (q42))) hx hb hts hown hK.1 hc (h0) (rfl) rfl rfl hinX1 tyX1 tyX1_ok nmX1 1 (by decide) hf_15 (fun _ h9 => h9) rfl hnm rfl (tyX1_ok 1 (by decide)) rfl rfl dX1_init_17 (fds_sfr (by decide) (by decide)) (fun _ h9 => ct_sfr h9) (fun H locs hc => ?_)
  refine lv_aload_n hx hb dX1_init_20 rfl (lv_at hl 0 rfl) ?_
  refine lv_bipush (v := nI (10)) hx hb dX1_init_21 (by decide) ?_
  refine r_newa (N := 10) (t0 := 0) (ty := .int) (cA := g 0) (n := nI (10)) (x := 1) (atype := .int) (R := sfr (clr (sfr (clr (clr R 40) 41) 40 0 (some (q41))) 42) 40 1 (some (q42))) hx hb (hts (.arrayClass .int) (by decide +kernel)) rfl hK.1 hc hA 43 (hfr 43 (by decide)) rfl rfl (fun h9 => h9) (nct_i rfl) (by decide) (by decide) (by decide) (Nat.le_of_ble_eq_true rfl) (Nat.le_of_ble_eq_true rfl) dX1_init_23 (fun q43 H _ hc => ?_)
  refine r_putF (a := (va_up (va_up (va_up a 41 q41) 42 q42) 43 q43)) (i := 40) (C := RX1) (T := TX1) (N := 10) (R' := sfr (clr (sfr (clr (sfr (clr (clr R 40) 41) 40 0 (some (q41))) 42) 40 1 (some (q42))) 43) 40 2 (some (q43))) hx hb hts hown hK.1 hc (h0) (rfl) rfl rfl hinX1 tyX1 tyX1_ok nmX1 2 (by decide) hf_18 (fun _ h9 => h9) rfl hnm rfl (tyX1_ok 2 (by decide)) rfl rfl dX1_init_25 (fds_sfr (by decide) (by decide)) (fun _ h9 => ct_sfr h9) (fun H locs hc => ?_)
  refine lv_aload_n hx hb dX1_init_28 rfl (lv_at hl 0 rfl) ?_
  refine lv_bipush (v := nI (10)) hx hb dX1_init_29 (by decide) ?_
  refine r_newa (N := 10) (t0 := 0) (ty := .int) (cA := g 0) (n := nI (10)) (x := 1) (atype := .int) (R := sfr (clr (sfr (clr (sfr (clr (clr R 40) 41) 40 0 (some (q41))) 42) 40 1 (some (q42))) 43) 40 2 (some (q43))) hx hb (hts (.arrayClass .int) (by decide +kernel)) rfl hK.1 hc hA 44 (hfr 44 (by decide)) rfl rfl (fun h9 => h9) (nct_i rfl) (by decide) (by decide) (by decide) (Nat.le_of_ble_eq_true rfl) (Nat.le_of_ble_eq_true rfl) dX1_init_31 (fun q44 H _ hc => ?_)
  refine r_putF (a := (va_up (va_up (va_up (va_up a 41 q41) 42 q42) 43 q43) 44 q44)) (i := 40) (C := RX1) (T := TX1) (N := 10) (R' := sfr (clr (sfr (clr (sfr (clr (sfr (clr (clr R 40) 41) 40 0 (some (q41))) 42) 40 1 (some (q42))) 43) 40 2 (some (q43))) 44) 40 3 (some (q44))) hx hb hts hown hK.1 hc (h0) (rfl) rfl rfl hinX1 tyX1 tyX1_ok nmX1 3 (by decide) hf_21 (fun _ h9 => h9) rfl hnm rfl (tyX1_ok 3 (by decide)) rfl rfl dX1_init_33 (fds_sfr (by decide) (by decide)) (fun _ h9 => ct_sfr h9) (fun H locs hc => ?_)
  refine lv_aload_n hx hb dX1_init_36 rfl (lv_at hl 0 rfl) ?_
  refine lv_bipush (v := nI (10)) hx hb dX1_init_37 (by decide) ?_
  refine r_newa (N := 10) (t0 := 1) (ty := .long) (cA := g 1) (n := nI (10)) (x := 2) (atype := .long) (R := sfr (clr (sfr (clr (sfr (clr (sfr (clr (clr R 40) 41) 40 0 (some (q41))) 42) 40 1 (some (q42))) 43) 40 2 (some (q43))) 44) 40 3 (some (q44))) hx hb (hts (.arrayClass .long) (by decide +kernel)) rfl hK.1 hc hA 45 (hfr 45 (by decide)) rfl rfl (fun h9 => h9) (nct_l rfl) (by decide) (by decide) (by decide) (Nat.le_of_ble_eq_true rfl) (Nat.le_of_ble_eq_true rfl) dX1_init_39 (fun q45 H _ hc => ?_)
  refine r_putF (a := (va_up (va_up (va_up (va_up (va_up a 41 q41) 42 q42) 43 q43) 44 q44) 45 q45)) (i := 40) (C := RX1) (T := TX1) (N := 10) (R' := sfr (clr (sfr (clr (sfr (clr (sfr (clr (sfr (clr (clr R 40) 41) 40 0 (some (q41))) 42) 40 1 (some (q42))) 43) 40 2 (some (q43))) 44) 40 3 (some (q44))) 45) 40 4 (some (q45))) hx hb hts hown hK.1 hc (h0) (rfl) rfl rfl hinX1 tyX1 tyX1_ok nmX1 4 (by decide) hf_24 (fun _ h9 => h9) rfl hnm rfl (tyX1_ok 4 (by decide)) rfl rfl dX1_init_41 (fds_sfr (by decide) (by decide)) (fun _ h9 => ct_sfr h9) (fun H locs hc => ?_)
  refine lv_aload_n hx hb dX1_init_44 rfl (lv_at hl 0 rfl) ?_
  refine lv_iconst (v := nI (0)) hx hb dX1_init_45 (by decide) ?_
  refine r_put (a := (va_up (va_up (va_up (va_up (va_up a 41 q41) 42 q42) 43 q43) 44 q44) 45 q45)) (i := 40) (C := RX1) (T := TX1) (N := 10) (R' := sfi (sfr (clr (sfr (clr (sfr (clr (sfr (clr (sfr (clr (clr R 40) 41) 40 0 (some (q41))) 42) 40 1 (some (q42))) 43) 40 2 (some (q43))) 44) 40 3 (some (q44))) 45) 40 4 (some (q45))) 40 5 (nI (0))) hx hb hts hown hK.1 hc (h0) (rfl) rfl rfl hinX1 tyX1 tyX1_ok nmX1 5 (by decide) hf_28 (fun _ h9 => h9) rfl (tyX1_ok 5 (by decide)) rfl rfl dX1_init_46 (fds_sfi (by decide) (by decide)) (fun _ h9 => ct_sfi h9) (fun H locs hc => ?_)
  refine lv_aload_n hx hb dX1_init_49 rfl (lv_at hl 0 rfl) ?_
  refine lv_iconst (v := nI (0)) hx hb dX1_init_50 (by decide) ?_
  refine r_put (a := (va_up (va_up (va_up (va_up (va_up a 41 q41) 42 q42) 43 q43) 44 q44) 45 q45)) (i := 40) (C := RX1) (T := TX1) (N := 10) (R' := sfi (sfi (sfr (clr (sfr (clr (sfr (clr (sfr (clr (sfr (clr (clr R 40) 41) 40 0 (some (q41))) 42) 40 1 (some (q42))) 43) 40 2 (some (q43))) 44) 40 3 (some (q44))) 45) 40 4 (some (q45))) 40 5 (nI (0))) 40 6 (nI (0))) hx hb hts hown hK.1 hc (h0) (rfl) rfl rfl hinX1 tyX1 tyX1_ok nmX1 6 (by decide) hf_32 (fun _ h9 => h9) rfl (tyX1_ok 6 (by decide)) rfl rfl dX1_init_51 (fds_sfi (by decide) (by decide)) (fun _ h9 => ct_sfi h9) (fun H locs hc => ?_)
  refine lv_aload_n hx hb dX1_init_54 rfl (lv_at hl 0 rfl) ?_
  refine lv_iconst (v := nI (0)) hx hb dX1_init_55 (by decide) ?_
  refine r_put (a := (va_up (va_up (va_up (va_up (va_up a 41 q41) 42 q42) 43 q43) 44 q44) 45 q45)) (i := 40) (C := RX1) (T := TX1) (N := 10) (R' := sfi (sfi (sfi (sfr (clr (sfr (clr (sfr (clr (sfr (clr (sfr (clr (clr R 40) 41) 40 0 (some (q41))) 42) 40 1 (some (q42))) 43) 40 2 (some (q43))) 44) 40 3 (some (q44))) 45) 40 4 (some (q45))) 40 5 (nI (0))) 40 6 (nI (0))) 40 7 (nI (0))) hx hb hts hown hK.1 hc (h0) (rfl) rfl rfl hinX1 tyX1 tyX1_ok nmX1 7 (by decide) hf_35 (fun _ h9 => h9) rfl (tyX1_ok 7 (by decide)) rfl rfl dX1_init_56 (fds_sfi (by decide) (by decide)) (fun _ h9 => ct_sfi h9) (fun H locs hc => ?_)
  refine lv_aload_n hx hb dX1_init_59 rfl (lv_at hl 0 rfl) ?_
  refine lv_iconst (v := nI (0)) hx hb dX1_init_60 (by decide) ?_
  refine r_put (a := (va_up (va_up (va_up (va_up (va_up a 41 q41) 42 q42) 43 q43) 44 q44) 45 q45)) (i := 40) (C := RX1) (T := TX1) (N := 10) (R' := sfi (sfi (sfi (sfi (sfr (clr (sfr (clr (sfr (clr (sfr (clr (sfr (clr (clr R 40) 41) 40 0 (some (q41))) 42) 40 1 (some (q42))) 43) 40 2 (some (q43))) 44) 40 3 (some (q44))) 45) 40 4 (some (q45))) 40 5 (nI (0))) 40 6 (nI (0))) 40 7 (nI (0))) 40 8 (nI (0))) hx hb hts hown hK.1 hc (h0) (rfl) rfl rfl hinX1 tyX1 tyX1_ok nmX1 8 (by decide) hf_38 (fun _ h9 => h9) rfl (tyX1_ok 8 (by decide)) rfl rfl dX1_init_61 (fds_sfi (by decide) (by decide)) (fun _ h9 => ct_sfi h9) (fun H locs hc => ?_)
  refine lv_aload_n hx hb dX1_init_64 rfl (lv_at hl 0 rfl) ?_
  refine lv_iconst (v := (-1)) hx hb dX1_init_65 (by decide) ?_
  refine r_put (a := (va_up (va_up (va_up (va_up (va_up a 41 q41) 42 q42) 43 q43) 44 q44) 45 q45)) (i := 40) (C := RX1) (T := TX1) (N := 10) (R' := sfi (sfi (sfi (sfi (sfi (sfr (clr (sfr (clr (sfr (clr (sfr (clr (sfr (clr (clr R 40) 41) 40 0 (some (q41))) 42) 40 1 (some (q42))) 43) 40 2 (some (q43))) 44) 40 3 (some (q44))) 45) 40 4 (some (q45))) 40 5 (nI (0))) 40 6 (nI (0))) 40 7 (nI (0))) 40 8 (nI (0))) 40 9 ((-1))) hx hb hts hown hK.1 hc (h0) (rfl) rfl rfl hinX1 tyX1 tyX1_ok nmX1 9 (by decide) hf_41 (fun _ h9 => h9) rfl (tyX1_ok 9 (by decide)) rfl rfl dX1_init_66 (fds_sfi (by decide) (by decide)) (fun _ h9 => ct_sfi h9) (fun H locs hc => ?_)
  exact r_vretA (post := fun lv' a' R' => ∃ (q41 : Nat) (q42 : Nat) (q43 : Nat) (q44 : Nat) (q45 : Nat), lv' = va_up (va_up (va_up (va_up (va_up lv 41 true) 42 true) 43 true) 44 true) 45 true ∧ a' = va_up (va_up (va_up (va_up (va_up a 41 q41) 42 q42) 43 q43) 44 q44) 45 q45 ∧ R' = sfi (sfi (sfi (sfi (sfi (sfr (clr (sfr (clr (sfr (clr (sfr (clr (sfr (clr (clr R 40) 41) 40 0 (some (q41))) 42) 40 1 (some (q42))) 43) 40 2 (some (q43))) 44) 40 3 (some (q44))) 45) 40 4 (some (q45))) 40 5 (nI (0))) 40 6 (nI (0))) 40 7 (nI (0))) 40 8 (nI (0))) 40 9 ((-1))) hx hb hr hlocks hc dX1_init_69 ⟨q41, q42, q43, q44, q45, rfl, rfl, rfl⟩
set_option maxRecDepth 100000 in
set_option maxHeartbeats 4000000 in
theorem c_X1_init_1 (l : Launch) (D : va_G) (g : Nat → ClassId) (lv : Nat → Bool) (a : Nat → Nat) (R : RS) (h0 : lv 46 = true) (hfr : ∀ i, i = 47 ∨ i = 48 ∨ i = 49 ∨ i = 50 ∨ i = 51 → lv i = false)  : aV l D g lv a yX1_init wsX1_init ({ frames := 1, cells := 5, slots := 50, locals := 60 } : Room) [.ref (a 46)] (clr R 46) (fun lv' a' R' => ∃ (q47 : Nat) (q48 : Nat) (q49 : Nat) (q50 : Nat) (q51 : Nat), lv' = va_up (va_up (va_up (va_up (va_up lv 47 true) 48 true) 49 true) 50 true) 51 true ∧ a' = va_up (va_up (va_up (va_up (va_up a 47 q47) 48 q48) 49 q49) 50 q50) 51 q51 ∧ R' = sfi (sfi (sfi (sfi (sfi (sfr (clr (sfr (clr (sfr (clr (sfr (clr (sfr (clr (clr R 46) 47) 46 0 (some (q47))) 48) 46 1 (some (q48))) 49) 46 2 (some (q49))) 50) 46 3 (some (q50))) 51) 46 4 (some (q51))) 46 5 (nI (0))) 46 6 (nI (0))) 46 7 (nI (0))) 46 8 (nI (0))) 46 9 ((-1))) 5 50 := by
  refine c_body (cc := cX1_init) (maxL := 1) (ret := none) (by decide) rfl (Nat.le_of_ble_eq_true rfl) ?_
  intro pr en st mi bl me co ls B hl
  obtain ⟨hx, hb, hr, hml, hown, hts, hlocks, hnm, hK, hZ, hc, hA⟩ := B
  have hl : lv_has ls 1 [(0, .ref (a 46))] := hl
  have hinX1 : ∀ w ∈ u_ws RX1 TX1 10, w ∈ wsX1_init := (fun _ h => List.mem_cons_of_mem _ (List.mem_append_right _ h))
  have hf_9 := hts (.fieldLink RX1 9 "PalletLayers$Pallet" "kindOf" "[I") (by decide +kernel)
  have hf_15 := hts (.fieldLink RX1 15 "PalletLayers$Pallet" "boxesOf" "[I") (by decide +kernel)
  have hf_18 := hts (.fieldLink RX1 18 "PalletLayers$Pallet" "bottomOf" "[I") (by decide +kernel)
  have hf_21 := hts (.fieldLink RX1 21 "PalletLayers$Pallet" "weightOf" "[I") (by decide +kernel)
  have hf_24 := hts (.fieldLink RX1 24 "PalletLayers$Pallet" "coveredOf" "[J") (by decide +kernel)
  have hf_28 := hts (.fieldLink RX1 28 "PalletLayers$Pallet" "layers" "I") (by decide +kernel)
  have hf_32 := hts (.fieldLink RX1 32 "PalletLayers$Pallet" "height" "I") (by decide +kernel)
  have hf_35 := hts (.fieldLink RX1 35 "PalletLayers$Pallet" "weight" "I") (by decide +kernel)
  have hf_38 := hts (.fieldLink RX1 38 "PalletLayers$Pallet" "boxes" "I") (by decide +kernel)
  have hf_41 := hts (.fieldLink RX1 41 "PalletLayers$Pallet" "stop" "I") (by decide +kernel)
  refine lv_aload_n hx hb dX1_init_0 rfl (lv_at hl 0 rfl) ?_
  refine W.objInit hx hb hown (hts (.methodLink RX1 3 objectInit) (by decide +kernel)) (hts (.instanceMethod objectInit) (by decide +kernel)) (hts (.code objectInit ⟨#[0xb1]⟩ 1 none) (by decide +kernel)) rfl (hl.1.trans hml.symm) rfl dX1_init_1 (Nat.le_of_ble_eq_true rfl) (Nat.le_of_ble_eq_true rfl) ?_
  show W _ _ _ _ _ _ _ _ _ _ _ _ _ _ _ (F0 mi 4 ls [])
  refine lv_aload_n hx hb dX1_init_4 rfl (lv_at hl 0 rfl) ?_
  refine lv_bipush (v := nI (10)) hx hb dX1_init_5 (by decide) ?_
  refine r_newa (N := 10) (t0 := 0) (ty := .int) (cA := g 0) (n := nI (10)) (x := 1) (atype := .int) (R := clr R 46) hx hb (hts (.arrayClass .int) (by decide +kernel)) rfl hK.1 hc hA 47 (hfr 47 (by decide)) rfl rfl (fun h9 => h9) (nct_i rfl) (by decide) (by decide) (by decide) (Nat.le_of_ble_eq_true rfl) (Nat.le_of_ble_eq_true rfl) dX1_init_7 (fun q47 H _ hc => ?_)
  refine r_putF (a := (va_up a 47 q47)) (i := 46) (C := RX1) (T := TX1) (N := 10) (R' := sfr (clr (clr R 46) 47) 46 0 (some (q47))) hx hb hts hown hK.1 hc (h0) (rfl) rfl rfl hinX1 tyX1 tyX1_ok nmX1 0 (by decide) hf_9 (fun _ h9 => h9) rfl hnm rfl (tyX1_ok 0 (by decide)) rfl rfl dX1_init_9 (fds_sfr (by decide) (by decide)) (fun _ h9 => ct_sfr h9) (fun H locs hc => ?_)
  refine lv_aload_n hx hb dX1_init_12 rfl (lv_at hl 0 rfl) ?_
  refine lv_bipush (v := nI (10)) hx hb dX1_init_13 (by decide) ?_
  refine r_newa (N := 10) (t0 := 0) (ty := .int) (cA := g 0) (n := nI (10)) (x := 1) (atype := .int) (R := sfr (clr (clr R 46) 47) 46 0 (some (q47))) hx hb (hts (.arrayClass .int) (by decide +kernel)) rfl hK.1 hc hA 48 (hfr 48 (by decide)) rfl rfl (fun h9 => h9) (nct_i rfl) (by decide) (by decide) (by decide) (Nat.le_of_ble_eq_true rfl) (Nat.le_of_ble_eq_true rfl) dX1_init_15 (fun q48 H _ hc => ?_)
  refine r_putF (a := (va_up (va_up a 47 q47) 48 q48)) (i := 46) (C := RX1) (T := TX1) (N := 10) (R' := sfr (clr (sfr (clr (clr R 46) 47) 46 0 (some (q47))) 48) 46 1 (some (q48))) hx hb hts hown hK.1 hc (h0) (rfl) rfl rfl hinX1 tyX1 tyX1_ok nmX1 1 (by decide) hf_15 (fun _ h9 => h9) rfl hnm rfl (tyX1_ok 1 (by decide)) rfl rfl dX1_init_17 (fds_sfr (by decide) (by decide)) (fun _ h9 => ct_sfr h9) (fun H locs hc => ?_)
  refine lv_aload_n hx hb dX1_init_20 rfl (lv_at hl 0 rfl) ?_
  refine lv_bipush (v := nI (10)) hx hb dX1_init_21 (by decide) ?_
  refine r_newa (N := 10) (t0 := 0) (ty := .int) (cA := g 0) (n := nI (10)) (x := 1) (atype := .int) (R := sfr (clr (sfr (clr (clr R 46) 47) 46 0 (some (q47))) 48) 46 1 (some (q48))) hx hb (hts (.arrayClass .int) (by decide +kernel)) rfl hK.1 hc hA 49 (hfr 49 (by decide)) rfl rfl (fun h9 => h9) (nct_i rfl) (by decide) (by decide) (by decide) (Nat.le_of_ble_eq_true rfl) (Nat.le_of_ble_eq_true rfl) dX1_init_23 (fun q49 H _ hc => ?_)
  refine r_putF (a := (va_up (va_up (va_up a 47 q47) 48 q48) 49 q49)) (i := 46) (C := RX1) (T := TX1) (N := 10) (R' := sfr (clr (sfr (clr (sfr (clr (clr R 46) 47) 46 0 (some (q47))) 48) 46 1 (some (q48))) 49) 46 2 (some (q49))) hx hb hts hown hK.1 hc (h0) (rfl) rfl rfl hinX1 tyX1 tyX1_ok nmX1 2 (by decide) hf_18 (fun _ h9 => h9) rfl hnm rfl (tyX1_ok 2 (by decide)) rfl rfl dX1_init_25 (fds_sfr (by decide) (by decide)) (fun _ h9 => ct_sfr h9) (fun H locs hc => ?_)
  refine lv_aload_n hx hb dX1_init_28 rfl (lv_at hl 0 rfl) ?_
  refine lv_bipush (v := nI (10)) hx hb dX1_init_29 (by decide) ?_
  refine r_newa (N := 10) (t0 := 0) (ty := .int) (cA := g 0) (n := nI (10)) (x := 1) (atype := .int) (R := sfr (clr (sfr (clr (sfr (clr (clr R 46) 47) 46 0 (some (q47))) 48) 46 1 (some (q48))) 49) 46 2 (some (q49))) hx hb (hts (.arrayClass .int) (by decide +kernel)) rfl hK.1 hc hA 50 (hfr 50 (by decide)) rfl rfl (fun h9 => h9) (nct_i rfl) (by decide) (by decide) (by decide) (Nat.le_of_ble_eq_true rfl) (Nat.le_of_ble_eq_true rfl) dX1_init_31 (fun q50 H _ hc => ?_)
  refine r_putF (a := (va_up (va_up (va_up (va_up a 47 q47) 48 q48) 49 q49) 50 q50)) (i := 46) (C := RX1) (T := TX1) (N := 10) (R' := sfr (clr (sfr (clr (sfr (clr (sfr (clr (clr R 46) 47) 46 0 (some (q47))) 48) 46 1 (some (q48))) 49) 46 2 (some (q49))) 50) 46 3 (some (q50))) hx hb hts hown hK.1 hc (h0) (rfl) rfl rfl hinX1 tyX1 tyX1_ok nmX1 3 (by decide) hf_21 (fun _ h9 => h9) rfl hnm rfl (tyX1_ok 3 (by decide)) rfl rfl dX1_init_33 (fds_sfr (by decide) (by decide)) (fun _ h9 => ct_sfr h9) (fun H locs hc => ?_)
  refine lv_aload_n hx hb dX1_init_36 rfl (lv_at hl 0 rfl) ?_
  refine lv_bipush (v := nI (10)) hx hb dX1_init_37 (by decide) ?_
  refine r_newa (N := 10) (t0 := 1) (ty := .long) (cA := g 1) (n := nI (10)) (x := 2) (atype := .long) (R := sfr (clr (sfr (clr (sfr (clr (sfr (clr (clr R 46) 47) 46 0 (some (q47))) 48) 46 1 (some (q48))) 49) 46 2 (some (q49))) 50) 46 3 (some (q50))) hx hb (hts (.arrayClass .long) (by decide +kernel)) rfl hK.1 hc hA 51 (hfr 51 (by decide)) rfl rfl (fun h9 => h9) (nct_l rfl) (by decide) (by decide) (by decide) (Nat.le_of_ble_eq_true rfl) (Nat.le_of_ble_eq_true rfl) dX1_init_39 (fun q51 H _ hc => ?_)
  refine r_putF (a := (va_up (va_up (va_up (va_up (va_up a 47 q47) 48 q48) 49 q49) 50 q50) 51 q51)) (i := 46) (C := RX1) (T := TX1) (N := 10) (R' := sfr (clr (sfr (clr (sfr (clr (sfr (clr (sfr (clr (clr R 46) 47) 46 0 (some (q47))) 48) 46 1 (some (q48))) 49) 46 2 (some (q49))) 50) 46 3 (some (q50))) 51) 46 4 (some (q51))) hx hb hts hown hK.1 hc (h0) (rfl) rfl rfl hinX1 tyX1 tyX1_ok nmX1 4 (by decide) hf_24 (fun _ h9 => h9) rfl hnm rfl (tyX1_ok 4 (by decide)) rfl rfl dX1_init_41 (fds_sfr (by decide) (by decide)) (fun _ h9 => ct_sfr h9) (fun H locs hc => ?_)
  refine lv_aload_n hx hb dX1_init_44 rfl (lv_at hl 0 rfl) ?_
  refine lv_iconst (v := nI (0)) hx hb dX1_init_45 (by decide) ?_
  refine r_put (a := (va_up (va_up (va_up (va_up (va_up a 47 q47) 48 q48) 49 q49) 50 q50) 51 q51)) (i := 46) (C := RX1) (T := TX1) (N := 10) (R' := sfi (sfr (clr (sfr (clr (sfr (clr (sfr (clr (sfr (clr (clr R 46) 47) 46 0 (some (q47))) 48) 46 1 (some (q48))) 49) 46 2 (some (q49))) 50) 46 3 (some (q50))) 51) 46 4 (some (q51))) 46 5 (nI (0))) hx hb hts hown hK.1 hc (h0) (rfl) rfl rfl hinX1 tyX1 tyX1_ok nmX1 5 (by decide) hf_28 (fun _ h9 => h9) rfl (tyX1_ok 5 (by decide)) rfl rfl dX1_init_46 (fds_sfi (by decide) (by decide)) (fun _ h9 => ct_sfi h9) (fun H locs hc => ?_)
  refine lv_aload_n hx hb dX1_init_49 rfl (lv_at hl 0 rfl) ?_
  refine lv_iconst (v := nI (0)) hx hb dX1_init_50 (by decide) ?_
  refine r_put (a := (va_up (va_up (va_up (va_up (va_up a 47 q47) 48 q48) 49 q49) 50 q50) 51 q51)) (i := 46) (C := RX1) (T := TX1) (N := 10) (R' := sfi (sfi (sfr (clr (sfr (clr (sfr (clr (sfr (clr (sfr (clr (clr R 46) 47) 46 0 (some (q47))) 48) 46 1 (some (q48))) 49) 46 2 (some (q49))) 50) 46 3 (some (q50))) 51) 46 4 (some (q51))) 46 5 (nI (0))) 46 6 (nI (0))) hx hb hts hown hK.1 hc (h0) (rfl) rfl rfl hinX1 tyX1 tyX1_ok nmX1 6 (by decide) hf_32 (fun _ h9 => h9) rfl (tyX1_ok 6 (by decide)) rfl rfl dX1_init_51 (fds_sfi (by decide) (by decide)) (fun _ h9 => ct_sfi h9) (fun H locs hc => ?_)
  refine lv_aload_n hx hb dX1_init_54 rfl (lv_at hl 0 rfl) ?_
  refine lv_iconst (v := nI (0)) hx hb dX1_init_55 (by decide) ?_
  refine r_put (a := (va_up (va_up (va_up (va_up (va_up a 47 q47) 48 q48) 49 q49) 50 q50) 51 q51)) (i := 46) (C := RX1) (T := TX1) (N := 10) (R' := sfi (sfi (sfi (sfr (clr (sfr (clr (sfr (clr (sfr (clr (sfr (clr (clr R 46) 47) 46 0 (some (q47))) 48) 46 1 (some (q48))) 49) 46 2 (some (q49))) 50) 46 3 (some (q50))) 51) 46 4 (some (q51))) 46 5 (nI (0))) 46 6 (nI (0))) 46 7 (nI (0))) hx hb hts hown hK.1 hc (h0) (rfl) rfl rfl hinX1 tyX1 tyX1_ok nmX1 7 (by decide) hf_35 (fun _ h9 => h9) rfl (tyX1_ok 7 (by decide)) rfl rfl dX1_init_56 (fds_sfi (by decide) (by decide)) (fun _ h9 => ct_sfi h9) (fun H locs hc => ?_)
  refine lv_aload_n hx hb dX1_init_59 rfl (lv_at hl 0 rfl) ?_
  refine lv_iconst (v := nI (0)) hx hb dX1_init_60 (by decide) ?_
  refine r_put (a := (va_up (va_up (va_up (va_up (va_up a 47 q47) 48 q48) 49 q49) 50 q50) 51 q51)) (i := 46) (C := RX1) (T := TX1) (N := 10) (R' := sfi (sfi (sfi (sfi (sfr (clr (sfr (clr (sfr (clr (sfr (clr (sfr (clr (clr R 46) 47) 46 0 (some (q47))) 48) 46 1 (some (q48))) 49) 46 2 (some (q49))) 50) 46 3 (some (q50))) 51) 46 4 (some (q51))) 46 5 (nI (0))) 46 6 (nI (0))) 46 7 (nI (0))) 46 8 (nI (0))) hx hb hts hown hK.1 hc (h0) (rfl) rfl rfl hinX1 tyX1 tyX1_ok nmX1 8 (by decide) hf_38 (fun _ h9 => h9) rfl (tyX1_ok 8 (by decide)) rfl rfl dX1_init_61 (fds_sfi (by decide) (by decide)) (fun _ h9 => ct_sfi h9) (fun H locs hc => ?_)
  refine lv_aload_n hx hb dX1_init_64 rfl (lv_at hl 0 rfl) ?_
  refine lv_iconst (v := (-1)) hx hb dX1_init_65 (by decide) ?_
  refine r_put (a := (va_up (va_up (va_up (va_up (va_up a 47 q47) 48 q48) 49 q49) 50 q50) 51 q51)) (i := 46) (C := RX1) (T := TX1) (N := 10) (R' := sfi (sfi (sfi (sfi (sfi (sfr (clr (sfr (clr (sfr (clr (sfr (clr (sfr (clr (clr R 46) 47) 46 0 (some (q47))) 48) 46 1 (some (q48))) 49) 46 2 (some (q49))) 50) 46 3 (some (q50))) 51) 46 4 (some (q51))) 46 5 (nI (0))) 46 6 (nI (0))) 46 7 (nI (0))) 46 8 (nI (0))) 46 9 ((-1))) hx hb hts hown hK.1 hc (h0) (rfl) rfl rfl hinX1 tyX1 tyX1_ok nmX1 9 (by decide) hf_41 (fun _ h9 => h9) rfl (tyX1_ok 9 (by decide)) rfl rfl dX1_init_66 (fds_sfi (by decide) (by decide)) (fun _ h9 => ct_sfi h9) (fun H locs hc => ?_)
  exact r_vretA (post := fun lv' a' R' => ∃ (q47 : Nat) (q48 : Nat) (q49 : Nat) (q50 : Nat) (q51 : Nat), lv' = va_up (va_up (va_up (va_up (va_up lv 47 true) 48 true) 49 true) 50 true) 51 true ∧ a' = va_up (va_up (va_up (va_up (va_up a 47 q47) 48 q48) 49 q49) 50 q50) 51 q51 ∧ R' = sfi (sfi (sfi (sfi (sfi (sfr (clr (sfr (clr (sfr (clr (sfr (clr (sfr (clr (clr R 46) 47) 46 0 (some (q47))) 48) 46 1 (some (q48))) 49) 46 2 (some (q49))) 50) 46 3 (some (q50))) 51) 46 4 (some (q51))) 46 5 (nI (0))) 46 6 (nI (0))) 46 7 (nI (0))) 46 8 (nI (0))) 46 9 ((-1))) hx hb hr hlocks hc dX1_init_69 ⟨q47, q48, q49, q50, q51, rfl, rfl, rfl⟩
set_option maxRecDepth 100000 in
set_option maxHeartbeats 4000000 in
theorem c_X1_init_2 (l : Launch) (D : va_G) (g : Nat → ClassId) (lv : Nat → Bool) (a : Nat → Nat) (R : RS) (h0 : lv 52 = true) (hfr : ∀ i, i = 53 ∨ i = 54 ∨ i = 55 ∨ i = 56 ∨ i = 57 → lv i = false)  : aV l D g lv a yX1_init wsX1_init ({ frames := 1, cells := 5, slots := 50, locals := 60 } : Room) [.ref (a 52)] (clr R 52) (fun lv' a' R' => ∃ (q53 : Nat) (q54 : Nat) (q55 : Nat) (q56 : Nat) (q57 : Nat), lv' = va_up (va_up (va_up (va_up (va_up lv 53 true) 54 true) 55 true) 56 true) 57 true ∧ a' = va_up (va_up (va_up (va_up (va_up a 53 q53) 54 q54) 55 q55) 56 q56) 57 q57 ∧ R' = sfi (sfi (sfi (sfi (sfi (sfr (clr (sfr (clr (sfr (clr (sfr (clr (sfr (clr (clr R 52) 53) 52 0 (some (q53))) 54) 52 1 (some (q54))) 55) 52 2 (some (q55))) 56) 52 3 (some (q56))) 57) 52 4 (some (q57))) 52 5 (nI (0))) 52 6 (nI (0))) 52 7 (nI (0))) 52 8 (nI (0))) 52 9 ((-1))) 5 50 := by
  refine c_body (cc := cX1_init) (maxL := 1) (ret := none) (by decide) rfl (Nat.le_of_ble_eq_true rfl) ?_
  intro pr en st mi bl me co ls B hl
  obtain ⟨hx, hb, hr, hml, hown, hts, hlocks, hnm, hK, hZ, hc, hA⟩ := B
  have hl : lv_has ls 1 [(0, .ref (a 52))] := hl
  have hinX1 : ∀ w ∈ u_ws RX1 TX1 10, w ∈ wsX1_init := (fun _ h => List.mem_cons_of_mem _ (List.mem_append_right _ h))
  have hf_9 := hts (.fieldLink RX1 9 "PalletLayers$Pallet" "kindOf" "[I") (by decide +kernel)
  have hf_15 := hts (.fieldLink RX1 15 "PalletLayers$Pallet" "boxesOf" "[I") (by decide +kernel)
  have hf_18 := hts (.fieldLink RX1 18 "PalletLayers$Pallet" "bottomOf" "[I") (by decide +kernel)
  have hf_21 := hts (.fieldLink RX1 21 "PalletLayers$Pallet" "weightOf" "[I") (by decide +kernel)
  have hf_24 := hts (.fieldLink RX1 24 "PalletLayers$Pallet" "coveredOf" "[J") (by decide +kernel)
  have hf_28 := hts (.fieldLink RX1 28 "PalletLayers$Pallet" "layers" "I") (by decide +kernel)
  have hf_32 := hts (.fieldLink RX1 32 "PalletLayers$Pallet" "height" "I") (by decide +kernel)
  have hf_35 := hts (.fieldLink RX1 35 "PalletLayers$Pallet" "weight" "I") (by decide +kernel)
  have hf_38 := hts (.fieldLink RX1 38 "PalletLayers$Pallet" "boxes" "I") (by decide +kernel)
  have hf_41 := hts (.fieldLink RX1 41 "PalletLayers$Pallet" "stop" "I") (by decide +kernel)
  refine lv_aload_n hx hb dX1_init_0 rfl (lv_at hl 0 rfl) ?_
  refine W.objInit hx hb hown (hts (.methodLink RX1 3 objectInit) (by decide +kernel)) (hts (.instanceMethod objectInit) (by decide +kernel)) (hts (.code objectInit ⟨#[0xb1]⟩ 1 none) (by decide +kernel)) rfl (hl.1.trans hml.symm) rfl dX1_init_1 (Nat.le_of_ble_eq_true rfl) (Nat.le_of_ble_eq_true rfl) ?_
  show W _ _ _ _ _ _ _ _ _ _ _ _ _ _ _ (F0 mi 4 ls [])
  refine lv_aload_n hx hb dX1_init_4 rfl (lv_at hl 0 rfl) ?_
  refine lv_bipush (v := nI (10)) hx hb dX1_init_5 (by decide) ?_
  refine r_newa (N := 10) (t0 := 0) (ty := .int) (cA := g 0) (n := nI (10)) (x := 1) (atype := .int) (R := clr R 52) hx hb (hts (.arrayClass .int) (by decide +kernel)) rfl hK.1 hc hA 53 (hfr 53 (by decide)) rfl rfl (fun h9 => h9) (nct_i rfl) (by decide) (by decide) (by decide) (Nat.le_of_ble_eq_true rfl) (Nat.le_of_ble_eq_true rfl) dX1_init_7 (fun q53 H _ hc => ?_)
  refine r_putF (a := (va_up a 53 q53)) (i := 52) (C := RX1) (T := TX1) (N := 10) (R' := sfr (clr (clr R 52) 53) 52 0 (some (q53))) hx hb hts hown hK.1 hc (h0) (rfl) rfl rfl hinX1 tyX1 tyX1_ok nmX1 0 (by decide) hf_9 (fun _ h9 => h9) rfl hnm rfl (tyX1_ok 0 (by decide)) rfl rfl dX1_init_9 (fds_sfr (by decide) (by decide)) (fun _ h9 => ct_sfr h9) (fun H locs hc => ?_)
  refine lv_aload_n hx hb dX1_init_12 rfl (lv_at hl 0 rfl) ?_
  refine lv_bipush (v := nI (10)) hx hb dX1_init_13 (by decide) ?_
  refine r_newa (N := 10) (t0 := 0) (ty := .int) (cA := g 0) (n := nI (10)) (x := 1) (atype := .int) (R := sfr (clr (clr R 52) 53) 52 0 (some (q53))) hx hb (hts (.arrayClass .int) (by decide +kernel)) rfl hK.1 hc hA 54 (hfr 54 (by decide)) rfl rfl (fun h9 => h9) (nct_i rfl) (by decide) (by decide) (by decide) (Nat.le_of_ble_eq_true rfl) (Nat.le_of_ble_eq_true rfl) dX1_init_15 (fun q54 H _ hc => ?_)
  refine r_putF (a := (va_up (va_up a 53 q53) 54 q54)) (i := 52) (C := RX1) (T := TX1) (N := 10) (R' := sfr (clr (sfr (clr (clr R 52) 53) 52 0 (some (q53))) 54) 52 1 (some (q54))) hx hb hts hown hK.1 hc (h0) (rfl) rfl rfl hinX1 tyX1 tyX1_ok nmX1 1 (by decide) hf_15 (fun _ h9 => h9) rfl hnm rfl (tyX1_ok 1 (by decide)) rfl rfl dX1_init_17 (fds_sfr (by decide) (by decide)) (fun _ h9 => ct_sfr h9) (fun H locs hc => ?_)
  refine lv_aload_n hx hb dX1_init_20 rfl (lv_at hl 0 rfl) ?_
  refine lv_bipush (v := nI (10)) hx hb dX1_init_21 (by decide) ?_
  refine r_newa (N := 10) (t0 := 0) (ty := .int) (cA := g 0) (n := nI (10)) (x := 1) (atype := .int) (R := sfr (clr (sfr (clr (clr R 52) 53) 52 0 (some (q53))) 54) 52 1 (some (q54))) hx hb (hts (.arrayClass .int) (by decide +kernel)) rfl hK.1 hc hA 55 (hfr 55 (by decide)) rfl rfl (fun h9 => h9) (nct_i rfl) (by decide) (by decide) (by decide) (Nat.le_of_ble_eq_true rfl) (Nat.le_of_ble_eq_true rfl) dX1_init_23 (fun q55 H _ hc => ?_)
  refine r_putF (a := (va_up (va_up (va_up a 53 q53) 54 q54) 55 q55)) (i := 52) (C := RX1) (T := TX1) (N := 10) (R' := sfr (clr (sfr (clr (sfr (clr (clr R 52) 53) 52 0 (some (q53))) 54) 52 1 (some (q54))) 55) 52 2 (some (q55))) hx hb hts hown hK.1 hc (h0) (rfl) rfl rfl hinX1 tyX1 tyX1_ok nmX1 2 (by decide) hf_18 (fun _ h9 => h9) rfl hnm rfl (tyX1_ok 2 (by decide)) rfl rfl dX1_init_25 (fds_sfr (by decide) (by decide)) (fun _ h9 => ct_sfr h9) (fun H locs hc => ?_)
  refine lv_aload_n hx hb dX1_init_28 rfl (lv_at hl 0 rfl) ?_
  refine lv_bipush (v := nI (10)) hx hb dX1_init_29 (by decide) ?_
  refine r_newa (N := 10) (t0 := 0) (ty := .int) (cA := g 0) (n := nI (10)) (x := 1) (atype := .int) (R := sfr (clr (sfr (clr (sfr (clr (clr R 52) 53) 52 0 (some (q53))) 54) 52 1 (some (q54))) 55) 52 2 (some (q55))) hx hb (hts (.arrayClass .int) (by decide +kernel)) rfl hK.1 hc hA 56 (hfr 56 (by decide)) rfl rfl (fun h9 => h9) (nct_i rfl) (by decide) (by decide) (by decide) (Nat.le_of_ble_eq_true rfl) (Nat.le_of_ble_eq_true rfl) dX1_init_31 (fun q56 H _ hc => ?_)
  refine r_putF (a := (va_up (va_up (va_up (va_up a 53 q53) 54 q54) 55 q55) 56 q56)) (i := 52) (C := RX1) (T := TX1) (N := 10) (R' := sfr (clr (sfr (clr (sfr (clr (sfr (clr (clr R 52) 53) 52 0 (some (q53))) 54) 52 1 (some (q54))) 55) 52 2 (some (q55))) 56) 52 3 (some (q56))) hx hb hts hown hK.1 hc (h0) (rfl) rfl rfl hinX1 tyX1 tyX1_ok nmX1 3 (by decide) hf_21 (fun _ h9 => h9) rfl hnm rfl (tyX1_ok 3 (by decide)) rfl rfl dX1_init_33 (fds_sfr (by decide) (by decide)) (fun _ h9 => ct_sfr h9) (fun H locs hc => ?_)
  refine lv_aload_n hx hb dX1_init_36 rfl (lv_at hl 0 rfl) ?_
  refine lv_bipush (v := nI (10)) hx hb dX1_init_37 (by decide) ?_
  refine r_newa (N := 10) (t0 := 1) (ty := .long) (cA := g 1) (n := nI (10)) (x := 2) (atype := .long) (R := sfr (clr (sfr (clr (sfr (clr (sfr (clr (clr R 52) 53) 52 0 (some (q53))) 54) 52 1 (some (q54))) 55) 52 2 (some (q55))) 56) 52 3 (some (q56))) hx hb (hts (.arrayClass .long) (by decide +kernel)) rfl hK.1 hc hA 57 (hfr 57 (by decide)) rfl rfl (fun h9 => h9) (nct_l rfl) (by decide) (by decide) (by decide) (Nat.le_of_ble_eq_true rfl) (Nat.le_of_ble_eq_true rfl) dX1_init_39 (fun q57 H _ hc => ?_)
  refine r_putF (a := (va_up (va_up (va_up (va_up (va_up a 53 q53) 54 q54) 55 q55) 56 q56) 57 q57)) (i := 52) (C := RX1) (T := TX1) (N := 10) (R' := sfr (clr (sfr (clr (sfr (clr (sfr (clr (sfr (clr (clr R 52) 53) 52 0 (some (q53))) 54) 52 1 (some (q54))) 55) 52 2 (some (q55))) 56) 52 3 (some (q56))) 57) 52 4 (some (q57))) hx hb hts hown hK.1 hc (h0) (rfl) rfl rfl hinX1 tyX1 tyX1_ok nmX1 4 (by decide) hf_24 (fun _ h9 => h9) rfl hnm rfl (tyX1_ok 4 (by decide)) rfl rfl dX1_init_41 (fds_sfr (by decide) (by decide)) (fun _ h9 => ct_sfr h9) (fun H locs hc => ?_)
  refine lv_aload_n hx hb dX1_init_44 rfl (lv_at hl 0 rfl) ?_
  refine lv_iconst (v := nI (0)) hx hb dX1_init_45 (by decide) ?_
  refine r_put (a := (va_up (va_up (va_up (va_up (va_up a 53 q53) 54 q54) 55 q55) 56 q56) 57 q57)) (i := 52) (C := RX1) (T := TX1) (N := 10) (R' := sfi (sfr (clr (sfr (clr (sfr (clr (sfr (clr (sfr (clr (clr R 52) 53) 52 0 (some (q53))) 54) 52 1 (some (q54))) 55) 52 2 (some (q55))) 56) 52 3 (some (q56))) 57) 52 4 (some (q57))) 52 5 (nI (0))) hx hb hts hown hK.1 hc (h0) (rfl) rfl rfl hinX1 tyX1 tyX1_ok nmX1 5 (by decide) hf_28 (fun _ h9 => h9) rfl (tyX1_ok 5 (by decide)) rfl rfl dX1_init_46 (fds_sfi (by decide) (by decide)) (fun _ h9 => ct_sfi h9) (fun H locs hc => ?_)
  refine lv_aload_n hx hb dX1_init_49 rfl (lv_at hl 0 rfl) ?_
  refine lv_iconst (v := nI (0)) hx hb dX1_init_50 (by decide) ?_
  refine r_put (a := (va_up (va_up (va_up (va_up (va_up a 53 q53) 54 q54) 55 q55) 56 q56) 57 q57)) (i := 52) (C := RX1) (T := TX1) (N := 10) (R' := sfi (sfi (sfr (clr (sfr (clr (sfr (clr (sfr (clr (sfr (clr (clr R 52) 53) 52 0 (some (q53))) 54) 52 1 (some (q54))) 55) 52 2 (some (q55))) 56) 52 3 (some (q56))) 57) 52 4 (some (q57))) 52 5 (nI (0))) 52 6 (nI (0))) hx hb hts hown hK.1 hc (h0) (rfl) rfl rfl hinX1 tyX1 tyX1_ok nmX1 6 (by decide) hf_32 (fun _ h9 => h9) rfl (tyX1_ok 6 (by decide)) rfl rfl dX1_init_51 (fds_sfi (by decide) (by decide)) (fun _ h9 => ct_sfi h9) (fun H locs hc => ?_)
  refine lv_aload_n hx hb dX1_init_54 rfl (lv_at hl 0 rfl) ?_
  refine lv_iconst (v := nI (0)) hx hb dX1_init_55 (by decide) ?_
  refine r_put (a := (va_up (va_up (va_up (va_up (va_up a 53 q53) 54 q54) 55 q55) 56 q56) 57 q57)) (i := 52) (C := RX1) (T := TX1) (N := 10) (R' := sfi (sfi (sfi (sfr (clr (sfr (clr (sfr (clr (sfr (clr (sfr (clr (clr R 52) 53) 52 0 (some (q53))) 54) 52 1 (some (q54))) 55) 52 2 (some (q55))) 56) 52 3 (some (q56))) 57) 52 4 (some (q57))) 52 5 (nI (0))) 52 6 (nI (0))) 52 7 (nI (0))) hx hb hts hown hK.1 hc (h0) (rfl) rfl rfl hinX1 tyX1 tyX1_ok nmX1 7 (by decide) hf_35 (fun _ h9 => h9) rfl (tyX1_ok 7 (by decide)) rfl rfl dX1_init_56 (fds_sfi (by decide) (by decide)) (fun _ h9 => ct_sfi h9) (fun H locs hc => ?_)
  refine lv_aload_n hx hb dX1_init_59 rfl (lv_at hl 0 rfl) ?_
  refine lv_iconst (v := nI (0)) hx hb dX1_init_60 (by decide) ?_
  refine r_put (a := (va_up (va_up (va_up (va_up (va_up a 53 q53) 54 q54) 55 q55) 56 q56) 57 q57)) (i := 52) (C := RX1) (T := TX1) (N := 10) (R' := sfi (sfi (sfi (sfi (sfr (clr (sfr (clr (sfr (clr (sfr (clr (sfr (clr (clr R 52) 53) 52 0 (some (q53))) 54) 52 1 (some (q54))) 55) 52 2 (some (q55))) 56) 52 3 (some (q56))) 57) 52 4 (some (q57))) 52 5 (nI (0))) 52 6 (nI (0))) 52 7 (nI (0))) 52 8 (nI (0))) hx hb hts hown hK.1 hc (h0) (rfl) rfl rfl hinX1 tyX1 tyX1_ok nmX1 8 (by decide) hf_38 (fun _ h9 => h9) rfl (tyX1_ok 8 (by decide)) rfl rfl dX1_init_61 (fds_sfi (by decide) (by decide)) (fun _ h9 => ct_sfi h9) (fun H locs hc => ?_)
  refine lv_aload_n hx hb dX1_init_64 rfl (lv_at hl 0 rfl) ?_
  refine lv_iconst (v := (-1)) hx hb dX1_init_65 (by decide) ?_
  refine r_put (a := (va_up (va_up (va_up (va_up (va_up a 53 q53) 54 q54) 55 q55) 56 q56) 57 q57)) (i := 52) (C := RX1) (T := TX1) (N := 10) (R' := sfi (sfi (sfi (sfi (sfi (sfr (clr (sfr (clr (sfr (clr (sfr (clr (sfr (clr (clr R 52) 53) 52 0 (some (q53))) 54) 52 1 (some (q54))) 55) 52 2 (some (q55))) 56) 52 3 (some (q56))) 57) 52 4 (some (q57))) 52 5 (nI (0))) 52 6 (nI (0))) 52 7 (nI (0))) 52 8 (nI (0))) 52 9 ((-1))) hx hb hts hown hK.1 hc (h0) (rfl) rfl rfl hinX1 tyX1 tyX1_ok nmX1 9 (by decide) hf_41 (fun _ h9 => h9) rfl (tyX1_ok 9 (by decide)) rfl rfl dX1_init_66 (fds_sfi (by decide) (by decide)) (fun _ h9 => ct_sfi h9) (fun H locs hc => ?_)
  exact r_vretA (post := fun lv' a' R' => ∃ (q53 : Nat) (q54 : Nat) (q55 : Nat) (q56 : Nat) (q57 : Nat), lv' = va_up (va_up (va_up (va_up (va_up lv 53 true) 54 true) 55 true) 56 true) 57 true ∧ a' = va_up (va_up (va_up (va_up (va_up a 53 q53) 54 q54) 55 q55) 56 q56) 57 q57 ∧ R' = sfi (sfi (sfi (sfi (sfi (sfr (clr (sfr (clr (sfr (clr (sfr (clr (sfr (clr (clr R 52) 53) 52 0 (some (q53))) 54) 52 1 (some (q54))) 55) 52 2 (some (q55))) 56) 52 3 (some (q56))) 57) 52 4 (some (q57))) 52 5 (nI (0))) 52 6 (nI (0))) 52 7 (nI (0))) 52 8 (nI (0))) 52 9 ((-1))) hx hb hr hlocks hc dX1_init_69 ⟨q53, q54, q55, q56, q57, rfl, rfl, rfl⟩
set_option maxRecDepth 100000 in
set_option maxHeartbeats 4000000 in
theorem c_X1_init_3 (l : Launch) (D : va_G) (g : Nat → ClassId) (lv : Nat → Bool) (a : Nat → Nat) (R : RS) (h0 : lv 58 = true) (hfr : ∀ i, i = 59 ∨ i = 60 ∨ i = 61 ∨ i = 62 ∨ i = 63 → lv i = false)  : aV l D g lv a yX1_init wsX1_init ({ frames := 1, cells := 5, slots := 50, locals := 60 } : Room) [.ref (a 58)] (clr R 58) (fun lv' a' R' => ∃ (q59 : Nat) (q60 : Nat) (q61 : Nat) (q62 : Nat) (q63 : Nat), lv' = va_up (va_up (va_up (va_up (va_up lv 59 true) 60 true) 61 true) 62 true) 63 true ∧ a' = va_up (va_up (va_up (va_up (va_up a 59 q59) 60 q60) 61 q61) 62 q62) 63 q63 ∧ R' = sfi (sfi (sfi (sfi (sfi (sfr (clr (sfr (clr (sfr (clr (sfr (clr (sfr (clr (clr R 58) 59) 58 0 (some (q59))) 60) 58 1 (some (q60))) 61) 58 2 (some (q61))) 62) 58 3 (some (q62))) 63) 58 4 (some (q63))) 58 5 (nI (0))) 58 6 (nI (0))) 58 7 (nI (0))) 58 8 (nI (0))) 58 9 ((-1))) 5 50 := by
  refine c_body (cc := cX1_init) (maxL := 1) (ret := none) (by decide) rfl (Nat.le_of_ble_eq_true rfl) ?_
  intro pr en st mi bl me co ls B hl
  obtain ⟨hx, hb, hr, hml, hown, hts, hlocks, hnm, hK, hZ, hc, hA⟩ := B
  have hl : lv_has ls 1 [(0, .ref (a 58))] := hl
  have hinX1 : ∀ w ∈ u_ws RX1 TX1 10, w ∈ wsX1_init := (fun _ h => List.mem_cons_of_mem _ (List.mem_append_right _ h))
  have hf_9 := hts (.fieldLink RX1 9 "PalletLayers$Pallet" "kindOf" "[I") (by decide +kernel)
  have hf_15 := hts (.fieldLink RX1 15 "PalletLayers$Pallet" "boxesOf" "[I") (by decide +kernel)
  have hf_18 := hts (.fieldLink RX1 18 "PalletLayers$Pallet" "bottomOf" "[I") (by decide +kernel)
  have hf_21 := hts (.fieldLink RX1 21 "PalletLayers$Pallet" "weightOf" "[I") (by decide +kernel)
  have hf_24 := hts (.fieldLink RX1 24 "PalletLayers$Pallet" "coveredOf" "[J") (by decide +kernel)
  have hf_28 := hts (.fieldLink RX1 28 "PalletLayers$Pallet" "layers" "I") (by decide +kernel)
  have hf_32 := hts (.fieldLink RX1 32 "PalletLayers$Pallet" "height" "I") (by decide +kernel)
  have hf_35 := hts (.fieldLink RX1 35 "PalletLayers$Pallet" "weight" "I") (by decide +kernel)
  have hf_38 := hts (.fieldLink RX1 38 "PalletLayers$Pallet" "boxes" "I") (by decide +kernel)
  have hf_41 := hts (.fieldLink RX1 41 "PalletLayers$Pallet" "stop" "I") (by decide +kernel)
  refine lv_aload_n hx hb dX1_init_0 rfl (lv_at hl 0 rfl) ?_
  refine W.objInit hx hb hown (hts (.methodLink RX1 3 objectInit) (by decide +kernel)) (hts (.instanceMethod objectInit) (by decide +kernel)) (hts (.code objectInit ⟨#[0xb1]⟩ 1 none) (by decide +kernel)) rfl (hl.1.trans hml.symm) rfl dX1_init_1 (Nat.le_of_ble_eq_true rfl) (Nat.le_of_ble_eq_true rfl) ?_
  show W _ _ _ _ _ _ _ _ _ _ _ _ _ _ _ (F0 mi 4 ls [])
  refine lv_aload_n hx hb dX1_init_4 rfl (lv_at hl 0 rfl) ?_
  refine lv_bipush (v := nI (10)) hx hb dX1_init_5 (by decide) ?_
  refine r_newa (N := 10) (t0 := 0) (ty := .int) (cA := g 0) (n := nI (10)) (x := 1) (atype := .int) (R := clr R 58) hx hb (hts (.arrayClass .int) (by decide +kernel)) rfl hK.1 hc hA 59 (hfr 59 (by decide)) rfl rfl (fun h9 => h9) (nct_i rfl) (by decide) (by decide) (by decide) (Nat.le_of_ble_eq_true rfl) (Nat.le_of_ble_eq_true rfl) dX1_init_7 (fun q59 H _ hc => ?_)
  refine r_putF (a := (va_up a 59 q59)) (i := 58) (C := RX1) (T := TX1) (N := 10) (R' := sfr (clr (clr R 58) 59) 58 0 (some (q59))) hx hb hts hown hK.1 hc (h0) (rfl) rfl rfl hinX1 tyX1 tyX1_ok nmX1 0 (by decide) hf_9 (fun _ h9 => h9) rfl hnm rfl (tyX1_ok 0 (by decide)) rfl rfl dX1_init_9 (fds_sfr (by decide) (by decide)) (fun _ h9 => ct_sfr h9) (fun H locs hc => ?_)
  refine lv_aload_n hx hb dX1_init_12 rfl (lv_at hl 0 rfl) ?_
  refine lv_bipush (v := nI (10)) hx hb dX1_init_13 (by decide) ?_
  refine r_newa (N := 10) (t0 := 0) (ty := .int) (cA := g 0) (n := nI (10)) (x := 1) (atype := .int) (R := sfr (clr (clr R 58) 59) 58 0 (some (q59))) hx hb (hts (.arrayClass .int) (by decide +kernel)) rfl hK.1 hc hA 60 (hfr 60 (by decide)) rfl rfl (fun h9 => h9) (nct_i rfl) (by decide) (by decide) (by decide) (Nat.le_of_ble_eq_true rfl) (Nat.le_of_ble_eq_true rfl) dX1_init_15 (fun q60 H _ hc => ?_)
  refine r_putF (a := (va_up (va_up a 59 q59) 60 q60)) (i := 58) (C := RX1) (T := TX1) (N := 10) (R' := sfr (clr (sfr (clr (clr R 58) 59) 58 0 (some (q59))) 60) 58 1 (some (q60))) hx hb hts hown hK.1 hc (h0) (rfl) rfl rfl hinX1 tyX1 tyX1_ok nmX1 1 (by decide) hf_15 (fun _ h9 => h9) rfl hnm rfl (tyX1_ok 1 (by decide)) rfl rfl dX1_init_17 (fds_sfr (by decide) (by decide)) (fun _ h9 => ct_sfr h9) (fun H locs hc => ?_)
  refine lv_aload_n hx hb dX1_init_20 rfl (lv_at hl 0 rfl) ?_
  refine lv_bipush (v := nI (10)) hx hb dX1_init_21 (by decide) ?_
  refine r_newa (N := 10) (t0 := 0) (ty := .int) (cA := g 0) (n := nI (10)) (x := 1) (atype := .int) (R := sfr (clr (sfr (clr (clr R 58) 59) 58 0 (some (q59))) 60) 58 1 (some (q60))) hx hb (hts (.arrayClass .int) (by decide +kernel)) rfl hK.1 hc hA 61 (hfr 61 (by decide)) rfl rfl (fun h9 => h9) (nct_i rfl) (by decide) (by decide) (by decide) (Nat.le_of_ble_eq_true rfl) (Nat.le_of_ble_eq_true rfl) dX1_init_23 (fun q61 H _ hc => ?_)
  refine r_putF (a := (va_up (va_up (va_up a 59 q59) 60 q60) 61 q61)) (i := 58) (C := RX1) (T := TX1) (N := 10) (R' := sfr (clr (sfr (clr (sfr (clr (clr R 58) 59) 58 0 (some (q59))) 60) 58 1 (some (q60))) 61) 58 2 (some (q61))) hx hb hts hown hK.1 hc (h0) (rfl) rfl rfl hinX1 tyX1 tyX1_ok nmX1 2 (by decide) hf_18 (fun _ h9 => h9) rfl hnm rfl (tyX1_ok 2 (by decide)) rfl rfl dX1_init_25 (fds_sfr (by decide) (by decide)) (fun _ h9 => ct_sfr h9) (fun H locs hc => ?_)
  refine lv_aload_n hx hb dX1_init_28 rfl (lv_at hl 0 rfl) ?_
  refine lv_bipush (v := nI (10)) hx hb dX1_init_29 (by decide) ?_
  refine r_newa (N := 10) (t0 := 0) (ty := .int) (cA := g 0) (n := nI (10)) (x := 1) (atype := .int) (R := sfr (clr (sfr (clr (sfr (clr (clr R 58) 59) 58 0 (some (q59))) 60) 58 1 (some (q60))) 61) 58 2 (some (q61))) hx hb (hts (.arrayClass .int) (by decide +kernel)) rfl hK.1 hc hA 62 (hfr 62 (by decide)) rfl rfl (fun h9 => h9) (nct_i rfl) (by decide) (by decide) (by decide) (Nat.le_of_ble_eq_true rfl) (Nat.le_of_ble_eq_true rfl) dX1_init_31 (fun q62 H _ hc => ?_)
  refine r_putF (a := (va_up (va_up (va_up (va_up a 59 q59) 60 q60) 61 q61) 62 q62)) (i := 58) (C := RX1) (T := TX1) (N := 10) (R' := sfr (clr (sfr (clr (sfr (clr (sfr (clr (clr R 58) 59) 58 0 (some (q59))) 60) 58 1 (some (q60))) 61) 58 2 (some (q61))) 62) 58 3 (some (q62))) hx hb hts hown hK.1 hc (h0) (rfl) rfl rfl hinX1 tyX1 tyX1_ok nmX1 3 (by decide) hf_21 (fun _ h9 => h9) rfl hnm rfl (tyX1_ok 3 (by decide)) rfl rfl dX1_init_33 (fds_sfr (by decide) (by decide)) (fun _ h9 => ct_sfr h9) (fun H locs hc => ?_)
  refine lv_aload_n hx hb dX1_init_36 rfl (lv_at hl 0 rfl) ?_
  refine lv_bipush (v := nI (10)) hx hb dX1_init_37 (by decide) ?_
  refine r_newa (N := 10) (t0 := 1) (ty := .long) (cA := g 1) (n := nI (10)) (x := 2) (atype := .long) (R := sfr (clr (sfr (clr (sfr (clr (sfr (clr (clr R 58) 59) 58 0 (some (q59))) 60) 58 1 (some (q60))) 61) 58 2 (some (q61))) 62) 58 3 (some (q62))) hx hb (hts (.arrayClass .long) (by decide +kernel)) rfl hK.1 hc hA 63 (hfr 63 (by decide)) rfl rfl (fun h9 => h9) (nct_l rfl) (by decide) (by decide) (by decide) (Nat.le_of_ble_eq_true rfl) (Nat.le_of_ble_eq_true rfl) dX1_init_39 (fun q63 H _ hc => ?_)
  refine r_putF (a := (va_up (va_up (va_up (va_up (va_up a 59 q59) 60 q60) 61 q61) 62 q62) 63 q63)) (i := 58) (C := RX1) (T := TX1) (N := 10) (R' := sfr (clr (sfr (clr (sfr (clr (sfr (clr (sfr (clr (clr R 58) 59) 58 0 (some (q59))) 60) 58 1 (some (q60))) 61) 58 2 (some (q61))) 62) 58 3 (some (q62))) 63) 58 4 (some (q63))) hx hb hts hown hK.1 hc (h0) (rfl) rfl rfl hinX1 tyX1 tyX1_ok nmX1 4 (by decide) hf_24 (fun _ h9 => h9) rfl hnm rfl (tyX1_ok 4 (by decide)) rfl rfl dX1_init_41 (fds_sfr (by decide) (by decide)) (fun _ h9 => ct_sfr h9) (fun H locs hc => ?_)
  refine lv_aload_n hx hb dX1_init_44 rfl (lv_at hl 0 rfl) ?_
  refine lv_iconst (v := nI (0)) hx hb dX1_init_45 (by decide) ?_
  refine r_put (a := (va_up (va_up (va_up (va_up (va_up a 59 q59) 60 q60) 61 q61) 62 q62) 63 q63)) (i := 58) (C := RX1) (T := TX1) (N := 10) (R' := sfi (sfr (clr (sfr (clr (sfr (clr (sfr (clr (sfr (clr (clr R 58) 59) 58 0 (some (q59))) 60) 58 1 (some (q60))) 61) 58 2 (some (q61))) 62) 58 3 (some (q62))) 63) 58 4 (some (q63))) 58 5 (nI (0))) hx hb hts hown hK.1 hc (h0) (rfl) rfl rfl hinX1 tyX1 tyX1_ok nmX1 5 (by decide) hf_28 (fun _ h9 => h9) rfl (tyX1_ok 5 (by decide)) rfl rfl dX1_init_46 (fds_sfi (by decide) (by decide)) (fun _ h9 => ct_sfi h9) (fun H locs hc => ?_)
  refine lv_aload_n hx hb dX1_init_49 rfl (lv_at hl 0 rfl) ?_
  refine lv_iconst (v := nI (0)) hx hb dX1_init_50 (by decide) ?_
  refine r_put (a := (va_up (va_up (va_up (va_up (va_up a 59 q59) 60 q60) 61 q61) 62 q62) 63 q63)) (i := 58) (C := RX1) (T := TX1) (N := 10) (R' := sfi (sfi (sfr (clr (sfr (clr (sfr (clr (sfr (clr (sfr (clr (clr R 58) 59) 58 0 (some (q59))) 60) 58 1 (some (q60))) 61) 58 2 (some (q61))) 62) 58 3 (some (q62))) 63) 58 4 (some (q63))) 58 5 (nI (0))) 58 6 (nI (0))) hx hb hts hown hK.1 hc (h0) (rfl) rfl rfl hinX1 tyX1 tyX1_ok nmX1 6 (by decide) hf_32 (fun _ h9 => h9) rfl (tyX1_ok 6 (by decide)) rfl rfl dX1_init_51 (fds_sfi (by decide) (by decide)) (fun _ h9 => ct_sfi h9) (fun H locs hc => ?_)
  refine lv_aload_n hx hb dX1_init_54 rfl (lv_at hl 0 rfl) ?_
  refine lv_iconst (v := nI (0)) hx hb dX1_init_55 (by decide) ?_
  refine r_put (a := (va_up (va_up (va_up (va_up (va_up a 59 q59) 60 q60) 61 q61) 62 q62) 63 q63)) (i := 58) (C := RX1) (T := TX1) (N := 10) (R' := sfi (sfi (sfi (sfr (clr (sfr (clr (sfr (clr (sfr (clr (sfr (clr (clr R 58) 59) 58 0 (some (q59))) 60) 58 1 (some (q60))) 61) 58 2 (some (q61))) 62) 58 3 (some (q62))) 63) 58 4 (some (q63))) 58 5 (nI (0))) 58 6 (nI (0))) 58 7 (nI (0))) hx hb hts hown hK.1 hc (h0) (rfl) rfl rfl hinX1 tyX1 tyX1_ok nmX1 7 (by decide) hf_35 (fun _ h9 => h9) rfl (tyX1_ok 7 (by decide)) rfl rfl dX1_init_56 (fds_sfi (by decide) (by decide)) (fun _ h9 => ct_sfi h9) (fun H locs hc => ?_)
  refine lv_aload_n hx hb dX1_init_59 rfl (lv_at hl 0 rfl) ?_
  refine lv_iconst (v := nI (0)) hx hb dX1_init_60 (by decide) ?_
  refine r_put (a := (va_up (va_up (va_up (va_up (va_up a 59 q59) 60 q60) 61 q61) 62 q62) 63 q63)) (i := 58) (C := RX1) (T := TX1) (N := 10) (R' := sfi (sfi (sfi (sfi (sfr (clr (sfr (clr (sfr (clr (sfr (clr (sfr (clr (clr R 58) 59) 58 0 (some (q59))) 60) 58 1 (some (q60))) 61) 58 2 (some (q61))) 62) 58 3 (some (q62))) 63) 58 4 (some (q63))) 58 5 (nI (0))) 58 6 (nI (0))) 58 7 (nI (0))) 58 8 (nI (0))) hx hb hts hown hK.1 hc (h0) (rfl) rfl rfl hinX1 tyX1 tyX1_ok nmX1 8 (by decide) hf_38 (fun _ h9 => h9) rfl (tyX1_ok 8 (by decide)) rfl rfl dX1_init_61 (fds_sfi (by decide) (by decide)) (fun _ h9 => ct_sfi h9) (fun H locs hc => ?_)
  refine lv_aload_n hx hb dX1_init_64 rfl (lv_at hl 0 rfl) ?_
  refine lv_iconst (v := (-1)) hx hb dX1_init_65 (by decide) ?_
  refine r_put (a := (va_up (va_up (va_up (va_up (va_up a 59 q59) 60 q60) 61 q61) 62 q62) 63 q63)) (i := 58) (C := RX1) (T := TX1) (N := 10) (R' := sfi (sfi (sfi (sfi (sfi (sfr (clr (sfr (clr (sfr (clr (sfr (clr (sfr (clr (clr R 58) 59) 58 0 (some (q59))) 60) 58 1 (some (q60))) 61) 58 2 (some (q61))) 62) 58 3 (some (q62))) 63) 58 4 (some (q63))) 58 5 (nI (0))) 58 6 (nI (0))) 58 7 (nI (0))) 58 8 (nI (0))) 58 9 ((-1))) hx hb hts hown hK.1 hc (h0) (rfl) rfl rfl hinX1 tyX1 tyX1_ok nmX1 9 (by decide) hf_41 (fun _ h9 => h9) rfl (tyX1_ok 9 (by decide)) rfl rfl dX1_init_66 (fds_sfi (by decide) (by decide)) (fun _ h9 => ct_sfi h9) (fun H locs hc => ?_)
  exact r_vretA (post := fun lv' a' R' => ∃ (q59 : Nat) (q60 : Nat) (q61 : Nat) (q62 : Nat) (q63 : Nat), lv' = va_up (va_up (va_up (va_up (va_up lv 59 true) 60 true) 61 true) 62 true) 63 true ∧ a' = va_up (va_up (va_up (va_up (va_up a 59 q59) 60 q60) 61 q61) 62 q62) 63 q63 ∧ R' = sfi (sfi (sfi (sfi (sfi (sfr (clr (sfr (clr (sfr (clr (sfr (clr (sfr (clr (clr R 58) 59) 58 0 (some (q59))) 60) 58 1 (some (q60))) 61) 58 2 (some (q61))) 62) 58 3 (some (q62))) 63) 58 4 (some (q63))) 58 5 (nI (0))) 58 6 (nI (0))) 58 7 (nI (0))) 58 8 (nI (0))) 58 9 ((-1))) hx hb hr hlocks hc dX1_init_69 ⟨q59, q60, q61, q62, q63, rfl, rfl, rfl⟩
set_option maxRecDepth 100000 in
set_option maxHeartbeats 4000000 in
theorem c_X1_init_4 (l : Launch) (D : va_G) (g : Nat → ClassId) (lv : Nat → Bool) (a : Nat → Nat) (R : RS) (h0 : lv 64 = true) (hfr : ∀ i, i = 65 ∨ i = 66 ∨ i = 67 ∨ i = 68 ∨ i = 69 → lv i = false)  : aV l D g lv a yX1_init wsX1_init ({ frames := 1, cells := 5, slots := 50, locals := 60 } : Room) [.ref (a 64)] (clr R 64) (fun lv' a' R' => ∃ (q65 : Nat) (q66 : Nat) (q67 : Nat) (q68 : Nat) (q69 : Nat), lv' = va_up (va_up (va_up (va_up (va_up lv 65 true) 66 true) 67 true) 68 true) 69 true ∧ a' = va_up (va_up (va_up (va_up (va_up a 65 q65) 66 q66) 67 q67) 68 q68) 69 q69 ∧ R' = sfi (sfi (sfi (sfi (sfi (sfr (clr (sfr (clr (sfr (clr (sfr (clr (sfr (clr (clr R 64) 65) 64 0 (some (q65))) 66) 64 1 (some (q66))) 67) 64 2 (some (q67))) 68) 64 3 (some (q68))) 69) 64 4 (some (q69))) 64 5 (nI (0))) 64 6 (nI (0))) 64 7 (nI (0))) 64 8 (nI (0))) 64 9 ((-1))) 5 50 := by
  refine c_body (cc := cX1_init) (maxL := 1) (ret := none) (by decide) rfl (Nat.le_of_ble_eq_true rfl) ?_
  intro pr en st mi bl me co ls B hl
  obtain ⟨hx, hb, hr, hml, hown, hts, hlocks, hnm, hK, hZ, hc, hA⟩ := B
  have hl : lv_has ls 1 [(0, .ref (a 64))] := hl
  have hinX1 : ∀ w ∈ u_ws RX1 TX1 10, w ∈ wsX1_init := (fun _ h => List.mem_cons_of_mem _ (List.mem_append_right _ h))
  have hf_9 := hts (.fieldLink RX1 9 "PalletLayers$Pallet" "kindOf" "[I") (by decide +kernel)
  have hf_15 := hts (.fieldLink RX1 15 "PalletLayers$Pallet" "boxesOf" "[I") (by decide +kernel)
  have hf_18 := hts (.fieldLink RX1 18 "PalletLayers$Pallet" "bottomOf" "[I") (by decide +kernel)
  have hf_21 := hts (.fieldLink RX1 21 "PalletLayers$Pallet" "weightOf" "[I") (by decide +kernel)
  have hf_24 := hts (.fieldLink RX1 24 "PalletLayers$Pallet" "coveredOf" "[J") (by decide +kernel)
  have hf_28 := hts (.fieldLink RX1 28 "PalletLayers$Pallet" "layers" "I") (by decide +kernel)
  have hf_32 := hts (.fieldLink RX1 32 "PalletLayers$Pallet" "height" "I") (by decide +kernel)
  have hf_35 := hts (.fieldLink RX1 35 "PalletLayers$Pallet" "weight" "I") (by decide +kernel)
  have hf_38 := hts (.fieldLink RX1 38 "PalletLayers$Pallet" "boxes" "I") (by decide +kernel)
  have hf_41 := hts (.fieldLink RX1 41 "PalletLayers$Pallet" "stop" "I") (by decide +kernel)
  refine lv_aload_n hx hb dX1_init_0 rfl (lv_at hl 0 rfl) ?_
  refine W.objInit hx hb hown (hts (.methodLink RX1 3 objectInit) (by decide +kernel)) (hts (.instanceMethod objectInit) (by decide +kernel)) (hts (.code objectInit ⟨#[0xb1]⟩ 1 none) (by decide +kernel)) rfl (hl.1.trans hml.symm) rfl dX1_init_1 (Nat.le_of_ble_eq_true rfl) (Nat.le_of_ble_eq_true rfl) ?_
  show W _ _ _ _ _ _ _ _ _ _ _ _ _ _ _ (F0 mi 4 ls [])
  refine lv_aload_n hx hb dX1_init_4 rfl (lv_at hl 0 rfl) ?_
  refine lv_bipush (v := nI (10)) hx hb dX1_init_5 (by decide) ?_
  refine r_newa (N := 10) (t0 := 0) (ty := .int) (cA := g 0) (n := nI (10)) (x := 1) (atype := .int) (R := clr R 64) hx hb (hts (.arrayClass .int) (by decide +kernel)) rfl hK.1 hc hA 65 (hfr 65 (by decide)) rfl rfl (fun h9 => h9) (nct_i rfl) (by decide) (by decide) (by decide) (Nat.le_of_ble_eq_true rfl) (Nat.le_of_ble_eq_true rfl) dX1_init_7 (fun q65 H _ hc => ?_)
  refine r_putF (a := (va_up a 65 q65)) (i := 64) (C := RX1) (T := TX1) (N := 10) (R' := sfr (clr (clr R 64) 65) 64 0 (some (q65))) hx hb hts hown hK.1 hc (h0) (rfl) rfl rfl hinX1 tyX1 tyX1_ok nmX1 0 (by decide) hf_9 (fun _ h9 => h9) rfl hnm rfl (tyX1_ok 0 (by decide)) rfl rfl dX1_init_9 (fds_sfr (by decide) (by decide)) (fun _ h9 => ct_sfr h9) (fun H locs hc => ?_)
  refine lv_aload_n hx hb dX1_init_12 rfl (lv_at hl 0 rfl) ?_
  refine lv_bipush (v := nI (10)) hx hb dX1_init_13 (by decide) ?_
  refine r_newa (N := 10) (t0 := 0) (ty := .int) (cA := g 0) (n := nI (10)) (x := 1) (atype := .int) (R := sfr (clr (clr R 64) 65) 64 0 (some (q65))) hx hb (hts (.arrayClass .int) (by decide +kernel)) rfl hK.1 hc hA 66 (hfr 66 (by decide)) rfl rfl (fun h9 => h9) (nct_i rfl) (by decide) (by decide) (by decide) (Nat.le_of_ble_eq_true rfl) (Nat.le_of_ble_eq_true rfl) dX1_init_15 (fun q66 H _ hc => ?_)
  refine r_putF (a := (va_up (va_up a 65 q65) 66 q66)) (i := 64) (C := RX1) (T := TX1) (N := 10) (R' := sfr (clr (sfr (clr (clr R 64) 65) 64 0 (some (q65))) 66) 64 1 (some (q66))) hx hb hts hown hK.1 hc (h0) (rfl) rfl rfl hinX1 tyX1 tyX1_ok nmX1 1 (by decide) hf_15 (fun _ h9 => h9) rfl hnm rfl (tyX1_ok 1 (by decide)) rfl rfl dX1_init_17 (fds_sfr (by decide) (by decide)) (fun _ h9 => ct_sfr h9) (fun H locs hc => ?_)
  refine lv_aload_n hx hb dX1_init_20 rfl (lv_at hl 0 rfl) ?_
  refine lv_bipush (v := nI (10)) hx hb dX1_init_21 (by decide) ?_
  refine r_newa (N := 10) (t0 := 0) (ty := .int) (cA := g 0) (n := nI (10)) (x := 1) (atype := .int) (R := sfr (clr (sfr (clr (clr R 64) 65) 64 0 (some (q65))) 66) 64 1 (some (q66))) hx hb (hts (.arrayClass .int) (by decide +kernel)) rfl hK.1 hc hA 67 (hfr 67 (by decide)) rfl rfl (fun h9 => h9) (nct_i rfl) (by decide) (by decide) (by decide) (Nat.le_of_ble_eq_true rfl) (Nat.le_of_ble_eq_true rfl) dX1_init_23 (fun q67 H _ hc => ?_)
  refine r_putF (a := (va_up (va_up (va_up a 65 q65) 66 q66) 67 q67)) (i := 64) (C := RX1) (T := TX1) (N := 10) (R' := sfr (clr (sfr (clr (sfr (clr (clr R 64) 65) 64 0 (some (q65))) 66) 64 1 (some (q66))) 67) 64 2 (some (q67))) hx hb hts hown hK.1 hc (h0) (rfl) rfl rfl hinX1 tyX1 tyX1_ok nmX1 2 (by decide) hf_18 (fun _ h9 => h9) rfl hnm rfl (tyX1_ok 2 (by decide)) rfl rfl dX1_init_25 (fds_sfr (by decide) (by decide)) (fun _ h9 => ct_sfr h9) (fun H locs hc => ?_)
  refine lv_aload_n hx hb dX1_init_28 rfl (lv_at hl 0 rfl) ?_
  refine lv_bipush (v := nI (10)) hx hb dX1_init_29 (by decide) ?_
  refine r_newa (N := 10) (t0 := 0) (ty := .int) (cA := g 0) (n := nI (10)) (x := 1) (atype := .int) (R := sfr (clr (sfr (clr (sfr (clr (clr R 64) 65) 64 0 (some (q65))) 66) 64 1 (some (q66))) 67) 64 2 (some (q67))) hx hb (hts (.arrayClass .int) (by decide +kernel)) rfl hK.1 hc hA 68 (hfr 68 (by decide)) rfl rfl (fun h9 => h9) (nct_i rfl) (by decide) (by decide) (by decide) (Nat.le_of_ble_eq_true rfl) (Nat.le_of_ble_eq_true rfl) dX1_init_31 (fun q68 H _ hc => ?_)
  refine r_putF (a := (va_up (va_up (va_up (va_up a 65 q65) 66 q66) 67 q67) 68 q68)) (i := 64) (C := RX1) (T := TX1) (N := 10) (R' := sfr (clr (sfr (clr (sfr (clr (sfr (clr (clr R 64) 65) 64 0 (some (q65))) 66) 64 1 (some (q66))) 67) 64 2 (some (q67))) 68) 64 3 (some (q68))) hx hb hts hown hK.1 hc (h0) (rfl) rfl rfl hinX1 tyX1 tyX1_ok nmX1 3 (by decide) hf_21 (fun _ h9 => h9) rfl hnm rfl (tyX1_ok 3 (by decide)) rfl rfl dX1_init_33 (fds_sfr (by decide) (by decide)) (fun _ h9 => ct_sfr h9) (fun H locs hc => ?_)
  refine lv_aload_n hx hb dX1_init_36 rfl (lv_at hl 0 rfl) ?_
  refine lv_bipush (v := nI (10)) hx hb dX1_init_37 (by decide) ?_
  refine r_newa (N := 10) (t0 := 1) (ty := .long) (cA := g 1) (n := nI (10)) (x := 2) (atype := .long) (R := sfr (clr (sfr (clr (sfr (clr (sfr (clr (clr R 64) 65) 64 0 (some (q65))) 66) 64 1 (some (q66))) 67) 64 2 (some (q67))) 68) 64 3 (some (q68))) hx hb (hts (.arrayClass .long) (by decide +kernel)) rfl hK.1 hc hA 69 (hfr 69 (by decide)) rfl rfl (fun h9 => h9) (nct_l rfl) (by decide) (by decide) (by decide) (Nat.le_of_ble_eq_true rfl) (Nat.le_of_ble_eq_true rfl) dX1_init_39 (fun q69 H _ hc => ?_)
  refine r_putF (a := (va_up (va_up (va_up (va_up (va_up a 65 q65) 66 q66) 67 q67) 68 q68) 69 q69)) (i := 64) (C := RX1) (T := TX1) (N := 10) (R' := sfr (clr (sfr (clr (sfr (clr (sfr (clr (sfr (clr (clr R 64) 65) 64 0 (some (q65))) 66) 64 1 (some (q66))) 67) 64 2 (some (q67))) 68) 64 3 (some (q68))) 69) 64 4 (some (q69))) hx hb hts hown hK.1 hc (h0) (rfl) rfl rfl hinX1 tyX1 tyX1_ok nmX1 4 (by decide) hf_24 (fun _ h9 => h9) rfl hnm rfl (tyX1_ok 4 (by decide)) rfl rfl dX1_init_41 (fds_sfr (by decide) (by decide)) (fun _ h9 => ct_sfr h9) (fun H locs hc => ?_)
  refine lv_aload_n hx hb dX1_init_44 rfl (lv_at hl 0 rfl) ?_
  refine lv_iconst (v := nI (0)) hx hb dX1_init_45 (by decide) ?_
  refine r_put (a := (va_up (va_up (va_up (va_up (va_up a 65 q65) 66 q66) 67 q67) 68 q68) 69 q69)) (i := 64) (C := RX1) (T := TX1) (N := 10) (R' := sfi (sfr (clr (sfr (clr (sfr (clr (sfr (clr (sfr (clr (clr R 64) 65) 64 0 (some (q65))) 66) 64 1 (some (q66))) 67) 64 2 (some (q67))) 68) 64 3 (some (q68))) 69) 64 4 (some (q69))) 64 5 (nI (0))) hx hb hts hown hK.1 hc (h0) (rfl) rfl rfl hinX1 tyX1 tyX1_ok nmX1 5 (by decide) hf_28 (fun _ h9 => h9) rfl (tyX1_ok 5 (by decide)) rfl rfl dX1_init_46 (fds_sfi (by decide) (by decide)) (fun _ h9 => ct_sfi h9) (fun H locs hc => ?_)
  refine lv_aload_n hx hb dX1_init_49 rfl (lv_at hl 0 rfl) ?_
  refine lv_iconst (v := nI (0)) hx hb dX1_init_50 (by decide) ?_
  refine r_put (a := (va_up (va_up (va_up (va_up (va_up a 65 q65) 66 q66) 67 q67) 68 q68) 69 q69)) (i := 64) (C := RX1) (T := TX1) (N := 10) (R' := sfi (sfi (sfr (clr (sfr (clr (sfr (clr (sfr (clr (sfr (clr (clr R 64) 65) 64 0 (some (q65))) 66) 64 1 (some (q66))) 67) 64 2 (some (q67))) 68) 64 3 (some (q68))) 69) 64 4 (some (q69))) 64 5 (nI (0))) 64 6 (nI (0))) hx hb hts hown hK.1 hc (h0) (rfl) rfl rfl hinX1 tyX1 tyX1_ok nmX1 6 (by decide) hf_32 (fun _ h9 => h9) rfl (tyX1_ok 6 (by decide)) rfl rfl dX1_init_51 (fds_sfi (by decide) (by decide)) (fun _ h9 => ct_sfi h9) (fun H locs hc => ?_)
  refine lv_aload_n hx hb dX1_init_54 rfl (lv_at hl 0 rfl) ?_
  refine lv_iconst (v := nI (0)) hx hb dX1_init_55 (by decide) ?_
  refine r_put (a := (va_up (va_up (va_up (va_up (va_up a 65 q65) 66 q66) 67 q67) 68 q68) 69 q69)) (i := 64) (C := RX1) (T := TX1) (N := 10) (R' := sfi (sfi (sfi (sfr (clr (sfr (clr (sfr (clr (sfr (clr (sfr (clr (clr R 64) 65) 64 0 (some (q65))) 66) 64 1 (some (q66))) 67) 64 2 (some (q67))) 68) 64 3 (some (q68))) 69) 64 4 (some (q69))) 64 5 (nI (0))) 64 6 (nI (0))) 64 7 (nI (0))) hx hb hts hown hK.1 hc (h0) (rfl) rfl rfl hinX1 tyX1 tyX1_ok nmX1 7 (by decide) hf_35 (fun _ h9 => h9) rfl (tyX1_ok 7 (by decide)) rfl rfl dX1_init_56 (fds_sfi (by decide) (by decide)) (fun _ h9 => ct_sfi h9) (fun H locs hc => ?_)
  refine lv_aload_n hx hb dX1_init_59 rfl (lv_at hl 0 rfl) ?_
  refine lv_iconst (v := nI (0)) hx hb dX1_init_60 (by decide) ?_
  refine r_put (a := (va_up (va_up (va_up (va_up (va_up a 65 q65) 66 q66) 67 q67) 68 q68) 69 q69)) (i := 64) (C := RX1) (T := TX1) (N := 10) (R' := sfi (sfi (sfi (sfi (sfr (clr (sfr (clr (sfr (clr (sfr (clr (sfr (clr (clr R 64) 65) 64 0 (some (q65))) 66) 64 1 (some (q66))) 67) 64 2 (some (q67))) 68) 64 3 (some (q68))) 69) 64 4 (some (q69))) 64 5 (nI (0))) 64 6 (nI (0))) 64 7 (nI (0))) 64 8 (nI (0))) hx hb hts hown hK.1 hc (h0) (rfl) rfl rfl hinX1 tyX1 tyX1_ok nmX1 8 (by decide) hf_38 (fun _ h9 => h9) rfl (tyX1_ok 8 (by decide)) rfl rfl dX1_init_61 (fds_sfi (by decide) (by decide)) (fun _ h9 => ct_sfi h9) (fun H locs hc => ?_)
  refine lv_aload_n hx hb dX1_init_64 rfl (lv_at hl 0 rfl) ?_
  refine lv_iconst (v := (-1)) hx hb dX1_init_65 (by decide) ?_
  refine r_put (a := (va_up (va_up (va_up (va_up (va_up a 65 q65) 66 q66) 67 q67) 68 q68) 69 q69)) (i := 64) (C := RX1) (T := TX1) (N := 10) (R' := sfi (sfi (sfi (sfi (sfi (sfr (clr (sfr (clr (sfr (clr (sfr (clr (sfr (clr (clr R 64) 65) 64 0 (some (q65))) 66) 64 1 (some (q66))) 67) 64 2 (some (q67))) 68) 64 3 (some (q68))) 69) 64 4 (some (q69))) 64 5 (nI (0))) 64 6 (nI (0))) 64 7 (nI (0))) 64 8 (nI (0))) 64 9 ((-1))) hx hb hts hown hK.1 hc (h0) (rfl) rfl rfl hinX1 tyX1 tyX1_ok nmX1 9 (by decide) hf_41 (fun _ h9 => h9) rfl (tyX1_ok 9 (by decide)) rfl rfl dX1_init_66 (fds_sfi (by decide) (by decide)) (fun _ h9 => ct_sfi h9) (fun H locs hc => ?_)
  exact r_vretA (post := fun lv' a' R' => ∃ (q65 : Nat) (q66 : Nat) (q67 : Nat) (q68 : Nat) (q69 : Nat), lv' = va_up (va_up (va_up (va_up (va_up lv 65 true) 66 true) 67 true) 68 true) 69 true ∧ a' = va_up (va_up (va_up (va_up (va_up a 65 q65) 66 q66) 67 q67) 68 q68) 69 q69 ∧ R' = sfi (sfi (sfi (sfi (sfi (sfr (clr (sfr (clr (sfr (clr (sfr (clr (sfr (clr (clr R 64) 65) 64 0 (some (q65))) 66) 64 1 (some (q66))) 67) 64 2 (some (q67))) 68) 64 3 (some (q68))) 69) 64 4 (some (q69))) 64 5 (nI (0))) 64 6 (nI (0))) 64 7 (nI (0))) 64 8 (nI (0))) 64 9 ((-1))) hx hb hr hlocks hc dX1_init_69 ⟨q65, q66, q67, q68, q69, rfl, rfl, rfl⟩
set_option maxRecDepth 100000 in
set_option maxHeartbeats 4000000 in
theorem c_X1_init_5 (l : Launch) (D : va_G) (g : Nat → ClassId) (lv : Nat → Bool) (a : Nat → Nat) (R : RS) (h0 : lv 70 = true) (hfr : ∀ i, i = 71 ∨ i = 72 ∨ i = 73 ∨ i = 74 ∨ i = 75 → lv i = false)  : aV l D g lv a yX1_init wsX1_init ({ frames := 1, cells := 5, slots := 50, locals := 60 } : Room) [.ref (a 70)] (clr R 70) (fun lv' a' R' => ∃ (q71 : Nat) (q72 : Nat) (q73 : Nat) (q74 : Nat) (q75 : Nat), lv' = va_up (va_up (va_up (va_up (va_up lv 71 true) 72 true) 73 true) 74 true) 75 true ∧ a' = va_up (va_up (va_up (va_up (va_up a 71 q71) 72 q72) 73 q73) 74 q74) 75 q75 ∧ R' = sfi (sfi (sfi (sfi (sfi (sfr (clr (sfr (clr (sfr (clr (sfr (clr (sfr (clr (clr R 70) 71) 70 0 (some (q71))) 72) 70 1 (some (q72))) 73) 70 2 (some (q73))) 74) 70 3 (some (q74))) 75) 70 4 (some (q75))) 70 5 (nI (0))) 70 6 (nI (0))) 70 7 (nI (0))) 70 8 (nI (0))) 70 9 ((-1))) 5 50 := by
  refine c_body (cc := cX1_init) (maxL := 1) (ret := none) (by decide) rfl (Nat.le_of_ble_eq_true rfl) ?_
  intro pr en st mi bl me co ls B hl
  obtain ⟨hx, hb, hr, hml, hown, hts, hlocks, hnm, hK, hZ, hc, hA⟩ := B
  have hl : lv_has ls 1 [(0, .ref (a 70))] := hl
  have hinX1 : ∀ w ∈ u_ws RX1 TX1 10, w ∈ wsX1_init := (fun _ h => List.mem_cons_of_mem _ (List.mem_append_right _ h))
  have hf_9 := hts (.fieldLink RX1 9 "PalletLayers$Pallet" "kindOf" "[I") (by decide +kernel)
  have hf_15 := hts (.fieldLink RX1 15 "PalletLayers$Pallet" "boxesOf" "[I") (by decide +kernel)
  have hf_18 := hts (.fieldLink RX1 18 "PalletLayers$Pallet" "bottomOf" "[I") (by decide +kernel)
  have hf_21 := hts (.fieldLink RX1 21 "PalletLayers$Pallet" "weightOf" "[I") (by decide +kernel)
  have hf_24 := hts (.fieldLink RX1 24 "PalletLayers$Pallet" "coveredOf" "[J") (by decide +kernel)
  have hf_28 := hts (.fieldLink RX1 28 "PalletLayers$Pallet" "layers" "I") (by decide +kernel)
  have hf_32 := hts (.fieldLink RX1 32 "PalletLayers$Pallet" "height" "I") (by decide +kernel)
  have hf_35 := hts (.fieldLink RX1 35 "PalletLayers$Pallet" "weight" "I") (by decide +kernel)
  have hf_38 := hts (.fieldLink RX1 38 "PalletLayers$Pallet" "boxes" "I") (by decide +kernel)
  have hf_41 := hts (.fieldLink RX1 41 "PalletLayers$Pallet" "stop" "I") (by decide +kernel)
  refine lv_aload_n hx hb dX1_init_0 rfl (lv_at hl 0 rfl) ?_
  refine W.objInit hx hb hown (hts (.methodLink RX1 3 objectInit) (by decide +kernel)) (hts (.instanceMethod objectInit) (by decide +kernel)) (hts (.code objectInit ⟨#[0xb1]⟩ 1 none) (by decide +kernel)) rfl (hl.1.trans hml.symm) rfl dX1_init_1 (Nat.le_of_ble_eq_true rfl) (Nat.le_of_ble_eq_true rfl) ?_
  show W _ _ _ _ _ _ _ _ _ _ _ _ _ _ _ (F0 mi 4 ls [])
  refine lv_aload_n hx hb dX1_init_4 rfl (lv_at hl 0 rfl) ?_
  refine lv_bipush (v := nI (10)) hx hb dX1_init_5 (by decide) ?_
  refine r_newa (N := 10) (t0 := 0) (ty := .int) (cA := g 0) (n := nI (10)) (x := 1) (atype := .int) (R := clr R 70) hx hb (hts (.arrayClass .int) (by decide +kernel)) rfl hK.1 hc hA 71 (hfr 71 (by decide)) rfl rfl (fun h9 => h9) (nct_i rfl) (by decide) (by decide) (by decide) (Nat.le_of_ble_eq_true rfl) (Nat.le_of_ble_eq_true rfl) dX1_init_7 (fun q71 H _ hc => ?_)
  refine r_putF (a := (va_up a 71 q71)) (i := 70) (C := RX1) (T := TX1) (N := 10) (R' := sfr (clr (clr R 70) 71) 70 0 (some (q71))) hx hb hts hown hK.1 hc (h0) (rfl) rfl rfl hinX1 tyX1 tyX1_ok nmX1 0 (by decide) hf_9 (fun _ h9 => h9) rfl hnm rfl (tyX1_ok 0 (by decide)) rfl rfl dX1_init_9 (fds_sfr (by decide) (by decide)) (fun _ h9 => ct_sfr h9) (fun H locs hc => ?_)
  refine lv_aload_n hx hb dX1_init_12 rfl (lv_at hl 0 rfl) ?_
  refine lv_bipush (v := nI (10)) hx hb dX1_init_13 (by decide) ?_
  refine r_newa (N := 10) (t0 := 0) (ty := .int) (cA := g 0) (n := nI (10)) (x := 1) (atype := .int) (R := sfr (clr (clr R 70) 71) 70 0 (some (q71))) hx hb (hts (.arrayClass .int) (by decide +kernel)) rfl hK.1 hc hA 72 (hfr 72 (by decide)) rfl rfl (fun h9 => h9) (nct_i rfl) (by decide) (by decide) (by decide) (Nat.le_of_ble_eq_true rfl) (Nat.le_of_ble_eq_true rfl) dX1_init_15 (fun q72 H _ hc => ?_)
  refine r_putF (a := (va_up (va_up a 71 q71) 72 q72)) (i := 70) (C := RX1) (T := TX1) (N := 10) (R' := sfr (clr (sfr (clr (clr R 70) 71) 70 0 (some (q71))) 72) 70 1 (some (q72))) hx hb hts hown hK.1 hc (h0) (rfl) rfl rfl hinX1 tyX1 tyX1_ok nmX1 1 (by decide) hf_15 (fun _ h9 => h9) rfl hnm rfl (tyX1_ok 1 (by decide)) rfl rfl dX1_init_17 (fds_sfr (by decide) (by decide)) (fun _ h9 => ct_sfr h9) (fun H locs hc => ?_)
  refine lv_aload_n hx hb dX1_init_20 rfl (lv_at hl 0 rfl) ?_
  refine lv_bipush (v := nI (10)) hx hb dX1_init_21 (by decide) ?_
  refine r_newa (N := 10) (t0 := 0) (ty := .int) (cA := g 0) (n := nI (10)) (x := 1) (atype := .int) (R := sfr (clr (sfr (clr (clr R 70) 71) 70 0 (some (q71))) 72) 70 1 (some (q72))) hx hb (hts (.arrayClass .int) (by decide +kernel)) rfl hK.1 hc hA 73 (hfr 73 (by decide)) rfl rfl (fun h9 => h9) (nct_i rfl) (by decide) (by decide) (by decide) (Nat.le_of_ble_eq_true rfl) (Nat.le_of_ble_eq_true rfl) dX1_init_23 (fun q73 H _ hc => ?_)
  refine r_putF (a := (va_up (va_up (va_up a 71 q71) 72 q72) 73 q73)) (i := 70) (C := RX1) (T := TX1) (N := 10) (R' := sfr (clr (sfr (clr (sfr (clr (clr R 70) 71) 70 0 (some (q71))) 72) 70 1 (some (q72))) 73) 70 2 (some (q73))) hx hb hts hown hK.1 hc (h0) (rfl) rfl rfl hinX1 tyX1 tyX1_ok nmX1 2 (by decide) hf_18 (fun _ h9 => h9) rfl hnm rfl (tyX1_ok 2 (by decide)) rfl rfl dX1_init_25 (fds_sfr (by decide) (by decide)) (fun _ h9 => ct_sfr h9) (fun H locs hc => ?_)
  refine lv_aload_n hx hb dX1_init_28 rfl (lv_at hl 0 rfl) ?_
  refine lv_bipush (v := nI (10)) hx hb dX1_init_29 (by decide) ?_
  refine r_newa (N := 10) (t0 := 0) (ty := .int) (cA := g 0) (n := nI (10)) (x := 1) (atype := .int) (R := sfr (clr (sfr (clr (sfr (clr (clr R 70) 71) 70 0 (some (q71))) 72) 70 1 (some (q72))) 73) 70 2 (some (q73))) hx hb (hts (.arrayClass .int) (by decide +kernel)) rfl hK.1 hc hA 74 (hfr 74 (by decide)) rfl rfl (fun h9 => h9) (nct_i rfl) (by decide) (by decide) (by decide) (Nat.le_of_ble_eq_true rfl) (Nat.le_of_ble_eq_true rfl) dX1_init_31 (fun q74 H _ hc => ?_)
  refine r_putF (a := (va_up (va_up (va_up (va_up a 71 q71) 72 q72) 73 q73) 74 q74)) (i := 70) (C := RX1) (T := TX1) (N := 10) (R' := sfr (clr (sfr (clr (sfr (clr (sfr (clr (clr R 70) 71) 70 0 (some (q71))) 72) 70 1 (some (q72))) 73) 70 2 (some (q73))) 74) 70 3 (some (q74))) hx hb hts hown hK.1 hc (h0) (rfl) rfl rfl hinX1 tyX1 tyX1_ok nmX1 3 (by decide) hf_21 (fun _ h9 => h9) rfl hnm rfl (tyX1_ok 3 (by decide)) rfl rfl dX1_init_33 (fds_sfr (by decide) (by decide)) (fun _ h9 => ct_sfr h9) (fun H locs hc => ?_)
  refine lv_aload_n hx hb dX1_init_36 rfl (lv_at hl 0 rfl) ?_
  refine lv_bipush (v := nI (10)) hx hb dX1_init_37 (by decide) ?_
  refine r_newa (N := 10) (t0 := 1) (ty := .long) (cA := g 1) (n := nI (10)) (x := 2) (atype := .long) (R := sfr (clr (sfr (clr (sfr (clr (sfr (clr (clr R 70) 71) 70 0 (some (q71))) 72) 70 1 (some (q72))) 73) 70 2 (some (q73))) 74) 70 3 (some (q74))) hx hb (hts (.arrayClass .long) (by decide +kernel)) rfl hK.1 hc hA 75 (hfr 75 (by decide)) rfl rfl (fun h9 => h9) (nct_l rfl) (by decide) (by decide) (by decide) (Nat.le_of_ble_eq_true rfl) (Nat.le_of_ble_eq_true rfl) dX1_init_39 (fun q75 H _ hc => ?_)
  refine r_putF (a := (va_up (va_up (va_up (va_up (va_up a 71 q71) 72 q72) 73 q73) 74 q74) 75 q75)) (i := 70) (C := RX1) (T := TX1) (N := 10) (R' := sfr (clr (sfr (clr (sfr (clr (sfr (clr (sfr (clr (clr R 70) 71) 70 0 (some (q71))) 72) 70 1 (some (q72))) 73) 70 2 (some (q73))) 74) 70 3 (some (q74))) 75) 70 4 (some (q75))) hx hb hts hown hK.1 hc (h0) (rfl) rfl rfl hinX1 tyX1 tyX1_ok nmX1 4 (by decide) hf_24 (fun _ h9 => h9) rfl hnm rfl (tyX1_ok 4 (by decide)) rfl rfl dX1_init_41 (fds_sfr (by decide) (by decide)) (fun _ h9 => ct_sfr h9) (fun H locs hc => ?_)
  refine lv_aload_n hx hb dX1_init_44 rfl (lv_at hl 0 rfl) ?_
  refine lv_iconst (v := nI (0)) hx hb dX1_init_45 (by decide) ?_
  refine r_put (a := (va_up (va_up (va_up (va_up (va_up a 71 q71) 72 q72) 73 q73) 74 q74) 75 q75)) (i := 70) (C := RX1) (T := TX1) (N := 10) (R' := sfi (sfr (clr (sfr (clr (sfr (clr (sfr (clr (sfr (clr (clr R 70) 71) 70 0 (some (q71))) 72) 70 1 (some (q72))) 73) 70 2 (some (q73))) 74) 70 3 (some (q74))) 75) 70 4 (some (q75))) 70 5 (nI (0))) hx hb hts hown hK.1 hc (h0) (rfl) rfl rfl hinX1 tyX1 tyX1_ok nmX1 5 (by decide) hf_28 (fun _ h9 => h9) rfl (tyX1_ok 5 (by decide)) rfl rfl dX1_init_46 (fds_sfi (by decide) (by decide)) (fun _ h9 => ct_sfi h9) (fun H locs hc => ?_)
  refine lv_aload_n hx hb dX1_init_49 rfl (lv_at hl 0 rfl) ?_
  refine lv_iconst (v := nI (0)) hx hb dX1_init_50 (by decide) ?_
  refine r_put (a := (va_up (va_up (va_up (va_up (va_up a 71 q71) 72 q72) 73 q73) 74 q74) 75 q75)) (i := 70) (C := RX1) (T := TX1) (N := 10) (R' := sfi (sfi (sfr (clr (sfr (clr (sfr (clr (sfr (clr (sfr (clr (clr R 70) 71) 70 0 (some (q71))) 72) 70 1 (some (q72))) 73) 70 2 (some (q73))) 74) 70 3 (some (q74))) 75) 70 4 (some (q75))) 70 5 (nI (0))) 70 6 (nI (0))) hx hb hts hown hK.1 hc (h0) (rfl) rfl rfl hinX1 tyX1 tyX1_ok nmX1 6 (by decide) hf_32 (fun _ h9 => h9) rfl (tyX1_ok 6 (by decide)) rfl rfl dX1_init_51 (fds_sfi (by decide) (by decide)) (fun _ h9 => ct_sfi h9) (fun H locs hc => ?_)
  refine lv_aload_n hx hb dX1_init_54 rfl (lv_at hl 0 rfl) ?_
  refine lv_iconst (v := nI (0)) hx hb dX1_init_55 (by decide) ?_
  refine r_put (a := (va_up (va_up (va_up (va_up (va_up a 71 q71) 72 q72) 73 q73) 74 q74) 75 q75)) (i := 70) (C := RX1) (T := TX1) (N := 10) (R' := sfi (sfi (sfi (sfr (clr (sfr (clr (sfr (clr (sfr (clr (sfr (clr (clr R 70) 71) 70 0 (some (q71))) 72) 70 1 (some (q72))) 73) 70 2 (some (q73))) 74) 70 3 (some (q74))) 75) 70 4 (some (q75))) 70 5 (nI (0))) 70 6 (nI (0))) 70 7 (nI (0))) hx hb hts hown hK.1 hc (h0) (rfl) rfl rfl hinX1 tyX1 tyX1_ok nmX1 7 (by decide) hf_35 (fun _ h9 => h9) rfl (tyX1_ok 7 (by decide)) rfl rfl dX1_init_56 (fds_sfi (by decide) (by decide)) (fun _ h9 => ct_sfi h9) (fun H locs hc => ?_)
  refine lv_aload_n hx hb dX1_init_59 rfl (lv_at hl 0 rfl) ?_
  refine lv_iconst (v := nI (0)) hx hb dX1_init_60 (by decide) ?_
  refine r_put (a := (va_up (va_up (va_up (va_up (va_up a 71 q71) 72 q72) 73 q73) 74 q74) 75 q75)) (i := 70) (C := RX1) (T := TX1) (N := 10) (R' := sfi (sfi (sfi (sfi (sfr (clr (sfr (clr (sfr (clr (sfr (clr (sfr (clr (clr R 70) 71) 70 0 (some (q71))) 72) 70 1 (some (q72))) 73) 70 2 (some (q73))) 74) 70 3 (some (q74))) 75) 70 4 (some (q75))) 70 5 (nI (0))) 70 6 (nI (0))) 70 7 (nI (0))) 70 8 (nI (0))) hx hb hts hown hK.1 hc (h0) (rfl) rfl rfl hinX1 tyX1 tyX1_ok nmX1 8 (by decide) hf_38 (fun _ h9 => h9) rfl (tyX1_ok 8 (by decide)) rfl rfl dX1_init_61 (fds_sfi (by decide) (by decide)) (fun _ h9 => ct_sfi h9) (fun H locs hc => ?_)
  refine lv_aload_n hx hb dX1_init_64 rfl (lv_at hl 0 rfl) ?_
  refine lv_iconst (v := (-1)) hx hb dX1_init_65 (by decide) ?_
  refine r_put (a := (va_up (va_up (va_up (va_up (va_up a 71 q71) 72 q72) 73 q73) 74 q74) 75 q75)) (i := 70) (C := RX1) (T := TX1) (N := 10) (R' := sfi (sfi (sfi (sfi (sfi (sfr (clr (sfr (clr (sfr (clr (sfr (clr (sfr (clr (clr R 70) 71) 70 0 (some (q71))) 72) 70 1 (some (q72))) 73) 70 2 (some (q73))) 74) 70 3 (some (q74))) 75) 70 4 (some (q75))) 70 5 (nI (0))) 70 6 (nI (0))) 70 7 (nI (0))) 70 8 (nI (0))) 70 9 ((-1))) hx hb hts hown hK.1 hc (h0) (rfl) rfl rfl hinX1 tyX1 tyX1_ok nmX1 9 (by decide) hf_41 (fun _ h9 => h9) rfl (tyX1_ok 9 (by decide)) rfl rfl dX1_init_66 (fds_sfi (by decide) (by decide)) (fun _ h9 => ct_sfi h9) (fun H locs hc => ?_)
  exact r_vretA (post := fun lv' a' R' => ∃ (q71 : Nat) (q72 : Nat) (q73 : Nat) (q74 : Nat) (q75 : Nat), lv' = va_up (va_up (va_up (va_up (va_up lv 71 true) 72 true) 73 true) 74 true) 75 true ∧ a' = va_up (va_up (va_up (va_up (va_up a 71 q71) 72 q72) 73 q73) 74 q74) 75 q75 ∧ R' = sfi (sfi (sfi (sfi (sfi (sfr (clr (sfr (clr (sfr (clr (sfr (clr (sfr (clr (clr R 70) 71) 70 0 (some (q71))) 72) 70 1 (some (q72))) 73) 70 2 (some (q73))) 74) 70 3 (some (q74))) 75) 70 4 (some (q75))) 70 5 (nI (0))) 70 6 (nI (0))) 70 7 (nI (0))) 70 8 (nI (0))) 70 9 ((-1))) hx hb hr hlocks hc dX1_init_69 ⟨q71, q72, q73, q74, q75, rfl, rfl, rfl⟩
set_option maxRecDepth 100000 in
set_option maxHeartbeats 4000000 in
theorem c_X1_init_6 (l : Launch) (D : va_G) (g : Nat → ClassId) (lv : Nat → Bool) (a : Nat → Nat) (R : RS) (h0 : lv 76 = true) (hfr : ∀ i, i = 77 ∨ i = 78 ∨ i = 79 ∨ i = 80 ∨ i = 81 → lv i = false)  : aV l D g lv a yX1_init wsX1_init ({ frames := 1, cells := 5, slots := 50, locals := 60 } : Room) [.ref (a 76)] (clr R 76) (fun lv' a' R' => ∃ (q77 : Nat) (q78 : Nat) (q79 : Nat) (q80 : Nat) (q81 : Nat), lv' = va_up (va_up (va_up (va_up (va_up lv 77 true) 78 true) 79 true) 80 true) 81 true ∧ a' = va_up (va_up (va_up (va_up (va_up a 77 q77) 78 q78) 79 q79) 80 q80) 81 q81 ∧ R' = sfi (sfi (sfi (sfi (sfi (sfr (clr (sfr (clr (sfr (clr (sfr (clr (sfr (clr (clr R 76) 77) 76 0 (some (q77))) 78) 76 1 (some (q78))) 79) 76 2 (some (q79))) 80) 76 3 (some (q80))) 81) 76 4 (some (q81))) 76 5 (nI (0))) 76 6 (nI (0))) 76 7 (nI (0))) 76 8 (nI (0))) 76 9 ((-1))) 5 50 := by
  refine c_body (cc := cX1_init) (maxL := 1) (ret := none) (by decide) rfl (Nat.le_of_ble_eq_true rfl) ?_
  intro pr en st mi bl me co ls B hl
  obtain ⟨hx, hb, hr, hml, hown, hts, hlocks, hnm, hK, hZ, hc, hA⟩ := B
  have hl : lv_has ls 1 [(0, .ref (a 76))] := hl
  have hinX1 : ∀ w ∈ u_ws RX1 TX1 10, w ∈ wsX1_init := (fun _ h => List.mem_cons_of_mem _ (List.mem_append_right _ h))
  have hf_9 := hts (.fieldLink RX1 9 "PalletLayers$Pallet" "kindOf" "[I") (by decide +kernel)
  have hf_15 := hts (.fieldLink RX1 15 "PalletLayers$Pallet" "boxesOf" "[I") (by decide +kernel)
  have hf_18 := hts (.fieldLink RX1 18 "PalletLayers$Pallet" "bottomOf" "[I") (by decide +kernel)
  have hf_21 := hts (.fieldLink RX1 21 "PalletLayers$Pallet" "weightOf" "[I") (by decide +kernel)
  have hf_24 := hts (.fieldLink RX1 24 "PalletLayers$Pallet" "coveredOf" "[J") (by decide +kernel)
  have hf_28 := hts (.fieldLink RX1 28 "PalletLayers$Pallet" "layers" "I") (by decide +kernel)
  have hf_32 := hts (.fieldLink RX1 32 "PalletLayers$Pallet" "height" "I") (by decide +kernel)
  have hf_35 := hts (.fieldLink RX1 35 "PalletLayers$Pallet" "weight" "I") (by decide +kernel)
  have hf_38 := hts (.fieldLink RX1 38 "PalletLayers$Pallet" "boxes" "I") (by decide +kernel)
  have hf_41 := hts (.fieldLink RX1 41 "PalletLayers$Pallet" "stop" "I") (by decide +kernel)
  refine lv_aload_n hx hb dX1_init_0 rfl (lv_at hl 0 rfl) ?_
  refine W.objInit hx hb hown (hts (.methodLink RX1 3 objectInit) (by decide +kernel)) (hts (.instanceMethod objectInit) (by decide +kernel)) (hts (.code objectInit ⟨#[0xb1]⟩ 1 none) (by decide +kernel)) rfl (hl.1.trans hml.symm) rfl dX1_init_1 (Nat.le_of_ble_eq_true rfl) (Nat.le_of_ble_eq_true rfl) ?_
  show W _ _ _ _ _ _ _ _ _ _ _ _ _ _ _ (F0 mi 4 ls [])
  refine lv_aload_n hx hb dX1_init_4 rfl (lv_at hl 0 rfl) ?_
  refine lv_bipush (v := nI (10)) hx hb dX1_init_5 (by decide) ?_
  refine r_newa (N := 10) (t0 := 0) (ty := .int) (cA := g 0) (n := nI (10)) (x := 1) (atype := .int) (R := clr R 76) hx hb (hts (.arrayClass .int) (by decide +kernel)) rfl hK.1 hc hA 77 (hfr 77 (by decide)) rfl rfl (fun h9 => h9) (nct_i rfl) (by decide) (by decide) (by decide) (Nat.le_of_ble_eq_true rfl) (Nat.le_of_ble_eq_true rfl) dX1_init_7 (fun q77 H _ hc => ?_)
  refine r_putF (a := (va_up a 77 q77)) (i := 76) (C := RX1) (T := TX1) (N := 10) (R' := sfr (clr (clr R 76) 77) 76 0 (some (q77))) hx hb hts hown hK.1 hc (h0) (rfl) rfl rfl hinX1 tyX1 tyX1_ok nmX1 0 (by decide) hf_9 (fun _ h9 => h9) rfl hnm rfl (tyX1_ok 0 (by decide)) rfl rfl dX1_init_9 (fds_sfr (by decide) (by decide)) (fun _ h9 => ct_sfr h9) (fun H locs hc => ?_)
  refine lv_aload_n hx hb dX1_init_12 rfl (lv_at hl 0 rfl) ?_
  refine lv_bipush (v := nI (10)) hx hb dX1_init_13 (by decide) ?_
  refine r_newa (N := 10) (t0 := 0) (ty := .int) (cA := g 0) (n := nI (10)) (x := 1) (atype := .int) (R := sfr (clr (clr R 76) 77) 76 0 (some (q77))) hx hb (hts (.arrayClass .int) (by decide +kernel)) rfl hK.1 hc hA 78 (hfr 78 (by decide)) rfl rfl (fun h9 => h9) (nct_i rfl) (by decide) (by decide) (by decide) (Nat.le_of_ble_eq_true rfl) (Nat.le_of_ble_eq_true rfl) dX1_init_15 (fun q78 H _ hc => ?_)
  refine r_putF (a := (va_up (va_up a 77 q77) 78 q78)) (i := 76) (C := RX1) (T := TX1) (N := 10) (R' := sfr (clr (sfr (clr (clr R 76) 77) 76 0 (some (q77))) 78) 76 1 (some (q78))) hx hb hts hown hK.1 hc (h0) (rfl) rfl rfl hinX1 tyX1 tyX1_ok nmX1 1 (by decide) hf_15 (fun _ h9 => h9) rfl hnm rfl (tyX1_ok 1 (by decide)) rfl rfl dX1_init_17 (fds_sfr (by decide) (by decide)) (fun _ h9 => ct_sfr h9) (fun H locs hc => ?_)
  refine lv_aload_n hx hb dX1_init_20 rfl (lv_at hl 0 rfl) ?_
  refine lv_bipush (v := nI (10)) hx hb dX1_init_21 (by decide) ?_
  refine r_newa (N := 10) (t0 := 0) (ty := .int) (cA := g 0) (n := nI (10)) (x := 1) (atype := .int) (R := sfr (clr (sfr (clr (clr R 76) 77) 76 0 (some (q77))) 78) 76 1 (some (q78))) hx hb (hts (.arrayClass .int) (by decide +kernel)) rfl hK.1 hc hA 79 (hfr 79 (by decide)) rfl rfl (fun h9 => h9) (nct_i rfl) (by decide) (by decide) (by decide) (Nat.le_of_ble_eq_true rfl) (Nat.le_of_ble_eq_true rfl) dX1_init_23 (fun q79 H _ hc => ?_)
  refine r_putF (a := (va_up (va_up (va_up a 77 q77) 78 q78) 79 q79)) (i := 76) (C := RX1) (T := TX1) (N := 10) (R' := sfr (clr (sfr (clr (sfr (clr (clr R 76) 77) 76 0 (some (q77))) 78) 76 1 (some (q78))) 79) 76 2 (some (q79))) hx hb hts hown hK.1 hc (h0) (rfl) rfl rfl hinX1 tyX1 tyX1_ok nmX1 2 (by decide) hf_18 (fun _ h9 => h9) rfl hnm rfl (tyX1_ok 2 (by decide)) rfl rfl dX1_init_25 (fds_sfr (by decide) (by decide)) (fun _ h9 => ct_sfr h9) (fun H locs hc => ?_)
  refine lv_aload_n hx hb dX1_init_28 rfl (lv_at hl 0 rfl) ?_
  refine lv_bipush (v := nI (10)) hx hb dX1_init_29 (by decide) ?_
  refine r_newa (N := 10) (t0 := 0) (ty := .int) (cA := g 0) (n := nI (10)) (x := 1) (atype := .int) (R := sfr (clr (sfr (clr (sfr (clr (clr R 76) 77) 76 0 (some (q77))) 78) 76 1 (some (q78))) 79) 76 2 (some (q79))) hx hb (hts (.arrayClass .int) (by decide +kernel)) rfl hK.1 hc hA 80 (hfr 80 (by decide)) rfl rfl (fun h9 => h9) (nct_i rfl) (by decide) (by decide) (by decide) (Nat.le_of_ble_eq_true rfl) (Nat.le_of_ble_eq_true rfl) dX1_init_31 (fun q80 H _ hc => ?_)
  refine r_putF (a := (va_up (va_up (va_up (va_up a 77 q77) 78 q78) 79 q79) 80 q80)) (i := 76) (C := RX1) (T := TX1) (N := 10) (R' := sfr (clr (sfr (clr (sfr (clr (sfr (clr (clr R 76) 77) 76 0 (some (q77))) 78) 76 1 (some (q78))) 79) 76 2 (some (q79))) 80) 76 3 (some (q80))) hx hb hts hown hK.1 hc (h0) (rfl) rfl rfl hinX1 tyX1 tyX1_ok nmX1 3 (by decide) hf_21 (fun _ h9 => h9) rfl hnm rfl (tyX1_ok 3 (by decide)) rfl rfl dX1_init_33 (fds_sfr (by decide) (by decide)) (fun _ h9 => ct_sfr h9) (fun H locs hc => ?_)
  refine lv_aload_n hx hb dX1_init_36 rfl (lv_at hl 0 rfl) ?_
  refine lv_bipush (v := nI (10)) hx hb dX1_init_37 (by decide) ?_
  refine r_newa (N := 10) (t0 := 1) (ty := .long) (cA := g 1) (n := nI (10)) (x := 2) (atype := .long) (R := sfr (clr (sfr (clr (sfr (clr (sfr (clr (clr R 76) 77) 76 0 (some (q77))) 78) 76 1 (some (q78))) 79) 76 2 (some (q79))) 80) 76 3 (some (q80))) hx hb (hts (.arrayClass .long) (by decide +kernel)) rfl hK.1 hc hA 81 (hfr 81 (by decide)) rfl rfl (fun h9 => h9) (nct_l rfl) (by decide) (by decide) (by decide) (Nat.le_of_ble_eq_true rfl) (Nat.le_of_ble_eq_true rfl) dX1_init_39 (fun q81 H _ hc => ?_)
  refine r_putF (a := (va_up (va_up (va_up (va_up (va_up a 77 q77) 78 q78) 79 q79) 80 q80) 81 q81)) (i := 76) (C := RX1) (T := TX1) (N := 10) (R' := sfr (clr (sfr (clr (sfr (clr (sfr (clr (sfr (clr (clr R 76) 77) 76 0 (some (q77))) 78) 76 1 (some (q78))) 79) 76 2 (some (q79))) 80) 76 3 (some (q80))) 81) 76 4 (some (q81))) hx hb hts hown hK.1 hc (h0) (rfl) rfl rfl hinX1 tyX1 tyX1_ok nmX1 4 (by decide) hf_24 (fun _ h9 => h9) rfl hnm rfl (tyX1_ok 4 (by decide)) rfl rfl dX1_init_41 (fds_sfr (by decide) (by decide)) (fun _ h9 => ct_sfr h9) (fun H locs hc => ?_)
  refine lv_aload_n hx hb dX1_init_44 rfl (lv_at hl 0 rfl) ?_
  refine lv_iconst (v := nI (0)) hx hb dX1_init_45 (by decide) ?_
  refine r_put (a := (va_up (va_up (va_up (va_up (va_up a 77 q77) 78 q78) 79 q79) 80 q80) 81 q81)) (i := 76) (C := RX1) (T := TX1) (N := 10) (R' := sfi (sfr (clr (sfr (clr (sfr (clr (sfr (clr (sfr (clr (clr R 76) 77) 76 0 (some (q77))) 78) 76 1 (some (q78))) 79) 76 2 (some (q79))) 80) 76 3 (some (q80))) 81) 76 4 (some (q81))) 76 5 (nI (0))) hx hb hts hown hK.1 hc (h0) (rfl) rfl rfl hinX1 tyX1 tyX1_ok nmX1 5 (by decide) hf_28 (fun _ h9 => h9) rfl (tyX1_ok 5 (by decide)) rfl rfl dX1_init_46 (fds_sfi (by decide) (by decide)) (fun _ h9 => ct_sfi h9) (fun H locs hc => ?_)
  refine lv_aload_n hx hb dX1_init_49 rfl (lv_at hl 0 rfl) ?_
  refine lv_iconst (v := nI (0)) hx hb dX1_init_50 (by decide) ?_
  refine r_put (a := (va_up (va_up (va_up (va_up (va_up a 77 q77) 78 q78) 79 q79) 80 q80) 81 q81)) (i := 76) (C := RX1) (T := TX1) (N := 10) (R' := sfi (sfi (sfr (clr (sfr (clr (sfr (clr (sfr (clr (sfr (clr (clr R 76) 77) 76 0 (some (q77))) 78) 76 1 (some (q78))) 79) 76 2 (some (q79))) 80) 76 3 (some (q80))) 81) 76 4 (some (q81))) 76 5 (nI (0))) 76 6 (nI (0))) hx hb hts hown hK.1 hc (h0) (rfl) rfl rfl hinX1 tyX1 tyX1_ok nmX1 6 (by decide) hf_32 (fun _ h9 => h9) rfl (tyX1_ok 6 (by decide)) rfl rfl dX1_init_51 (fds_sfi (by decide) (by decide)) (fun _ h9 => ct_sfi h9) (fun H locs hc => ?_)
  refine lv_aload_n hx hb dX1_init_54 rfl (lv_at hl 0 rfl) ?_
  refine lv_iconst (v := nI (0)) hx hb dX1_init_55 (by decide) ?_
  refine r_put (a := (va_up (va_up (va_up (va_up (va_up a 77 q77) 78 q78) 79 q79) 80 q80) 81 q81)) (i := 76) (C := RX1) (T := TX1) (N := 10) (R' := sfi (sfi (sfi (sfr (clr (sfr (clr (sfr (clr (sfr (clr (sfr (clr (clr R 76) 77) 76 0 (some (q77))) 78) 76 1 (some (q78))) 79) 76 2 (some (q79))) 80) 76 3 (some (q80))) 81) 76 4 (some (q81))) 76 5 (nI (0))) 76 6 (nI (0))) 76 7 (nI (0))) hx hb hts hown hK.1 hc (h0) (rfl) rfl rfl hinX1 tyX1 tyX1_ok nmX1 7 (by decide) hf_35 (fun _ h9 => h9) rfl (tyX1_ok 7 (by decide)) rfl rfl dX1_init_56 (fds_sfi (by decide) (by decide)) (fun _ h9 => ct_sfi h9) (fun H locs hc => ?_)
  refine lv_aload_n hx hb dX1_init_59 rfl (lv_at hl 0 rfl) ?_
  refine lv_iconst (v := nI (0)) hx hb dX1_init_60 (by decide) ?_
  refine r_put (a := (va_up (va_up (va_up (va_up (va_up a 77 q77) 78 q78) 79 q79) 80 q80) 81 q81)) (i := 76) (C := RX1) (T := TX1) (N := 10) (R' := sfi (sfi (sfi (sfi (sfr (clr (sfr (clr (sfr (clr (sfr (clr (sfr (clr (clr R 76) 77) 76 0 (some (q77))) 78) 76 1 (some (q78))) 79) 76 2 (some (q79))) 80) 76 3 (some (q80))) 81) 76 4 (some (q81))) 76 5 (nI (0))) 76 6 (nI (0))) 76 7 (nI (0))) 76 8 (nI (0))) hx hb hts hown hK.1 hc (h0) (rfl) rfl rfl hinX1 tyX1 tyX1_ok nmX1 8 (by decide) hf_38 (fun _ h9 => h9) rfl (tyX1_ok 8 (by decide)) rfl rfl dX1_init_61 (fds_sfi (by decide) (by decide)) (fun _ h9 => ct_sfi h9) (fun H locs hc => ?_)
  refine lv_aload_n hx hb dX1_init_64 rfl (lv_at hl 0 rfl) ?_
  refine lv_iconst (v := (-1)) hx hb dX1_init_65 (by decide) ?_
  refine r_put (a := (va_up (va_up (va_up (va_up (va_up a 77 q77) 78 q78) 79 q79) 80 q80) 81 q81)) (i := 76) (C := RX1) (T := TX1) (N := 10) (R' := sfi (sfi (sfi (sfi (sfi (sfr (clr (sfr (clr (sfr (clr (sfr (clr (sfr (clr (clr R 76) 77) 76 0 (some (q77))) 78) 76 1 (some (q78))) 79) 76 2 (some (q79))) 80) 76 3 (some (q80))) 81) 76 4 (some (q81))) 76 5 (nI (0))) 76 6 (nI (0))) 76 7 (nI (0))) 76 8 (nI (0))) 76 9 ((-1))) hx hb hts hown hK.1 hc (h0) (rfl) rfl rfl hinX1 tyX1 tyX1_ok nmX1 9 (by decide) hf_41 (fun _ h9 => h9) rfl (tyX1_ok 9 (by decide)) rfl rfl dX1_init_66 (fds_sfi (by decide) (by decide)) (fun _ h9 => ct_sfi h9) (fun H locs hc => ?_)
  exact r_vretA (post := fun lv' a' R' => ∃ (q77 : Nat) (q78 : Nat) (q79 : Nat) (q80 : Nat) (q81 : Nat), lv' = va_up (va_up (va_up (va_up (va_up lv 77 true) 78 true) 79 true) 80 true) 81 true ∧ a' = va_up (va_up (va_up (va_up (va_up a 77 q77) 78 q78) 79 q79) 80 q80) 81 q81 ∧ R' = sfi (sfi (sfi (sfi (sfi (sfr (clr (sfr (clr (sfr (clr (sfr (clr (sfr (clr (clr R 76) 77) 76 0 (some (q77))) 78) 76 1 (some (q78))) 79) 76 2 (some (q79))) 80) 76 3 (some (q80))) 81) 76 4 (some (q81))) 76 5 (nI (0))) 76 6 (nI (0))) 76 7 (nI (0))) 76 8 (nI (0))) 76 9 ((-1))) hx hb hr hlocks hc dX1_init_69 ⟨q77, q78, q79, q80, q81, rfl, rfl, rfl⟩
set_option maxRecDepth 100000 in
set_option maxHeartbeats 4000000 in
theorem c_X1_init_7 (l : Launch) (D : va_G) (g : Nat → ClassId) (lv : Nat → Bool) (a : Nat → Nat) (R : RS) (h0 : lv 82 = true) (hfr : ∀ i, i = 83 ∨ i = 84 ∨ i = 85 ∨ i = 86 ∨ i = 87 → lv i = false)  : aV l D g lv a yX1_init wsX1_init ({ frames := 1, cells := 5, slots := 50, locals := 60 } : Room) [.ref (a 82)] (clr R 82) (fun lv' a' R' => ∃ (q83 : Nat) (q84 : Nat) (q85 : Nat) (q86 : Nat) (q87 : Nat), lv' = va_up (va_up (va_up (va_up (va_up lv 83 true) 84 true) 85 true) 86 true) 87 true ∧ a' = va_up (va_up (va_up (va_up (va_up a 83 q83) 84 q84) 85 q85) 86 q86) 87 q87 ∧ R' = sfi (sfi (sfi (sfi (sfi (sfr (clr (sfr (clr (sfr (clr (sfr (clr (sfr (clr (clr R 82) 83) 82 0 (some (q83))) 84) 82 1 (some (q84))) 85) 82 2 (some (q85))) 86) 82 3 (some (q86))) 87) 82 4 (some (q87))) 82 5 (nI (0))) 82 6 (nI (0))) 82 7 (nI (0))) 82 8 (nI (0))) 82 9 ((-1))) 5 50 := by
  refine c_body (cc := cX1_init) (maxL := 1) (ret := none) (by decide) rfl (Nat.le_of_ble_eq_true rfl) ?_
  intro pr en st mi bl me co ls B hl
  obtain ⟨hx, hb, hr, hml, hown, hts, hlocks, hnm, hK, hZ, hc, hA⟩ := B
  have hl : lv_has ls 1 [(0, .ref (a 82))] := hl
  have hinX1 : ∀ w ∈ u_ws RX1 TX1 10, w ∈ wsX1_init := (fun _ h => List.mem_cons_of_mem _ (List.mem_append_right _ h))
  have hf_9 := hts (.fieldLink RX1 9 "PalletLayers$Pallet" "kindOf" "[I") (by decide +kernel)
  have hf_15 := hts (.fieldLink RX1 15 "PalletLayers$Pallet" "boxesOf" "[I") (by decide +kernel)
  have hf_18 := hts (.fieldLink RX1 18 "PalletLayers$Pallet" "bottomOf" "[I") (by decide +kernel)
  have hf_21 := hts (.fieldLink RX1 21 "PalletLayers$Pallet" "weightOf" "[I") (by decide +kernel)
  have hf_24 := hts (.fieldLink RX1 24 "PalletLayers$Pallet" "coveredOf" "[J") (by decide +kernel)
  have hf_28 := hts (.fieldLink RX1 28 "PalletLayers$Pallet" "layers" "I") (by decide +kernel)
  have hf_32 := hts (.fieldLink RX1 32 "PalletLayers$Pallet" "height" "I") (by decide +kernel)
  have hf_35 := hts (.fieldLink RX1 35 "PalletLayers$Pallet" "weight" "I") (by decide +kernel)
  have hf_38 := hts (.fieldLink RX1 38 "PalletLayers$Pallet" "boxes" "I") (by decide +kernel)
  have hf_41 := hts (.fieldLink RX1 41 "PalletLayers$Pallet" "stop" "I") (by decide +kernel)
  refine lv_aload_n hx hb dX1_init_0 rfl (lv_at hl 0 rfl) ?_
  refine W.objInit hx hb hown (hts (.methodLink RX1 3 objectInit) (by decide +kernel)) (hts (.instanceMethod objectInit) (by decide +kernel)) (hts (.code objectInit ⟨#[0xb1]⟩ 1 none) (by decide +kernel)) rfl (hl.1.trans hml.symm) rfl dX1_init_1 (Nat.le_of_ble_eq_true rfl) (Nat.le_of_ble_eq_true rfl) ?_
  show W _ _ _ _ _ _ _ _ _ _ _ _ _ _ _ (F0 mi 4 ls [])
  refine lv_aload_n hx hb dX1_init_4 rfl (lv_at hl 0 rfl) ?_
  refine lv_bipush (v := nI (10)) hx hb dX1_init_5 (by decide) ?_
  refine r_newa (N := 10) (t0 := 0) (ty := .int) (cA := g 0) (n := nI (10)) (x := 1) (atype := .int) (R := clr R 82) hx hb (hts (.arrayClass .int) (by decide +kernel)) rfl hK.1 hc hA 83 (hfr 83 (by decide)) rfl rfl (fun h9 => h9) (nct_i rfl) (by decide) (by decide) (by decide) (Nat.le_of_ble_eq_true rfl) (Nat.le_of_ble_eq_true rfl) dX1_init_7 (fun q83 H _ hc => ?_)
  refine r_putF (a := (va_up a 83 q83)) (i := 82) (C := RX1) (T := TX1) (N := 10) (R' := sfr (clr (clr R 82) 83) 82 0 (some (q83))) hx hb hts hown hK.1 hc (h0) (rfl) rfl rfl hinX1 tyX1 tyX1_ok nmX1 0 (by decide) hf_9 (fun _ h9 => h9) rfl hnm rfl (tyX1_ok 0 (by decide)) rfl rfl dX1_init_9 (fds_sfr (by decide) (by decide)) (fun _ h9 => ct_sfr h9) (fun H locs hc => ?_)
  refine lv_aload_n hx hb dX1_init_12 rfl (lv_at hl 0 rfl) ?_
  refine lv_bipush (v := nI (10)) hx hb dX1_init_13 (by decide) ?_
  refine r_newa (N := 10) (t0 := 0) (ty := .int) (cA := g 0) (n := nI (10)) (x := 1) (atype := .int) (R := sfr (clr (clr R 82) 83) 82 0 (some (q83))) hx hb (hts (.arrayClass .int) (by decide +kernel)) rfl hK.1 hc hA 84 (hfr 84 (by decide)) rfl rfl (fun h9 => h9) (nct_i rfl) (by decide) (by decide) (by decide) (Nat.le_of_ble_eq_true rfl) (Nat.le_of_ble_eq_true rfl) dX1_init_15 (fun q84 H _ hc => ?_)
  refine r_putF (a := (va_up (va_up a 83 q83) 84 q84)) (i := 82) (C := RX1) (T := TX1) (N := 10) (R' := sfr (clr (sfr (clr (clr R 82) 83) 82 0 (some (q83))) 84) 82 1 (some (q84))) hx hb hts hown hK.1 hc (h0) (rfl) rfl rfl hinX1 tyX1 tyX1_ok nmX1 1 (by decide) hf_15 (fun _ h9 => h9) rfl hnm rfl (tyX1_ok 1 (by decide)) rfl rfl dX1_init_17 (fds_sfr (by decide) (by decide)) (fun _ h9 => ct_sfr h9) (fun H locs hc => ?_)
  refine lv_aload_n hx hb dX1_init_20 rfl (lv_at hl 0 rfl) ?_
  refine lv_bipush (v := nI (10)) hx hb dX1_init_21 (by decide) ?_
  refine r_newa (N := 10) (t0 := 0) (ty := .int) (cA := g 0) (n := nI (10)) (x := 1) (atype := .int) (R := sfr (clr (sfr (clr (clr R 82) 83) 82 0 (some (q83))) 84) 82 1 (some (q84))) hx hb (hts (.arrayClass .int) (by decide +kernel)) rfl hK.1 hc hA 85 (hfr 85 (by decide)) rfl rfl (fun h9 => h9) (nct_i rfl) (by decide) (by decide) (by decide) (Nat.le_of_ble_eq_true rfl) (Nat.le_of_ble_eq_true rfl) dX1_init_23 (fun q85 H _ hc => ?_)
  refine r_putF (a := (va_up (va_up (va_up a 83 q83) 84 q84) 85 q85)) (i := 82) (C := RX1) (T := TX1) (N := 10) (R' := sfr (clr (sfr (clr (sfr (clr (clr R 82) 83) 82 0 (some (q83))) 84) 82 1 (some (q84))) 85) 82 2 (some (q85))) hx hb hts hown hK.1 hc (h0) (rfl) rfl rfl hinX1 tyX1 tyX1_ok nmX1 2 (by decide) hf_18 (fun _ h9 => h9) rfl hnm rfl (tyX1_ok 2 (by decide)) rfl rfl dX1_init_25 (fds_sfr (by decide) (by decide)) (fun _ h9 => ct_sfr h9) (fun H locs hc => ?_)
  refine lv_aload_n hx hb dX1_init_28 rfl (lv_at hl 0 rfl) ?_
  refine lv_bipush (v := nI (10)) hx hb dX1_init_29 (by decide) ?_
  refine r_newa (N := 10) (t0 := 0) (ty := .int) (cA := g 0) (n := nI (10)) (x := 1) (atype := .int) (R := sfr (clr (sfr (clr (sfr (clr (clr R 82) 83) 82 0 (some (q83))) 84) 82 1 (some (q84))) 85) 82 2 (some (q85))) hx hb (hts (.arrayClass .int) (by decide +kernel)) rfl hK.1 hc hA 86 (hfr 86 (by decide)) rfl rfl (fun h9 => h9) (nct_i rfl) (by decide) (by decide) (by decide) (Nat.le_of_ble_eq_true rfl) (Nat.le_of_ble_eq_true rfl) dX1_init_31 (fun q86 H _ hc => ?_)
  refine r_putF (a := (va_up (va_up (va_up (va_up a 83 q83) 84 q84) 85 q85) 86 q86)) (i := 82) (C := RX1) (T := TX1) (N := 10) (R' := sfr (clr (sfr (clr (sfr (clr (sfr (clr (clr R 82) 83) 82 0 (some (q83))) 84) 82 1 (some (q84))) 85) 82 2 (some (q85))) 86) 82 3 (some (q86))) hx hb hts hown hK.1 hc (h0) (rfl) rfl rfl hinX1 tyX1 tyX1_ok nmX1 3 (by decide) hf_21 (fun _ h9 => h9) rfl hnm rfl (tyX1_ok 3 (by decide)) rfl rfl dX1_init_33 (fds_sfr (by decide) (by decide)) (fun _ h9 => ct_sfr h9) (fun H locs hc => ?_)
  refine lv_aload_n hx hb dX1_init_36 rfl (lv_at hl 0 rfl) ?_
  refine lv_bipush (v := nI (10)) hx hb dX1_init_37 (by decide) ?_
  refine r_newa (N := 10) (t0 := 1) (ty := .long) (cA := g 1) (n := nI (10)) (x := 2) (atype := .long) (R := sfr (clr (sfr (clr (sfr (clr (sfr (clr (clr R 82) 83) 82 0 (some (q83))) 84) 82 1 (some (q84))) 85) 82 2 (some (q85))) 86) 82 3 (some (q86))) hx hb (hts (.arrayClass .long) (by decide +kernel)) rfl hK.1 hc hA 87 (hfr 87 (by decide)) rfl rfl (fun h9 => h9) (nct_l rfl) (by decide) (by decide) (by decide) (Nat.le_of_ble_eq_true rfl) (Nat.le_of_ble_eq_true rfl) dX1_init_39 (fun q87 H _ hc => ?_)
  refine r_putF (a := (va_up (va_up (va_up (va_up (va_up a 83 q83) 84 q84) 85 q85) 86 q86) 87 q87)) (i := 82) (C := RX1) (T := TX1) (N := 10) (R' := sfr (clr (sfr (clr (sfr (clr (sfr (clr (sfr (clr (clr R 82) 83) 82 0 (some (q83))) 84) 82 1 (some (q84))) 85) 82 2 (some (q85))) 86) 82 3 (some (q86))) 87) 82 4 (some (q87))) hx hb hts hown hK.1 hc (h0) (rfl) rfl rfl hinX1 tyX1 tyX1_ok nmX1 4 (by decide) hf_24 (fun _ h9 => h9) rfl hnm rfl (tyX1_ok 4 (by decide)) rfl rfl dX1_init_41 (fds_sfr (by decide) (by decide)) (fun _ h9 => ct_sfr h9) (fun H locs hc => ?_)
  refine lv_aload_n hx hb dX1_init_44 rfl (lv_at hl 0 rfl) ?_
  refine lv_iconst (v := nI (0)) hx hb dX1_init_45 (by decide) ?_
  refine r_put (a := (va_up (va_up (va_up (va_up (va_up a 83 q83) 84 q84) 85 q85) 86 q86) 87 q87)) (i := 82) (C := RX1) (T := TX1) (N := 10) (R' := sfi (sfr (clr (sfr (clr (sfr (clr (sfr (clr (sfr (clr (clr R 82) 83) 82 0 (some (q83))) 84) 82 1 (some (q84))) 85) 82 2 (some (q85))) 86) 82 3 (some (q86))) 87) 82 4 (some (q87))) 82 5 (nI (0))) hx hb hts hown hK.1 hc (h0) (rfl) rfl rfl hinX1 tyX1 tyX1_ok nmX1 5 (by decide) hf_28 (fun _ h9 => h9) rfl (tyX1_ok 5 (by decide)) rfl rfl dX1_init_46 (fds_sfi (by decide) (by decide)) (fun _ h9 => ct_sfi h9) (fun H locs hc => ?_)
  refine lv_aload_n hx hb dX1_init_49 rfl (lv_at hl 0 rfl) ?_
  refine lv_iconst (v := nI (0)) hx hb dX1_init_50 (by decide) ?_
  refine r_put (a := (va_up (va_up (va_up (va_up (va_up a 83 q83) 84 q84) 85 q85) 86 q86) 87 q87)) (i := 82) (C := RX1) (T := TX1) (N := 10) (R' := sfi (sfi (sfr (clr (sfr (clr (sfr (clr (sfr (clr (sfr (clr (clr R 82) 83) 82 0 (some (q83))) 84) 82 1 (some (q84))) 85) 82 2 (some (q85))) 86) 82 3 (some (q86))) 87) 82 4 (some (q87))) 82 5 (nI (0))) 82 6 (nI (0))) hx hb hts hown hK.1 hc (h0) (rfl) rfl rfl hinX1 tyX1 tyX1_ok nmX1 6 (by decide) hf_32 (fun _ h9 => h9) rfl (tyX1_ok 6 (by decide)) rfl rfl dX1_init_51 (fds_sfi (by decide) (by decide)) (fun _ h9 => ct_sfi h9) (fun H locs hc => ?_)
  refine lv_aload_n hx hb dX1_init_54 rfl (lv_at hl 0 rfl) ?_
  refine lv_iconst (v := nI (0)) hx hb dX1_init_55 (by decide) ?_
  refine r_put (a := (va_up (va_up (va_up (va_up (va_up a 83 q83) 84 q84) 85 q85) 86 q86) 87 q87)) (i := 82) (C := RX1) (T := TX1) (N := 10) (R' := sfi (sfi (sfi (sfr (clr (sfr (clr (sfr (clr (sfr (clr (sfr (clr (clr R 82) 83) 82 0 (some (q83))) 84) 82 1 (some (q84))) 85) 82 2 (some (q85))) 86) 82 3 (some (q86))) 87) 82 4 (some (q87))) 82 5 (nI (0))) 82 6 (nI (0))) 82 7 (nI (0))) hx hb hts hown hK.1 hc (h0) (rfl) rfl rfl hinX1 tyX1 tyX1_ok nmX1 7 (by decide) hf_35 (fun _ h9 => h9) rfl (tyX1_ok 7 (by decide)) rfl rfl dX1_init_56 (fds_sfi (by decide) (by decide)) (fun _ h9 => ct_sfi h9) (fun H locs hc => ?_)
  refine lv_aload_n hx hb dX1_init_59 rfl (lv_at hl 0 rfl) ?_
  refine lv_iconst (v := nI (0)) hx hb dX1_init_60 (by decide) ?_
  refine r_put (a := (va_up (va_up (va_up (va_up (va_up a 83 q83) 84 q84) 85 q85) 86 q86) 87 q87)) (i := 82) (C := RX1) (T := TX1) (N := 10) (R' := sfi (sfi (sfi (sfi (sfr (clr (sfr (clr (sfr (clr (sfr (clr (sfr (clr (clr R 82) 83) 82 0 (some (q83))) 84) 82 1 (some (q84))) 85) 82 2 (some (q85))) 86) 82 3 (some (q86))) 87) 82 4 (some (q87))) 82 5 (nI (0))) 82 6 (nI (0))) 82 7 (nI (0))) 82 8 (nI (0))) hx hb hts hown hK.1 hc (h0) (rfl) rfl rfl hinX1 tyX1 tyX1_ok nmX1 8 (by decide) hf_38 (fun _ h9 => h9) rfl (tyX1_ok 8 (by decide)) rfl rfl dX1_init_61 (fds_sfi (by decide) (by decide)) (fun _ h9 => ct_sfi h9) (fun H locs hc => ?_)
  refine lv_aload_n hx hb dX1_init_64 rfl (lv_at hl 0 rfl) ?_
  refine lv_iconst (v := (-1)) hx hb dX1_init_65 (by decide) ?_
  refine r_put (a := (va_up (va_up (va_up (va_up (va_up a 83 q83) 84 q84) 85 q85) 86 q86) 87 q87)) (i := 82) (C := RX1) (T := TX1) (N := 10) (R' := sfi (sfi (sfi (sfi (sfi (sfr (clr (sfr (clr (sfr (clr (sfr (clr (sfr (clr (clr R 82) 83) 82 0 (some (q83))) 84) 82 1 (some (q84))) 85) 82 2 (some (q85))) 86) 82 3 (some (q86))) 87) 82 4 (some (q87))) 82 5 (nI (0))) 82 6 (nI (0))) 82 7 (nI (0))) 82 8 (nI (0))) 82 9 ((-1))) hx hb hts hown hK.1 hc (h0) (rfl) rfl rfl hinX1 tyX1 tyX1_ok nmX1 9 (by decide) hf_41 (fun _ h9 => h9) rfl (tyX1_ok 9 (by decide)) rfl rfl dX1_init_66 (fds_sfi (by decide) (by decide)) (fun _ h9 => ct_sfi h9) (fun H locs hc => ?_)
  exact r_vretA (post := fun lv' a' R' => ∃ (q83 : Nat) (q84 : Nat) (q85 : Nat) (q86 : Nat) (q87 : Nat), lv' = va_up (va_up (va_up (va_up (va_up lv 83 true) 84 true) 85 true) 86 true) 87 true ∧ a' = va_up (va_up (va_up (va_up (va_up a 83 q83) 84 q84) 85 q85) 86 q86) 87 q87 ∧ R' = sfi (sfi (sfi (sfi (sfi (sfr (clr (sfr (clr (sfr (clr (sfr (clr (sfr (clr (clr R 82) 83) 82 0 (some (q83))) 84) 82 1 (some (q84))) 85) 82 2 (some (q85))) 86) 82 3 (some (q86))) 87) 82 4 (some (q87))) 82 5 (nI (0))) 82 6 (nI (0))) 82 7 (nI (0))) 82 8 (nI (0))) 82 9 ((-1))) hx hb hr hlocks hc dX1_init_69 ⟨q83, q84, q85, q86, q87, rfl, rfl, rfl⟩
