set_option maxRecDepth 100000 in
set_option maxHeartbeats 4000000 in
theorem c_X2_seek (l : Launch) (D : va_G) (g : Nat → ClassId) (lv : Nat → Bool) (a : Nat → Nat) (R : RS) (M : MS) (k mx : Nat) (hk : k < 6) (hkm : k < mnk M) (hI : Inv M) (hmx : mx ≤ 5000) (hst : ST lv a R M k) : cV l D g lv a yX2_seek wsX2_seek ({ frames := 79, cells := 0, slots := 0, locals := 2446 } : Room) [.ref (a (1)), .ref (a (10 + 3 * k)), .int (nI (mx))] R (fun R' => FC R R' k ∧ LC R' k mx [] (sk0 M k mx) ∧ fi R' (10 + 3 * k) 10 = nI (if (sk0 M k mx).2.2.1 = true then 0 else 1)) 0 0 := by
  refine c_body (cc := cX2_seek) (maxL := 3) (ret := none) (by decide) rfl (Nat.le_of_ble_eq_true rfl) ?_
  intro pr en st mi bl me co ls B hl
  obtain ⟨hx, hb, hr, hml, hown, hts, hlocks, hnm, hK, hZ, hc, hA⟩ := B
  have hl : lv_has ls 3 [(0, .ref (a (1))), (1, .ref (a (10 + 3 * k))), (2, .int (nI (mx)))] := hl
  have hinX0 : ∀ w ∈ u_ws RX0 TX0 11, w ∈ wsX2_seek := (fun _ h => List.mem_cons_of_mem _ (List.mem_append_left _ (List.mem_append_right _ h)))
  have hinX2 : ∀ w ∈ u_ws RX2 TX2 9, w ∈ wsX2_seek := (fun _ h => List.mem_cons_of_mem _ (List.mem_append_left _ (List.mem_append_left _ (List.mem_append_right _ h))))
  have hf_9 := hts (.fieldLink RX2 9 "PalletLayers$PatternSearch" "corners" "[I") (by decide +kernel)
  have hf_15 := hts (.fieldLink RX2 15 "PalletLayers$PatternSearch" "ways" "[I") (by decide +kernel)
  have hf_18 := hts (.fieldLink RX2 18 "PalletLayers$PatternSearch" "mostSteps" "I") (by decide +kernel)
  have hf_22 := hts (.fieldLink RX2 22 "PalletLayers$PatternSearch" "stepsMade" "I") (by decide +kernel)
  have hf_25 := hts (.fieldLink RX2 25 "PalletLayers$PatternSearch" "best" "I") (by decide +kernel)
  have hf_28 := hts (.fieldLink RX2 28 "PalletLayers$PatternSearch" "lackedSteps" "Z") (by decide +kernel)
  have hf_51 := hts (.fieldLink RX2 51 "PalletLayers$Kind" "soughtExactly" "Z") (by decide +kernel)
  have hce := ce_b (iv_b hI)
  refine lv_aload_n hx hb dX2_seek_0 rfl (lv_at hl 0 rfl) ?_
  refine lv_iload_n hx hb dX2_seek_1 rfl (lv_at hl 2 rfl) ?_
  refine r_put (C := RX2) (T := TX2) (N := 9) (R' := sfi R 1 5 (nI (mx))) hx hb hts hown hK.1 hc (hst.2.1.1) (rfl) rfl rfl hinX2 tyX2 tyX2_ok nmX2 5 (by decide) hf_18 (fun _ h9 => h9) rfl (tyX2_ok 5 (by decide)) rfl rfl dX2_seek_2 (fds_sfi (by decide) (by decide)) (fun _ h9 => ct_sfi h9) (fun H locs hc => ?_)
  refine lv_aload_n hx hb dX2_seek_5 rfl (lv_at hl 0 rfl) ?_
  refine lv_iconst (v := nI (0)) hx hb dX2_seek_6 (by decide) ?_
  refine r_put (C := RX2) (T := TX2) (N := 9) (R' := sfi (sfi R 1 5 (nI (mx))) 1 6 (nI (0))) hx hb hts hown hK.1 hc (hst.2.1.1) (rfl) rfl rfl hinX2 tyX2 tyX2_ok nmX2 6 (by decide) hf_22 (fun _ h9 => h9) rfl (tyX2_ok 6 (by decide)) rfl rfl dX2_seek_7 (fds_sfi (by decide) (by decide)) (fun _ h9 => ct_sfi h9) (fun H locs hc => ?_)
  refine lv_aload_n hx hb dX2_seek_10 rfl (lv_at hl 0 rfl) ?_
  refine lv_iconst (v := (-1)) hx hb dX2_seek_11 (by decide) ?_
  refine r_put (C := RX2) (T := TX2) (N := 9) (R' := sfi (sfi (sfi R 1 5 (nI (mx))) 1 6 (nI (0))) 1 7 ((-1))) hx hb hts hown hK.1 hc (hst.2.1.1) (rfl) rfl rfl hinX2 tyX2 tyX2_ok nmX2 7 (by decide) hf_25 (fun _ h9 => h9) rfl (tyX2_ok 7 (by decide)) rfl rfl dX2_seek_12 (fds_sfi (by decide) (by decide)) (fun _ h9 => ct_sfi h9) (fun H locs hc => ?_)
  refine lv_aload_n hx hb dX2_seek_15 rfl (lv_at hl 0 rfl) ?_
  refine lv_iconst (v := nI (0)) hx hb dX2_seek_16 (by decide) ?_
  refine r_put (C := RX2) (T := TX2) (N := 9) (R' := sfi (sfi (sfi (sfi R 1 5 (nI (mx))) 1 6 (nI (0))) 1 7 ((-1))) 1 8 (nI (0))) hx hb hts hown hK.1 hc (hst.2.1.1) (rfl) rfl rfl hinX2 tyX2 tyX2_ok nmX2 8 (by decide) hf_28 (fun _ h9 => h9) rfl (tyX2_ok 8 (by decide)) rfl rfl dX2_seek_17 (fds_sfi (by decide) (by decide)) (fun _ h9 => ct_sfi h9) (fun H locs hc => ?_)
  refine lv_aload_n hx hb dX2_seek_20 rfl (lv_at hl 1 rfl) ?_
  refine lv_aload_n hx hb dX2_seek_21 rfl (lv_at hl 0 rfl) ?_
  refine r_get (C := RX2) (T := TX2) (N := 9) (v := .ref (a (2))) hx hb hts hown hK.1 hc (hst.2.1.1) (rfl) rfl rfl hinX2 3 (by decide) hf_9 (fun _ h9 => h9) (congrArg va_rf hst.2.1.2.2.2.1) dX2_seek_22 ?_
  refine lv_aload_n hx hb dX2_seek_25 rfl (lv_at hl 0 rfl) ?_
  refine r_get (C := RX2) (T := TX2) (N := 9) (v := .ref (a (3))) hx hb hts hown hK.1 hc (hst.2.1.1) (rfl) rfl rfl hinX2 4 (by decide) hf_15 (fun _ h9 => h9) (congrArg va_rf hst.2.1.2.2.2.2) dX2_seek_26 ?_
  refine lv_iconst (v := nI (0)) hx hb dX2_seek_29 (by decide) ?_
  refine r_callv hc hA (va_runV (As := [.ref (a (2)), .ref (a (3)), .int (nI (0))]) (rest := []) ⟨hx, hb, hml, hown, hts⟩ (c_X0_keepPattern l D g lv a (sfi (sfi (sfi (sfi R 1 5 (nI (mx))) 1 6 (nI (0))) 1 7 ((-1))) 1 8 (nI (0))) k hk hst.1 hst.2.1 0 (by decide) _) (cwV 3 hts gX2_seek_X0_keepPattern rfl rfl rfl (by decide +kernel) ⟨Nat.le_of_ble_eq_true rfl, Nat.le_of_ble_eq_true rfl⟩) (r_preV hK hZ hc hA (hst.1.1) (sh_K (by omega)) rfl) rfl rfl hl.1 rfl (lv_room (Nat.le_of_ble_eq_true rfl)) dX2_seek_30 ⟨Nat.le_of_ble_eq_true rfl, Nat.le_of_ble_eq_true rfl⟩) (fun R1 H locs hp hc => ?_)
  have hkp := hp
  have hF1 := (((((FC.r R k).s1 (j := 5) (v := nI mx) (by decide)).s1 (j := 6) (v := nI 0) (by decide)).s1 (j := 7) (v := -1) (by decide)).s1 (j := 8) (v := nI 0) (by decide)).kp hkp
  have hL_R1 := lc_init hkp
  have hst_R1 := hst.fc hF1 hk
  refine lv_aload_n hx hb dX2_seek_33 rfl (lv_at hl 0 rfl) ?_
  refine lv_aload_n hx hb dX2_seek_34 rfl (lv_at hl 1 rfl) ?_
  refine lv_iconst (v := nI (0)) hx hb dX2_seek_35 (by decide) ?_
  refine lv_lconst (v := lN 0) hx hb dX2_seek_36 (by decide) ?_
  refine lv_iconst (v := nI (0)) hx hb dX2_seek_37 (by decide) ?_
  refine r_callv hc hA (va_runV (As := [.ref (a (10 + 3 * k)), .int (nI (0)), .long (lN (0)), .int (nI (0))]) (rest := []) ⟨hx, hb, hml, hown, hts⟩ (goC_all l D g lv a M k mx hk hkm hI hmx 37 R1 0 0 [] (0, 0, false, []) hst_R1 hL_R1 ⟨Nat.zero_le _, 0, Dj_nil, rfl⟩ ⟨Nat.zero_le _, Or.inl ⟨rfl, rfl⟩, Nat.zero_le _, 0, Dj_nil⟩ (Nat.two_pow_pos _) (Nat.zero_le _) (fun i hi => absurd hi (Nat.not_lt_zero _)) (by omega) _) (cwV 4 hts gX2_seek_X2_goOn rfl rfl rfl (by decide +kernel) ⟨Nat.le_of_ble_eq_true rfl, Nat.le_of_ble_eq_true rfl⟩) (r_preV hK hZ hc hA (hst_R1.2.1.1) (rfl) rfl) rfl rfl hl.1 rfl (lv_room (Nat.le_of_ble_eq_true rfl)) dX2_seek_38 ⟨Nat.le_of_ble_eq_true rfl, Nat.le_of_ble_eq_true rfl⟩) (fun R2 H locs hp hc => ?_)
  have hgo := hp
  have hst_R2 := hst_R1.fc hgo.1 hk
  have hL2 : LC R2 k mx [] (sk0 M k mx) := hgo.2
  have hgo2 : LC (sfi R2 (10 + 3 * k) 10 (nI (if (sk0 M k mx).2.2.1 = true then 0 else 1))) k mx [] (sk0 M k mx) := lc_x hgo.2
  obtain ⟨Z, hZ9⟩ : ∃ z, z = sk0 M k mx := ⟨_, rfl⟩
  rw [← hZ9] at hgo2 hL2 ⊢
  refine lv_aload_n hx hb dX2_seek_41 rfl (lv_at hl 1 rfl) ?_
  refine lv_aload_n hx hb dX2_seek_42 rfl (lv_at hl 0 rfl) ?_
  refine r_get (C := RX2) (T := TX2) (N := 9) (v := .int (nI (if Z.2.2.1 = true then 1 else 0))) hx hb hts hown hK.1 hc (hst_R2.2.1.1) (rfl) rfl rfl hinX2 8 (by decide) hf_28 (fun _ h9 => h9) (congrArg Value.int hL2.2.2.2.1) dX2_seek_43 ?_
  refine lv_if_ne (tgt := 53) hx hb dX2_seek_46 (by decide) (fun hq_5 => ?_) (fun hq_5 => ?_)
  · have hq_5 : ¬ ((if Z.2.2.1 = true then 1 else 0) = 0) := fun z => hq_5 ((nI_eq (a := (if Z.2.2.1 = true then 1 else 0)) (b := 0) (by first | decide | (split <;> decide)) (by first | decide | (split <;> decide))).mpr z)
    have hlk : Z.2.2.1 = true := by by_cases h9 : Z.2.2.1 = true; exact h9; rw [if_neg h9] at hq_5; omega
    refine lv_iconst (v := nI (0)) hx hb dX2_seek_53 (by decide) ?_
    refine r_put (C := RX0) (T := TX0) (N := 11) (R' := sfi R2 (10 + 3 * k) 10 (nI (0))) hx hb hts hown hK.1 hc (hst_R2.1.1) (sh_K (by omega)) rfl rfl hinX0 tyX0 tyX0_ok nmX0 10 (by decide) hf_51 (fun _ h9 => h9) rfl (tyX0_ok 10 (by decide)) rfl rfl dX2_seek_54 (fds_sfi (by decide) (by decide)) (fun _ h9 => ct_sfi h9) (fun H locs hc => ?_)
    exact r_vret hx hb hr hlocks hc dX2_seek_57 (by rw [if_pos hlk] at hgo2 ⊢; exact ⟨(hF1.trans hgo.1).k10, hgo2, up2_s _ _ _ _⟩)
  · have hq_5 : (if Z.2.2.1 = true then 1 else 0) = 0 := (nI_eq (a := (if Z.2.2.1 = true then 1 else 0)) (b := 0) (by first | decide | (split <;> decide)) (by first | decide | (split <;> decide))).mp hq_5
    have hlk : ¬ Z.2.2.1 = true := fun h9 => by rw [if_pos h9] at hq_5; omega
    refine lv_iconst (v := nI (1)) hx hb dX2_seek_49 (by decide) ?_
    refine lv_goto (tgt := 54) hx hb dX2_seek_50 (by decide) ?_
    refine r_put (C := RX0) (T := TX0) (N := 11) (R' := sfi R2 (10 + 3 * k) 10 (nI (1))) hx hb hts hown hK.1 hc (hst_R2.1.1) (sh_K (by omega)) rfl rfl hinX0 tyX0 tyX0_ok nmX0 10 (by decide) hf_51 (fun _ h9 => h9) rfl (tyX0_ok 10 (by decide)) rfl rfl dX2_seek_54 (fds_sfi (by decide) (by decide)) (fun _ h9 => ct_sfi h9) (fun H locs hc => ?_)
    exact r_vret hx hb hr hlocks hc dX2_seek_57 (by rw [if_neg hlk] at hgo2 ⊢; exact ⟨(hF1.trans hgo.1).k10, hgo2, up2_s _ _ _ _⟩)
