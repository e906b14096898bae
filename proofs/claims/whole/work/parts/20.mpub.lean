set_option maxRecDepth 100000 in
set_option maxHeartbeats 4000000 in
theorem c_X4_rules (l : Launch) (D : va_G) (g : Nat → ClassId) (lv : Nat → Bool) (a : Nat → Nat) (R : RS) (M : MS) (hmr : PMr R a lv) (hM : PM R M) (hI : Inv M) (x y z : Int32) : cV l D g lv a yX4_rules wsX4_rules ({ frames := 1, cells := 0, slots := 0, locals := 22 } : Room) [.ref (a (100)), .int (x), .int (y), .int (z)] R (fun R' => QM R (oRules M x y z) (nI 0) R') 0 0 := by
  refine c_body (cc := cX4_rules) (maxL := 4) (ret := none) (by decide) rfl (Nat.le_of_ble_eq_true rfl) ?_
  intro pr en st mi bl me co ls B hl
  obtain ⟨hx, hb, hr, hml, hown, hts, hlocks, hnm, hK, hZ, hc, hA⟩ := B
  have hl : lv_has ls 4 [(0, .ref (a (100))), (1, .int (x)), (2, .int (y)), (3, .int (z))] := hl
  have hinX4 : ∀ w ∈ u_ws RX4 TX4 33, w ∈ wsX4_rules := (fun _ h => List.mem_cons_of_mem _ (List.mem_append_right _ h))
  have hf_39 := hts (.fieldLink RX4 39 "PalletLayersModel" "share" "I") (by decide +kernel)
  have hf_43 := hts (.fieldLink RX4 43 "PalletLayersModel" "door" "I") (by decide +kernel)
  have hf_46 := hts (.fieldLink RX4 46 "PalletLayersModel" "load" "I") (by decide +kernel)
  have hf_89 := hts (.fieldLink RX4 89 "PalletLayersModel" "thrown" "I") (by decide +kernel)
  have hlv := hmr.1
  have hb9 := iv_b hI
  refine lv_aload_n hx hb dX4_rules_0 rfl (lv_at hl 0 rfl) ?_
  refine lv_iload_n hx hb dX4_rules_1 rfl (lv_at hl 1 rfl) ?_
  refine lv_iconst (v := nI (0)) hx hb dX4_rules_2 (by decide) ?_
  refine lv_bipush (v := nI (100)) hx hb dX4_rules_3 (by decide) ?_
  refine r_calli hc hA (va_runS (As := [.int (x), .int (nI (0)), .int (nI (100))]) (rest := [.ref (a (100))]) ⟨hx, hb, hml, hown, hts⟩ (c_X4_within l D g lv a R x (nI (0)) (nI (100)) _) (va_cwS 3 hts gX4_rules_X4_within rfl rfl rfl (by decide +kernel) ⟨Nat.le_of_ble_eq_true rfl, Nat.le_of_ble_eq_true rfl⟩) (r_preS hK hZ hc hA) rfl rfl hl.1 rfl (lv_room (Nat.le_of_ble_eq_true rfl)) dX4_rules_5 ⟨Nat.le_of_ble_eq_true rfl, Nat.le_of_ble_eq_true rfl⟩) (fun r R' H locs hp hc => ?_)
  obtain ⟨hRe, ⟨hw5, rfl⟩ | ⟨hw5, rfl⟩⟩ := hp
  · rw [hRe] at hc
    rw [w_iff (by decide) (by decide)] at hw5
    refine lv_if_eq (tgt := 36) hx hb dX4_rules_8 (by decide) (fun hq_3 => absurd hq_3 (by decide)) (fun hq_3 => ?_)
    refine lv_iload_n hx hb dX4_rules_11 rfl (lv_at hl 2 rfl) ?_
    refine lv_iconst (v := nI (1)) hx hb dX4_rules_12 (by decide) ?_
    refine lv_bipush (v := nI (100)) hx hb dX4_rules_13 (by decide) ?_
    refine r_calli hc hA (va_runS (As := [.int (y), .int (nI (1)), .int (nI (100))]) (rest := [.ref (a (100))]) ⟨hx, hb, hml, hown, hts⟩ (c_X4_within l D g lv a R y (nI (1)) (nI (100)) _) (va_cwS 3 hts gX4_rules_X4_within rfl rfl rfl (by decide +kernel) ⟨Nat.le_of_ble_eq_true rfl, Nat.le_of_ble_eq_true rfl⟩) (r_preS hK hZ hc hA) rfl rfl hl.1 rfl (lv_room (Nat.le_of_ble_eq_true rfl)) dX4_rules_15 ⟨Nat.le_of_ble_eq_true rfl, Nat.le_of_ble_eq_true rfl⟩) (fun r R' H locs hp hc => ?_)
    obtain ⟨hRe, ⟨hw15, rfl⟩ | ⟨hw15, rfl⟩⟩ := hp
    · rw [hRe] at hc
      rw [w_iff (by decide) (by decide)] at hw15
      refine lv_if_eq (tgt := 36) hx hb dX4_rules_18 (by decide) (fun hq_6 => absurd hq_6 (by decide)) (fun hq_6 => ?_)
      refine lv_iload_n hx hb dX4_rules_21 rfl (lv_at hl 3 rfl) ?_
      refine lv_iconst (v := nI (0)) hx hb dX4_rules_22 (by decide) ?_
      refine lv_sipush (v := nI (10000)) hx hb dX4_rules_23 (by decide) ?_
      refine r_calli hc hA (va_runS (As := [.int (z), .int (nI (0)), .int (nI (10000))]) (rest := [.ref (a (100))]) ⟨hx, hb, hml, hown, hts⟩ (c_X4_within l D g lv a R z (nI (0)) (nI (10000)) _) (va_cwS 3 hts gX4_rules_X4_within rfl rfl rfl (by decide +kernel) ⟨Nat.le_of_ble_eq_true rfl, Nat.le_of_ble_eq_true rfl⟩) (r_preS hK hZ hc hA) rfl rfl hl.1 rfl (lv_room (Nat.le_of_ble_eq_true rfl)) dX4_rules_26 ⟨Nat.le_of_ble_eq_true rfl, Nat.le_of_ble_eq_true rfl⟩) (fun r R' H locs hp hc => ?_)
      obtain ⟨hRe, ⟨hw26, rfl⟩ | ⟨hw26, rfl⟩⟩ := hp
      · rw [hRe] at hc
        rw [w_iff (by decide) (by decide)] at hw26
        refine lv_if_eq (tgt := 36) hx hb dX4_rules_29 (by decide) (fun hq_9 => absurd hq_9 (by decide)) (fun hq_9 => ?_)
        refine lv_iconst (v := nI (0)) hx hb dX4_rules_32 (by decide) ?_
        refine lv_goto (tgt := 37) hx hb dX4_rules_33 (by decide) ?_
        refine r_put (C := RX4) (T := TX4) (N := 33) (R' := sfi R 100 5 (nI (0))) hx hb hts hown hK.1 hc (hlv _ rfl) (rfl) rfl rfl hinX4 tyX4 tyX4_ok nmX4 5 (by decide) hf_89 (fun _ h9 => h9) rfl (tyX4_ok 5 (by decide)) rfl rfl dX4_rules_37 (fds_sfi (by decide) (by decide)) (fun _ h9 => ct_sfi h9) (fun H locs hc => ?_)
        refine lv_aload_n hx hb dX4_rules_40 rfl (lv_at hl 0 rfl) ?_
        refine r_get (C := RX4) (T := TX4) (N := 33) (v := .int (nI (0))) hx hb hts hown hK.1 hc (hlv _ rfl) (rfl) rfl rfl hinX4 5 (by decide) hf_89 (fun _ h9 => h9) rfl dX4_rules_41 ?_
        refine lv_if_eq (tgt := 48) hx hb dX4_rules_44 (by decide) (fun hq_10 => ?_) (fun hq_10 => absurd hq_10 (by decide))
        obtain ⟨x1, hx0, hx1, hx2, rfl⟩ := isR_ex hw5
        obtain ⟨y1, hy0, hy1, hy2, rfl⟩ := isR_ex hw15
        obtain ⟨z1, hz0, hz1, hz2, rfl⟩ := isR_ex hw26
        refine lv_aload_n hx hb dX4_rules_48 rfl (lv_at hl 0 rfl) ?_
        refine lv_iload_n hx hb dX4_rules_49 rfl (lv_at hl 1 rfl) ?_
        refine r_put (C := RX4) (T := TX4) (N := 33) (R' := sfi (sfi R 100 5 (nI (0))) 100 15 (nI (x1))) hx hb hts hown hK.1 hc (hlv _ rfl) (rfl) rfl rfl hinX4 tyX4 tyX4_ok nmX4 15 (by decide) hf_39 (fun _ h9 => h9) rfl (tyX4_ok 15 (by decide)) rfl rfl dX4_rules_50 (fds_sfi (by decide) (by decide)) (fun _ h9 => ct_sfi h9) (fun H locs hc => ?_)
        refine lv_aload_n hx hb dX4_rules_53 rfl (lv_at hl 0 rfl) ?_
        refine lv_iload_n hx hb dX4_rules_54 rfl (lv_at hl 2 rfl) ?_
        refine r_put (C := RX4) (T := TX4) (N := 33) (R' := sfi (sfi (sfi R 100 5 (nI (0))) 100 15 (nI (x1))) 100 16 (nI (y1))) hx hb hts hown hK.1 hc (hlv _ rfl) (rfl) rfl rfl hinX4 tyX4 tyX4_ok nmX4 16 (by decide) hf_43 (fun _ h9 => h9) rfl (tyX4_ok 16 (by decide)) rfl rfl dX4_rules_55 (fds_sfi (by decide) (by decide)) (fun _ h9 => ct_sfi h9) (fun H locs hc => ?_)
        refine lv_aload_n hx hb dX4_rules_58 rfl (lv_at hl 0 rfl) ?_
        refine lv_iload_n hx hb dX4_rules_59 rfl (lv_at hl 3 rfl) ?_
        refine r_put (C := RX4) (T := TX4) (N := 33) (R' := sfi (sfi (sfi (sfi R 100 5 (nI (0))) 100 15 (nI (x1))) 100 16 (nI (y1))) 100 17 (nI (z1))) hx hb hts hown hK.1 hc (hlv _ rfl) (rfl) rfl rfl hinX4 tyX4 tyX4_ok nmX4 17 (by decide) hf_46 (fun _ h9 => h9) rfl (tyX4_ok 17 (by decide)) rfl rfl dX4_rules_60 (fds_sfi (by decide) (by decide)) (fun _ h9 => ct_sfi h9) (fun H locs hc => ?_)
        exact r_vret hx hb hr hlocks hc dX4_rules_63 (by
      have hq9 : oRules M (nI x1) (nI y1) (nI z1) = (0, nI 0, nRules M x1 y1 z1) := by simp only [oRules, tN_nI hx2, tN_nI hy2, tN_nI hz2, if_pos hw5, if_pos hw15, if_pos hw26]
      unfold QM; rw [hq9]
      exact ⟨rfl, rfl, pm_rules hM, (((((outM.r _).sfi (by decide)).sfi (by decide)).sfi (by decide)).sfi (by decide))⟩)
      · rw [hRe] at hc
        rw [w_iff (by decide) (by decide)] at hw26
        refine lv_if_eq (tgt := 36) hx hb dX4_rules_29 (by decide) (fun hq_11 => ?_) (fun hq_11 => absurd hq_11 (by decide))
        refine lv_iconst (v := nI (1)) hx hb dX4_rules_36 (by decide) ?_
        refine r_put (C := RX4) (T := TX4) (N := 33) (R' := sfi R 100 5 (nI (1))) hx hb hts hown hK.1 hc (hlv _ rfl) (rfl) rfl rfl hinX4 tyX4 tyX4_ok nmX4 5 (by decide) hf_89 (fun _ h9 => h9) rfl (tyX4_ok 5 (by decide)) rfl rfl dX4_rules_37 (fds_sfi (by decide) (by decide)) (fun _ h9 => ct_sfi h9) (fun H locs hc => ?_)
        refine lv_aload_n hx hb dX4_rules_40 rfl (lv_at hl 0 rfl) ?_
        refine r_get (C := RX4) (T := TX4) (N := 33) (v := .int (nI (1))) hx hb hts hown hK.1 hc (hlv _ rfl) (rfl) rfl rfl hinX4 5 (by decide) hf_89 (fun _ h9 => h9) rfl dX4_rules_41 ?_
        refine lv_if_eq (tgt := 48) hx hb dX4_rules_44 (by decide) (fun hq_12 => absurd hq_12 (by decide)) (fun hq_12 => ?_)
        exact r_vret hx hb hr hlocks hc dX4_rules_47 (by
      have hq9 : oRules M x y z = (1, nI 0, M) := by simp only [oRules, if_pos hw5, if_pos hw15, if_neg hw26]
      unfold QM; rw [hq9]
      exact ⟨rfl, rfl, pm_th hM, ((outM.r _).sfi (by decide))⟩)
    · rw [hRe] at hc
      rw [w_iff (by decide) (by decide)] at hw15
      refine lv_if_eq (tgt := 36) hx hb dX4_rules_18 (by decide) (fun hq_13 => ?_) (fun hq_13 => absurd hq_13 (by decide))
      refine lv_iconst (v := nI (1)) hx hb dX4_rules_36 (by decide) ?_
      refine r_put (C := RX4) (T := TX4) (N := 33) (R' := sfi R 100 5 (nI (1))) hx hb hts hown hK.1 hc (hlv _ rfl) (rfl) rfl rfl hinX4 tyX4 tyX4_ok nmX4 5 (by decide) hf_89 (fun _ h9 => h9) rfl (tyX4_ok 5 (by decide)) rfl rfl dX4_rules_37 (fds_sfi (by decide) (by decide)) (fun _ h9 => ct_sfi h9) (fun H locs hc => ?_)
      refine lv_aload_n hx hb dX4_rules_40 rfl (lv_at hl 0 rfl) ?_
      refine r_get (C := RX4) (T := TX4) (N := 33) (v := .int (nI (1))) hx hb hts hown hK.1 hc (hlv _ rfl) (rfl) rfl rfl hinX4 5 (by decide) hf_89 (fun _ h9 => h9) rfl dX4_rules_41 ?_
      refine lv_if_eq (tgt := 48) hx hb dX4_rules_44 (by decide) (fun hq_14 => absurd hq_14 (by decide)) (fun hq_14 => ?_)
      exact r_vret hx hb hr hlocks hc dX4_rules_47 (by
      have hq9 : oRules M x y z = (1, nI 0, M) := by simp only [oRules, if_pos hw5, if_neg hw15]
      unfold QM; rw [hq9]
      exact ⟨rfl, rfl, pm_th hM, ((outM.r _).sfi (by decide))⟩)
  · rw [hRe] at hc
    rw [w_iff (by decide) (by decide)] at hw5
    refine lv_if_eq (tgt := 36) hx hb dX4_rules_8 (by decide) (fun hq_15 => ?_) (fun hq_15 => absurd hq_15 (by decide))
    refine lv_iconst (v := nI (1)) hx hb dX4_rules_36 (by decide) ?_
    refine r_put (C := RX4) (T := TX4) (N := 33) (R' := sfi R 100 5 (nI (1))) hx hb hts hown hK.1 hc (hlv _ rfl) (rfl) rfl rfl hinX4 tyX4 tyX4_ok nmX4 5 (by decide) hf_89 (fun _ h9 => h9) rfl (tyX4_ok 5 (by decide)) rfl rfl dX4_rules_37 (fds_sfi (by decide) (by decide)) (fun _ h9 => ct_sfi h9) (fun H locs hc => ?_)
    refine lv_aload_n hx hb dX4_rules_40 rfl (lv_at hl 0 rfl) ?_
    refine r_get (C := RX4) (T := TX4) (N := 33) (v := .int (nI (1))) hx hb hts hown hK.1 hc (hlv _ rfl) (rfl) rfl rfl hinX4 5 (by decide) hf_89 (fun _ h9 => h9) rfl dX4_rules_41 ?_
    refine lv_if_eq (tgt := 48) hx hb dX4_rules_44 (by decide) (fun hq_16 => absurd hq_16 (by decide)) (fun hq_16 => ?_)
    exact r_vret hx hb hr hlocks hc dX4_rules_47 (by
      have hq9 : oRules M x y z = (1, nI 0, M) := by simp only [oRules, if_neg hw5]
      unfold QM; rw [hq9]
      exact ⟨rfl, rfl, pm_th hM, ((outM.r _).sfi (by decide))⟩)
set_option maxRecDepth 100000 in
set_option maxHeartbeats 4000000 in
theorem c_X4_bound (l : Launch) (D : va_G) (g : Nat → ClassId) (lv : Nat → Bool) (a : Nat → Nat) (R : RS) (M : MS) (hmr : PMr R a lv) (hM : PM R M) (hI : Inv M) (x : Int32) : cI l D g lv a yX4_bound wsX4_bound ({ frames := 2, cells := 0, slots := 0, locals := 43 } : Room) [.ref (a (100)), .int (x)] R (QM R (oBound M x)) 0 0 := by
  refine c_body (cc := cX4_bound) (maxL := 2) (ret := (some .int)) (by decide) rfl (Nat.le_of_ble_eq_true rfl) ?_
  intro pr en st mi bl me co ls B hl
  obtain ⟨hx, hb, hr, hml, hown, hts, hlocks, hnm, hK, hZ, hc, hA⟩ := B
  have hl : lv_has ls 2 [(0, .ref (a (100))), (1, .int (x))] := hl
  have hinX4 : ∀ w ∈ u_ws RX4 TX4 33, w ∈ wsX4_bound := (fun _ h => List.mem_cons_of_mem _ (List.mem_append_left _ (List.mem_append_right _ h)))
  have hf_86 := hts (.fieldLink RX4 86 "PalletLayersModel" "cells" "I") (by decide +kernel)
  have hf_89 := hts (.fieldLink RX4 89 "PalletLayersModel" "thrown" "I") (by decide +kernel)
  have hlv := hmr.1
  have hb9 := iv_b hI
  refine lv_aload_n hx hb dX4_bound_0 rfl (lv_at hl 0 rfl) ?_
  refine lv_aload_n hx hb dX4_bound_1 rfl (lv_at hl 0 rfl) ?_
  refine lv_iload_n hx hb dX4_bound_2 rfl (lv_at hl 1 rfl) ?_
  refine r_calli hc hA (va_runV (As := [.int (x)]) (rest := [.ref (a (100))]) ⟨hx, hb, hml, hown, hts⟩ (c_X4_isKind l D g lv a R M hmr hM hI x _) (cwV 1 hts gX4_bound_X4_isKind rfl rfl rfl (by decide +kernel) ⟨Nat.le_of_ble_eq_true rfl, Nat.le_of_ble_eq_true rfl⟩) (r_preV hK hZ hc hA (hlv _ rfl) (rfl) rfl) rfl rfl hl.1 rfl (lv_room (Nat.le_of_ble_eq_true rfl)) dX4_bound_3 ⟨Nat.le_of_ble_eq_true rfl, Nat.le_of_ble_eq_true rfl⟩) (fun r R' H locs hp hc => ?_)
  obtain ⟨hRe, ⟨hw3, rfl⟩ | ⟨hw3, rfl⟩⟩ := hp
  · rw [hRe] at hc
    obtain ⟨j, hj, hj9, rfl⟩ := isN_ex hw3
    refine lv_if_eq (tgt := 13) hx hb dX4_bound_6 (by decide) (fun hq_3 => absurd hq_3 (by decide)) (fun hq_3 => ?_)
    refine lv_iconst (v := nI (0)) hx hb dX4_bound_9 (by decide) ?_
    refine lv_goto (tgt := 14) hx hb dX4_bound_10 (by decide) ?_
    refine r_put (C := RX4) (T := TX4) (N := 33) (R' := sfi R 100 5 (nI (0))) hx hb hts hown hK.1 hc (hlv _ rfl) (rfl) rfl rfl hinX4 tyX4 tyX4_ok nmX4 5 (by decide) hf_89 (fun _ h9 => h9) rfl (tyX4_ok 5 (by decide)) rfl rfl dX4_bound_14 (fds_sfi (by decide) (by decide)) (fun _ h9 => ct_sfi h9) (fun H locs hc => ?_)
    refine lv_aload_n hx hb dX4_bound_17 rfl (lv_at hl 0 rfl) ?_
    refine r_get (C := RX4) (T := TX4) (N := 33) (v := .int (nI (0))) hx hb hts hown hK.1 hc (hlv _ rfl) (rfl) rfl rfl hinX4 5 (by decide) hf_89 (fun _ h9 => h9) rfl dX4_bound_18 ?_
    refine lv_if_eq (tgt := 28) hx hb dX4_bound_21 (by decide) (fun hq_4 => ?_) (fun hq_4 => absurd hq_4 (by decide))
    have hk9 := iv_k hI hj
    have ha9 := ar_b hk9
    have hc9 := ce_b hb9
    refine lv_aload_n hx hb dX4_bound_28 rfl (lv_at hl 0 rfl) ?_
    refine r_get (C := RX4) (T := TX4) (N := 33) (v := .int (nI (mW M * mD M))) hx hb hts hown hK.1 hc (hlv _ rfl) (rfl) rfl rfl hinX4 2 (by decide) hf_86 (fun _ h9 => h9) (congrArg Value.int hM.1.2.2.1) dX4_bound_29 ?_
    refine lv_aload_n hx hb dX4_bound_32 rfl (lv_at hl 0 rfl) ?_
    refine lv_iload_n hx hb dX4_bound_33 rfl (lv_at hl 1 rfl) ?_
    refine r_calli hc hA (va_runV (As := [.int (nI (j))]) (rest := [.int (nI (mW M * mD M))]) ⟨hx, hb, hml, hown, hts⟩ (c_X4_areaOf l D g lv a (sfi R 100 5 (nI (0))) M hmr (pk_of (pm_th hM)) hI j hj _) (cwV 1 hts gX4_bound_X4_areaOf rfl rfl rfl (by decide +kernel) ⟨Nat.le_of_ble_eq_true rfl, Nat.le_of_ble_eq_true rfl⟩) (r_preV hK hZ hc hA (hlv _ rfl) (rfl) rfl) rfl rfl hl.1 rfl (lv_room (Nat.le_of_ble_eq_true rfl)) dX4_bound_34 ⟨Nat.le_of_ble_eq_true rfl, Nat.le_of_ble_eq_true rfl⟩) (fun r R' H locs hp hc => ?_)
    obtain ⟨hre, hRe⟩ := hp
    rw [hRe] at hc
    rw [hre]
    refine nv_idiv hx hb dX4_bound_37 ha9.1 (by omega) (by omega) ?_
    exact r_iret hx hb hr hlocks hc dX4_bound_38 (by
      have hq9 : oBound M (nI j) = (0, nI (mW M * mD M / (kw M j * kd M j)), M) := by simp only [oBound, tN_nI hj9, if_pos hw3]
      unfold QM; rw [hq9]
      exact ⟨rfl, rfl, pm_th hM, ((outM.r _).sfi (by decide))⟩)
  · rw [hRe] at hc
    refine lv_if_eq (tgt := 13) hx hb dX4_bound_6 (by decide) (fun hq_7 => ?_) (fun hq_7 => absurd hq_7 (by decide))
    refine lv_iconst (v := nI (1)) hx hb dX4_bound_13 (by decide) ?_
    refine r_put (C := RX4) (T := TX4) (N := 33) (R' := sfi R 100 5 (nI (1))) hx hb hts hown hK.1 hc (hlv _ rfl) (rfl) rfl rfl hinX4 tyX4 tyX4_ok nmX4 5 (by decide) hf_89 (fun _ h9 => h9) rfl (tyX4_ok 5 (by decide)) rfl rfl dX4_bound_14 (fds_sfi (by decide) (by decide)) (fun _ h9 => ct_sfi h9) (fun H locs hc => ?_)
    refine lv_aload_n hx hb dX4_bound_17 rfl (lv_at hl 0 rfl) ?_
    refine r_get (C := RX4) (T := TX4) (N := 33) (v := .int (nI (1))) hx hb hts hown hK.1 hc (hlv _ rfl) (rfl) rfl rfl hinX4 5 (by decide) hf_89 (fun _ h9 => h9) rfl dX4_bound_18 ?_
    refine lv_if_eq (tgt := 28) hx hb dX4_bound_21 (by decide) (fun hq_8 => absurd hq_8 (by decide)) (fun hq_8 => ?_)
    refine lv_iconst (v := nI (0)) hx hb dX4_bound_24 (by decide) ?_
    refine lv_goto (tgt := 38) hx hb dX4_bound_25 (by decide) ?_
    exact r_iret hx hb hr hlocks hc dX4_bound_38 (by
      have hq9 : oBound M x = (1, nI 0, M) := by simp only [oBound, if_neg hw3]
      unfold QM; rw [hq9]
      exact ⟨rfl, rfl, pm_th hM, ((outM.r _).sfi (by decide))⟩)
set_option maxRecDepth 100000 in
set_option maxHeartbeats 4000000 in
theorem c_X4_exact (l : Launch) (D : va_G) (g : Nat → ClassId) (lv : Nat → Bool) (a : Nat → Nat) (R : RS) (M : MS) (hmr : PMr R a lv) (hM : PM R M) (hI : Inv M) (x : Int32) : cI l D g lv a yX4_exact wsX4_exact ({ frames := 2, cells := 0, slots := 0, locals := 43 } : Room) [.ref (a (100)), .int (x)] R (QM R (oExact M x)) 0 0 := by
  refine c_body (cc := cX4_exact) (maxL := 2) (ret := (some .boolean)) (by decide) rfl (Nat.le_of_ble_eq_true rfl) ?_
  intro pr en st mi bl me co ls B hl
  obtain ⟨hx, hb, hr, hml, hown, hts, hlocks, hnm, hK, hZ, hc, hA⟩ := B
  have hl : lv_has ls 2 [(0, .ref (a (100))), (1, .int (x))] := hl
  have hinX4 : ∀ w ∈ u_ws RX4 TX4 33, w ∈ wsX4_exact := (fun _ h => List.mem_cons_of_mem _ (List.mem_append_left _ (List.mem_append_right _ h)))
  have hf_25 := hts (.fieldLink RX4 25 "PalletLayersModel" "exact" "[Z") (by decide +kernel)
  have hf_89 := hts (.fieldLink RX4 89 "PalletLayersModel" "thrown" "I") (by decide +kernel)
  have hlv := hmr.1
  have hb9 := iv_b hI
  refine lv_aload_n hx hb dX4_exact_0 rfl (lv_at hl 0 rfl) ?_
  refine lv_aload_n hx hb dX4_exact_1 rfl (lv_at hl 0 rfl) ?_
  refine lv_iload_n hx hb dX4_exact_2 rfl (lv_at hl 1 rfl) ?_
  refine r_calli hc hA (va_runV (As := [.int (x)]) (rest := [.ref (a (100))]) ⟨hx, hb, hml, hown, hts⟩ (c_X4_isKind l D g lv a R M hmr hM hI x _) (cwV 1 hts gX4_exact_X4_isKind rfl rfl rfl (by decide +kernel) ⟨Nat.le_of_ble_eq_true rfl, Nat.le_of_ble_eq_true rfl⟩) (r_preV hK hZ hc hA (hlv _ rfl) (rfl) rfl) rfl rfl hl.1 rfl (lv_room (Nat.le_of_ble_eq_true rfl)) dX4_exact_3 ⟨Nat.le_of_ble_eq_true rfl, Nat.le_of_ble_eq_true rfl⟩) (fun r R' H locs hp hc => ?_)
  obtain ⟨hRe, ⟨hw3, rfl⟩ | ⟨hw3, rfl⟩⟩ := hp
  · rw [hRe] at hc
    obtain ⟨j, hj, hj9, rfl⟩ := isN_ex hw3
    refine lv_if_eq (tgt := 13) hx hb dX4_exact_6 (by decide) (fun hq_3 => absurd hq_3 (by decide)) (fun hq_3 => ?_)
    refine lv_iconst (v := nI (0)) hx hb dX4_exact_9 (by decide) ?_
    refine lv_goto (tgt := 14) hx hb dX4_exact_10 (by decide) ?_
    refine r_put (C := RX4) (T := TX4) (N := 33) (R' := sfi R 100 5 (nI (0))) hx hb hts hown hK.1 hc (hlv _ rfl) (rfl) rfl rfl hinX4 tyX4 tyX4_ok nmX4 5 (by decide) hf_89 (fun _ h9 => h9) rfl (tyX4_ok 5 (by decide)) rfl rfl dX4_exact_14 (fds_sfi (by decide) (by decide)) (fun _ h9 => ct_sfi h9) (fun H locs hc => ?_)
    refine lv_aload_n hx hb dX4_exact_17 rfl (lv_at hl 0 rfl) ?_
    refine r_get (C := RX4) (T := TX4) (N := 33) (v := .int (nI (0))) hx hb hts hown hK.1 hc (hlv _ rfl) (rfl) rfl rfl hinX4 5 (by decide) hf_89 (fun _ h9 => h9) rfl dX4_exact_18 ?_
    refine lv_if_ne (tgt := 37) hx hb dX4_exact_21 (by decide) (fun hq_4 => absurd hq_4 (by decide)) (fun hq_4 => ?_)
    have hk9 := iv_k hI hj
    refine lv_aload_n hx hb dX4_exact_24 rfl (lv_at hl 0 rfl) ?_
    refine r_get (C := RX4) (T := TX4) (N := 33) (v := .ref (a (111))) hx hb hts hown hK.1 hc (hlv _ rfl) (rfl) rfl rfl hinX4 11 (by decide) hf_25 (fun _ h9 => h9) (congrArg va_rf (hmr.2 11 rfl)) dX4_exact_25 ?_
    refine lv_iload_n hx hb dX4_exact_28 rfl (lv_at hl 1 rfl) ?_
    refine r_zald (v := nI (kx M j)) hx hb hK.1 hc (hlv _ rfl) (rfl) (by decide) (by omega) dX4_exact_29 ((hM.2.1 _ (by omega)).2.2.2.2.2) ?_
    refine lv_if_eq (tgt := 37) hx hb dX4_exact_30 (by decide) (fun hq_5 => ?_) (fun hq_5 => ?_)
    · have hq_5 : (kx M j) = 0 := (nI_eq (a := (kx M j)) (b := 0) (by omega) (by omega)).mp hq_5
      refine lv_iconst (v := nI (0)) hx hb dX4_exact_37 (by decide) ?_
      exact r_zret hx hb hr hlocks hc dX4_exact_38 (by decide) (by
      have hq9 : oExact M (nI j) = (0, nI 0, M) := by simp only [oExact, tN_nI hj9, show kx M j = 0 by omega, if_pos hw3]
      unfold QM; rw [hq9]
      exact ⟨rfl, rfl, pm_th hM, ((outM.r _).sfi (by decide))⟩)
    · have hq_5 : ¬ ((kx M j) = 0) := fun z => hq_5 ((nI_eq (a := (kx M j)) (b := 0) (by omega) (by omega)).mpr z)
      refine lv_iconst (v := nI (1)) hx hb dX4_exact_33 (by decide) ?_
      refine lv_goto (tgt := 38) hx hb dX4_exact_34 (by decide) ?_
      exact r_zret hx hb hr hlocks hc dX4_exact_38 (by decide) (by
      have hq9 : oExact M (nI j) = (0, nI 1, M) := by simp only [oExact, tN_nI hj9, show kx M j = 1 by omega, if_pos hw3]
      unfold QM; rw [hq9]
      exact ⟨rfl, rfl, pm_th hM, ((outM.r _).sfi (by decide))⟩)
  · rw [hRe] at hc
    refine lv_if_eq (tgt := 13) hx hb dX4_exact_6 (by decide) (fun hq_6 => ?_) (fun hq_6 => absurd hq_6 (by decide))
    refine lv_iconst (v := nI (1)) hx hb dX4_exact_13 (by decide) ?_
    refine r_put (C := RX4) (T := TX4) (N := 33) (R' := sfi R 100 5 (nI (1))) hx hb hts hown hK.1 hc (hlv _ rfl) (rfl) rfl rfl hinX4 tyX4 tyX4_ok nmX4 5 (by decide) hf_89 (fun _ h9 => h9) rfl (tyX4_ok 5 (by decide)) rfl rfl dX4_exact_14 (fds_sfi (by decide) (by decide)) (fun _ h9 => ct_sfi h9) (fun H locs hc => ?_)
    refine lv_aload_n hx hb dX4_exact_17 rfl (lv_at hl 0 rfl) ?_
    refine r_get (C := RX4) (T := TX4) (N := 33) (v := .int (nI (1))) hx hb hts hown hK.1 hc (hlv _ rfl) (rfl) rfl rfl hinX4 5 (by decide) hf_89 (fun _ h9 => h9) rfl dX4_exact_18 ?_
    refine lv_if_ne (tgt := 37) hx hb dX4_exact_21 (by decide) (fun hq_7 => ?_) (fun hq_7 => absurd hq_7 (by decide))
    refine lv_iconst (v := nI (0)) hx hb dX4_exact_37 (by decide) ?_
    exact r_zret hx hb hr hlocks hc dX4_exact_38 (by decide) (by
      have hq9 : oExact M x = (1, nI 0, M) := by simp only [oExact, if_neg hw3]
      unfold QM; rw [hq9]
      exact ⟨rfl, rfl, pm_th hM, ((outM.r _).sfi (by decide))⟩)
set_option maxRecDepth 100000 in
set_option maxHeartbeats 4000000 in
theorem c_X4_pattern (l : Launch) (D : va_G) (g : Nat → ClassId) (lv : Nat → Bool) (a : Nat → Nat) (R : RS) (M : MS) (hmr : PMr R a lv) (hM : PM R M) (hI : Inv M) (x y z : Int32) : cI l D g lv a yX4_pattern wsX4_pattern ({ frames := 2, cells := 0, slots := 0, locals := 43 } : Room) [.ref (a (100)), .int (x), .int (y), .int (z)] R (QM R (oPattern M x y z)) 0 0 := by
  refine c_body (cc := cX4_pattern) (maxL := 5) (ret := (some .int)) (by decide) rfl (Nat.le_of_ble_eq_true rfl) ?_
  intro pr en st mi bl me co ls B hl
  obtain ⟨hx, hb, hr, hml, hown, hts, hlocks, hnm, hK, hZ, hc, hA⟩ := B
  have hl : lv_has ls 5 [(0, .ref (a (100))), (1, .int (x)), (2, .int (y)), (3, .int (z))] := hl
  have hinX4 : ∀ w ∈ u_ws RX4 TX4 33, w ∈ wsX4_pattern := (fun _ h => List.mem_cons_of_mem _ (List.mem_append_left _ (List.mem_append_right _ h)))
  have hf_22 := hts (.fieldLink RX4 22 "PalletLayersModel" "boxes" "[I") (by decide +kernel)
  have hf_33 := hts (.fieldLink RX4 33 "PalletLayersModel" "corner" "[I") (by decide +kernel)
  have hf_36 := hts (.fieldLink RX4 36 "PalletLayersModel" "way" "[I") (by decide +kernel)
  have hf_80 := hts (.fieldLink RX4 80 "PalletLayersModel" "width" "I") (by decide +kernel)
  have hf_89 := hts (.fieldLink RX4 89 "PalletLayersModel" "thrown" "I") (by decide +kernel)
  have hlv := hmr.1
  have hb9 := iv_b hI
  refine lv_aload_n hx hb dX4_pattern_0 rfl (lv_at hl 0 rfl) ?_
  refine lv_aload_n hx hb dX4_pattern_1 rfl (lv_at hl 0 rfl) ?_
  refine lv_iload_n hx hb dX4_pattern_2 rfl (lv_at hl 1 rfl) ?_
  refine r_calli hc hA (va_runV (As := [.int (x)]) (rest := [.ref (a (100))]) ⟨hx, hb, hml, hown, hts⟩ (c_X4_isKind l D g lv a R M hmr hM hI x _) (cwV 1 hts gX4_pattern_X4_isKind rfl rfl rfl (by decide +kernel) ⟨Nat.le_of_ble_eq_true rfl, Nat.le_of_ble_eq_true rfl⟩) (r_preV hK hZ hc hA (hlv _ rfl) (rfl) rfl) rfl rfl hl.1 rfl (lv_room (Nat.le_of_ble_eq_true rfl)) dX4_pattern_3 ⟨Nat.le_of_ble_eq_true rfl, Nat.le_of_ble_eq_true rfl⟩) (fun r R' H locs hp hc => ?_)
  obtain ⟨hRe, ⟨hw3, rfl⟩ | ⟨hw3, rfl⟩⟩ := hp
  · rw [hRe] at hc
    obtain ⟨j, hj, hj9, rfl⟩ := isN_ex hw3
    refine lv_if_ne (tgt := 13) hx hb dX4_pattern_6 (by decide) (fun hq_3 => ?_) (fun hq_3 => absurd hq_3 (by decide))
    refine lv_iload_n hx hb dX4_pattern_13 rfl (lv_at hl 3 rfl) ?_
    refine lv_iconst (v := nI (0)) hx hb dX4_pattern_14 (by decide) ?_
    refine lv_iconst (v := nI (2)) hx hb dX4_pattern_15 (by decide) ?_
    refine r_calli hc hA (va_runS (As := [.int (z), .int (nI (0)), .int (nI (2))]) (rest := [.ref (a (100))]) ⟨hx, hb, hml, hown, hts⟩ (c_X4_within l D g lv a R z (nI (0)) (nI (2)) _) (va_cwS 3 hts gX4_pattern_X4_within rfl rfl rfl (by decide +kernel) ⟨Nat.le_of_ble_eq_true rfl, Nat.le_of_ble_eq_true rfl⟩) (r_preS hK hZ hc hA) rfl rfl hl.1 rfl (lv_room (Nat.le_of_ble_eq_true rfl)) dX4_pattern_16 ⟨Nat.le_of_ble_eq_true rfl, Nat.le_of_ble_eq_true rfl⟩) (fun r R' H locs hp hc => ?_)
    obtain ⟨hRe, ⟨hw16, rfl⟩ | ⟨hw16, rfl⟩⟩ := hp
    · rw [hRe] at hc
      rw [w_iff (by decide) (by decide)] at hw16
      refine lv_if_ne (tgt := 26) hx hb dX4_pattern_19 (by decide) (fun hq_6 => ?_) (fun hq_6 => absurd hq_6 (by decide))
      have hk9 := iv_k hI hj
      refine lv_iload_n hx hb dX4_pattern_26 rfl (lv_at hl 2 rfl) ?_
      refine lv_iconst (v := nI (0)) hx hb dX4_pattern_27 (by decide) ?_
      refine lv_aload_n hx hb dX4_pattern_28 rfl (lv_at hl 0 rfl) ?_
      refine r_get (C := RX4) (T := TX4) (N := 33) (v := .ref (a (110))) hx hb hts hown hK.1 hc (hlv _ rfl) (rfl) rfl rfl hinX4 10 (by decide) hf_22 (fun _ h9 => h9) (congrArg va_rf (hmr.2 10 rfl)) dX4_pattern_29 ?_
      refine lv_iload_n hx hb dX4_pattern_32 rfl (lv_at hl 1 rfl) ?_
      refine r_iald (v := nI (kb M j)) hx hb hK.1 hc (hlv _ rfl) (rfl) (by decide) (by omega) dX4_pattern_33 ((hM.2.1 _ (by omega)).2.2.2.2.1) ?_
      refine lv_iconst (v := nI (1)) hx hb dX4_pattern_34 (by decide) ?_
      refine lv_isub hx hb dX4_pattern_35 ?_
      refine r_calli hc hA (va_runS (As := [.int (y), .int (nI (0)), .int (nI (kb M j) - nI 1)]) (rest := [.ref (a (100))]) ⟨hx, hb, hml, hown, hts⟩ (c_X4_within l D g lv a R y (nI (0)) (nI (kb M j) - nI 1) _) (va_cwS 3 hts gX4_pattern_X4_within rfl rfl rfl (by decide +kernel) ⟨Nat.le_of_ble_eq_true rfl, Nat.le_of_ble_eq_true rfl⟩) (r_preS hK hZ hc hA) rfl rfl hl.1 rfl (lv_room (Nat.le_of_ble_eq_true rfl)) dX4_pattern_36 ⟨Nat.le_of_ble_eq_true rfl, Nat.le_of_ble_eq_true rfl⟩) (fun r R' H locs hp hc => ?_)
      obtain ⟨hRe, ⟨hw36, rfl⟩ | ⟨hw36, rfl⟩⟩ := hp
      · rw [hRe] at hc
        rw [in_iff (by omega)] at hw36
        obtain ⟨i, hi, hi9, rfl⟩ := isN_ex hw36
        refine lv_if_ne (tgt := 46) hx hb dX4_pattern_39 (by decide) (fun hq_9 => ?_) (fun hq_9 => absurd hq_9 (by decide))
        refine lv_iconst (v := nI (0)) hx hb dX4_pattern_46 (by decide) ?_
        refine r_put (C := RX4) (T := TX4) (N := 33) (R' := sfi R 100 5 (nI (0))) hx hb hts hown hK.1 hc (hlv _ rfl) (rfl) rfl rfl hinX4 tyX4 tyX4_ok nmX4 5 (by decide) hf_89 (fun _ h9 => h9) rfl (tyX4_ok 5 (by decide)) rfl rfl dX4_pattern_47 (fds_sfi (by decide) (by decide)) (fun _ h9 => ct_sfi h9) (fun H locs hc => ?_)
        refine lv_aload_n hx hb dX4_pattern_50 rfl (lv_at hl 0 rfl) ?_
        refine r_get (C := RX4) (T := TX4) (N := 33) (v := .int (nI (0))) hx hb hts hown hK.1 hc (hlv _ rfl) (rfl) rfl rfl hinX4 5 (by decide) hf_89 (fun _ h9 => h9) rfl dX4_pattern_51 ?_
        refine lv_if_eq (tgt := 59) hx hb dX4_pattern_54 (by decide) (fun hq_10 => ?_) (fun hq_10 => absurd hq_10 (by decide))
        have hi8 := iv_i hI hj hi
        obtain ⟨z1, hz0, hz1, hz2, rfl⟩ := isR_ex hw16
        refine lv_aload_n hx hb dX4_pattern_59 rfl (lv_at hl 0 rfl) ?_
        refine r_get (C := RX4) (T := TX4) (N := 33) (v := .ref (a (113))) hx hb hts hown hK.1 hc (hlv _ rfl) (rfl) rfl rfl hinX4 13 (by decide) hf_33 (fun _ h9 => h9) (congrArg va_rf (hmr.2 13 rfl)) dX4_pattern_60 ?_
        refine lv_bipush (v := nI (36)) hx hb dX4_pattern_63 (by decide) ?_
        refine lv_iload_n hx hb dX4_pattern_65 rfl (lv_at hl 1 rfl) ?_
        refine nv_imul hx hb dX4_pattern_66 ?_
        refine lv_iload_n hx hb dX4_pattern_67 rfl (lv_at hl 2 rfl) ?_
        refine nv_iadd hx hb dX4_pattern_68 ?_
        refine r_iald (v := nI (kc M j i)) hx hb hK.1 hc (hlv _ rfl) (rfl) (by decide) (by omega) dX4_pattern_69 ((hM.2.2.2.1 _ (by omega) _ (by omega)).1) ?_
        refine lv_istore (lv' := [(4, .int (nI (kc M j i))), (0, .ref (a (100))), (1, .int (nI (j))), (2, .int (nI (i))), (3, .int (nI (z1)))]) hx hb dX4_pattern_70 hl (by decide) rfl (fun ls hl => ?_)
        refine lv_iload_n hx hb dX4_pattern_72 rfl (lv_at hl 4 rfl) ?_
        refine lv_if_ne (tgt := 86) hx hb dX4_pattern_73 (by decide) (fun hq_11 => ?_) (fun hq_11 => ?_)
        · have hq_11 : ¬ (z1 = 0) := fun z => hq_11 ((nI_eq (a := z1) (b := 0) (by omega) (by omega)).mpr z)
          have hz3 : ¬ z1 = 0 := hq_11
          refine lv_iload_n hx hb dX4_pattern_86 rfl (lv_at hl 4 rfl) ?_
          refine lv_iconst (v := nI (1)) hx hb dX4_pattern_87 (by decide) ?_
          refine lv_icmp_ne (tgt := 101) hx hb dX4_pattern_88 (by decide) (fun hq_12 => ?_) (fun hq_12 => ?_)
          · have hq_12 : ¬ (z1 = 1) := fun z => hq_12 ((nI_eq (a := z1) (b := 1) (by omega) (by omega)).mpr z)
            have hz4 : ¬ z1 = 1 := hq_12
            refine lv_aload_n hx hb dX4_pattern_101 rfl (lv_at hl 1 rfl) ?_
            refine r_get (C := RX4) (T := TX4) (N := 33) (v := .ref (a (114))) hx hb hts hown hK.1 hc (hlv _ rfl) (rfl) rfl rfl hinX4 14 (by decide) hf_36 (fun _ h9 => h9) (congrArg va_rf (hmr.2 14 rfl)) dX4_pattern_102 ?_
            refine lv_bipush (v := nI (36)) hx hb dX4_pattern_105 (by decide) ?_
            refine lv_iload_n hx hb dX4_pattern_107 rfl (lv_at hl 2 rfl) ?_
            refine nv_imul hx hb dX4_pattern_108 ?_
            refine lv_iload_n hx hb dX4_pattern_109 rfl (lv_at hl 3 rfl) ?_
            refine nv_iadd hx hb dX4_pattern_110 ?_
            refine r_iald (v := nI (ky M j i)) hx hb hK.1 hc (hlv _ rfl) (rfl) (by decide) (by omega) dX4_pattern_111 ((hM.2.2.2.1 _ (by omega) _ (by omega)).2.1) ?_
            exact r_iret hx hb hr hlocks hc dX4_pattern_112 (by
      have hq9 : oPattern M (nI j) (nI i) (nI z1) = (0, nI (ky M j i), M) := by simp only [oPattern, tN_nI hj9, tN_nI hi9, tN_nI hz2, if_neg hz3, if_neg hz4, if_pos hw3, if_pos hw16, if_pos hw36]
      unfold QM; rw [hq9]
      exact ⟨rfl, rfl, pm_th hM, ((outM.r _).sfi (by decide))⟩)
          · have hq_12 : z1 = 1 := (nI_eq (a := z1) (b := 1) (by omega) (by omega)).mp hq_12
            have hz4 : z1 = 1 := hq_12
            refine lv_iload hx hb dX4_pattern_91 (lv_at hl 0 rfl) ?_
            refine lv_aload_n hx hb dX4_pattern_93 rfl (lv_at hl 1 rfl) ?_
            refine r_get (C := RX4) (T := TX4) (N := 33) (v := .int (nI (mW M))) hx hb hts hown hK.1 hc (hlv _ rfl) (rfl) rfl rfl hinX4 0 (by decide) hf_80 (fun _ h9 => h9) (congrArg Value.int hM.1.1) dX4_pattern_94 ?_
            refine nv_idiv hx hb dX4_pattern_97 (by omega) (by omega) (by omega) ?_
            refine lv_goto (tgt := 112) hx hb dX4_pattern_98 (by decide) ?_
            exact r_iret hx hb hr hlocks hc dX4_pattern_112 (by
      have hq9 : oPattern M (nI j) (nI i) (nI z1) = (0, nI ((kc M j i) / (mW M)), M) := by simp only [oPattern, tN_nI hj9, tN_nI hi9, tN_nI hz2, if_neg hz3, if_pos hz4, if_pos hw3, if_pos hw16, if_pos hw36]
      unfold QM; rw [hq9]
      exact ⟨rfl, rfl, pm_th hM, ((outM.r _).sfi (by decide))⟩)
        · have hq_11 : z1 = 0 := (nI_eq (a := z1) (b := 0) (by omega) (by omega)).mp hq_11
          have hz3 : z1 = 0 := hq_11
          refine lv_iload hx hb dX4_pattern_76 (lv_at hl 0 rfl) ?_
          refine lv_aload_n hx hb dX4_pattern_78 rfl (lv_at hl 1 rfl) ?_
          refine r_get (C := RX4) (T := TX4) (N := 33) (v := .int (nI (mW M))) hx hb hts hown hK.1 hc (hlv _ rfl) (rfl) rfl rfl hinX4 0 (by decide) hf_80 (fun _ h9 => h9) (congrArg Value.int hM.1.1) dX4_pattern_79 ?_
          refine nv_irem hx hb dX4_pattern_82 (by omega) (by omega) (by omega) ?_
          refine lv_goto (tgt := 112) hx hb dX4_pattern_83 (by decide) ?_
          exact r_iret hx hb hr hlocks hc dX4_pattern_112 (by
      have hq9 : oPattern M (nI j) (nI i) (nI z1) = (0, nI ((kc M j i) % (mW M)), M) := by simp only [oPattern, tN_nI hj9, tN_nI hi9, tN_nI hz2, if_pos hz3, if_pos hw3, if_pos hw16, if_pos hw36]
      unfold QM; rw [hq9]
      exact ⟨rfl, rfl, pm_th hM, ((outM.r _).sfi (by decide))⟩)
      · rw [hRe] at hc
        rw [in_iff (by omega)] at hw36
        refine lv_if_ne (tgt := 46) hx hb dX4_pattern_39 (by decide) (fun hq_13 => absurd hq_13 (by decide)) (fun hq_13 => ?_)
        refine lv_iconst (v := nI (3)) hx hb dX4_pattern_42 (by decide) ?_
        refine lv_goto (tgt := 47) hx hb dX4_pattern_43 (by decide) ?_
        refine r_put (C := RX4) (T := TX4) (N := 33) (R' := sfi R 100 5 (nI (3))) hx hb hts hown hK.1 hc (hlv _ rfl) (rfl) rfl rfl hinX4 tyX4 tyX4_ok nmX4 5 (by decide) hf_89 (fun _ h9 => h9) rfl (tyX4_ok 5 (by decide)) rfl rfl dX4_pattern_47 (fds_sfi (by decide) (by decide)) (fun _ h9 => ct_sfi h9) (fun H locs hc => ?_)
        refine lv_aload_n hx hb dX4_pattern_50 rfl (lv_at hl 0 rfl) ?_
        refine r_get (C := RX4) (T := TX4) (N := 33) (v := .int (nI (3))) hx hb hts hown hK.1 hc (hlv _ rfl) (rfl) rfl rfl hinX4 5 (by decide) hf_89 (fun _ h9 => h9) rfl dX4_pattern_51 ?_
        refine lv_if_eq (tgt := 59) hx hb dX4_pattern_54 (by decide) (fun hq_14 => absurd hq_14 (by decide)) (fun hq_14 => ?_)
        refine lv_iconst (v := nI (0)) hx hb dX4_pattern_57 (by decide) ?_
        exact r_iret hx hb hr hlocks hc dX4_pattern_58 (by
      have hq9 : oPattern M (nI j) y z = (3, nI 0, M) := by simp only [oPattern, tN_nI hj9, if_pos hw3, if_pos hw16, if_neg hw36]
      unfold QM; rw [hq9]
      exact ⟨rfl, rfl, pm_th hM, ((outM.r _).sfi (by decide))⟩)
    · rw [hRe] at hc
      rw [w_iff (by decide) (by decide)] at hw16
      refine lv_if_ne (tgt := 26) hx hb dX4_pattern_19 (by decide) (fun hq_15 => absurd hq_15 (by decide)) (fun hq_15 => ?_)
      refine lv_iconst (v := nI (2)) hx hb dX4_pattern_22 (by decide) ?_
      refine lv_goto (tgt := 47) hx hb dX4_pattern_23 (by decide) ?_
      refine r_put (C := RX4) (T := TX4) (N := 33) (R' := sfi R 100 5 (nI (2))) hx hb hts hown hK.1 hc (hlv _ rfl) (rfl) rfl rfl hinX4 tyX4 tyX4_ok nmX4 5 (by decide) hf_89 (fun _ h9 => h9) rfl (tyX4_ok 5 (by decide)) rfl rfl dX4_pattern_47 (fds_sfi (by decide) (by decide)) (fun _ h9 => ct_sfi h9) (fun H locs hc => ?_)
      refine lv_aload_n hx hb dX4_pattern_50 rfl (lv_at hl 0 rfl) ?_
      refine r_get (C := RX4) (T := TX4) (N := 33) (v := .int (nI (2))) hx hb hts hown hK.1 hc (hlv _ rfl) (rfl) rfl rfl hinX4 5 (by decide) hf_89 (fun _ h9 => h9) rfl dX4_pattern_51 ?_
      refine lv_if_eq (tgt := 59) hx hb dX4_pattern_54 (by decide) (fun hq_16 => absurd hq_16 (by decide)) (fun hq_16 => ?_)
      refine lv_iconst (v := nI (0)) hx hb dX4_pattern_57 (by decide) ?_
      exact r_iret hx hb hr hlocks hc dX4_pattern_58 (by
      have hq9 : oPattern M (nI j) y z = (2, nI 0, M) := by simp only [oPattern, tN_nI hj9, if_pos hw3, if_neg hw16]
      unfold QM; rw [hq9]
      exact ⟨rfl, rfl, pm_th hM, ((outM.r _).sfi (by decide))⟩)
  · rw [hRe] at hc
    refine lv_if_ne (tgt := 13) hx hb dX4_pattern_6 (by decide) (fun hq_17 => absurd hq_17 (by decide)) (fun hq_17 => ?_)
    refine lv_iconst (v := nI (1)) hx hb dX4_pattern_9 (by decide) ?_
    refine lv_goto (tgt := 47) hx hb dX4_pattern_10 (by decide) ?_
    refine r_put (C := RX4) (T := TX4) (N := 33) (R' := sfi R 100 5 (nI (1))) hx hb hts hown hK.1 hc (hlv _ rfl) (rfl) rfl rfl hinX4 tyX4 tyX4_ok nmX4 5 (by decide) hf_89 (fun _ h9 => h9) rfl (tyX4_ok 5 (by decide)) rfl rfl dX4_pattern_47 (fds_sfi (by decide) (by decide)) (fun _ h9 => ct_sfi h9) (fun H locs hc => ?_)
    refine lv_aload_n hx hb dX4_pattern_50 rfl (lv_at hl 0 rfl) ?_
    refine r_get (C := RX4) (T := TX4) (N := 33) (v := .int (nI (1))) hx hb hts hown hK.1 hc (hlv _ rfl) (rfl) rfl rfl hinX4 5 (by decide) hf_89 (fun _ h9 => h9) rfl dX4_pattern_51 ?_
    refine lv_if_eq (tgt := 59) hx hb dX4_pattern_54 (by decide) (fun hq_18 => absurd hq_18 (by decide)) (fun hq_18 => ?_)
    refine lv_iconst (v := nI (0)) hx hb dX4_pattern_57 (by decide) ?_
    exact r_iret hx hb hr hlocks hc dX4_pattern_58 (by
      have hq9 : oPattern M x y z = (1, nI 0, M) := by simp only [oPattern, if_neg hw3]
      unfold QM; rw [hq9]
      exact ⟨rfl, rfl, pm_th hM, ((outM.r _).sfi (by decide))⟩)
set_option maxRecDepth 100000 in
set_option maxHeartbeats 4000000 in
theorem c_X4_kind (l : Launch) (D : va_G) (g : Nat → ClassId) (lv : Nat → Bool) (a : Nat → Nat) (R : RS) (M : MS) (hmr : PMr R a lv) (hM : PM R M) (hI : Inv M) (x y z u : Int32) : cI l D g lv a yX4_kind wsX4_kind ({ frames := 1, cells := 0, slots := 0, locals := 22 } : Room) [.ref (a (100)), .int (x), .int (y), .int (z), .int (u)] R (QM R (oKind M x y z u)) 0 0 := by
  refine c_body (cc := cX4_kind) (maxL := 6) (ret := (some .int)) (by decide) rfl (Nat.le_of_ble_eq_true rfl) ?_
  intro pr en st mi bl me co ls B hl
  obtain ⟨hx, hb, hr, hml, hown, hts, hlocks, hnm, hK, hZ, hc, hA⟩ := B
  have hl : lv_has ls 6 [(0, .ref (a (100))), (1, .int (x)), (2, .int (y)), (3, .int (z)), (4, .int (u))] := hl
  have hinX4 : ∀ w ∈ u_ws RX4 TX4 33, w ∈ wsX4_kind := (fun _ h => List.mem_cons_of_mem _ (List.mem_append_left _ (List.mem_append_right _ h)))
  have hf_7 := hts (.fieldLink RX4 7 "PalletLayersModel" "wide" "[I") (by decide +kernel)
  have hf_13 := hts (.fieldLink RX4 13 "PalletLayersModel" "deep" "[I") (by decide +kernel)
  have hf_16 := hts (.fieldLink RX4 16 "PalletLayersModel" "high" "[I") (by decide +kernel)
  have hf_19 := hts (.fieldLink RX4 19 "PalletLayersModel" "heavy" "[I") (by decide +kernel)
  have hf_89 := hts (.fieldLink RX4 89 "PalletLayersModel" "thrown" "I") (by decide +kernel)
  have hf_92 := hts (.fieldLink RX4 92 "PalletLayersModel" "kinds" "I") (by decide +kernel)
  have hlv := hmr.1
  have hb9 := iv_b hI
  refine lv_iload_n hx hb dX4_kind_0 rfl (lv_at hl 1 rfl) ?_
  refine lv_iconst (v := nI (1)) hx hb dX4_kind_1 (by decide) ?_
  refine lv_bipush (v := nI (6)) hx hb dX4_kind_2 (by decide) ?_
  refine r_calli hc hA (va_runS (As := [.int (x), .int (nI (1)), .int (nI (6))]) (rest := []) ⟨hx, hb, hml, hown, hts⟩ (c_X4_within l D g lv a R x (nI (1)) (nI (6)) _) (va_cwS 3 hts gX4_kind_X4_within rfl rfl rfl (by decide +kernel) ⟨Nat.le_of_ble_eq_true rfl, Nat.le_of_ble_eq_true rfl⟩) (r_preS hK hZ hc hA) rfl rfl hl.1 rfl (lv_room (Nat.le_of_ble_eq_true rfl)) dX4_kind_4 ⟨Nat.le_of_ble_eq_true rfl, Nat.le_of_ble_eq_true rfl⟩) (fun r R' H locs hp hc => ?_)
  obtain ⟨hRe, ⟨hw4, rfl⟩ | ⟨hw4, rfl⟩⟩ := hp
  · rw [hRe] at hc
    rw [w_iff (by decide) (by decide)] at hw4
    refine lv_if_eq (tgt := 45) hx hb dX4_kind_7 (by decide) (fun hq_3 => absurd hq_3 (by decide)) (fun hq_3 => ?_)
    refine lv_iload_n hx hb dX4_kind_10 rfl (lv_at hl 2 rfl) ?_
    refine lv_iconst (v := nI (1)) hx hb dX4_kind_11 (by decide) ?_
    refine lv_bipush (v := nI (6)) hx hb dX4_kind_12 (by decide) ?_
    refine r_calli hc hA (va_runS (As := [.int (y), .int (nI (1)), .int (nI (6))]) (rest := []) ⟨hx, hb, hml, hown, hts⟩ (c_X4_within l D g lv a R y (nI (1)) (nI (6)) _) (va_cwS 3 hts gX4_kind_X4_within rfl rfl rfl (by decide +kernel) ⟨Nat.le_of_ble_eq_true rfl, Nat.le_of_ble_eq_true rfl⟩) (r_preS hK hZ hc hA) rfl rfl hl.1 rfl (lv_room (Nat.le_of_ble_eq_true rfl)) dX4_kind_14 ⟨Nat.le_of_ble_eq_true rfl, Nat.le_of_ble_eq_true rfl⟩) (fun r R' H locs hp hc => ?_)
    obtain ⟨hRe, ⟨hw14, rfl⟩ | ⟨hw14, rfl⟩⟩ := hp
    · rw [hRe] at hc
      rw [w_iff (by decide) (by decide)] at hw14
      refine lv_if_eq (tgt := 45) hx hb dX4_kind_17 (by decide) (fun hq_6 => absurd hq_6 (by decide)) (fun hq_6 => ?_)
      refine lv_iload_n hx hb dX4_kind_20 rfl (lv_at hl 3 rfl) ?_
      refine lv_iconst (v := nI (1)) hx hb dX4_kind_21 (by decide) ?_
      refine lv_bipush (v := nI (6)) hx hb dX4_kind_22 (by decide) ?_
      refine r_calli hc hA (va_runS (As := [.int (z), .int (nI (1)), .int (nI (6))]) (rest := []) ⟨hx, hb, hml, hown, hts⟩ (c_X4_within l D g lv a R z (nI (1)) (nI (6)) _) (va_cwS 3 hts gX4_kind_X4_within rfl rfl rfl (by decide +kernel) ⟨Nat.le_of_ble_eq_true rfl, Nat.le_of_ble_eq_true rfl⟩) (r_preS hK hZ hc hA) rfl rfl hl.1 rfl (lv_room (Nat.le_of_ble_eq_true rfl)) dX4_kind_24 ⟨Nat.le_of_ble_eq_true rfl, Nat.le_of_ble_eq_true rfl⟩) (fun r R' H locs hp hc => ?_)
      obtain ⟨hRe, ⟨hw24, rfl⟩ | ⟨hw24, rfl⟩⟩ := hp
      · rw [hRe] at hc
        rw [w_iff (by decide) (by decide)] at hw24
        refine lv_if_eq (tgt := 45) hx hb dX4_kind_27 (by decide) (fun hq_9 => absurd hq_9 (by decide)) (fun hq_9 => ?_)
        refine lv_iload hx hb dX4_kind_30 (lv_at hl 4 rfl) ?_
        refine lv_iconst (v := nI (0)) hx hb dX4_kind_32 (by decide) ?_
        refine lv_bipush (v := nI (100)) hx hb dX4_kind_33 (by decide) ?_
        refine r_calli hc hA (va_runS (As := [.int (u), .int (nI (0)), .int (nI (100))]) (rest := []) ⟨hx, hb, hml, hown, hts⟩ (c_X4_within l D g lv a R u (nI (0)) (nI (100)) _) (va_cwS 3 hts gX4_kind_X4_within rfl rfl rfl (by decide +kernel) ⟨Nat.le_of_ble_eq_true rfl, Nat.le_of_ble_eq_true rfl⟩) (r_preS hK hZ hc hA) rfl rfl hl.1 rfl (lv_room (Nat.le_of_ble_eq_true rfl)) dX4_kind_35 ⟨Nat.le_of_ble_eq_true rfl, Nat.le_of_ble_eq_true rfl⟩) (fun r R' H locs hp hc => ?_)
        obtain ⟨hRe, ⟨hw35, rfl⟩ | ⟨hw35, rfl⟩⟩ := hp
        · rw [hRe] at hc
          rw [w_iff (by decide) (by decide)] at hw35
          refine lv_if_eq (tgt := 45) hx hb dX4_kind_38 (by decide) (fun hq_12 => absurd hq_12 (by decide)) (fun hq_12 => ?_)
          refine lv_iconst (v := nI (1)) hx hb dX4_kind_41 (by decide) ?_
          refine lv_goto (tgt := 46) hx hb dX4_kind_42 (by decide) ?_
          refine lv_istore (lv' := [(5, .int (nI (1))), (0, .ref (a (100))), (1, .int (x)), (2, .int (y)), (3, .int (z)), (4, .int (u))]) hx hb dX4_kind_46 hl (by decide) rfl (fun ls hl => ?_)
          refine lv_aload_n hx hb dX4_kind_48 rfl (lv_at hl 1 rfl) ?_
          refine lv_iload hx hb dX4_kind_49 (lv_at hl 0 rfl) ?_
          refine lv_if_ne (tgt := 58) hx hb dX4_kind_51 (by decide) (fun hq_13 => ?_) (fun hq_13 => absurd hq_13 (by decide))
          refine lv_aload_n hx hb dX4_kind_58 rfl (lv_at hl 1 rfl) ?_
          refine r_get (C := RX4) (T := TX4) (N := 33) (v := .int (nI (mnk M))) hx hb hts hown hK.1 hc (hlv _ rfl) (rfl) rfl rfl hinX4 3 (by decide) hf_92 (fun _ h9 => h9) (congrArg Value.int hM.1.2.2.2.1) dX4_kind_59 ?_
          refine lv_bipush (v := nI (6)) hx hb dX4_kind_62 (by decide) ?_
          refine lv_icmp_ne (tgt := 71) hx hb dX4_kind_64 (by decide) (fun hq_14 => ?_) (fun hq_14 => ?_)
          · have hq_14 : ¬ ((mnk M) = 6) := fun z => hq_14 ((nI_eq (a := (mnk M)) (b := 6) (by omega) (by omega)).mpr z)
            have hn6 : ¬ mnk M = 6 := hq_14
            refine lv_iconst (v := nI (0)) hx hb dX4_kind_71 (by decide) ?_
            refine r_put (C := RX4) (T := TX4) (N := 33) (R' := sfi R 100 5 (nI (0))) hx hb hts hown hK.1 hc (hlv _ rfl) (rfl) rfl rfl hinX4 tyX4 tyX4_ok nmX4 5 (by decide) hf_89 (fun _ h9 => h9) rfl (tyX4_ok 5 (by decide)) rfl rfl dX4_kind_72 (fds_sfi (by decide) (by decide)) (fun _ h9 => ct_sfi h9) (fun H locs hc => ?_)
            refine lv_aload_n hx hb dX4_kind_75 rfl (lv_at hl 1 rfl) ?_
            refine r_get (C := RX4) (T := TX4) (N := 33) (v := .int (nI (0))) hx hb hts hown hK.1 hc (hlv _ rfl) (rfl) rfl rfl hinX4 5 (by decide) hf_89 (fun _ h9 => h9) rfl dX4_kind_76 ?_
            refine lv_if_eq (tgt := 84) hx hb dX4_kind_79 (by decide) (fun hq_15 => ?_) (fun hq_15 => absurd hq_15 (by decide))
            obtain ⟨x1, hx0, hx1, hx2, rfl⟩ := isR_ex hw4
            obtain ⟨y1, hy0, hy1, hy2, rfl⟩ := isR_ex hw14
            obtain ⟨z1, hz0, hz1, hz2, rfl⟩ := isR_ex hw24
            obtain ⟨u1, hu0, hu1, hu2, rfl⟩ := isR_ex hw35
            refine lv_aload_n hx hb dX4_kind_84 rfl (lv_at hl 1 rfl) ?_
            refine r_get (C := RX4) (T := TX4) (N := 33) (v := .ref (a (106))) hx hb hts hown hK.1 hc (hlv _ rfl) (rfl) rfl rfl hinX4 6 (by decide) hf_7 (fun _ h9 => h9) (congrArg va_rf (hmr.2 6 rfl)) dX4_kind_85 ?_
            refine lv_aload_n hx hb dX4_kind_88 rfl (lv_at hl 1 rfl) ?_
            refine r_get (C := RX4) (T := TX4) (N := 33) (v := .int (nI (mnk M))) hx hb hts hown hK.1 hc (hlv _ rfl) (rfl) rfl rfl hinX4 3 (by decide) hf_92 (fun _ h9 => h9) (congrArg Value.int hM.1.2.2.2.1) dX4_kind_89 ?_
            refine lv_iload_n hx hb dX4_kind_92 rfl (lv_at hl 2 rfl) ?_
            refine r_iast hx hb hK.1 hc (hlv _ rfl) (rfl) (by decide) (by omega) dX4_kind_93 (fun H locs hc => ?_)
            refine lv_aload_n hx hb dX4_kind_94 rfl (lv_at hl 1 rfl) ?_
            refine r_get (C := RX4) (T := TX4) (N := 33) (v := .ref (a (107))) hx hb hts hown hK.1 hc (hlv _ rfl) (rfl) rfl rfl hinX4 7 (by decide) hf_13 (fun _ h9 => h9) (congrArg va_rf (hmr.2 7 rfl)) dX4_kind_95 ?_
            refine lv_aload_n hx hb dX4_kind_98 rfl (lv_at hl 1 rfl) ?_
            refine r_get (C := RX4) (T := TX4) (N := 33) (v := .int (nI (mnk M))) hx hb hts hown hK.1 hc (hlv _ rfl) (rfl) rfl rfl hinX4 3 (by decide) hf_92 (fun _ h9 => h9) (congrArg Value.int hM.1.2.2.2.1) dX4_kind_99 ?_
            refine lv_iload_n hx hb dX4_kind_102 rfl (lv_at hl 3 rfl) ?_
            refine r_iast hx hb hK.1 hc (hlv _ rfl) (rfl) (by decide) (by omega) dX4_kind_103 (fun H locs hc => ?_)
            refine lv_aload_n hx hb dX4_kind_104 rfl (lv_at hl 1 rfl) ?_
            refine r_get (C := RX4) (T := TX4) (N := 33) (v := .ref (a (108))) hx hb hts hown hK.1 hc (hlv _ rfl) (rfl) rfl rfl hinX4 8 (by decide) hf_16 (fun _ h9 => h9) (congrArg va_rf (hmr.2 8 rfl)) dX4_kind_105 ?_
            refine lv_aload_n hx hb dX4_kind_108 rfl (lv_at hl 1 rfl) ?_
            refine r_get (C := RX4) (T := TX4) (N := 33) (v := .int (nI (mnk M))) hx hb hts hown hK.1 hc (hlv _ rfl) (rfl) rfl rfl hinX4 3 (by decide) hf_92 (fun _ h9 => h9) (congrArg Value.int hM.1.2.2.2.1) dX4_kind_109 ?_
            refine lv_iload_n hx hb dX4_kind_112 rfl (lv_at hl 4 rfl) ?_
            refine r_iast hx hb hK.1 hc (hlv _ rfl) (rfl) (by decide) (by omega) dX4_kind_113 (fun H locs hc => ?_)
            refine lv_aload_n hx hb dX4_kind_114 rfl (lv_at hl 1 rfl) ?_
            refine r_get (C := RX4) (T := TX4) (N := 33) (v := .ref (a (109))) hx hb hts hown hK.1 hc (hlv _ rfl) (rfl) rfl rfl hinX4 9 (by decide) hf_19 (fun _ h9 => h9) (congrArg va_rf (hmr.2 9 rfl)) dX4_kind_115 ?_
            refine lv_aload_n hx hb dX4_kind_118 rfl (lv_at hl 1 rfl) ?_
            refine r_get (C := RX4) (T := TX4) (N := 33) (v := .int (nI (mnk M))) hx hb hts hown hK.1 hc (hlv _ rfl) (rfl) rfl rfl hinX4 3 (by decide) hf_92 (fun _ h9 => h9) (congrArg Value.int hM.1.2.2.2.1) dX4_kind_119 ?_
            refine lv_iload hx hb dX4_kind_122 (lv_at hl 5 rfl) ?_
            refine r_iast hx hb hK.1 hc (hlv _ rfl) (rfl) (by decide) (by omega) dX4_kind_124 (fun H locs hc => ?_)
            refine lv_aload_n hx hb dX4_kind_125 rfl (lv_at hl 1 rfl) ?_
            refine lv_dup hx hb dX4_kind_126 rfl ?_
            refine r_get (C := RX4) (T := TX4) (N := 33) (v := .int (nI (mnk M))) hx hb hts hown hK.1 hc (hlv _ rfl) (rfl) rfl rfl hinX4 3 (by decide) hf_92 (fun _ h9 => h9) (congrArg Value.int hM.1.2.2.2.1) dX4_kind_127 ?_
            refine lv_iconst (v := nI (1)) hx hb dX4_kind_130 (by decide) ?_
            refine nv_iadd hx hb dX4_kind_131 ?_
            refine r_put (C := RX4) (T := TX4) (N := 33) (R' := sfi (sai (sai (sai (sai (sfi R 100 5 (nI (0))) 106 (mnk M) (nI (x1))) 107 (mnk M) (nI (y1))) 108 (mnk M) (nI (z1))) 109 (mnk M) (nI (u1))) 100 3 (nI ((mnk M) + 1))) hx hb hts hown hK.1 hc (hlv _ rfl) (rfl) rfl rfl hinX4 tyX4 tyX4_ok nmX4 3 (by decide) hf_92 (fun _ h9 => h9) rfl (tyX4_ok 3 (by decide)) rfl rfl dX4_kind_132 (fds_sfi (by decide) (by decide)) (fun _ h9 => ct_sfi h9) (fun H locs hc => ?_)
            refine lv_aload_n hx hb dX4_kind_135 rfl (lv_at hl 1 rfl) ?_
            refine r_get (C := RX4) (T := TX4) (N := 33) (v := .int (nI ((mnk M) + 1))) hx hb hts hown hK.1 hc (hlv _ rfl) (rfl) rfl rfl hinX4 3 (by decide) hf_92 (fun _ h9 => h9) rfl dX4_kind_136 ?_
            refine lv_iconst (v := nI (1)) hx hb dX4_kind_139 (by decide) ?_
            refine nv_isub hx hb dX4_kind_140 (by omega) ?_
            rw [Nat.add_sub_cancel]
            exact r_iret hx hb hr hlocks hc dX4_kind_141 (by
      have hq9 : oKind M (nI x1) (nI y1) (nI z1) (nI u1) = (0, nI (mnk M), nKind M x1 y1 z1 u1) := by simp only [oKind, tN_nI hx2, tN_nI hy2, tN_nI hz2, tN_nI hu2, if_pos hw4, if_pos hw14, if_pos hw24, if_pos hw35, if_neg hn6]
      unfold QM; rw [hq9]
      exact ⟨rfl, rfl, pm_kind hM (by omega), (((((((outM.r _).sfi (by decide)).sai (by decide)).sai (by decide)).sai (by decide)).sai (by decide)).sfi (by decide))⟩)
          · have hq_14 : (mnk M) = 6 := (nI_eq (a := (mnk M)) (b := 6) (by omega) (by omega)).mp hq_14
            have hn6 : mnk M = 6 := hq_14
            refine lv_iconst (v := nI (2)) hx hb dX4_kind_67 (by decide) ?_
            refine lv_goto (tgt := 72) hx hb dX4_kind_68 (by decide) ?_
            refine r_put (C := RX4) (T := TX4) (N := 33) (R' := sfi R 100 5 (nI (2))) hx hb hts hown hK.1 hc (hlv _ rfl) (rfl) rfl rfl hinX4 tyX4 tyX4_ok nmX4 5 (by decide) hf_89 (fun _ h9 => h9) rfl (tyX4_ok 5 (by decide)) rfl rfl dX4_kind_72 (fds_sfi (by decide) (by decide)) (fun _ h9 => ct_sfi h9) (fun H locs hc => ?_)
            refine lv_aload_n hx hb dX4_kind_75 rfl (lv_at hl 1 rfl) ?_
            refine r_get (C := RX4) (T := TX4) (N := 33) (v := .int (nI (2))) hx hb hts hown hK.1 hc (hlv _ rfl) (rfl) rfl rfl hinX4 5 (by decide) hf_89 (fun _ h9 => h9) rfl dX4_kind_76 ?_
            refine lv_if_eq (tgt := 84) hx hb dX4_kind_79 (by decide) (fun hq_16 => absurd hq_16 (by decide)) (fun hq_16 => ?_)
            refine lv_iconst (v := nI (0)) hx hb dX4_kind_82 (by decide) ?_
            exact r_iret hx hb hr hlocks hc dX4_kind_83 (by
      have hq9 : oKind M x y z u = (2, nI 0, M) := by simp only [oKind, if_pos hw4, if_pos hw14, if_pos hw24, if_pos hw35, if_pos hn6]
      unfold QM; rw [hq9]
      exact ⟨rfl, rfl, pm_th hM, ((outM.r _).sfi (by decide))⟩)
        · rw [hRe] at hc
          rw [w_iff (by decide) (by decide)] at hw35
          refine lv_if_eq (tgt := 45) hx hb dX4_kind_38 (by decide) (fun hq_17 => ?_) (fun hq_17 => absurd hq_17 (by decide))
          refine lv_iconst (v := nI (0)) hx hb dX4_kind_45 (by decide) ?_
          refine lv_istore (lv' := [(5, .int (nI (0))), (0, .ref (a (100))), (1, .int (x)), (2, .int (y)), (3, .int (z)), (4, .int (u))]) hx hb dX4_kind_46 hl (by decide) rfl (fun ls hl => ?_)
          refine lv_aload_n hx hb dX4_kind_48 rfl (lv_at hl 1 rfl) ?_
          refine lv_iload hx hb dX4_kind_49 (lv_at hl 0 rfl) ?_
          refine lv_if_ne (tgt := 58) hx hb dX4_kind_51 (by decide) (fun hq_18 => absurd hq_18 (by decide)) (fun hq_18 => ?_)
          refine lv_iconst (v := nI (1)) hx hb dX4_kind_54 (by decide) ?_
          refine lv_goto (tgt := 72) hx hb dX4_kind_55 (by decide) ?_
          refine r_put (C := RX4) (T := TX4) (N := 33) (R' := sfi R 100 5 (nI (1))) hx hb hts hown hK.1 hc (hlv _ rfl) (rfl) rfl rfl hinX4 tyX4 tyX4_ok nmX4 5 (by decide) hf_89 (fun _ h9 => h9) rfl (tyX4_ok 5 (by decide)) rfl rfl dX4_kind_72 (fds_sfi (by decide) (by decide)) (fun _ h9 => ct_sfi h9) (fun H locs hc => ?_)
          refine lv_aload_n hx hb dX4_kind_75 rfl (lv_at hl 1 rfl) ?_
          refine r_get (C := RX4) (T := TX4) (N := 33) (v := .int (nI (1))) hx hb hts hown hK.1 hc (hlv _ rfl) (rfl) rfl rfl hinX4 5 (by decide) hf_89 (fun _ h9 => h9) rfl dX4_kind_76 ?_
          refine lv_if_eq (tgt := 84) hx hb dX4_kind_79 (by decide) (fun hq_19 => absurd hq_19 (by decide)) (fun hq_19 => ?_)
          refine lv_iconst (v := nI (0)) hx hb dX4_kind_82 (by decide) ?_
          exact r_iret hx hb hr hlocks hc dX4_kind_83 (by
      have hq9 : oKind M x y z u = (1, nI 0, M) := by simp only [oKind, if_pos hw4, if_pos hw14, if_pos hw24, if_neg hw35]
      unfold QM; rw [hq9]
      exact ⟨rfl, rfl, pm_th hM, ((outM.r _).sfi (by decide))⟩)
      · rw [hRe] at hc
        rw [w_iff (by decide) (by decide)] at hw24
        refine lv_if_eq (tgt := 45) hx hb dX4_kind_27 (by decide) (fun hq_20 => ?_) (fun hq_20 => absurd hq_20 (by decide))
        refine lv_iconst (v := nI (0)) hx hb dX4_kind_45 (by decide) ?_
        refine lv_istore (lv' := [(5, .int (nI (0))), (0, .ref (a (100))), (1, .int (x)), (2, .int (y)), (3, .int (z)), (4, .int (u))]) hx hb dX4_kind_46 hl (by decide) rfl (fun ls hl => ?_)
        refine lv_aload_n hx hb dX4_kind_48 rfl (lv_at hl 1 rfl) ?_
        refine lv_iload hx hb dX4_kind_49 (lv_at hl 0 rfl) ?_
        refine lv_if_ne (tgt := 58) hx hb dX4_kind_51 (by decide) (fun hq_21 => absurd hq_21 (by decide)) (fun hq_21 => ?_)
        refine lv_iconst (v := nI (1)) hx hb dX4_kind_54 (by decide) ?_
        refine lv_goto (tgt := 72) hx hb dX4_kind_55 (by decide) ?_
        refine r_put (C := RX4) (T := TX4) (N := 33) (R' := sfi R 100 5 (nI (1))) hx hb hts hown hK.1 hc (hlv _ rfl) (rfl) rfl rfl hinX4 tyX4 tyX4_ok nmX4 5 (by decide) hf_89 (fun _ h9 => h9) rfl (tyX4_ok 5 (by decide)) rfl rfl dX4_kind_72 (fds_sfi (by decide) (by decide)) (fun _ h9 => ct_sfi h9) (fun H locs hc => ?_)
        refine lv_aload_n hx hb dX4_kind_75 rfl (lv_at hl 1 rfl) ?_
        refine r_get (C := RX4) (T := TX4) (N := 33) (v := .int (nI (1))) hx hb hts hown hK.1 hc (hlv _ rfl) (rfl) rfl rfl hinX4 5 (by decide) hf_89 (fun _ h9 => h9) rfl dX4_kind_76 ?_
        refine lv_if_eq (tgt := 84) hx hb dX4_kind_79 (by decide) (fun hq_22 => absurd hq_22 (by decide)) (fun hq_22 => ?_)
        refine lv_iconst (v := nI (0)) hx hb dX4_kind_82 (by decide) ?_
        exact r_iret hx hb hr hlocks hc dX4_kind_83 (by
      have hq9 : oKind M x y z u = (1, nI 0, M) := by simp only [oKind, if_pos hw4, if_pos hw14, if_neg hw24]
      unfold QM; rw [hq9]
      exact ⟨rfl, rfl, pm_th hM, ((outM.r _).sfi (by decide))⟩)
    · rw [hRe] at hc
      rw [w_iff (by decide) (by decide)] at hw14
      refine lv_if_eq (tgt := 45) hx hb dX4_kind_17 (by decide) (fun hq_23 => ?_) (fun hq_23 => absurd hq_23 (by decide))
      refine lv_iconst (v := nI (0)) hx hb dX4_kind_45 (by decide) ?_
      refine lv_istore (lv' := [(5, .int (nI (0))), (0, .ref (a (100))), (1, .int (x)), (2, .int (y)), (3, .int (z)), (4, .int (u))]) hx hb dX4_kind_46 hl (by decide) rfl (fun ls hl => ?_)
      refine lv_aload_n hx hb dX4_kind_48 rfl (lv_at hl 1 rfl) ?_
      refine lv_iload hx hb dX4_kind_49 (lv_at hl 0 rfl) ?_
      refine lv_if_ne (tgt := 58) hx hb dX4_kind_51 (by decide) (fun hq_24 => absurd hq_24 (by decide)) (fun hq_24 => ?_)
      refine lv_iconst (v := nI (1)) hx hb dX4_kind_54 (by decide) ?_
      refine lv_goto (tgt := 72) hx hb dX4_kind_55 (by decide) ?_
      refine r_put (C := RX4) (T := TX4) (N := 33) (R' := sfi R 100 5 (nI (1))) hx hb hts hown hK.1 hc (hlv _ rfl) (rfl) rfl rfl hinX4 tyX4 tyX4_ok nmX4 5 (by decide) hf_89 (fun _ h9 => h9) rfl (tyX4_ok 5 (by decide)) rfl rfl dX4_kind_72 (fds_sfi (by decide) (by decide)) (fun _ h9 => ct_sfi h9) (fun H locs hc => ?_)
      refine lv_aload_n hx hb dX4_kind_75 rfl (lv_at hl 1 rfl) ?_
      refine r_get (C := RX4) (T := TX4) (N := 33) (v := .int (nI (1))) hx hb hts hown hK.1 hc (hlv _ rfl) (rfl) rfl rfl hinX4 5 (by decide) hf_89 (fun _ h9 => h9) rfl dX4_kind_76 ?_
      refine lv_if_eq (tgt := 84) hx hb dX4_kind_79 (by decide) (fun hq_25 => absurd hq_25 (by decide)) (fun hq_25 => ?_)
      refine lv_iconst (v := nI (0)) hx hb dX4_kind_82 (by decide) ?_
      exact r_iret hx hb hr hlocks hc dX4_kind_83 (by
      have hq9 : oKind M x y z u = (1, nI 0, M) := by simp only [oKind, if_pos hw4, if_neg hw14]
      unfold QM; rw [hq9]
      exact ⟨rfl, rfl, pm_th hM, ((outM.r _).sfi (by decide))⟩)
  · rw [hRe] at hc
    rw [w_iff (by decide) (by decide)] at hw4
    refine lv_if_eq (tgt := 45) hx hb dX4_kind_7 (by decide) (fun hq_26 => ?_) (fun hq_26 => absurd hq_26 (by decide))
    refine lv_iconst (v := nI (0)) hx hb dX4_kind_45 (by decide) ?_
    refine lv_istore (lv' := [(5, .int (nI (0))), (0, .ref (a (100))), (1, .int (x)), (2, .int (y)), (3, .int (z)), (4, .int (u))]) hx hb dX4_kind_46 hl (by decide) rfl (fun ls hl => ?_)
    refine lv_aload_n hx hb dX4_kind_48 rfl (lv_at hl 1 rfl) ?_
    refine lv_iload hx hb dX4_kind_49 (lv_at hl 0 rfl) ?_
    refine lv_if_ne (tgt := 58) hx hb dX4_kind_51 (by decide) (fun hq_27 => absurd hq_27 (by decide)) (fun hq_27 => ?_)
    refine lv_iconst (v := nI (1)) hx hb dX4_kind_54 (by decide) ?_
    refine lv_goto (tgt := 72) hx hb dX4_kind_55 (by decide) ?_
    refine r_put (C := RX4) (T := TX4) (N := 33) (R' := sfi R 100 5 (nI (1))) hx hb hts hown hK.1 hc (hlv _ rfl) (rfl) rfl rfl hinX4 tyX4 tyX4_ok nmX4 5 (by decide) hf_89 (fun _ h9 => h9) rfl (tyX4_ok 5 (by decide)) rfl rfl dX4_kind_72 (fds_sfi (by decide) (by decide)) (fun _ h9 => ct_sfi h9) (fun H locs hc => ?_)
    refine lv_aload_n hx hb dX4_kind_75 rfl (lv_at hl 1 rfl) ?_
    refine r_get (C := RX4) (T := TX4) (N := 33) (v := .int (nI (1))) hx hb hts hown hK.1 hc (hlv _ rfl) (rfl) rfl rfl hinX4 5 (by decide) hf_89 (fun _ h9 => h9) rfl dX4_kind_76 ?_
    refine lv_if_eq (tgt := 84) hx hb dX4_kind_79 (by decide) (fun hq_28 => absurd hq_28 (by decide)) (fun hq_28 => ?_)
    refine lv_iconst (v := nI (0)) hx hb dX4_kind_82 (by decide) ?_
    exact r_iret hx hb hr hlocks hc dX4_kind_83 (by
      have hq9 : oKind M x y z u = (1, nI 0, M) := by simp only [oKind, if_neg hw4]
      unfold QM; rw [hq9]
      exact ⟨rfl, rfl, pm_th hM, ((outM.r _).sfi (by decide))⟩)
set_option maxRecDepth 100000 in
set_option maxHeartbeats 4000000 in
theorem c_X4_pallet (l : Launch) (D : va_G) (g : Nat → ClassId) (lv : Nat → Bool) (a : Nat → Nat) (R : RS) (M : MS) (hmr : PMr R a lv) (hM : PM R M) (hI : Inv M)  : cI l D g lv a yX4_pallet wsX4_pallet ({ frames := 0, cells := 0, slots := 0, locals := 0 } : Room) [.ref (a (100))] R (QM R (oPallet M)) 0 0 := by
  refine c_body (cc := cX4_pallet) (maxL := 1) (ret := (some .int)) (by decide) rfl (Nat.le_of_ble_eq_true rfl) ?_
  intro pr en st mi bl me co ls B hl
  obtain ⟨hx, hb, hr, hml, hown, hts, hlocks, hnm, hK, hZ, hc, hA⟩ := B
  have hl : lv_has ls 1 [(0, .ref (a (100)))] := hl
  have hinX4 : ∀ w ∈ u_ws RX4 TX4 33, w ∈ wsX4_pallet := (fun _ h => List.mem_cons_of_mem _ (List.mem_append_left _ (List.mem_append_right _ h)))
  have hf_49 := hts (.fieldLink RX4 49 "PalletLayersModel" "layers" "[I") (by decide +kernel)
  have hf_58 := hts (.fieldLink RX4 58 "PalletLayersModel" "stop" "[I") (by decide +kernel)
  have hf_89 := hts (.fieldLink RX4 89 "PalletLayersModel" "thrown" "I") (by decide +kernel)
  have hf_99 := hts (.fieldLink RX4 99 "PalletLayersModel" "pallets" "I") (by decide +kernel)
  have hlv := hmr.1
  have hb9 := iv_b hI
  refine lv_aload_n hx hb dX4_pallet_0 rfl (lv_at hl 0 rfl) ?_
  refine lv_aload_n hx hb dX4_pallet_1 rfl (lv_at hl 0 rfl) ?_
  refine r_get (C := RX4) (T := TX4) (N := 33) (v := .int (nI (mnp M))) hx hb hts hown hK.1 hc (hlv _ rfl) (rfl) rfl rfl hinX4 4 (by decide) hf_99 (fun _ h9 => h9) (congrArg Value.int hM.1.2.2.2.2.1) dX4_pallet_2 ?_
  refine lv_bipush (v := nI (8)) hx hb dX4_pallet_5 (by decide) ?_
  refine lv_icmp_ne (tgt := 14) hx hb dX4_pallet_7 (by decide) (fun hq_1 => ?_) (fun hq_1 => ?_)
  · have hq_1 : ¬ ((mnp M) = 8) := fun z => hq_1 ((nI_eq (a := (mnp M)) (b := 8) (by omega) (by omega)).mpr z)
    have hn8 : ¬ mnp M = 8 := hq_1
    refine lv_iconst (v := nI (0)) hx hb dX4_pallet_14 (by decide) ?_
    refine r_put (C := RX4) (T := TX4) (N := 33) (R' := sfi R 100 5 (nI (0))) hx hb hts hown hK.1 hc (hlv _ rfl) (rfl) rfl rfl hinX4 tyX4 tyX4_ok nmX4 5 (by decide) hf_89 (fun _ h9 => h9) rfl (tyX4_ok 5 (by decide)) rfl rfl dX4_pallet_15 (fds_sfi (by decide) (by decide)) (fun _ h9 => ct_sfi h9) (fun H locs hc => ?_)
    refine lv_aload_n hx hb dX4_pallet_18 rfl (lv_at hl 0 rfl) ?_
    refine r_get (C := RX4) (T := TX4) (N := 33) (v := .int (nI (0))) hx hb hts hown hK.1 hc (hlv _ rfl) (rfl) rfl rfl hinX4 5 (by decide) hf_89 (fun _ h9 => h9) rfl dX4_pallet_19 ?_
    refine lv_if_eq (tgt := 27) hx hb dX4_pallet_22 (by decide) (fun hq_2 => ?_) (fun hq_2 => absurd hq_2 (by decide))
    refine lv_aload_n hx hb dX4_pallet_27 rfl (lv_at hl 0 rfl) ?_
    refine r_get (C := RX4) (T := TX4) (N := 33) (v := .ref (a (118))) hx hb hts hown hK.1 hc (hlv _ rfl) (rfl) rfl rfl hinX4 18 (by decide) hf_49 (fun _ h9 => h9) (congrArg va_rf (hmr.2 18 rfl)) dX4_pallet_28 ?_
    refine lv_aload_n hx hb dX4_pallet_31 rfl (lv_at hl 0 rfl) ?_
    refine r_get (C := RX4) (T := TX4) (N := 33) (v := .int (nI (mnp M))) hx hb hts hown hK.1 hc (hlv _ rfl) (rfl) rfl rfl hinX4 4 (by decide) hf_99 (fun _ h9 => h9) (congrArg Value.int hM.1.2.2.2.2.1) dX4_pallet_32 ?_
    refine lv_iconst (v := nI (0)) hx hb dX4_pallet_35 (by decide) ?_
    refine r_iast hx hb hK.1 hc (hlv _ rfl) (rfl) (by decide) (by omega) dX4_pallet_36 (fun H locs hc => ?_)
    refine lv_aload_n hx hb dX4_pallet_37 rfl (lv_at hl 0 rfl) ?_
    refine r_get (C := RX4) (T := TX4) (N := 33) (v := .ref (a (121))) hx hb hts hown hK.1 hc (hlv _ rfl) (rfl) rfl rfl hinX4 21 (by decide) hf_58 (fun _ h9 => h9) (congrArg va_rf (hmr.2 21 rfl)) dX4_pallet_38 ?_
    refine lv_aload_n hx hb dX4_pallet_41 rfl (lv_at hl 0 rfl) ?_
    refine r_get (C := RX4) (T := TX4) (N := 33) (v := .int (nI (mnp M))) hx hb hts hown hK.1 hc (hlv _ rfl) (rfl) rfl rfl hinX4 4 (by decide) hf_99 (fun _ h9 => h9) (congrArg Value.int hM.1.2.2.2.2.1) dX4_pallet_42 ?_
    refine lv_iconst (v := (-1)) hx hb dX4_pallet_45 (by decide) ?_
    refine r_iast hx hb hK.1 hc (hlv _ rfl) (rfl) (by decide) (by omega) dX4_pallet_46 (fun H locs hc => ?_)
    refine lv_aload_n hx hb dX4_pallet_47 rfl (lv_at hl 0 rfl) ?_
    refine lv_dup hx hb dX4_pallet_48 rfl ?_
    refine r_get (C := RX4) (T := TX4) (N := 33) (v := .int (nI (mnp M))) hx hb hts hown hK.1 hc (hlv _ rfl) (rfl) rfl rfl hinX4 4 (by decide) hf_99 (fun _ h9 => h9) (congrArg Value.int hM.1.2.2.2.2.1) dX4_pallet_49 ?_
    refine lv_iconst (v := nI (1)) hx hb dX4_pallet_52 (by decide) ?_
    refine nv_iadd hx hb dX4_pallet_53 ?_
    refine r_put (C := RX4) (T := TX4) (N := 33) (R' := sfi (sai (sai (sfi R 100 5 (nI (0))) 118 (mnp M) (nI (0))) 121 (mnp M) ((-1))) 100 4 (nI ((mnp M) + 1))) hx hb hts hown hK.1 hc (hlv _ rfl) (rfl) rfl rfl hinX4 tyX4 tyX4_ok nmX4 4 (by decide) hf_99 (fun _ h9 => h9) rfl (tyX4_ok 4 (by decide)) rfl rfl dX4_pallet_54 (fds_sfi (by decide) (by decide)) (fun _ h9 => ct_sfi h9) (fun H locs hc => ?_)
    refine lv_aload_n hx hb dX4_pallet_57 rfl (lv_at hl 0 rfl) ?_
    refine r_get (C := RX4) (T := TX4) (N := 33) (v := .int (nI ((mnp M) + 1))) hx hb hts hown hK.1 hc (hlv _ rfl) (rfl) rfl rfl hinX4 4 (by decide) hf_99 (fun _ h9 => h9) rfl dX4_pallet_58 ?_
    refine lv_iconst (v := nI (1)) hx hb dX4_pallet_61 (by decide) ?_
    refine nv_isub hx hb dX4_pallet_62 (by omega) ?_
    rw [Nat.add_sub_cancel]
    exact r_iret hx hb hr hlocks hc dX4_pallet_63 (by
      have hq9 : oPallet M = (0, nI (mnp M), nPallet M) := by simp only [oPallet, if_neg hn8]
      unfold QM; rw [hq9]
      exact ⟨rfl, rfl, pm_pallet hM, (((((outM.r _).sfi (by decide)).sai (by decide)).sai (by decide)).sfi (by decide))⟩)
  · have hq_1 : (mnp M) = 8 := (nI_eq (a := (mnp M)) (b := 8) (by omega) (by omega)).mp hq_1
    have hn8 : mnp M = 8 := hq_1
    refine lv_iconst (v := nI (1)) hx hb dX4_pallet_10 (by decide) ?_
    refine lv_goto (tgt := 15) hx hb dX4_pallet_11 (by decide) ?_
    refine r_put (C := RX4) (T := TX4) (N := 33) (R' := sfi R 100 5 (nI (1))) hx hb hts hown hK.1 hc (hlv _ rfl) (rfl) rfl rfl hinX4 tyX4 tyX4_ok nmX4 5 (by decide) hf_89 (fun _ h9 => h9) rfl (tyX4_ok 5 (by decide)) rfl rfl dX4_pallet_15 (fds_sfi (by decide) (by decide)) (fun _ h9 => ct_sfi h9) (fun H locs hc => ?_)
    refine lv_aload_n hx hb dX4_pallet_18 rfl (lv_at hl 0 rfl) ?_
    refine r_get (C := RX4) (T := TX4) (N := 33) (v := .int (nI (1))) hx hb hts hown hK.1 hc (hlv _ rfl) (rfl) rfl rfl hinX4 5 (by decide) hf_89 (fun _ h9 => h9) rfl dX4_pallet_19 ?_
    refine lv_if_eq (tgt := 27) hx hb dX4_pallet_22 (by decide) (fun hq_3 => absurd hq_3 (by decide)) (fun hq_3 => ?_)
    refine lv_iconst (v := nI (0)) hx hb dX4_pallet_25 (by decide) ?_
    exact r_iret hx hb hr hlocks hc dX4_pallet_26 (by
      have hq9 : oPallet M = (1, nI 0, M) := by simp only [oPallet, if_pos hn8]
      unfold QM; rw [hq9]
      exact ⟨rfl, rfl, pm_th hM, ((outM.r _).sfi (by decide))⟩)
set_option maxRecDepth 100000 in
set_option maxHeartbeats 4000000 in
theorem c_X4_order (l : Launch) (D : va_G) (g : Nat → ClassId) (lv : Nat → Bool) (a : Nat → Nat) (R : RS) (M : MS) (hmr : PMr R a lv) (hM : PM R M) (hI : Inv M) (x : Int32) : cI l D g lv a yX4_order wsX4_order ({ frames := 1, cells := 0, slots := 0, locals := 22 } : Room) [.ref (a (100)), .int (x)] R (QM R (oOrder M x)) 0 0 := by
  refine c_body (cc := cX4_order) (maxL := 2) (ret := (some .int)) (by decide) rfl (Nat.le_of_ble_eq_true rfl) ?_
  intro pr en st mi bl me co ls B hl
  obtain ⟨hx, hb, hr, hml, hown, hts, hlocks, hnm, hK, hZ, hc, hA⟩ := B
  have hl : lv_has ls 2 [(0, .ref (a (100))), (1, .int (x))] := hl
  have hinX4 : ∀ w ∈ u_ws RX4 TX4 33, w ∈ wsX4_order := (fun _ h => List.mem_cons_of_mem _ (List.mem_append_left _ (List.mem_append_right _ h)))
  have hf_61 := hts (.fieldLink RX4 61 "PalletLayersModel" "truck" "[I") (by decide +kernel)
  have hf_89 := hts (.fieldLink RX4 89 "PalletLayersModel" "thrown" "I") (by decide +kernel)
  have hf_191 := hts (.fieldLink RX4 191 "PalletLayersModel" "onTruck" "I") (by decide +kernel)
  have hlv := hmr.1
  have hb9 := iv_b hI
  refine lv_aload_n hx hb dX4_order_0 rfl (lv_at hl 0 rfl) ?_
  refine lv_iload_n hx hb dX4_order_1 rfl (lv_at hl 1 rfl) ?_
  refine lv_iconst (v := nI (0)) hx hb dX4_order_2 (by decide) ?_
  refine lv_aload_n hx hb dX4_order_3 rfl (lv_at hl 0 rfl) ?_
  refine r_get (C := RX4) (T := TX4) (N := 33) (v := .int (nI (mna M))) hx hb hts hown hK.1 hc (hlv _ rfl) (rfl) rfl rfl hinX4 23 (by decide) hf_191 (fun _ h9 => h9) (congrArg Value.int hM.1.2.2.2.2.2.2.2.2.1) dX4_order_4 ?_
  refine lv_iconst (v := nI (1)) hx hb dX4_order_7 (by decide) ?_
  refine lv_isub hx hb dX4_order_8 ?_
  refine r_calli hc hA (va_runS (As := [.int (x), .int (nI (0)), .int (nI (mna M) - nI 1)]) (rest := [.ref (a (100))]) ⟨hx, hb, hml, hown, hts⟩ (c_X4_within l D g lv a R x (nI (0)) (nI (mna M) - nI 1) _) (va_cwS 3 hts gX4_order_X4_within rfl rfl rfl (by decide +kernel) ⟨Nat.le_of_ble_eq_true rfl, Nat.le_of_ble_eq_true rfl⟩) (r_preS hK hZ hc hA) rfl rfl hl.1 rfl (lv_room (Nat.le_of_ble_eq_true rfl)) dX4_order_9 ⟨Nat.le_of_ble_eq_true rfl, Nat.le_of_ble_eq_true rfl⟩) (fun r R' H locs hp hc => ?_)
  obtain ⟨hRe, ⟨hw9, rfl⟩ | ⟨hw9, rfl⟩⟩ := hp
  · rw [hRe] at hc
    rw [in_iff (by omega)] at hw9
    obtain ⟨i, hi, hi9, rfl⟩ := isN_ex hw9
    refine lv_if_eq (tgt := 19) hx hb dX4_order_12 (by decide) (fun hq_3 => absurd hq_3 (by decide)) (fun hq_3 => ?_)
    refine lv_iconst (v := nI (0)) hx hb dX4_order_15 (by decide) ?_
    refine lv_goto (tgt := 20) hx hb dX4_order_16 (by decide) ?_
    refine r_put (C := RX4) (T := TX4) (N := 33) (R' := sfi R 100 5 (nI (0))) hx hb hts hown hK.1 hc (hlv _ rfl) (rfl) rfl rfl hinX4 tyX4 tyX4_ok nmX4 5 (by decide) hf_89 (fun _ h9 => h9) rfl (tyX4_ok 5 (by decide)) rfl rfl dX4_order_20 (fds_sfi (by decide) (by decide)) (fun _ h9 => ct_sfi h9) (fun H locs hc => ?_)
    refine lv_aload_n hx hb dX4_order_23 rfl (lv_at hl 0 rfl) ?_
    refine r_get (C := RX4) (T := TX4) (N := 33) (v := .int (nI (0))) hx hb hts hown hK.1 hc (hlv _ rfl) (rfl) rfl rfl hinX4 5 (by decide) hf_89 (fun _ h9 => h9) rfl dX4_order_24 ?_
    refine lv_if_eq (tgt := 34) hx hb dX4_order_27 (by decide) (fun hq_4 => ?_) (fun hq_4 => absurd hq_4 (by decide))
    refine lv_aload_n hx hb dX4_order_34 rfl (lv_at hl 0 rfl) ?_
    refine r_get (C := RX4) (T := TX4) (N := 33) (v := .ref (a (122))) hx hb hts hown hK.1 hc (hlv _ rfl) (rfl) rfl rfl hinX4 22 (by decide) hf_61 (fun _ h9 => h9) (congrArg va_rf (hmr.2 22 rfl)) dX4_order_35 ?_
    refine lv_aload_n hx hb dX4_order_38 rfl (lv_at hl 0 rfl) ?_
    refine r_get (C := RX4) (T := TX4) (N := 33) (v := .int (nI (mna M))) hx hb hts hown hK.1 hc (hlv _ rfl) (rfl) rfl rfl hinX4 23 (by decide) hf_191 (fun _ h9 => h9) (congrArg Value.int hM.1.2.2.2.2.2.2.2.2.1) dX4_order_39 ?_
    refine lv_iconst (v := nI (1)) hx hb dX4_order_42 (by decide) ?_
    refine nv_isub hx hb dX4_order_43 (by omega) ?_
    refine lv_iload_n hx hb dX4_order_44 rfl (lv_at hl 1 rfl) ?_
    refine nv_isub hx hb dX4_order_45 (by omega) ?_
    refine r_iald (v := nI (tb M (((mna M) - 1) - i))) hx hb hK.1 hc (hlv _ rfl) (rfl) (by decide) (by omega) dX4_order_46 (hM.2.2.2.2.2.2 _ (by omega)) ?_
    exact r_iret hx hb hr hlocks hc dX4_order_47 (by
      have hq9 : oOrder M (nI i) = (0, nI (tb M (mna M - 1 - i)), M) := by simp only [oOrder, tN_nI hi9, if_pos hw9]
      unfold QM; rw [hq9]
      exact ⟨rfl, rfl, pm_th hM, ((outM.r _).sfi (by decide))⟩)
  · rw [hRe] at hc
    rw [in_iff (by omega)] at hw9
    refine lv_if_eq (tgt := 19) hx hb dX4_order_12 (by decide) (fun hq_5 => ?_) (fun hq_5 => absurd hq_5 (by decide))
    refine lv_iconst (v := nI (1)) hx hb dX4_order_19 (by decide) ?_
    refine r_put (C := RX4) (T := TX4) (N := 33) (R' := sfi R 100 5 (nI (1))) hx hb hts hown hK.1 hc (hlv _ rfl) (rfl) rfl rfl hinX4 tyX4 tyX4_ok nmX4 5 (by decide) hf_89 (fun _ h9 => h9) rfl (tyX4_ok 5 (by decide)) rfl rfl dX4_order_20 (fds_sfi (by decide) (by decide)) (fun _ h9 => ct_sfi h9) (fun H locs hc => ?_)
    refine lv_aload_n hx hb dX4_order_23 rfl (lv_at hl 0 rfl) ?_
    refine r_get (C := RX4) (T := TX4) (N := 33) (v := .int (nI (1))) hx hb hts hown hK.1 hc (hlv _ rfl) (rfl) rfl rfl hinX4 5 (by decide) hf_89 (fun _ h9 => h9) rfl dX4_order_24 ?_
    refine lv_if_eq (tgt := 34) hx hb dX4_order_27 (by decide) (fun hq_6 => absurd hq_6 (by decide)) (fun hq_6 => ?_)
    refine lv_iconst (v := nI (0)) hx hb dX4_order_30 (by decide) ?_
    refine lv_goto (tgt := 47) hx hb dX4_order_31 (by decide) ?_
    exact r_iret hx hb hr hlocks hc dX4_order_47 (by
      have hq9 : oOrder M x = (1, nI 0, M) := by simp only [oOrder, if_neg hw9]
      unfold QM; rw [hq9]
      exact ⟨rfl, rfl, pm_th hM, ((outM.r _).sfi (by decide))⟩)
set_option maxRecDepth 100000 in
set_option maxHeartbeats 4000000 in
theorem c_X4_take (l : Launch) (D : va_G) (g : Nat → ClassId) (lv : Nat → Bool) (a : Nat → Nat) (R : RS) (M : MS) (hmr : PMr R a lv) (hM : PM R M) (hI : Inv M) (x : Int32) : cI l D g lv a yX4_take wsX4_take ({ frames := 2, cells := 0, slots := 0, locals := 43 } : Room) [.ref (a (100)), .int (x)] R (QM R (oTake M x)) 0 0 := by
  refine c_body (cc := cX4_take) (maxL := 2) (ret := (some .int)) (by decide) rfl (Nat.le_of_ble_eq_true rfl) ?_
  intro pr en st mi bl me co ls B hl
  obtain ⟨hx, hb, hr, hml, hown, hts, hlocks, hnm, hK, hZ, hc, hA⟩ := B
  have hl : lv_has ls 2 [(0, .ref (a (100))), (1, .int (x))] := hl
  have hinX4 : ∀ w ∈ u_ws RX4 TX4 33, w ∈ wsX4_take := (fun _ h => List.mem_cons_of_mem _ (List.mem_append_left _ (List.mem_append_right _ h)))
  have hf_49 := hts (.fieldLink RX4 49 "PalletLayersModel" "layers" "[I") (by decide +kernel)
  have hf_55 := hts (.fieldLink RX4 55 "PalletLayersModel" "layerBoxes" "[I") (by decide +kernel)
  have hf_58 := hts (.fieldLink RX4 58 "PalletLayersModel" "stop" "[I") (by decide +kernel)
  have hf_89 := hts (.fieldLink RX4 89 "PalletLayersModel" "thrown" "I") (by decide +kernel)
  have hlv := hmr.1
  have hb9 := iv_b hI
  refine lv_aload_n hx hb dX4_take_0 rfl (lv_at hl 0 rfl) ?_
  refine lv_aload_n hx hb dX4_take_1 rfl (lv_at hl 0 rfl) ?_
  refine lv_iload_n hx hb dX4_take_2 rfl (lv_at hl 1 rfl) ?_
  refine r_calli hc hA (va_runV (As := [.int (x)]) (rest := [.ref (a (100))]) ⟨hx, hb, hml, hown, hts⟩ (c_X4_isPallet l D g lv a R M hmr hM hI x _) (cwV 1 hts gX4_take_X4_isPallet rfl rfl rfl (by decide +kernel) ⟨Nat.le_of_ble_eq_true rfl, Nat.le_of_ble_eq_true rfl⟩) (r_preV hK hZ hc hA (hlv _ rfl) (rfl) rfl) rfl rfl hl.1 rfl (lv_room (Nat.le_of_ble_eq_true rfl)) dX4_take_3 ⟨Nat.le_of_ble_eq_true rfl, Nat.le_of_ble_eq_true rfl⟩) (fun r R' H locs hp hc => ?_)
  obtain ⟨hRe, ⟨hw3, rfl⟩ | ⟨hw3, rfl⟩⟩ := hp
  · rw [hRe] at hc
    obtain ⟨j, hj, hj9, rfl⟩ := isN_ex hw3
    refine lv_if_ne (tgt := 13) hx hb dX4_take_6 (by decide) (fun hq_3 => ?_) (fun hq_3 => absurd hq_3 (by decide))
    have hp9 := iv_p hI hj
    refine lv_aload_n hx hb dX4_take_13 rfl (lv_at hl 0 rfl) ?_
    refine r_get (C := RX4) (T := TX4) (N := 33) (v := .ref (a (121))) hx hb hts hown hK.1 hc (hlv _ rfl) (rfl) rfl rfl hinX4 21 (by decide) hf_58 (fun _ h9 => h9) (congrArg va_rf (hmr.2 21 rfl)) dX4_take_14 ?_
    refine lv_iload_n hx hb dX4_take_17 rfl (lv_at hl 1 rfl) ?_
    refine r_iald (v := stI (ps M j)) hx hb hK.1 hc (hlv _ rfl) (rfl) (by decide) (by omega) dX4_take_18 ((hM.2.2.2.2.1 _ (by omega)).2) ?_
    refine lv_iconst (v := (-1)) hx hb dX4_take_19 (by decide) ?_
    refine lv_icmp_ne (tgt := 32) hx hb dX4_take_20 (by decide) (fun hq_4 => ?_) (fun hq_4 => ?_)
    · have hs : ¬ ps M j = 0 := fun z => hq_4 (by rw [z]; rfl)
      refine lv_iconst (v := nI (2)) hx hb dX4_take_32 (by decide) ?_
      refine lv_goto (tgt := 37) hx hb dX4_take_33 (by decide) ?_
      refine r_put (C := RX4) (T := TX4) (N := 33) (R' := sfi R 100 5 (nI (2))) hx hb hts hown hK.1 hc (hlv _ rfl) (rfl) rfl rfl hinX4 tyX4 tyX4_ok nmX4 5 (by decide) hf_89 (fun _ h9 => h9) rfl (tyX4_ok 5 (by decide)) rfl rfl dX4_take_37 (fds_sfi (by decide) (by decide)) (fun _ h9 => ct_sfi h9) (fun H locs hc => ?_)
      refine lv_aload_n hx hb dX4_take_40 rfl (lv_at hl 0 rfl) ?_
      refine r_get (C := RX4) (T := TX4) (N := 33) (v := .int (nI (2))) hx hb hts hown hK.1 hc (hlv _ rfl) (rfl) rfl rfl hinX4 5 (by decide) hf_89 (fun _ h9 => h9) rfl dX4_take_41 ?_
      refine lv_if_eq (tgt := 49) hx hb dX4_take_44 (by decide) (fun hq_5 => absurd hq_5 (by decide)) (fun hq_5 => ?_)
      refine lv_iconst (v := nI (0)) hx hb dX4_take_47 (by decide) ?_
      exact r_iret hx hb hr hlocks hc dX4_take_48 (by
      have hq9 : oTake M (nI j) = (2, nI 0, M) := by simp only [oTake, tN_nI hj9, if_pos hw3, if_neg hs]
      unfold QM; rw [hq9]
      exact ⟨rfl, rfl, pm_th hM, ((outM.r _).sfi (by decide))⟩)
    · have hs : ps M j = 0 := stI_0 (by omega) hq_4
      refine lv_aload_n hx hb dX4_take_23 rfl (lv_at hl 0 rfl) ?_
      refine r_get (C := RX4) (T := TX4) (N := 33) (v := .ref (a (118))) hx hb hts hown hK.1 hc (hlv _ rfl) (rfl) rfl rfl hinX4 18 (by decide) hf_49 (fun _ h9 => h9) (congrArg va_rf (hmr.2 18 rfl)) dX4_take_24 ?_
      refine lv_iload_n hx hb dX4_take_27 rfl (lv_at hl 1 rfl) ?_
      refine r_iald (v := nI (pn M j)) hx hb hK.1 hc (hlv _ rfl) (rfl) (by decide) (by omega) dX4_take_28 ((hM.2.2.2.2.1 _ (by omega)).1) ?_
      refine lv_if_ne (tgt := 36) hx hb dX4_take_29 (by decide) (fun hq_6 => ?_) (fun hq_6 => ?_)
      · have hq_6 : ¬ ((pn M j) = 0) := fun z => hq_6 ((nI_eq (a := (pn M j)) (b := 0) (by omega) (by omega)).mpr z)
        have hn : ¬ pn M j = 0 := hq_6
        refine lv_iconst (v := nI (0)) hx hb dX4_take_36 (by decide) ?_
        refine r_put (C := RX4) (T := TX4) (N := 33) (R' := sfi R 100 5 (nI (0))) hx hb hts hown hK.1 hc (hlv _ rfl) (rfl) rfl rfl hinX4 tyX4 tyX4_ok nmX4 5 (by decide) hf_89 (fun _ h9 => h9) rfl (tyX4_ok 5 (by decide)) rfl rfl dX4_take_37 (fds_sfi (by decide) (by decide)) (fun _ h9 => ct_sfi h9) (fun H locs hc => ?_)
        refine lv_aload_n hx hb dX4_take_40 rfl (lv_at hl 0 rfl) ?_
        refine r_get (C := RX4) (T := TX4) (N := 33) (v := .int (nI (0))) hx hb hts hown hK.1 hc (hlv _ rfl) (rfl) rfl rfl hinX4 5 (by decide) hf_89 (fun _ h9 => h9) rfl dX4_take_41 ?_
        refine lv_if_eq (tgt := 49) hx hb dX4_take_44 (by decide) (fun hq_7 => ?_) (fun hq_7 => absurd hq_7 (by decide))
        refine lv_aload_n hx hb dX4_take_49 rfl (lv_at hl 0 rfl) ?_
        refine r_get (C := RX4) (T := TX4) (N := 33) (v := .ref (a (118))) hx hb hts hown hK.1 hc (hlv _ rfl) (rfl) rfl rfl hinX4 18 (by decide) hf_49 (fun _ h9 => h9) (congrArg va_rf (hmr.2 18 rfl)) dX4_take_50 ?_
        refine lv_iload_n hx hb dX4_take_53 rfl (lv_at hl 1 rfl) ?_
        refine lv_dup2_11 hx hb dX4_take_54 rfl rfl ?_
        refine r_iald (v := nI (pn M j)) hx hb hK.1 hc (hlv _ rfl) (rfl) (by decide) (by omega) dX4_take_55 ((hM.2.2.2.2.1 _ (by omega)).1) ?_
        refine lv_iconst (v := nI (1)) hx hb dX4_take_56 (by decide) ?_
        refine nv_isub hx hb dX4_take_57 (by omega) ?_
        refine r_iast hx hb hK.1 hc (hlv _ rfl) (rfl) (by decide) (by omega) dX4_take_58 (fun H locs hc => ?_)
        refine lv_aload_n hx hb dX4_take_59 rfl (lv_at hl 0 rfl) ?_
        refine r_get (C := RX4) (T := TX4) (N := 33) (v := .ref (a (120))) hx hb hts hown hK.1 hc (hlv _ rfl) (rfl) rfl rfl hinX4 20 (by decide) hf_55 (fun _ h9 => h9) (congrArg va_rf (hmr.2 20 rfl)) dX4_take_60 ?_
        refine lv_bipush (v := nI (10)) hx hb dX4_take_63 (by decide) ?_
        refine lv_iload_n hx hb dX4_take_65 rfl (lv_at hl 1 rfl) ?_
        refine nv_imul hx hb dX4_take_66 ?_
        refine lv_aload_n hx hb dX4_take_67 rfl (lv_at hl 0 rfl) ?_
        refine r_get (C := RX4) (T := TX4) (N := 33) (v := .ref (a (118))) hx hb hts hown hK.1 hc (hlv _ rfl) (rfl) rfl rfl hinX4 18 (by decide) hf_49 (fun _ h9 => h9) (congrArg va_rf (hmr.2 18 rfl)) dX4_take_68 ?_
        refine lv_iload_n hx hb dX4_take_71 rfl (lv_at hl 1 rfl) ?_
        refine r_iald (v := nI ((pn M j) - 1)) hx hb hK.1 hc (hlv _ rfl) (rfl) (by decide) (by omega) dX4_take_72 (up2_s _ _ _ _) ?_
        refine nv_iadd hx hb dX4_take_73 ?_
        refine r_iald (v := nI (lb M j ((pn M j) - 1))) hx hb hK.1 hc (hlv _ rfl) (rfl) (by decide) (by omega) dX4_take_74 ((hM.2.2.2.2.2.1 _ (by omega) _ (by omega)).2) ?_
        exact r_iret hx hb hr hlocks hc dX4_take_75 (by
      have hq9 : oTake M (nI j) = (0, nI (lb M j (pn M j - 1)), nTake M j) := by simp only [oTake, tN_nI hj9, if_pos hw3, if_pos hs, if_neg hn]
      unfold QM; rw [hq9]
      exact ⟨rfl, rfl, pm_take hM, (((outM.r _).sfi (by decide)).sai (by decide))⟩)
      · have hq_6 : (pn M j) = 0 := (nI_eq (a := (pn M j)) (b := 0) (by omega) (by omega)).mp hq_6
        have hn : pn M j = 0 := hq_6
        refine lv_iconst (v := nI (2)) hx hb dX4_take_32 (by decide) ?_
        refine lv_goto (tgt := 37) hx hb dX4_take_33 (by decide) ?_
        refine r_put (C := RX4) (T := TX4) (N := 33) (R' := sfi R 100 5 (nI (2))) hx hb hts hown hK.1 hc (hlv _ rfl) (rfl) rfl rfl hinX4 tyX4 tyX4_ok nmX4 5 (by decide) hf_89 (fun _ h9 => h9) rfl (tyX4_ok 5 (by decide)) rfl rfl dX4_take_37 (fds_sfi (by decide) (by decide)) (fun _ h9 => ct_sfi h9) (fun H locs hc => ?_)
        refine lv_aload_n hx hb dX4_take_40 rfl (lv_at hl 0 rfl) ?_
        refine r_get (C := RX4) (T := TX4) (N := 33) (v := .int (nI (2))) hx hb hts hown hK.1 hc (hlv _ rfl) (rfl) rfl rfl hinX4 5 (by decide) hf_89 (fun _ h9 => h9) rfl dX4_take_41 ?_
        refine lv_if_eq (tgt := 49) hx hb dX4_take_44 (by decide) (fun hq_8 => absurd hq_8 (by decide)) (fun hq_8 => ?_)
        refine lv_iconst (v := nI (0)) hx hb dX4_take_47 (by decide) ?_
        exact r_iret hx hb hr hlocks hc dX4_take_48 (by
      have hq9 : oTake M (nI j) = (2, nI 0, M) := by simp only [oTake, tN_nI hj9, if_pos hw3, if_pos hs, if_pos hn]
      unfold QM; rw [hq9]
      exact ⟨rfl, rfl, pm_th hM, ((outM.r _).sfi (by decide))⟩)
  · rw [hRe] at hc
    refine lv_if_ne (tgt := 13) hx hb dX4_take_6 (by decide) (fun hq_9 => absurd hq_9 (by decide)) (fun hq_9 => ?_)
    refine lv_iconst (v := nI (1)) hx hb dX4_take_9 (by decide) ?_
    refine lv_goto (tgt := 37) hx hb dX4_take_10 (by decide) ?_
    refine r_put (C := RX4) (T := TX4) (N := 33) (R' := sfi R 100 5 (nI (1))) hx hb hts hown hK.1 hc (hlv _ rfl) (rfl) rfl rfl hinX4 tyX4 tyX4_ok nmX4 5 (by decide) hf_89 (fun _ h9 => h9) rfl (tyX4_ok 5 (by decide)) rfl rfl dX4_take_37 (fds_sfi (by decide) (by decide)) (fun _ h9 => ct_sfi h9) (fun H locs hc => ?_)
    refine lv_aload_n hx hb dX4_take_40 rfl (lv_at hl 0 rfl) ?_
    refine r_get (C := RX4) (T := TX4) (N := 33) (v := .int (nI (1))) hx hb hts hown hK.1 hc (hlv _ rfl) (rfl) rfl rfl hinX4 5 (by decide) hf_89 (fun _ h9 => h9) rfl dX4_take_41 ?_
    refine lv_if_eq (tgt := 49) hx hb dX4_take_44 (by decide) (fun hq_10 => absurd hq_10 (by decide)) (fun hq_10 => ?_)
    refine lv_iconst (v := nI (0)) hx hb dX4_take_47 (by decide) ?_
    exact r_iret hx hb hr hlocks hc dX4_take_48 (by
      have hq9 : oTake M x = (1, nI 0, M) := by simp only [oTake, if_neg hw3]
      unfold QM; rw [hq9]
      exact ⟨rfl, rfl, pm_th hM, ((outM.r _).sfi (by decide))⟩)
