set_option maxRecDepth 100000 in
set_option maxHeartbeats 4000000 in
theorem c_X4_isLayer (l : Launch) (D : va_G) (g : Nat → ClassId) (lv : Nat → Bool) (a : Nat → Nat) (R : RS) (M : MS) (hmr : PMr R a lv) (hM : PM R M) (hI : Inv M) (x y : Int32) : cI l D g lv a yX4_isLayer wsX4_isLayer ({ frames := 2, cells := 0, slots := 0, locals := 43 } : Room) [.ref (a (100)), .int (x), .int (y)] R (fun r R' => R' = R ∧ ((isN x (mnp M) ∧ isN y (pn M (tN x))) ∧ r = nI 1 ∨ ¬ (isN x (mnp M) ∧ isN y (pn M (tN x))) ∧ r = nI 0)) 0 0 := by
  refine c_body (cc := cX4_isLayer) (maxL := 3) (ret := (some .boolean)) (by decide) rfl (Nat.le_of_ble_eq_true rfl) ?_
  intro pr en st mi bl me co ls B hl
  obtain ⟨hx, hb, hr, hml, hown, hts, hlocks, hnm, hK, hZ, hc, hA⟩ := B
  have hl : lv_has ls 3 [(0, .ref (a (100))), (1, .int (x)), (2, .int (y))] := hl
  have hinX4 : ∀ w ∈ u_ws RX4 TX4 33, w ∈ wsX4_isLayer := (fun _ h => List.mem_cons_of_mem _ (List.mem_append_left _ (List.mem_append_right _ h)))
  have hf_49 := hts (.fieldLink RX4 49 "PalletLayersModel" "layers" "[I") (by decide +kernel)
  have hlv := hmr.1
  have hb9 := iv_b hI
  refine lv_aload_n hx hb dX4_isLayer_0 rfl (lv_at hl 0 rfl) ?_
  refine lv_iload_n hx hb dX4_isLayer_1 rfl (lv_at hl 1 rfl) ?_
  refine r_calli hc hA (va_runV (As := [.int (x)]) (rest := []) ⟨hx, hb, hml, hown, hts⟩ (c_X4_isPallet l D g lv a R M hmr hM hI x _) (cwV 1 hts gX4_isLayer_X4_isPallet rfl rfl rfl (by decide +kernel) ⟨Nat.le_of_ble_eq_true rfl, Nat.le_of_ble_eq_true rfl⟩) (r_preV hK hZ hc hA (hlv _ rfl) (rfl) rfl) rfl rfl hl.1 rfl (lv_room (Nat.le_of_ble_eq_true rfl)) dX4_isLayer_2 ⟨Nat.le_of_ble_eq_true rfl, Nat.le_of_ble_eq_true rfl⟩) (fun r R' H locs hp hc => ?_)
  obtain ⟨hRe, ⟨hw2, rfl⟩ | ⟨hw2, rfl⟩⟩ := hp
  · rw [hRe] at hc
    obtain ⟨j, hj, hj9, rfl⟩ := isN_ex hw2
    refine lv_if_eq (tgt := 28) hx hb dX4_isLayer_5 (by decide) (fun hq_3 => absurd hq_3 (by decide)) (fun hq_3 => ?_)
    have hp9 := iv_p hI hj
    refine lv_iload_n hx hb dX4_isLayer_8 rfl (lv_at hl 2 rfl) ?_
    refine lv_iconst (v := nI (0)) hx hb dX4_isLayer_9 (by decide) ?_
    refine lv_aload_n hx hb dX4_isLayer_10 rfl (lv_at hl 0 rfl) ?_
    refine r_get (C := RX4) (T := TX4) (N := 33) (v := .ref (a (118))) hx hb hts hown hK.1 hc (hlv _ rfl) (rfl) rfl rfl hinX4 18 (by decide) hf_49 (fun _ h9 => h9) (congrArg va_rf (hmr.2 18 rfl)) dX4_isLayer_11 ?_
    refine lv_iload_n hx hb dX4_isLayer_14 rfl (lv_at hl 1 rfl) ?_
    refine r_iald (v := nI (pn M j)) hx hb hK.1 hc (hlv _ rfl) (rfl) (by decide) (by omega) dX4_isLayer_15 ((hM.2.2.2.2.1 _ (by omega)).1) ?_
    refine lv_iconst (v := nI (1)) hx hb dX4_isLayer_16 (by decide) ?_
    refine lv_isub hx hb dX4_isLayer_17 ?_
    refine r_calli hc hA (va_runS (As := [.int (y), .int (nI (0)), .int (nI (pn M j) - nI 1)]) (rest := []) ⟨hx, hb, hml, hown, hts⟩ (c_X4_within l D g lv a R y (nI (0)) (nI (pn M j) - nI 1) _) (va_cwS 3 hts gX4_isLayer_X4_within rfl rfl rfl (by decide +kernel) ⟨Nat.le_of_ble_eq_true rfl, Nat.le_of_ble_eq_true rfl⟩) (r_preS hK hZ hc hA) rfl rfl hl.1 rfl (lv_room (Nat.le_of_ble_eq_true rfl)) dX4_isLayer_18 ⟨Nat.le_of_ble_eq_true rfl, Nat.le_of_ble_eq_true rfl⟩) (fun r R' H locs hp hc => ?_)
    obtain ⟨hRe, ⟨hw18, rfl⟩ | ⟨hw18, rfl⟩⟩ := hp
    · rw [hRe] at hc
      rw [in_iff (by omega)] at hw18
      refine lv_if_eq (tgt := 28) hx hb dX4_isLayer_21 (by decide) (fun hq_6 => absurd hq_6 (by decide)) (fun hq_6 => ?_)
      refine lv_iconst (v := nI (1)) hx hb dX4_isLayer_24 (by decide) ?_
      refine lv_goto (tgt := 29) hx hb dX4_isLayer_25 (by decide) ?_
      exact r_zret hx hb hr hlocks hc dX4_isLayer_29 (by decide) ⟨rfl, Or.inl ⟨⟨hw2, by rw [tN_nI hj9]; exact hw18⟩, rfl⟩⟩
    · rw [hRe] at hc
      rw [in_iff (by omega)] at hw18
      refine lv_if_eq (tgt := 28) hx hb dX4_isLayer_21 (by decide) (fun hq_7 => ?_) (fun hq_7 => absurd hq_7 (by decide))
      refine lv_iconst (v := nI (0)) hx hb dX4_isLayer_28 (by decide) ?_
      exact r_zret hx hb hr hlocks hc dX4_isLayer_29 (by decide) ⟨rfl, Or.inr ⟨fun h => hw18 (by have h9 := h.2; rw [tN_nI hj9] at h9; exact h9), rfl⟩⟩
  · rw [hRe] at hc
    refine lv_if_eq (tgt := 28) hx hb dX4_isLayer_5 (by decide) (fun hq_8 => ?_) (fun hq_8 => absurd hq_8 (by decide))
    refine lv_iconst (v := nI (0)) hx hb dX4_isLayer_28 (by decide) ?_
    exact r_zret hx hb hr hlocks hc dX4_isLayer_29 (by decide) ⟨rfl, Or.inr ⟨fun h => hw2 h.1, rfl⟩⟩
set_option maxRecDepth 100000 in
set_option maxHeartbeats 4000000 in
theorem c_X4_told (l : Launch) (D : va_G) (g : Nat → ClassId) (lv : Nat → Bool) (a : Nat → Nat) (R : RS) (M : MS) (hmr : PMr R a lv) (hM : PM R M) (hI : Inv M) (x y : Int32) : cI l D g lv a yX4_told wsX4_told ({ frames := 2, cells := 0, slots := 0, locals := 43 } : Room) [.ref (a (100)), .int (x), .int (y)] R (QM R (oTold M x y)) 0 0 := by
  refine c_body (cc := cX4_told) (maxL := 5) (ret := (some .int)) (by decide) rfl (Nat.le_of_ble_eq_true rfl) ?_
  intro pr en st mi bl me co ls B hl
  obtain ⟨hx, hb, hr, hml, hown, hts, hlocks, hnm, hK, hZ, hc, hA⟩ := B
  have hl : lv_has ls 5 [(0, .ref (a (100))), (1, .int (x)), (2, .int (y))] := hl
  have hinX4 : ∀ w ∈ u_ws RX4 TX4 33, w ∈ wsX4_told := (fun _ h => List.mem_cons_of_mem _ (List.mem_append_left _ (List.mem_append_right _ h)))
  have hf_49 := hts (.fieldLink RX4 49 "PalletLayersModel" "layers" "[I") (by decide +kernel)
  have hf_52 := hts (.fieldLink RX4 52 "PalletLayersModel" "layerKind" "[I") (by decide +kernel)
  have hf_58 := hts (.fieldLink RX4 58 "PalletLayersModel" "stop" "[I") (by decide +kernel)
  have hf_89 := hts (.fieldLink RX4 89 "PalletLayersModel" "thrown" "I") (by decide +kernel)
  have hlv := hmr.1
  have hb9 := iv_b hI
  refine lv_aload_n hx hb dX4_told_0 rfl (lv_at hl 0 rfl) ?_
  refine lv_aload_n hx hb dX4_told_1 rfl (lv_at hl 0 rfl) ?_
  refine lv_iload_n hx hb dX4_told_2 rfl (lv_at hl 1 rfl) ?_
  refine r_calli hc hA (va_runV (As := [.int (x)]) (rest := [.ref (a (100))]) ⟨hx, hb, hml, hown, hts⟩ (c_X4_isPallet l D g lv a R M hmr hM hI x _) (cwV 1 hts gX4_told_X4_isPallet rfl rfl rfl (by decide +kernel) ⟨Nat.le_of_ble_eq_true rfl, Nat.le_of_ble_eq_true rfl⟩) (r_preV hK hZ hc hA (hlv _ rfl) (rfl) rfl) rfl rfl hl.1 rfl (lv_room (Nat.le_of_ble_eq_true rfl)) dX4_told_3 ⟨Nat.le_of_ble_eq_true rfl, Nat.le_of_ble_eq_true rfl⟩) (fun r R' H locs hp hc => ?_)
  obtain ⟨hRe, ⟨hw3, rfl⟩ | ⟨hw3, rfl⟩⟩ := hp
  · rw [hRe] at hc
    obtain ⟨j, hj, hj9, rfl⟩ := isN_ex hw3
    refine lv_if_ne (tgt := 13) hx hb dX4_told_6 (by decide) (fun hq_3 => ?_) (fun hq_3 => absurd hq_3 (by decide))
    refine lv_iload_n hx hb dX4_told_13 rfl (lv_at hl 2 rfl) ?_
    refine lv_iconst (v := nI (0)) hx hb dX4_told_14 (by decide) ?_
    refine lv_iconst (v := nI (5)) hx hb dX4_told_15 (by decide) ?_
    refine r_calli hc hA (va_runS (As := [.int (y), .int (nI (0)), .int (nI (5))]) (rest := [.ref (a (100))]) ⟨hx, hb, hml, hown, hts⟩ (c_X4_within l D g lv a R y (nI (0)) (nI (5)) _) (va_cwS 3 hts gX4_told_X4_within rfl rfl rfl (by decide +kernel) ⟨Nat.le_of_ble_eq_true rfl, Nat.le_of_ble_eq_true rfl⟩) (r_preS hK hZ hc hA) rfl rfl hl.1 rfl (lv_room (Nat.le_of_ble_eq_true rfl)) dX4_told_16 ⟨Nat.le_of_ble_eq_true rfl, Nat.le_of_ble_eq_true rfl⟩) (fun r R' H locs hp hc => ?_)
    obtain ⟨hRe, ⟨hw16, rfl⟩ | ⟨hw16, rfl⟩⟩ := hp
    · rw [hRe] at hc
      rw [w_iff (by decide) (by decide)] at hw16
      refine lv_if_ne (tgt := 26) hx hb dX4_told_19 (by decide) (fun hq_6 => ?_) (fun hq_6 => absurd hq_6 (by decide))
      refine lv_iconst (v := nI (0)) hx hb dX4_told_26 (by decide) ?_
      refine r_put (C := RX4) (T := TX4) (N := 33) (R' := sfi R 100 5 (nI (0))) hx hb hts hown hK.1 hc (hlv _ rfl) (rfl) rfl rfl hinX4 tyX4 tyX4_ok nmX4 5 (by decide) hf_89 (fun _ h9 => h9) rfl (tyX4_ok 5 (by decide)) rfl rfl dX4_told_27 (fds_sfi (by decide) (by decide)) (fun _ h9 => ct_sfi h9) (fun H locs hc => ?_)
      refine lv_aload_n hx hb dX4_told_30 rfl (lv_at hl 0 rfl) ?_
      refine r_get (C := RX4) (T := TX4) (N := 33) (v := .int (nI (0))) hx hb hts hown hK.1 hc (hlv _ rfl) (rfl) rfl rfl hinX4 5 (by decide) hf_89 (fun _ h9 => h9) rfl dX4_told_31 ?_
      refine lv_if_eq (tgt := 39) hx hb dX4_told_34 (by decide) (fun hq_7 => ?_) (fun hq_7 => absurd hq_7 (by decide))
      have hp9 := iv_p hI hj
      obtain ⟨v, hv0, hv1, hv2, rfl⟩ := isR_ex hw16
      refine lv_iload_n hx hb dX4_told_39 rfl (lv_at hl 2 rfl) ?_
      have hsw : v = 0 ∨ v = 1 ∨ v = 2 ∨ v = 3 ∨ v = 4 ∨ v = 5 := by omega
      obtain rfl | rfl | rfl | rfl | rfl | rfl := hsw
      · refine lv_tableIn (tgt := 76) (off := 36) hx hb dX4_told_40 (by decide) (by decide) (by decide) (by decide) ?_
        refine lv_aload_n hx hb dX4_told_76 rfl (lv_at hl 0 rfl) ?_
        refine lv_iload_n hx hb dX4_told_77 rfl (lv_at hl 1 rfl) ?_
        refine lv_aload_n hx hb dX4_told_78 rfl (lv_at hl 0 rfl) ?_
        refine r_get (C := RX4) (T := TX4) (N := 33) (v := .ref (a (118))) hx hb hts hown hK.1 hc (hlv _ rfl) (rfl) rfl rfl hinX4 18 (by decide) hf_49 (fun _ h9 => h9) (congrArg va_rf (hmr.2 18 rfl)) dX4_told_79 ?_
        refine lv_iload_n hx hb dX4_told_82 rfl (lv_at hl 1 rfl) ?_
        refine r_iald (v := nI (pn M j)) hx hb hK.1 hc (hlv _ rfl) (rfl) (by decide) (by omega) dX4_told_83 ((hM.2.2.2.2.1 _ (by omega)).1) ?_
        refine r_calli hc hA (va_runV (As := [.int (nI (j)), .int (nI (pn M j))]) (rest := []) ⟨hx, hb, hml, hown, hts⟩ (c_X4_heightOf l D g lv a (sfi R 100 5 (nI (0))) M hmr (pm_th hM) hI j (pn M j) hj (Nat.le_refl _) _) (cwV 2 hts gX4_told_X4_heightOf rfl rfl rfl (by decide +kernel) ⟨Nat.le_of_ble_eq_true rfl, Nat.le_of_ble_eq_true rfl⟩) (r_preV hK hZ hc hA (hlv _ rfl) (rfl) rfl) rfl rfl hl.1 rfl (lv_room (Nat.le_of_ble_eq_true rfl)) dX4_told_84 ⟨Nat.le_of_ble_eq_true rfl, Nat.le_of_ble_eq_true rfl⟩) (fun r R' H locs hp hc => ?_)
        obtain ⟨hre, hRe⟩ := hp
        rw [hRe] at hc
        rw [hre]
        exact r_iret hx hb hr hlocks hc dX4_told_87 (by
      have hq9 : oTold M (nI j) (nI 0) = (0, nI (hS M j (pn M j)), M) := by simp only [oTold, tN_nI hj9, tN_nI hv2, if_pos hw3, if_pos hw16]; rfl
      unfold QM; rw [hq9]
      exact ⟨rfl, rfl, pm_th hM, ((outM.r _).sfi (by decide))⟩)
      · refine lv_tableIn (tgt := 88) (off := 48) hx hb dX4_told_40 (by decide) (by decide) (by decide) (by decide) ?_
        refine lv_aload_n hx hb dX4_told_88 rfl (lv_at hl 0 rfl) ?_
        refine lv_iload_n hx hb dX4_told_89 rfl (lv_at hl 1 rfl) ?_
        refine r_calli hc hA (va_runV (As := [.int (nI (j))]) (rest := []) ⟨hx, hb, hml, hown, hts⟩ (c_X4_weightOf l D g lv a (sfi R 100 5 (nI (0))) M hmr (pm_th hM) hI j hj _) (cwV 1 hts gX4_told_X4_weightOf rfl rfl rfl (by decide +kernel) ⟨Nat.le_of_ble_eq_true rfl, Nat.le_of_ble_eq_true rfl⟩) (r_preV hK hZ hc hA (hlv _ rfl) (rfl) rfl) rfl rfl hl.1 rfl (lv_room (Nat.le_of_ble_eq_true rfl)) dX4_told_90 ⟨Nat.le_of_ble_eq_true rfl, Nat.le_of_ble_eq_true rfl⟩) (fun r R' H locs hp hc => ?_)
        obtain ⟨hre, hRe⟩ := hp
        rw [hRe] at hc
        rw [hre]
        exact r_iret hx hb hr hlocks hc dX4_told_93 (by
      have hq9 : oTold M (nI j) (nI 1) = (0, nI (wS M j (pn M j)), M) := by simp only [oTold, tN_nI hj9, tN_nI hv2, if_pos hw3, if_pos hw16]; rfl
      unfold QM; rw [hq9]
      exact ⟨rfl, rfl, pm_th hM, ((outM.r _).sfi (by decide))⟩)
      · refine lv_tableIn (tgt := 94) (off := 54) hx hb dX4_told_40 (by decide) (by decide) (by decide) (by decide) ?_
        refine lv_aload_n hx hb dX4_told_94 rfl (lv_at hl 0 rfl) ?_
        refine r_get (C := RX4) (T := TX4) (N := 33) (v := .ref (a (118))) hx hb hts hown hK.1 hc (hlv _ rfl) (rfl) rfl rfl hinX4 18 (by decide) hf_49 (fun _ h9 => h9) (congrArg va_rf (hmr.2 18 rfl)) dX4_told_95 ?_
        refine lv_iload_n hx hb dX4_told_98 rfl (lv_at hl 1 rfl) ?_
        refine r_iald (v := nI (pn M j)) hx hb hK.1 hc (hlv _ rfl) (rfl) (by decide) (by omega) dX4_told_99 ((hM.2.2.2.2.1 _ (by omega)).1) ?_
        exact r_iret hx hb hr hlocks hc dX4_told_100 (by
      have hq9 : oTold M (nI j) (nI 2) = (0, nI (pn M j), M) := by simp only [oTold, tN_nI hj9, tN_nI hv2, if_pos hw3, if_pos hw16]; rfl
      unfold QM; rw [hq9]
      exact ⟨rfl, rfl, pm_th hM, ((outM.r _).sfi (by decide))⟩)
      · refine lv_tableIn (tgt := 101) (off := 61) hx hb dX4_told_40 (by decide) (by decide) (by decide) (by decide) ?_
        refine lv_aload_n hx hb dX4_told_101 rfl (lv_at hl 0 rfl) ?_
        refine lv_iload_n hx hb dX4_told_102 rfl (lv_at hl 1 rfl) ?_
        refine r_calli hc hA (va_runV (As := [.int (nI (j))]) (rest := []) ⟨hx, hb, hml, hown, hts⟩ (c_X4_boxesOn l D g lv a (sfi R 100 5 (nI (0))) M hmr (pm_th hM) hI j hj _) (cwV 1 hts gX4_told_X4_boxesOn rfl rfl rfl (by decide +kernel) ⟨Nat.le_of_ble_eq_true rfl, Nat.le_of_ble_eq_true rfl⟩) (r_preV hK hZ hc hA (hlv _ rfl) (rfl) rfl) rfl rfl hl.1 rfl (lv_room (Nat.le_of_ble_eq_true rfl)) dX4_told_103 ⟨Nat.le_of_ble_eq_true rfl, Nat.le_of_ble_eq_true rfl⟩) (fun r R' H locs hp hc => ?_)
        obtain ⟨hre, hRe⟩ := hp
        rw [hRe] at hc
        rw [hre]
        exact r_iret hx hb hr hlocks hc dX4_told_106 (by
      have hq9 : oTold M (nI j) (nI 3) = (0, nI (bS M j (pn M j)), M) := by simp only [oTold, tN_nI hj9, tN_nI hv2, if_pos hw3, if_pos hw16]; rfl
      unfold QM; rw [hq9]
      exact ⟨rfl, rfl, pm_th hM, ((outM.r _).sfi (by decide))⟩)
      · refine lv_tableIn (tgt := 107) (off := 67) hx hb dX4_told_40 (by decide) (by decide) (by decide) (by decide) ?_
        refine lv_aload_n hx hb dX4_told_107 rfl (lv_at hl 0 rfl) ?_
        refine r_get (C := RX4) (T := TX4) (N := 33) (v := .ref (a (121))) hx hb hts hown hK.1 hc (hlv _ rfl) (rfl) rfl rfl hinX4 21 (by decide) hf_58 (fun _ h9 => h9) (congrArg va_rf (hmr.2 21 rfl)) dX4_told_108 ?_
        refine lv_iload_n hx hb dX4_told_111 rfl (lv_at hl 1 rfl) ?_
        refine r_iald (v := stI (ps M j)) hx hb hK.1 hc (hlv _ rfl) (rfl) (by decide) (by omega) dX4_told_112 ((hM.2.2.2.2.1 _ (by omega)).2) ?_
        exact r_iret hx hb hr hlocks hc dX4_told_113 (by
      have hq9 : oTold M (nI j) (nI 4) = (0, stI (ps M j), M) := by simp only [oTold, tN_nI hj9, tN_nI hv2, if_pos hw3, if_pos hw16]; rfl
      unfold QM; rw [hq9]
      exact ⟨rfl, rfl, pm_th hM, ((outM.r _).sfi (by decide))⟩)
      · refine lv_tableOut (tgt := 114) hx hb dX4_told_40 (by decide) (by decide) ?_
        refine lv_iconst (v := nI (0)) hx hb dX4_told_114 (by decide) ?_
        refine lv_istore_n (lv' := [(3, .int (nI (0))), (0, .ref (a (100))), (1, .int (nI (j))), (2, .int (nI (5)))]) hx hb dX4_told_115 rfl hl (by decide) rfl (fun ls hl => ?_)
        refine lv_iconst (v := nI (0)) hx hb dX4_told_116 (by decide) ?_
        refine lv_istore (lv' := [(4, .int (nI (0))), (3, .int (nI (0))), (0, .ref (a (100))), (1, .int (nI (j))), (2, .int (nI (5)))]) hx hb dX4_told_117 hl (by decide) rfl (fun ls hl => ?_)
        have loop119 : ∀ (fuel119 : Nat) (i : Nat) (H : Heap) (locs : List Loc) (ls : Array Slot), pn M j - i < fuel119 → (i ≤ pn M j) → rc D g (rA lv a st.heap.size) st.heap lv a (sfi R 100 5 (nI (0))) H locs → lv_has ls 5 [(0, .ref (a (100))), (1, .int (nI (j))), (3, .int (kbit M j i)), (4, .int (nI (i)))] → W pr l en ({ frames := 2, cells := 0, slots := 0, locals := 43 } : Room) st mi ([.ref (a (100)), .int ((nI j)), .int ((nI 5))] : List Value).toArray bl me co H locs 0 0 (MQ bl (va_Qi (QM R (oTold M (nI j) (nI 5))) (cB D g lv a) (rA lv a st.heap.size)) ([.ref (a (100)), .int ((nI j)), .int ((nI 5))] : List Value).toArray st 0 0 (rA lv a st.heap.size)) (F0 mi 119 ls []) := by
          intro fuel119
          induction fuel119 with
          | zero => intro i H locs ls hmu; exact absurd hmu (Nat.not_lt_zero _)
          | succ fuel119 ih119 =>
            intro i H locs ls hmu119 hi hc hl
            refine lv_iload hx hb dX4_told_119 (lv_at hl 3 rfl) ?_
            refine lv_aload_n hx hb dX4_told_121 rfl (lv_at hl 0 rfl) ?_
            refine r_get (C := RX4) (T := TX4) (N := 33) (v := .ref (a (118))) hx hb hts hown hK.1 hc (hlv _ rfl) (rfl) rfl rfl hinX4 18 (by decide) hf_49 (fun _ h9 => h9) (congrArg va_rf (hmr.2 18 rfl)) dX4_told_122 ?_
            refine lv_iload_n hx hb dX4_told_125 rfl (lv_at hl 1 rfl) ?_
            refine r_iald (v := nI (pn M j)) hx hb hK.1 hc (hlv _ rfl) (rfl) (by decide) (by omega) dX4_told_126 ((hM.2.2.2.2.1 _ (by omega)).1) ?_
            refine lv_icmp_ge (tgt := 153) hx hb dX4_told_127 (by decide) (fun hq_14 => ?_) (fun hq_14 => ?_)
            · have hq_14 : (pn M j) ≤ i := (nI_leI (a := (pn M j)) (b := i) (by omega) (by omega)).mp hq_14
              refine lv_iload_n hx hb dX4_told_153 rfl (lv_at hl 2 rfl) ?_
              exact r_iret hx hb hr hlocks hc dX4_told_154 (by
      rw [show i = pn M j by omega]
      have hq9 : oTold M (nI j) (nI 5) = (0, kbit M j (pn M j), M) := by simp only [oTold, tN_nI hj9, tN_nI hv2, if_pos hw3, if_pos hw16]; rfl
      unfold QM; rw [hq9]
      exact ⟨rfl, rfl, pm_th hM, ((outM.r _).sfi (by decide))⟩)
            · have hq_14 : ¬ ((pn M j) ≤ i) := fun z => hq_14 ((nI_leI (a := (pn M j)) (b := i) (by omega) (by omega)).mpr z)
              have hlk := iv_l hI hj (show i < pn M j by omega)
              refine lv_iload_n hx hb dX4_told_130 rfl (lv_at hl 2 rfl) ?_
              refine lv_iconst (v := nI (1)) hx hb dX4_told_131 (by decide) ?_
              refine lv_aload_n hx hb dX4_told_132 rfl (lv_at hl 0 rfl) ?_
              refine r_get (C := RX4) (T := TX4) (N := 33) (v := .ref (a (119))) hx hb hts hown hK.1 hc (hlv _ rfl) (rfl) rfl rfl hinX4 19 (by decide) hf_52 (fun _ h9 => h9) (congrArg va_rf (hmr.2 19 rfl)) dX4_told_133 ?_
              refine lv_bipush (v := nI (10)) hx hb dX4_told_136 (by decide) ?_
              refine lv_iload_n hx hb dX4_told_138 rfl (lv_at hl 1 rfl) ?_
              refine nv_imul hx hb dX4_told_139 ?_
              refine lv_iload hx hb dX4_told_140 (lv_at hl 3 rfl) ?_
              refine nv_iadd hx hb dX4_told_142 ?_
              refine r_iald (v := nI (lk M j i)) hx hb hK.1 hc (hlv _ rfl) (rfl) (by decide) (by omega) dX4_told_143 ((hM.2.2.2.2.2.1 _ (by omega) _ (by omega)).1) ?_
              refine lv_ishl hx hb dX4_told_144 ?_
              refine lv_ior hx hb dX4_told_145 ?_
              refine lv_istore_n (lv' := [(3, .int ((kbit M j i) ||| ((nI (1)) <<< ((nI (lk M j i)) &&& 31)))), (0, .ref (a (100))), (1, .int (nI (j))), (4, .int (nI (i)))]) hx hb dX4_told_146 rfl hl (by decide) rfl (fun ls hl => ?_)
              refine lv_iinc (v := nI (i + 1)) (lv' := [(4, .int (nI (i + 1))), (3, .int ((kbit M j i) ||| ((nI (1)) <<< ((nI (lk M j i)) &&& 31)))), (0, .ref (a (100))), (1, .int (nI (j)))]) hx hb dX4_told_147 hl (k := 3) rfl (nI_inc _ 1) (by decide) rfl (fun ls hl => ?_)
              refine lv_goto (tgt := 119) hx hb dX4_told_150 (by decide) ?_
              exact ih119 (i + 1) _ _ ls (by omega) (by omega) hc (lv_sub hl [2, 3, 1, 0] rfl)
        exact loop119 (pn M j + 1) 0 _ _ ls (by omega) (Nat.zero_le _) hc (lv_sub hl [2, 3, 1, 0] rfl)
    · rw [hRe] at hc
      rw [w_iff (by decide) (by decide)] at hw16
      refine lv_if_ne (tgt := 26) hx hb dX4_told_19 (by decide) (fun hq_15 => absurd hq_15 (by decide)) (fun hq_15 => ?_)
      refine lv_iconst (v := nI (2)) hx hb dX4_told_22 (by decide) ?_
      refine lv_goto (tgt := 27) hx hb dX4_told_23 (by decide) ?_
      refine r_put (C := RX4) (T := TX4) (N := 33) (R' := sfi R 100 5 (nI (2))) hx hb hts hown hK.1 hc (hlv _ rfl) (rfl) rfl rfl hinX4 tyX4 tyX4_ok nmX4 5 (by decide) hf_89 (fun _ h9 => h9) rfl (tyX4_ok 5 (by decide)) rfl rfl dX4_told_27 (fds_sfi (by decide) (by decide)) (fun _ h9 => ct_sfi h9) (fun H locs hc => ?_)
      refine lv_aload_n hx hb dX4_told_30 rfl (lv_at hl 0 rfl) ?_
      refine r_get (C := RX4) (T := TX4) (N := 33) (v := .int (nI (2))) hx hb hts hown hK.1 hc (hlv _ rfl) (rfl) rfl rfl hinX4 5 (by decide) hf_89 (fun _ h9 => h9) rfl dX4_told_31 ?_
      refine lv_if_eq (tgt := 39) hx hb dX4_told_34 (by decide) (fun hq_16 => absurd hq_16 (by decide)) (fun hq_16 => ?_)
      refine lv_iconst (v := nI (0)) hx hb dX4_told_37 (by decide) ?_
      exact r_iret hx hb hr hlocks hc dX4_told_38 (by
      have hq9 : oTold M (nI j) y = (2, nI 0, M) := by simp only [oTold, tN_nI hj9, if_pos hw3, if_neg hw16]
      unfold QM; rw [hq9]
      exact ⟨rfl, rfl, pm_th hM, ((outM.r _).sfi (by decide))⟩)
  · rw [hRe] at hc
    refine lv_if_ne (tgt := 13) hx hb dX4_told_6 (by decide) (fun hq_17 => absurd hq_17 (by decide)) (fun hq_17 => ?_)
    refine lv_iconst (v := nI (1)) hx hb dX4_told_9 (by decide) ?_
    refine lv_goto (tgt := 27) hx hb dX4_told_10 (by decide) ?_
    refine r_put (C := RX4) (T := TX4) (N := 33) (R' := sfi R 100 5 (nI (1))) hx hb hts hown hK.1 hc (hlv _ rfl) (rfl) rfl rfl hinX4 tyX4 tyX4_ok nmX4 5 (by decide) hf_89 (fun _ h9 => h9) rfl (tyX4_ok 5 (by decide)) rfl rfl dX4_told_27 (fds_sfi (by decide) (by decide)) (fun _ h9 => ct_sfi h9) (fun H locs hc => ?_)
    refine lv_aload_n hx hb dX4_told_30 rfl (lv_at hl 0 rfl) ?_
    refine r_get (C := RX4) (T := TX4) (N := 33) (v := .int (nI (1))) hx hb hts hown hK.1 hc (hlv _ rfl) (rfl) rfl rfl hinX4 5 (by decide) hf_89 (fun _ h9 => h9) rfl dX4_told_31 ?_
    refine lv_if_eq (tgt := 39) hx hb dX4_told_34 (by decide) (fun hq_18 => absurd hq_18 (by decide)) (fun hq_18 => ?_)
    refine lv_iconst (v := nI (0)) hx hb dX4_told_37 (by decide) ?_
    exact r_iret hx hb hr hlocks hc dX4_told_38 (by
      have hq9 : oTold M x y = (1, nI 0, M) := by simp only [oTold, if_neg hw3]
      unfold QM; rw [hq9]
      exact ⟨rfl, rfl, pm_th hM, ((outM.r _).sfi (by decide))⟩)
set_option maxRecDepth 100000 in
set_option maxHeartbeats 4000000 in
theorem c_X4_layer (l : Launch) (D : va_G) (g : Nat → ClassId) (lv : Nat → Bool) (a : Nat → Nat) (R : RS) (M : MS) (hmr : PMr R a lv) (hM : PM R M) (hI : Inv M) (x y z : Int32) : cI l D g lv a yX4_layer wsX4_layer ({ frames := 3, cells := 0, slots := 0, locals := 65 } : Room) [.ref (a (100)), .int (x), .int (y), .int (z)] R (QM R (oLayer M x y z)) 0 0 := by
  refine c_body (cc := cX4_layer) (maxL := 6) (ret := (some .int)) (by decide) rfl (Nat.le_of_ble_eq_true rfl) ?_
  intro pr en st mi bl me co ls B hl
  obtain ⟨hx, hb, hr, hml, hown, hts, hlocks, hnm, hK, hZ, hc, hA⟩ := B
  have hl : lv_has ls 6 [(0, .ref (a (100))), (1, .int (x)), (2, .int (y)), (3, .int (z))] := hl
  have hinX4 : ∀ w ∈ u_ws RX4 TX4 33, w ∈ wsX4_layer := (fun _ h => List.mem_cons_of_mem _ (List.mem_append_left _ (List.mem_append_right _ h)))
  have hf_22 := hts (.fieldLink RX4 22 "PalletLayersModel" "boxes" "[I") (by decide +kernel)
  have hf_52 := hts (.fieldLink RX4 52 "PalletLayersModel" "layerKind" "[I") (by decide +kernel)
  have hf_55 := hts (.fieldLink RX4 55 "PalletLayersModel" "layerBoxes" "[I") (by decide +kernel)
  have hf_89 := hts (.fieldLink RX4 89 "PalletLayersModel" "thrown" "I") (by decide +kernel)
  have hlv := hmr.1
  have hb9 := iv_b hI
  refine lv_aload_n hx hb dX4_layer_0 rfl (lv_at hl 0 rfl) ?_
  refine lv_aload_n hx hb dX4_layer_1 rfl (lv_at hl 0 rfl) ?_
  refine lv_iload_n hx hb dX4_layer_2 rfl (lv_at hl 1 rfl) ?_
  refine lv_iload_n hx hb dX4_layer_3 rfl (lv_at hl 2 rfl) ?_
  refine r_calli hc hA (va_runV (As := [.int (x), .int (y)]) (rest := [.ref (a (100))]) ⟨hx, hb, hml, hown, hts⟩ (c_X4_isLayer l D g lv a R M hmr hM hI x y _) (cwV 2 hts gX4_layer_X4_isLayer rfl rfl rfl (by decide +kernel) ⟨Nat.le_of_ble_eq_true rfl, Nat.le_of_ble_eq_true rfl⟩) (r_preV hK hZ hc hA (hlv _ rfl) (rfl) rfl) rfl rfl hl.1 rfl (lv_room (Nat.le_of_ble_eq_true rfl)) dX4_layer_4 ⟨Nat.le_of_ble_eq_true rfl, Nat.le_of_ble_eq_true rfl⟩) (fun r R' H locs hp hc => ?_)
  obtain ⟨hRe, ⟨hw4, rfl⟩ | ⟨hw4, rfl⟩⟩ := hp
  · rw [hRe] at hc
    obtain ⟨j, hj, hj9, rfl⟩ := isN_ex hw4.1
    have hw4b := hw4.2
    rw [tN_nI hj9] at hw4b
    obtain ⟨i, hi, hi9, rfl⟩ := isN_ex hw4b
    refine lv_if_ne (tgt := 14) hx hb dX4_layer_7 (by decide) (fun hq_3 => ?_) (fun hq_3 => absurd hq_3 (by decide))
    have hp9 := iv_p hI hj
    have hl9 := iv_l hI hj hi
    have hk9 := iv_k hI hl9.1
    refine lv_iload_n hx hb dX4_layer_14 rfl (lv_at hl 3 rfl) ?_
    refine lv_iconst (v := nI (0)) hx hb dX4_layer_15 (by decide) ?_
    refine lv_iconst (v := nI (3)) hx hb dX4_layer_16 (by decide) ?_
    refine r_calli hc hA (va_runS (As := [.int (z), .int (nI (0)), .int (nI (3))]) (rest := [.ref (a (100))]) ⟨hx, hb, hml, hown, hts⟩ (c_X4_within l D g lv a R z (nI (0)) (nI (3)) _) (va_cwS 3 hts gX4_layer_X4_within rfl rfl rfl (by decide +kernel) ⟨Nat.le_of_ble_eq_true rfl, Nat.le_of_ble_eq_true rfl⟩) (r_preS hK hZ hc hA) rfl rfl hl.1 rfl (lv_room (Nat.le_of_ble_eq_true rfl)) dX4_layer_17 ⟨Nat.le_of_ble_eq_true rfl, Nat.le_of_ble_eq_true rfl⟩) (fun r R' H locs hp hc => ?_)
    obtain ⟨hRe, ⟨hw17, rfl⟩ | ⟨hw17, rfl⟩⟩ := hp
    · rw [hRe] at hc
      rw [w_iff (by decide) (by decide)] at hw17
      refine lv_if_ne (tgt := 27) hx hb dX4_layer_20 (by decide) (fun hq_6 => ?_) (fun hq_6 => absurd hq_6 (by decide))
      refine lv_iconst (v := nI (0)) hx hb dX4_layer_27 (by decide) ?_
      refine r_put (C := RX4) (T := TX4) (N := 33) (R' := sfi R 100 5 (nI (0))) hx hb hts hown hK.1 hc (hlv _ rfl) (rfl) rfl rfl hinX4 tyX4 tyX4_ok nmX4 5 (by decide) hf_89 (fun _ h9 => h9) rfl (tyX4_ok 5 (by decide)) rfl rfl dX4_layer_28 (fds_sfi (by decide) (by decide)) (fun _ h9 => ct_sfi h9) (fun H locs hc => ?_)
      refine lv_aload_n hx hb dX4_layer_31 rfl (lv_at hl 0 rfl) ?_
      refine r_get (C := RX4) (T := TX4) (N := 33) (v := .int (nI (0))) hx hb hts hown hK.1 hc (hlv _ rfl) (rfl) rfl rfl hinX4 5 (by decide) hf_89 (fun _ h9 => h9) rfl dX4_layer_32 ?_
      refine lv_if_eq (tgt := 40) hx hb dX4_layer_35 (by decide) (fun hq_7 => ?_) (fun hq_7 => absurd hq_7 (by decide))
      obtain ⟨v, hv0, hv1, hv2, rfl⟩ := isR_ex hw17
      refine lv_aload_n hx hb dX4_layer_40 rfl (lv_at hl 0 rfl) ?_
      refine r_get (C := RX4) (T := TX4) (N := 33) (v := .ref (a (119))) hx hb hts hown hK.1 hc (hlv _ rfl) (rfl) rfl rfl hinX4 19 (by decide) hf_52 (fun _ h9 => h9) (congrArg va_rf (hmr.2 19 rfl)) dX4_layer_41 ?_
      refine lv_bipush (v := nI (10)) hx hb dX4_layer_44 (by decide) ?_
      refine lv_iload_n hx hb dX4_layer_46 rfl (lv_at hl 1 rfl) ?_
      refine nv_imul hx hb dX4_layer_47 ?_
      refine lv_iload_n hx hb dX4_layer_48 rfl (lv_at hl 2 rfl) ?_
      refine nv_iadd hx hb dX4_layer_49 ?_
      refine r_iald (v := nI (lk M j i)) hx hb hK.1 hc (hlv _ rfl) (rfl) (by decide) (by omega) dX4_layer_50 ((hM.2.2.2.2.2.1 _ (by omega) _ (by omega)).1) ?_
      refine lv_istore (lv' := [(4, .int (nI (lk M j i))), (0, .ref (a (100))), (1, .int (nI (j))), (2, .int (nI (i))), (3, .int (nI (v)))]) hx hb dX4_layer_51 hl (by decide) rfl (fun ls hl => ?_)
      refine lv_aload_n hx hb dX4_layer_53 rfl (lv_at hl 1 rfl) ?_
      refine r_get (C := RX4) (T := TX4) (N := 33) (v := .ref (a (120))) hx hb hts hown hK.1 hc (hlv _ rfl) (rfl) rfl rfl hinX4 20 (by decide) hf_55 (fun _ h9 => h9) (congrArg va_rf (hmr.2 20 rfl)) dX4_layer_54 ?_
      refine lv_bipush (v := nI (10)) hx hb dX4_layer_57 (by decide) ?_
      refine lv_iload_n hx hb dX4_layer_59 rfl (lv_at hl 2 rfl) ?_
      refine nv_imul hx hb dX4_layer_60 ?_
      refine lv_iload_n hx hb dX4_layer_61 rfl (lv_at hl 3 rfl) ?_
      refine nv_iadd hx hb dX4_layer_62 ?_
      refine r_iald (v := nI (lb M j i)) hx hb hK.1 hc (hlv _ rfl) (rfl) (by decide) (by omega) dX4_layer_63 ((hM.2.2.2.2.2.1 _ (by omega) _ (by omega)).2) ?_
      refine lv_istore (lv' := [(5, .int (nI (lb M j i))), (4, .int (nI (lk M j i))), (0, .ref (a (100))), (1, .int (nI (j))), (2, .int (nI (i))), (3, .int (nI (v)))]) hx hb dX4_layer_64 hl (by decide) rfl (fun ls hl => ?_)
      refine lv_iload_n hx hb dX4_layer_66 rfl (lv_at hl 5 rfl) ?_
      refine lv_if_ne (tgt := 75) hx hb dX4_layer_67 (by decide) (fun hq_8 => ?_) (fun hq_8 => ?_)
      · have hq_8 : ¬ (v = 0) := fun z => hq_8 ((nI_eq (a := v) (b := 0) (by omega) (by omega)).mpr z)
        have hz3 : ¬ v = 0 := hq_8
        refine lv_iload_n hx hb dX4_layer_75 rfl (lv_at hl 5 rfl) ?_
        refine lv_iconst (v := nI (1)) hx hb dX4_layer_76 (by decide) ?_
        refine lv_icmp_ne (tgt := 85) hx hb dX4_layer_77 (by decide) (fun hq_9 => ?_) (fun hq_9 => ?_)
        · have hq_9 : ¬ (v = 1) := fun z => hq_9 ((nI_eq (a := v) (b := 1) (by omega) (by omega)).mpr z)
          have hz4 : ¬ v = 1 := hq_9
          refine lv_iload_n hx hb dX4_layer_85 rfl (lv_at hl 5 rfl) ?_
          refine lv_iconst (v := nI (2)) hx hb dX4_layer_86 (by decide) ?_
          refine lv_icmp_ne (tgt := 99) hx hb dX4_layer_87 (by decide) (fun hq_10 => ?_) (fun hq_10 => ?_)
          · have hq_10 : ¬ (v = 2) := fun z => hq_10 ((nI_eq (a := v) (b := 2) (by omega) (by omega)).mpr z)
            have hz5 : ¬ v = 2 := hq_10
            refine lv_iload hx hb dX4_layer_99 (lv_at hl 0 rfl) ?_
            refine lv_aload_n hx hb dX4_layer_101 rfl (lv_at hl 2 rfl) ?_
            refine r_get (C := RX4) (T := TX4) (N := 33) (v := .ref (a (110))) hx hb hts hown hK.1 hc (hlv _ rfl) (rfl) rfl rfl hinX4 10 (by decide) hf_22 (fun _ h9 => h9) (congrArg va_rf (hmr.2 10 rfl)) dX4_layer_102 ?_
            refine lv_iload hx hb dX4_layer_105 (lv_at hl 1 rfl) ?_
            refine r_iald (v := nI (kb M (lk M j i))) hx hb hK.1 hc (hlv _ rfl) (rfl) (by decide) (by omega) dX4_layer_107 ((hM.2.1 _ (by omega)).2.2.2.2.1) ?_
            refine lv_icmp_ne (tgt := 115) hx hb dX4_layer_108 (by decide) (fun hq_11 => ?_) (fun hq_11 => ?_)
            · have hq_11 : ¬ ((lb M j i) = (kb M (lk M j i))) := fun z => hq_11 ((nI_eq (a := (lb M j i)) (b := (kb M (lk M j i))) (by omega) (by omega)).mpr z)
              have hz6 : ¬ lb M j i = kb M (lk M j i) := hq_11
              refine lv_iconst (v := nI (0)) hx hb dX4_layer_115 (by decide) ?_
              exact r_iret hx hb hr hlocks hc dX4_layer_116 (by
      have hq9 : oLayer M (nI j) (nI i) (nI v) = (0, nI (0), M) := by rw [oLayer, if_pos hw4]; simp only [if_pos hw17, tN_nI hj9, tN_nI hi9, tN_nI hv2, if_neg hz3, if_neg hz4, if_neg hz5, if_neg hz6]
      unfold QM; rw [hq9]
      exact ⟨rfl, rfl, pm_th hM, ((outM.r _).sfi (by decide))⟩)
            · have hq_11 : (lb M j i) = (kb M (lk M j i)) := (nI_eq (a := (lb M j i)) (b := (kb M (lk M j i))) (by omega) (by omega)).mp hq_11
              have hz6 : lb M j i = kb M (lk M j i) := hq_11
              refine lv_iconst (v := nI (1)) hx hb dX4_layer_111 (by decide) ?_
              refine lv_goto (tgt := 116) hx hb dX4_layer_112 (by decide) ?_
              exact r_iret hx hb hr hlocks hc dX4_layer_116 (by
      have hq9 : oLayer M (nI j) (nI i) (nI v) = (0, nI (1), M) := by rw [oLayer, if_pos hw4]; simp only [if_pos hw17, tN_nI hj9, tN_nI hi9, tN_nI hv2, if_neg hz3, if_neg hz4, if_neg hz5, if_pos hz6]
      unfold QM; rw [hq9]
      exact ⟨rfl, rfl, pm_th hM, ((outM.r _).sfi (by decide))⟩)
          · have hq_10 : v = 2 := (nI_eq (a := v) (b := 2) (by omega) (by omega)).mp hq_10
            have hz5 : v = 2 := hq_10
            refine lv_aload_n hx hb dX4_layer_90 rfl (lv_at hl 2 rfl) ?_
            refine lv_iload_n hx hb dX4_layer_91 rfl (lv_at hl 3 rfl) ?_
            refine lv_iload_n hx hb dX4_layer_92 rfl (lv_at hl 4 rfl) ?_
            refine r_calli hc hA (va_runV (As := [.int (nI (j)), .int (nI (i))]) (rest := []) ⟨hx, hb, hml, hown, hts⟩ (c_X4_heightOf l D g lv a (sfi R 100 5 (nI (0))) M hmr (pm_th hM) hI j i hj (Nat.le_of_lt hi) _) (cwV 2 hts gX4_layer_X4_heightOf rfl rfl rfl (by decide +kernel) ⟨Nat.le_of_ble_eq_true rfl, Nat.le_of_ble_eq_true rfl⟩) (r_preV hK hZ hc hA (hlv _ rfl) (rfl) rfl) rfl rfl hl.1 rfl (lv_room (Nat.le_of_ble_eq_true rfl)) dX4_layer_93 ⟨Nat.le_of_ble_eq_true rfl, Nat.le_of_ble_eq_true rfl⟩) (fun r R' H locs hp hc => ?_)
            obtain ⟨hre, hRe⟩ := hp
            rw [hRe] at hc
            rw [hre]
            refine lv_goto (tgt := 116) hx hb dX4_layer_96 (by decide) ?_
            exact r_iret hx hb hr hlocks hc dX4_layer_116 (by
      have hq9 : oLayer M (nI j) (nI i) (nI v) = (0, nI (hS M j i), M) := by rw [oLayer, if_pos hw4]; simp only [if_pos hw17, tN_nI hj9, tN_nI hi9, tN_nI hv2, if_neg hz3, if_neg hz4, if_pos hz5]
      unfold QM; rw [hq9]
      exact ⟨rfl, rfl, pm_th hM, ((outM.r _).sfi (by decide))⟩)
        · have hq_9 : v = 1 := (nI_eq (a := v) (b := 1) (by omega) (by omega)).mp hq_9
          have hz4 : v = 1 := hq_9
          refine lv_iload hx hb dX4_layer_80 (lv_at hl 0 rfl) ?_
          refine lv_goto (tgt := 116) hx hb dX4_layer_82 (by decide) ?_
          exact r_iret hx hb hr hlocks hc dX4_layer_116 (by
      have hq9 : oLayer M (nI j) (nI i) (nI v) = (0, nI (lb M j i), M) := by rw [oLayer, if_pos hw4]; simp only [if_pos hw17, tN_nI hj9, tN_nI hi9, tN_nI hv2, if_neg hz3, if_pos hz4]
      unfold QM; rw [hq9]
      exact ⟨rfl, rfl, pm_th hM, ((outM.r _).sfi (by decide))⟩)
      · have hq_8 : v = 0 := (nI_eq (a := v) (b := 0) (by omega) (by omega)).mp hq_8
        have hz3 : v = 0 := hq_8
        refine lv_iload hx hb dX4_layer_70 (lv_at hl 1 rfl) ?_
        refine lv_goto (tgt := 116) hx hb dX4_layer_72 (by decide) ?_
        exact r_iret hx hb hr hlocks hc dX4_layer_116 (by
      have hq9 : oLayer M (nI j) (nI i) (nI v) = (0, nI (lk M j i), M) := by rw [oLayer, if_pos hw4]; simp only [if_pos hw17, tN_nI hj9, tN_nI hi9, tN_nI hv2, if_pos hz3]
      unfold QM; rw [hq9]
      exact ⟨rfl, rfl, pm_th hM, ((outM.r _).sfi (by decide))⟩)
    · rw [hRe] at hc
      rw [w_iff (by decide) (by decide)] at hw17
      refine lv_if_ne (tgt := 27) hx hb dX4_layer_20 (by decide) (fun hq_14 => absurd hq_14 (by decide)) (fun hq_14 => ?_)
      refine lv_iconst (v := nI (2)) hx hb dX4_layer_23 (by decide) ?_
      refine lv_goto (tgt := 28) hx hb dX4_layer_24 (by decide) ?_
      refine r_put (C := RX4) (T := TX4) (N := 33) (R' := sfi R 100 5 (nI (2))) hx hb hts hown hK.1 hc (hlv _ rfl) (rfl) rfl rfl hinX4 tyX4 tyX4_ok nmX4 5 (by decide) hf_89 (fun _ h9 => h9) rfl (tyX4_ok 5 (by decide)) rfl rfl dX4_layer_28 (fds_sfi (by decide) (by decide)) (fun _ h9 => ct_sfi h9) (fun H locs hc => ?_)
      refine lv_aload_n hx hb dX4_layer_31 rfl (lv_at hl 0 rfl) ?_
      refine r_get (C := RX4) (T := TX4) (N := 33) (v := .int (nI (2))) hx hb hts hown hK.1 hc (hlv _ rfl) (rfl) rfl rfl hinX4 5 (by decide) hf_89 (fun _ h9 => h9) rfl dX4_layer_32 ?_
      refine lv_if_eq (tgt := 40) hx hb dX4_layer_35 (by decide) (fun hq_15 => absurd hq_15 (by decide)) (fun hq_15 => ?_)
      refine lv_iconst (v := nI (0)) hx hb dX4_layer_38 (by decide) ?_
      exact r_iret hx hb hr hlocks hc dX4_layer_39 (by
      have hq9 : oLayer M (nI j) (nI i) z = (2, nI 0, M) := by simp only [oLayer, if_pos hw4, if_neg hw17]
      unfold QM; rw [hq9]
      exact ⟨rfl, rfl, pm_th hM, ((outM.r _).sfi (by decide))⟩)
  · rw [hRe] at hc
    refine lv_if_ne (tgt := 14) hx hb dX4_layer_7 (by decide) (fun hq_16 => absurd hq_16 (by decide)) (fun hq_16 => ?_)
    refine lv_iconst (v := nI (1)) hx hb dX4_layer_10 (by decide) ?_
    refine lv_goto (tgt := 28) hx hb dX4_layer_11 (by decide) ?_
    refine r_put (C := RX4) (T := TX4) (N := 33) (R' := sfi R 100 5 (nI (1))) hx hb hts hown hK.1 hc (hlv _ rfl) (rfl) rfl rfl hinX4 tyX4 tyX4_ok nmX4 5 (by decide) hf_89 (fun _ h9 => h9) rfl (tyX4_ok 5 (by decide)) rfl rfl dX4_layer_28 (fds_sfi (by decide) (by decide)) (fun _ h9 => ct_sfi h9) (fun H locs hc => ?_)
    refine lv_aload_n hx hb dX4_layer_31 rfl (lv_at hl 0 rfl) ?_
    refine r_get (C := RX4) (T := TX4) (N := 33) (v := .int (nI (1))) hx hb hts hown hK.1 hc (hlv _ rfl) (rfl) rfl rfl hinX4 5 (by decide) hf_89 (fun _ h9 => h9) rfl dX4_layer_32 ?_
    refine lv_if_eq (tgt := 40) hx hb dX4_layer_35 (by decide) (fun hq_17 => absurd hq_17 (by decide)) (fun hq_17 => ?_)
    refine lv_iconst (v := nI (0)) hx hb dX4_layer_38 (by decide) ?_
    exact r_iret hx hb hr hlocks hc dX4_layer_39 (by
      have hq9 : oLayer M x y z = (1, nI 0, M) := by simp only [oLayer, if_neg hw4]
      unfold QM; rw [hq9]
      exact ⟨rfl, rfl, pm_th hM, ((outM.r _).sfi (by decide))⟩)
set_option maxRecDepth 100000 in
set_option maxHeartbeats 4000000 in
theorem c_X4_hasLayers (l : Launch) (D : va_G) (g : Nat → ClassId) (lv : Nat → Bool) (a : Nat → Nat) (R : RS) (M : MS) (hmr : PMr R a lv) (hM : PM R M) (hI : Inv M) (k : Nat) (hk : k < mnk M) : cI l D g lv a yX4_hasLayers wsX4_hasLayers ({ frames := 0, cells := 0, slots := 0, locals := 0 } : Room) [.ref (a (100)), .int (nI (k))] R (fun r R' => R' = R ∧ (onP M k (mnp M) = true ∧ r = nI 1 ∨ onP M k (mnp M) = false ∧ r = nI 0)) 0 0 := by
  refine c_body (cc := cX4_hasLayers) (maxL := 4) (ret := (some .boolean)) (by decide) rfl (Nat.le_of_ble_eq_true rfl) ?_
  intro pr en st mi bl me co ls B hl
  obtain ⟨hx, hb, hr, hml, hown, hts, hlocks, hnm, hK, hZ, hc, hA⟩ := B
  have hl : lv_has ls 4 [(0, .ref (a (100))), (1, .int (nI (k)))] := hl
  have hinX4 : ∀ w ∈ u_ws RX4 TX4 33, w ∈ wsX4_hasLayers := (fun _ h => List.mem_cons_of_mem _ (List.mem_append_left _ (List.mem_append_right _ h)))
  have hf_49 := hts (.fieldLink RX4 49 "PalletLayersModel" "layers" "[I") (by decide +kernel)
  have hf_52 := hts (.fieldLink RX4 52 "PalletLayersModel" "layerKind" "[I") (by decide +kernel)
  have hf_99 := hts (.fieldLink RX4 99 "PalletLayersModel" "pallets" "I") (by decide +kernel)
  have hlv := hmr.1
  have hb9 := iv_b hI
  refine lv_iconst (v := nI (0)) hx hb dX4_hasLayers_0 (by decide) ?_
  refine lv_istore_n (lv' := [(2, .int (nI (0))), (0, .ref (a (100))), (1, .int (nI (k)))]) hx hb dX4_hasLayers_1 rfl hl (by decide) rfl (fun ls hl => ?_)
  have loop2 : ∀ (fuel2 : Nat) (i : Nat) (H : Heap) (locs : List Loc) (ls : Array Slot), mnp M - i < fuel2 → (i ≤ mnp M) → (onP M k i = false) → rc D g (rA lv a st.heap.size) st.heap lv a R H locs → lv_has ls 4 [(0, .ref (a (100))), (1, .int (nI (k))), (2, .int (nI (i)))] → W pr l en ({ frames := 0, cells := 0, slots := 0, locals := 0 } : Room) st mi ([.ref (a (100)), .int (nI (k))] : List Value).toArray bl me co H locs 0 0 (MQ bl (va_Qi (fun r R' => R' = R ∧ (onP M k (mnp M) = true ∧ r = nI 1 ∨ onP M k (mnp M) = false ∧ r = nI 0)) (cB D g lv a) (rA lv a st.heap.size)) ([.ref (a (100)), .int (nI (k))] : List Value).toArray st 0 0 (rA lv a st.heap.size)) (F0 mi 2 ls []) := by
    intro fuel2
    induction fuel2 with
    | zero => intro i H locs ls hmu; exact absurd hmu (Nat.not_lt_zero _)
    | succ fuel2 ih2 =>
      intro i H locs ls hmu2 hi ho hc hl
      refine lv_iload_n hx hb dX4_hasLayers_2 rfl (lv_at hl 2 rfl) ?_
      refine lv_aload_n hx hb dX4_hasLayers_3 rfl (lv_at hl 0 rfl) ?_
      refine r_get (C := RX4) (T := TX4) (N := 33) (v := .int (nI (mnp M))) hx hb hts hown hK.1 hc (hlv _ rfl) (rfl) rfl rfl hinX4 4 (by decide) hf_99 (fun _ h9 => h9) (congrArg Value.int hM.1.2.2.2.2.1) dX4_hasLayers_4 ?_
      refine lv_icmp_ge (tgt := 51) hx hb dX4_hasLayers_7 (by decide) (fun hq_1 => ?_) (fun hq_1 => ?_)
      · have hq_1 : (mnp M) ≤ i := (nI_leI (a := (mnp M)) (b := i) (by omega) (by omega)).mp hq_1
        refine lv_iconst (v := nI (0)) hx hb dX4_hasLayers_51 (by decide) ?_
        exact r_zret hx hb hr hlocks hc dX4_hasLayers_52 (by decide) ⟨rfl, Or.inr ⟨by rw [← show i = mnp M by omega]; exact ho, rfl⟩⟩
      · have hq_1 : ¬ ((mnp M) ≤ i) := fun z => hq_1 ((nI_leI (a := (mnp M)) (b := i) (by omega) (by omega)).mpr z)
        have hp9 := iv_p hI (show i < mnp M by omega)
        refine lv_iconst (v := nI (0)) hx hb dX4_hasLayers_10 (by decide) ?_
        refine lv_istore_n (lv' := [(3, .int (nI (0))), (0, .ref (a (100))), (1, .int (nI (k))), (2, .int (nI (i)))]) hx hb dX4_hasLayers_11 rfl hl (by decide) rfl (fun ls hl => ?_)
        have loop12 : ∀ (fuel12 : Nat) (q : Nat) (H : Heap) (locs : List Loc) (ls : Array Slot), pn M i - q < fuel12 → (q ≤ pn M i) → (onL M k i q = false) → rc D g (rA lv a st.heap.size) st.heap lv a R H locs → lv_has ls 4 [(0, .ref (a (100))), (1, .int (nI (k))), (2, .int (nI (i))), (3, .int (nI (q)))] → W pr l en ({ frames := 0, cells := 0, slots := 0, locals := 0 } : Room) st mi ([.ref (a (100)), .int (nI (k))] : List Value).toArray bl me co H locs 0 0 (MQ bl (va_Qi (fun r R' => R' = R ∧ (onP M k (mnp M) = true ∧ r = nI 1 ∨ onP M k (mnp M) = false ∧ r = nI 0)) (cB D g lv a) (rA lv a st.heap.size)) ([.ref (a (100)), .int (nI (k))] : List Value).toArray st 0 0 (rA lv a st.heap.size)) (F0 mi 12 ls []) := by
          intro fuel12
          induction fuel12 with
          | zero => intro q H locs ls hmu; exact absurd hmu (Nat.not_lt_zero _)
          | succ fuel12 ih12 =>
            intro q H locs ls hmu12 hqi hoq hc hl
            refine lv_iload_n hx hb dX4_hasLayers_12 rfl (lv_at hl 3 rfl) ?_
            refine lv_aload_n hx hb dX4_hasLayers_13 rfl (lv_at hl 0 rfl) ?_
            refine r_get (C := RX4) (T := TX4) (N := 33) (v := .ref (a (118))) hx hb hts hown hK.1 hc (hlv _ rfl) (rfl) rfl rfl hinX4 18 (by decide) hf_49 (fun _ h9 => h9) (congrArg va_rf (hmr.2 18 rfl)) dX4_hasLayers_14 ?_
            refine lv_iload_n hx hb dX4_hasLayers_17 rfl (lv_at hl 2 rfl) ?_
            refine r_iald (v := nI (pn M i)) hx hb hK.1 hc (hlv _ rfl) (rfl) (by decide) (by omega) dX4_hasLayers_18 ((hM.2.2.2.2.1 _ (by omega)).1) ?_
            refine lv_icmp_ge (tgt := 45) hx hb dX4_hasLayers_19 (by decide) (fun hq_2 => ?_) (fun hq_2 => ?_)
            · have hq_2 : (pn M i) ≤ q := (nI_leI (a := (pn M i)) (b := q) (by omega) (by omega)).mp hq_2
              refine lv_iinc (v := nI (i + 1)) (lv' := [(2, .int (nI (i + 1))), (0, .ref (a (100))), (1, .int (nI (k))), (3, .int (nI (q)))]) hx hb dX4_hasLayers_45 hl (k := 2) rfl (nI_inc _ 1) (by decide) rfl (fun ls hl => ?_)
              refine lv_goto (tgt := 2) hx hb dX4_hasLayers_48 (by decide) ?_
              exact ih2 (i + 1) _ _ ls (by omega) (by omega) (by simp only [onP, ho, Bool.false_or]; rw [← show q = pn M i by omega]; exact hoq) hc (lv_sub hl [1, 2, 0] rfl)
            · have hq_2 : ¬ ((pn M i) ≤ q) := fun z => hq_2 ((nI_leI (a := (pn M i)) (b := q) (by omega) (by omega)).mpr z)
              have hl9 := iv_l hI (show i < mnp M by omega) (show q < pn M i by omega)
              have hk9 := iv_k hI hl9.1
              refine lv_aload_n hx hb dX4_hasLayers_22 rfl (lv_at hl 0 rfl) ?_
              refine r_get (C := RX4) (T := TX4) (N := 33) (v := .ref (a (119))) hx hb hts hown hK.1 hc (hlv _ rfl) (rfl) rfl rfl hinX4 19 (by decide) hf_52 (fun _ h9 => h9) (congrArg va_rf (hmr.2 19 rfl)) dX4_hasLayers_23 ?_
              refine lv_bipush (v := nI (10)) hx hb dX4_hasLayers_26 (by decide) ?_
              refine lv_iload_n hx hb dX4_hasLayers_28 rfl (lv_at hl 2 rfl) ?_
              refine nv_imul hx hb dX4_hasLayers_29 ?_
              refine lv_iload_n hx hb dX4_hasLayers_30 rfl (lv_at hl 3 rfl) ?_
              refine nv_iadd hx hb dX4_hasLayers_31 ?_
              refine r_iald (v := nI (lk M i q)) hx hb hK.1 hc (hlv _ rfl) (rfl) (by decide) (by omega) dX4_hasLayers_32 ((hM.2.2.2.2.2.1 _ (by omega) _ (by omega)).1) ?_
              refine lv_iload_n hx hb dX4_hasLayers_33 rfl (lv_at hl 1 rfl) ?_
              refine lv_icmp_ne (tgt := 39) hx hb dX4_hasLayers_34 (by decide) (fun hq_3 => ?_) (fun hq_3 => ?_)
              · have hq_3 : ¬ ((lk M i q) = k) := fun z => hq_3 ((nI_eq (a := (lk M i q)) (b := k) (by omega) (by omega)).mpr z)
                have hne : ¬ lk M i q = k := hq_3
                refine lv_iinc (v := nI (q + 1)) (lv' := [(3, .int (nI (q + 1))), (0, .ref (a (100))), (1, .int (nI (k))), (2, .int (nI (i)))]) hx hb dX4_hasLayers_39 hl (k := 3) rfl (nI_inc _ 1) (by decide) rfl (fun ls hl => ?_)
                refine lv_goto (tgt := 12) hx hb dX4_hasLayers_42 (by decide) ?_
                exact ih12 (q + 1) _ _ ls (by omega) (by omega) (by simp only [onL, hoq, Bool.false_or]; exact decide_eq_false hne) hc (lv_sub hl [1, 2, 3, 0] rfl)
              · have hq_3 : (lk M i q) = k := (nI_eq (a := (lk M i q)) (b := k) (by omega) (by omega)).mp hq_3
                have hne : lk M i q = k := hq_3
                refine lv_iconst (v := nI (1)) hx hb dX4_hasLayers_37 (by decide) ?_
                exact r_zret hx hb hr hlocks hc dX4_hasLayers_38 (by decide) ⟨rfl, Or.inl ⟨onP_of (i := i) (q := q) (by omega) (by omega) hne, rfl⟩⟩
        exact loop12 (pn M i + 1) 0 _ _ ls (by omega) (Nat.zero_le _) rfl hc (lv_sub hl [1, 2, 3, 0] rfl)
  exact loop2 (mnp M + 1) 0 _ _ ls (by omega) (Nat.zero_le _) rfl hc (lv_sub hl [1, 2, 0] rfl)
set_option maxRecDepth 100000 in
set_option maxHeartbeats 4000000 in
theorem c_X4_add (l : Launch) (D : va_G) (g : Nat → ClassId) (lv : Nat → Bool) (a : Nat → Nat) (R : RS) (M : MS) (hmr : PMr R a lv) (hM : PM R M) (hI : Inv M) (p k n : Nat) (hp : p < mnp M) (h10 : pn M p < 10) : cV l D g lv a yX4_add wsX4_add ({ frames := 0, cells := 0, slots := 0, locals := 0 } : Room) [.ref (a (100)), .int (nI (p)), .int (nI (k)), .int (nI (n))] R (fun R' => PM R' (nAdd M p k n) ∧ outM R R' ∧ fi R' 100 5 = fi R 100 5) 0 0 := by
  refine c_body (cc := cX4_add) (maxL := 4) (ret := none) (by decide) rfl (Nat.le_of_ble_eq_true rfl) ?_
  intro pr en st mi bl me co ls B hl
  obtain ⟨hx, hb, hr, hml, hown, hts, hlocks, hnm, hK, hZ, hc, hA⟩ := B
  have hl : lv_has ls 4 [(0, .ref (a (100))), (1, .int (nI (p))), (2, .int (nI (k))), (3, .int (nI (n)))] := hl
  have hinX4 : ∀ w ∈ u_ws RX4 TX4 33, w ∈ wsX4_add := (fun _ h => List.mem_cons_of_mem _ (List.mem_append_left _ (List.mem_append_right _ h)))
  have hf_49 := hts (.fieldLink RX4 49 "PalletLayersModel" "layers" "[I") (by decide +kernel)
  have hf_52 := hts (.fieldLink RX4 52 "PalletLayersModel" "layerKind" "[I") (by decide +kernel)
  have hf_55 := hts (.fieldLink RX4 55 "PalletLayersModel" "layerBoxes" "[I") (by decide +kernel)
  have hlv := hmr.1
  have hb9 := iv_b hI
  refine lv_aload_n hx hb dX4_add_0 rfl (lv_at hl 0 rfl) ?_
  refine r_get (C := RX4) (T := TX4) (N := 33) (v := .ref (a (119))) hx hb hts hown hK.1 hc (hlv _ rfl) (rfl) rfl rfl hinX4 19 (by decide) hf_52 (fun _ h9 => h9) (congrArg va_rf (hmr.2 19 rfl)) dX4_add_1 ?_
  refine lv_bipush (v := nI (10)) hx hb dX4_add_4 (by decide) ?_
  refine lv_iload_n hx hb dX4_add_6 rfl (lv_at hl 1 rfl) ?_
  refine nv_imul hx hb dX4_add_7 ?_
  refine lv_aload_n hx hb dX4_add_8 rfl (lv_at hl 0 rfl) ?_
  refine r_get (C := RX4) (T := TX4) (N := 33) (v := .ref (a (118))) hx hb hts hown hK.1 hc (hlv _ rfl) (rfl) rfl rfl hinX4 18 (by decide) hf_49 (fun _ h9 => h9) (congrArg va_rf (hmr.2 18 rfl)) dX4_add_9 ?_
  refine lv_iload_n hx hb dX4_add_12 rfl (lv_at hl 1 rfl) ?_
  refine r_iald (v := nI (pn M p)) hx hb hK.1 hc (hlv _ rfl) (rfl) (by decide) (by omega) dX4_add_13 ((hM.2.2.2.2.1 _ (by omega)).1) ?_
  refine nv_iadd hx hb dX4_add_14 ?_
  refine lv_iload_n hx hb dX4_add_15 rfl (lv_at hl 2 rfl) ?_
  refine r_iast hx hb hK.1 hc (hlv _ rfl) (rfl) (by decide) (by omega) dX4_add_16 (fun H locs hc => ?_)
  refine lv_aload_n hx hb dX4_add_17 rfl (lv_at hl 0 rfl) ?_
  refine r_get (C := RX4) (T := TX4) (N := 33) (v := .ref (a (120))) hx hb hts hown hK.1 hc (hlv _ rfl) (rfl) rfl rfl hinX4 20 (by decide) hf_55 (fun _ h9 => h9) (congrArg va_rf (hmr.2 20 rfl)) dX4_add_18 ?_
  refine lv_bipush (v := nI (10)) hx hb dX4_add_21 (by decide) ?_
  refine lv_iload_n hx hb dX4_add_23 rfl (lv_at hl 1 rfl) ?_
  refine nv_imul hx hb dX4_add_24 ?_
  refine lv_aload_n hx hb dX4_add_25 rfl (lv_at hl 0 rfl) ?_
  refine r_get (C := RX4) (T := TX4) (N := 33) (v := .ref (a (118))) hx hb hts hown hK.1 hc (hlv _ rfl) (rfl) rfl rfl hinX4 18 (by decide) hf_49 (fun _ h9 => h9) (congrArg va_rf (hmr.2 18 rfl)) dX4_add_26 ?_
  refine lv_iload_n hx hb dX4_add_29 rfl (lv_at hl 1 rfl) ?_
  refine r_iald (v := nI (pn M p)) hx hb hK.1 hc (hlv _ rfl) (rfl) (by decide) (by omega) dX4_add_30 ((hM.2.2.2.2.1 _ (by omega)).1) ?_
  refine nv_iadd hx hb dX4_add_31 ?_
  refine lv_iload_n hx hb dX4_add_32 rfl (lv_at hl 3 rfl) ?_
  refine r_iast hx hb hK.1 hc (hlv _ rfl) (rfl) (by decide) (by omega) dX4_add_33 (fun H locs hc => ?_)
  refine lv_aload_n hx hb dX4_add_34 rfl (lv_at hl 0 rfl) ?_
  refine r_get (C := RX4) (T := TX4) (N := 33) (v := .ref (a (118))) hx hb hts hown hK.1 hc (hlv _ rfl) (rfl) rfl rfl hinX4 18 (by decide) hf_49 (fun _ h9 => h9) (congrArg va_rf (hmr.2 18 rfl)) dX4_add_35 ?_
  refine lv_iload_n hx hb dX4_add_38 rfl (lv_at hl 1 rfl) ?_
  refine lv_dup2_11 hx hb dX4_add_39 rfl rfl ?_
  refine r_iald (v := nI (pn M p)) hx hb hK.1 hc (hlv _ rfl) (rfl) (by decide) (by omega) dX4_add_40 ((hM.2.2.2.2.1 _ (by omega)).1) ?_
  refine lv_iconst (v := nI (1)) hx hb dX4_add_41 (by decide) ?_
  refine nv_iadd hx hb dX4_add_42 ?_
  refine r_iast hx hb hK.1 hc (hlv _ rfl) (rfl) (by decide) (by omega) dX4_add_43 (fun H locs hc => ?_)
  exact r_vret hx hb hr hlocks hc dX4_add_44 ⟨pm_add hM (fun q hq => (iv_p hI hq).1) h10, ((((outM.r _).sai (by decide)).sai (by decide)).sai (by decide)), rfl⟩
set_option maxRecDepth 100000 in
set_option maxHeartbeats 4000000 in
theorem c_X4_count_ (l : Launch) (D : va_G) (g : Nat → ClassId) (lv : Nat → Bool) (a : Nat → Nat) (R : RS) (M : MS) (hmr : PMr R a lv) (hM : PM R M) (hI : Inv M) (x : Int32) : cI l D g lv a yX4_count_ wsX4_count_ ({ frames := 1, cells := 0, slots := 0, locals := 23 } : Room) [.ref (a (100)), .int (x)] R (fun r R' => r = oCount M x ∧ PM R' M ∧ outM R R') 0 0 := by
  refine c_body (cc := cX4_count_) (maxL := 4) (ret := (some .int)) (by decide) rfl (Nat.le_of_ble_eq_true rfl) ?_
  intro pr en st mi bl me co ls B hl
  obtain ⟨hx, hb, hr, hml, hown, hts, hlocks, hnm, hK, hZ, hc, hA⟩ := B
  have hl : lv_has ls 4 [(0, .ref (a (100))), (1, .int (x))] := hl
  have hinX4 : ∀ w ∈ u_ws RX4 TX4 33, w ∈ wsX4_count_ := (fun _ h => List.mem_cons_of_mem _ (List.mem_append_left _ (List.mem_append_right _ h)))
  have hf_58 := hts (.fieldLink RX4 58 "PalletLayersModel" "stop" "[I") (by decide +kernel)
  have hf_89 := hts (.fieldLink RX4 89 "PalletLayersModel" "thrown" "I") (by decide +kernel)
  have hf_92 := hts (.fieldLink RX4 92 "PalletLayersModel" "kinds" "I") (by decide +kernel)
  have hf_99 := hts (.fieldLink RX4 99 "PalletLayersModel" "pallets" "I") (by decide +kernel)
  have hf_128 := hts (.fieldLink RX4 128 "PalletLayersModel" "steps" "I") (by decide +kernel)
  have hf_191 := hts (.fieldLink RX4 191 "PalletLayersModel" "onTruck" "I") (by decide +kernel)
  have hlv := hmr.1
  have hb9 := iv_b hI
  refine lv_aload_n hx hb dX4_count__0 rfl (lv_at hl 0 rfl) ?_
  refine lv_iconst (v := nI (0)) hx hb dX4_count__1 (by decide) ?_
  refine r_put (C := RX4) (T := TX4) (N := 33) (R' := sfi R 100 5 (nI (0))) hx hb hts hown hK.1 hc (hlv _ rfl) (rfl) rfl rfl hinX4 tyX4 tyX4_ok nmX4 5 (by decide) hf_89 (fun _ h9 => h9) rfl (tyX4_ok 5 (by decide)) rfl rfl dX4_count__2 (fds_sfi (by decide) (by decide)) (fun _ h9 => ct_sfi h9) (fun H locs hc => ?_)
  refine lv_iconst (v := nI (0)) hx hb dX4_count__5 (by decide) ?_
  refine lv_istore_n (lv' := [(2, .int (nI (0))), (0, .ref (a (100))), (1, .int (x))]) hx hb dX4_count__6 rfl hl (by decide) rfl (fun ls hl => ?_)
  refine lv_iload_n hx hb dX4_count__7 rfl (lv_at hl 2 rfl) ?_
  by_cases hw : isR x 0 5
  · obtain ⟨v, hv0, hv1, hv2, rfl⟩ := isR_ex hw
    have hsw : v = 0 ∨ v = 1 ∨ v = 2 ∨ v = 3 ∨ v = 4 ∨ v = 5 := by omega
    obtain rfl | rfl | rfl | rfl | rfl | rfl := hsw
    · refine lv_tableIn (tgt := 48) (off := 40) hx hb dX4_count__8 (by decide) (by decide) (by decide) (by decide) ?_
      refine lv_aload_n hx hb dX4_count__48 rfl (lv_at hl 1 rfl) ?_
      refine r_get (C := RX4) (T := TX4) (N := 33) (v := .int (nI (mnk M))) hx hb hts hown hK.1 hc (hlv _ rfl) (rfl) rfl rfl hinX4 3 (by decide) hf_92 (fun _ h9 => h9) (congrArg Value.int hM.1.2.2.2.1) dX4_count__49 ?_
      exact r_iret hx hb hr hlocks hc dX4_count__52 ⟨by simp only [oCount, if_pos hw, tN_nI hv2]; rfl, pm_th hM, ((outM.r _).sfi (by decide))⟩
    · refine lv_tableIn (tgt := 53) (off := 45) hx hb dX4_count__8 (by decide) (by decide) (by decide) (by decide) ?_
      refine lv_aload_n hx hb dX4_count__53 rfl (lv_at hl 1 rfl) ?_
      refine r_get (C := RX4) (T := TX4) (N := 33) (v := .int (nI (mnp M))) hx hb hts hown hK.1 hc (hlv _ rfl) (rfl) rfl rfl hinX4 4 (by decide) hf_99 (fun _ h9 => h9) (congrArg Value.int hM.1.2.2.2.2.1) dX4_count__54 ?_
      exact r_iret hx hb hr hlocks hc dX4_count__57 ⟨by simp only [oCount, if_pos hw, tN_nI hv2]; rfl, pm_th hM, ((outM.r _).sfi (by decide))⟩
    · refine lv_tableIn (tgt := 58) (off := 50) hx hb dX4_count__8 (by decide) (by decide) (by decide) (by decide) ?_
      refine lv_aload_n hx hb dX4_count__58 rfl (lv_at hl 1 rfl) ?_
      refine r_get (C := RX4) (T := TX4) (N := 33) (v := .int (nI (mna M))) hx hb hts hown hK.1 hc (hlv _ rfl) (rfl) rfl rfl hinX4 23 (by decide) hf_191 (fun _ h9 => h9) (congrArg Value.int hM.1.2.2.2.2.2.2.2.2.1) dX4_count__59 ?_
      exact r_iret hx hb hr hlocks hc dX4_count__62 ⟨by simp only [oCount, if_pos hw, tN_nI hv2]; rfl, pm_th hM, ((outM.r _).sfi (by decide))⟩
    · refine lv_tableIn (tgt := 63) (off := 55) hx hb dX4_count__8 (by decide) (by decide) (by decide) (by decide) ?_
      refine lv_iconst (v := nI (0)) hx hb dX4_count__63 (by decide) ?_
      refine lv_istore_n (lv' := [(3, .int (nI (0))), (2, .int (nI (0))), (0, .ref (a (100))), (1, .int (nI (3)))]) hx hb dX4_count__64 rfl hl (by decide) rfl (fun ls hl => ?_)
      have loop65 : ∀ (fuel65 : Nat) (i : Nat) (H : Heap) (locs : List Loc) (ls : Array Slot), mnp M - i < fuel65 → (i ≤ mnp M) → rc D g (rA lv a st.heap.size) st.heap lv a (sfi R 100 5 (nI (0))) H locs → lv_has ls 4 [(0, .ref (a (100))), (2, .int (nI (allS M i))), (3, .int (nI (i)))] → W pr l en ({ frames := 1, cells := 0, slots := 0, locals := 23 } : Room) st mi ([.ref (a (100)), .int ((nI 3))] : List Value).toArray bl me co H locs 0 0 (MQ bl (va_Qi (fun r R' => r = oCount M (nI 3) ∧ PM R' M ∧ outM R R') (cB D g lv a) (rA lv a st.heap.size)) ([.ref (a (100)), .int ((nI 3))] : List Value).toArray st 0 0 (rA lv a st.heap.size)) (F0 mi 65 ls []) := by
        intro fuel65
        induction fuel65 with
        | zero => intro i H locs ls hmu; exact absurd hmu (Nat.not_lt_zero _)
        | succ fuel65 ih65 =>
          intro i H locs ls hmu65 hi hc hl
          refine lv_iload_n hx hb dX4_count__65 rfl (lv_at hl 2 rfl) ?_
          refine lv_aload_n hx hb dX4_count__66 rfl (lv_at hl 0 rfl) ?_
          refine r_get (C := RX4) (T := TX4) (N := 33) (v := .int (nI (mnp M))) hx hb hts hown hK.1 hc (hlv _ rfl) (rfl) rfl rfl hinX4 4 (by decide) hf_99 (fun _ h9 => h9) (congrArg Value.int hM.1.2.2.2.2.1) dX4_count__67 ?_
          refine lv_icmp_ge (tgt := 87) hx hb dX4_count__70 (by decide) (fun hq_1 => ?_) (fun hq_1 => ?_)
          · have hq_1 : (mnp M) ≤ i := (nI_leI (a := (mnp M)) (b := i) (by omega) (by omega)).mp hq_1
            refine lv_iload_n hx hb dX4_count__87 rfl (lv_at hl 1 rfl) ?_
            exact r_iret hx hb hr hlocks hc dX4_count__88 ⟨by rw [show i = mnp M by omega]; simp only [oCount, if_pos hw, tN_nI hv2]; rfl, pm_th hM, ((outM.r _).sfi (by decide))⟩
          · have hq_1 : ¬ ((mnp M) ≤ i) := fun z => hq_1 ((nI_leI (a := (mnp M)) (b := i) (by omega) (by omega)).mpr z)
            refine lv_iload_n hx hb dX4_count__73 rfl (lv_at hl 1 rfl) ?_
            refine lv_aload_n hx hb dX4_count__74 rfl (lv_at hl 0 rfl) ?_
            refine lv_iload_n hx hb dX4_count__75 rfl (lv_at hl 2 rfl) ?_
            refine r_calli hc hA (va_runV (As := [.int (nI (i))]) (rest := [.int (nI (allS M i))]) ⟨hx, hb, hml, hown, hts⟩ (c_X4_boxesOn l D g lv a (sfi R 100 5 (nI (0))) M hmr (pm_th hM) hI i (by omega) _) (cwV 1 hts gX4_count__X4_boxesOn rfl rfl rfl (by decide +kernel) ⟨Nat.le_of_ble_eq_true rfl, Nat.le_of_ble_eq_true rfl⟩) (r_preV hK hZ hc hA (hlv _ rfl) (rfl) rfl) rfl rfl hl.1 rfl (lv_room (Nat.le_of_ble_eq_true rfl)) dX4_count__76 ⟨Nat.le_of_ble_eq_true rfl, Nat.le_of_ble_eq_true rfl⟩) (fun r R' H locs hp hc => ?_)
            obtain ⟨hre, hRe⟩ := hp
            rw [hRe] at hc
            rw [hre]
            refine nv_iadd hx hb dX4_count__79 ?_
            refine lv_istore_n (lv' := [(2, .int (nI ((allS M i) + (bS M i (pn M i))))), (0, .ref (a (100))), (3, .int (nI (i)))]) hx hb dX4_count__80 rfl hl (by decide) rfl (fun ls hl => ?_)
            refine lv_iinc (v := nI (i + 1)) (lv' := [(3, .int (nI (i + 1))), (2, .int (nI ((allS M i) + (bS M i (pn M i))))), (0, .ref (a (100)))]) hx hb dX4_count__81 hl (k := 2) rfl (nI_inc _ 1) (by decide) rfl (fun ls hl => ?_)
            refine lv_goto (tgt := 65) hx hb dX4_count__84 (by decide) ?_
            exact ih65 (i + 1) _ _ ls (by omega) (by omega) hc (lv_sub hl [2, 1, 0] rfl)
      exact loop65 (mnp M + 1) 0 _ _ ls (by omega) (Nat.zero_le _) hc (lv_sub hl [2, 1, 0] rfl)
    · refine lv_tableIn (tgt := 89) (off := 81) hx hb dX4_count__8 (by decide) (by decide) (by decide) (by decide) ?_
      refine lv_iconst (v := nI (0)) hx hb dX4_count__89 (by decide) ?_
      refine lv_istore_n (lv' := [(3, .int (nI (0))), (2, .int (nI (0))), (0, .ref (a (100))), (1, .int (nI (4)))]) hx hb dX4_count__90 rfl hl (by decide) rfl (fun ls hl => ?_)
      have loop91 : ∀ (fuel91 : Nat) (i : Nat) (H : Heap) (locs : List Loc) (ls : Array Slot), mnp M - i < fuel91 → (i ≤ mnp M) → rc D g (rA lv a st.heap.size) st.heap lv a (sfi R 100 5 (nI (0))) H locs → lv_has ls 4 [(0, .ref (a (100))), (2, .int (nI (trkS M i))), (3, .int (nI (i)))] → W pr l en ({ frames := 1, cells := 0, slots := 0, locals := 23 } : Room) st mi ([.ref (a (100)), .int ((nI 4))] : List Value).toArray bl me co H locs 0 0 (MQ bl (va_Qi (fun r R' => r = oCount M (nI 4) ∧ PM R' M ∧ outM R R') (cB D g lv a) (rA lv a st.heap.size)) ([.ref (a (100)), .int ((nI 4))] : List Value).toArray st 0 0 (rA lv a st.heap.size)) (F0 mi 91 ls []) := by
        intro fuel91
        induction fuel91 with
        | zero => intro i H locs ls hmu; exact absurd hmu (Nat.not_lt_zero _)
        | succ fuel91 ih91 =>
          intro i H locs ls hmu91 hi hc hl
          refine lv_iload_n hx hb dX4_count__91 rfl (lv_at hl 2 rfl) ?_
          refine lv_aload_n hx hb dX4_count__92 rfl (lv_at hl 0 rfl) ?_
          refine r_get (C := RX4) (T := TX4) (N := 33) (v := .int (nI (mnp M))) hx hb hts hown hK.1 hc (hlv _ rfl) (rfl) rfl rfl hinX4 4 (by decide) hf_99 (fun _ h9 => h9) (congrArg Value.int hM.1.2.2.2.2.1) dX4_count__93 ?_
          refine lv_icmp_ge (tgt := 123) hx hb dX4_count__96 (by decide) (fun hq_4 => ?_) (fun hq_4 => ?_)
          · have hq_4 : (mnp M) ≤ i := (nI_leI (a := (mnp M)) (b := i) (by omega) (by omega)).mp hq_4
            refine lv_iload_n hx hb dX4_count__123 rfl (lv_at hl 1 rfl) ?_
            exact r_iret hx hb hr hlocks hc dX4_count__124 ⟨by rw [show i = mnp M by omega]; simp only [oCount, if_pos hw, tN_nI hv2]; rfl, pm_th hM, ((outM.r _).sfi (by decide))⟩
          · have hq_4 : ¬ ((mnp M) ≤ i) := fun z => hq_4 ((nI_leI (a := (mnp M)) (b := i) (by omega) (by omega)).mpr z)
            have hp9 := iv_p hI (show i < mnp M by omega)
            refine lv_aload_n hx hb dX4_count__99 rfl (lv_at hl 0 rfl) ?_
            refine r_get (C := RX4) (T := TX4) (N := 33) (v := .ref (a (121))) hx hb hts hown hK.1 hc (hlv _ rfl) (rfl) rfl rfl hinX4 21 (by decide) hf_58 (fun _ h9 => h9) (congrArg va_rf (hmr.2 21 rfl)) dX4_count__100 ?_
            refine lv_iload_n hx hb dX4_count__103 rfl (lv_at hl 2 rfl) ?_
            refine r_iald (v := stI (ps M i)) hx hb hK.1 hc (hlv _ rfl) (rfl) (by decide) (by omega) dX4_count__104 ((hM.2.2.2.2.1 _ (by omega)).2) ?_
            refine lv_iconst (v := (-1)) hx hb dX4_count__105 (by decide) ?_
            refine lv_icmp_eq (tgt := 117) hx hb dX4_count__106 (by decide) (fun hq_5 => ?_) (fun hq_5 => ?_)
            · have hs : ps M i = 0 := stI_0 (by omega) hq_5
              refine lv_iinc (v := nI (i + 1)) (lv' := [(3, .int (nI (i + 1))), (0, .ref (a (100))), (2, .int (nI (trkS M i)))]) hx hb dX4_count__117 hl (k := 2) rfl (nI_inc _ 1) (by decide) rfl (fun ls hl => ?_)
              refine lv_goto (tgt := 91) hx hb dX4_count__120 (by decide) ?_
              rw [show trkS M i = trkS M (i + 1) by simp only [trkS, if_pos hs, Nat.add_zero]] at hl
              exact ih91 (i + 1) _ _ ls (by omega) (by omega) hc (lv_sub hl [1, 2, 0] rfl)
            · have hs : ¬ ps M i = 0 := fun z => hq_5 (by rw [z]; rfl)
              refine lv_iload_n hx hb dX4_count__109 rfl (lv_at hl 1 rfl) ?_
              refine lv_aload_n hx hb dX4_count__110 rfl (lv_at hl 0 rfl) ?_
              refine lv_iload_n hx hb dX4_count__111 rfl (lv_at hl 2 rfl) ?_
              refine r_calli hc hA (va_runV (As := [.int (nI (i))]) (rest := [.int (nI (trkS M i))]) ⟨hx, hb, hml, hown, hts⟩ (c_X4_boxesOn l D g lv a (sfi R 100 5 (nI (0))) M hmr (pm_th hM) hI i (by omega) _) (cwV 1 hts gX4_count__X4_boxesOn rfl rfl rfl (by decide +kernel) ⟨Nat.le_of_ble_eq_true rfl, Nat.le_of_ble_eq_true rfl⟩) (r_preV hK hZ hc hA (hlv _ rfl) (rfl) rfl) rfl rfl hl.1 rfl (lv_room (Nat.le_of_ble_eq_true rfl)) dX4_count__112 ⟨Nat.le_of_ble_eq_true rfl, Nat.le_of_ble_eq_true rfl⟩) (fun r R' H locs hp hc => ?_)
              obtain ⟨hre, hRe⟩ := hp
              rw [hRe] at hc
              rw [hre]
              refine nv_iadd hx hb dX4_count__115 ?_
              refine lv_istore_n (lv' := [(2, .int (nI ((trkS M i) + (bS M i (pn M i))))), (0, .ref (a (100))), (3, .int (nI (i)))]) hx hb dX4_count__116 rfl hl (by decide) rfl (fun ls hl => ?_)
              refine lv_iinc (v := nI (i + 1)) (lv' := [(3, .int (nI (i + 1))), (2, .int (nI ((trkS M i) + (bS M i (pn M i))))), (0, .ref (a (100)))]) hx hb dX4_count__117 hl (k := 2) rfl (nI_inc _ 1) (by decide) rfl (fun ls hl => ?_)
              refine lv_goto (tgt := 91) hx hb dX4_count__120 (by decide) ?_
              rw [show (trkS M i) + (bS M i (pn M i)) = trkS M (i + 1) by simp only [trkS, if_neg hs, Nat.add_zero]] at hl
              exact ih91 (i + 1) _ _ ls (by omega) (by omega) hc (lv_sub hl [2, 1, 0] rfl)
      exact loop91 (mnp M + 1) 0 _ _ ls (by omega) (Nat.zero_le _) hc (lv_sub hl [2, 1, 0] rfl)
    · refine lv_tableIn (tgt := 125) (off := 117) hx hb dX4_count__8 (by decide) (by decide) (by decide) (by decide) ?_
      refine lv_aload_n hx hb dX4_count__125 rfl (lv_at hl 1 rfl) ?_
      refine r_get (C := RX4) (T := TX4) (N := 33) (v := .int (nI (mst M))) hx hb hts hown hK.1 hc (hlv _ rfl) (rfl) rfl rfl hinX4 24 (by decide) hf_128 (fun _ h9 => h9) (congrArg Value.int hM.1.2.2.2.2.2.2.2.2.2) dX4_count__126 ?_
      exact r_iret hx hb hr hlocks hc dX4_count__129 ⟨by simp only [oCount, if_pos hw, tN_nI hv2]; rfl, pm_th hM, ((outM.r _).sfi (by decide))⟩
  · refine lv_tableOut (tgt := 130) hx hb dX4_count__8 (by have h9 : ¬ ((0 : Int) ≤ x.toInt ∧ x.toInt ≤ 5) := hw; omega) (by decide) ?_
    refine lv_iconst (v := (-1)) hx hb dX4_count__130 (by decide) ?_
    exact r_iret hx hb hr hlocks hc dX4_count__131 ⟨by rw [oCount, if_neg hw], pm_th hM, ((outM.r _).sfi (by decide))⟩
