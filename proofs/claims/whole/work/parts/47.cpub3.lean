set_option maxRecDepth 100000 in
set_option maxHeartbeats 4000000 in
theorem c_X3_pattern (l : Launch) (hl9 : l.stackTraces = false) (D : va_G) (g : Nat → ClassId) (lv : Nat → Bool) (a : Nat → Nat) (R : RS) (M : MS) (hr9 : PCr lv a R M) (hC : PC R M) (hI : Inv M) (x y z : Int32) : xI l D g lv a yX3_pattern wsP3 ({ frames := 7, cells := 1, slots := 6, locals := 132 } : Room) [.ref (a (0)), .int (x), .int (y), .int (z)] R (fun r R' => QC R (oPattern M x y z) r R') (XP R (oPattern M x y z) [NSE, IAE, AIO]) := by
  refine x_body (cc := cX3_pattern) (maxL := 5) (ret := (some .int)) (by decide) rfl (Nat.le_of_ble_eq_true rfl) ?_
  intro pr en st mi bl me co ls B ht hl
  obtain ⟨hx, hb, hr, hml, hown, hts, hlocks, hnm, hK, hZ, hc, hA⟩ := B
  have hl : lv_has ls 5 [(0, .ref (a (0))), (1, .int (x)), (2, .int (y)), (3, .int (z))] := hl
  have hinX0 : ∀ w ∈ u_ws RX0 TX0 11, w ∈ wsP3 := (fun w9 h9 => List.mem_append_left _ ((fun _ h => List.mem_cons_of_mem _ (List.mem_append_left _ (List.mem_append_left _ (List.mem_append_left _ (List.mem_append_left _ (List.mem_append_left _ (List.mem_append_right _ h))))))) w9 h9))
  have hinX3 : ∀ w ∈ u_ws RX3 TX3 12, w ∈ wsP3 := (fun w9 h9 => List.mem_append_left _ ((fun _ h => List.mem_cons_of_mem _ (List.mem_append_left _ (List.mem_append_left _ (List.mem_append_left _ (List.mem_append_right _ h))))) w9 h9))
  have hf_53 := hts (.fieldLink RX3 53 "PalletLayers" "areaWidth" "I") (by decide +kernel)
  have hf_106 := hts (.fieldLink RX3 106 "PalletLayers$Kind" "boxes" "I") (by decide +kernel)
  have hf_116 := hts (.fieldLink RX3 116 "PalletLayers$Kind" "corners" "[I") (by decide +kernel)
  have hf_119 := hts (.fieldLink RX3 119 "PalletLayers$Kind" "ways" "[I") (by decide +kernel)
  have hb9 := iv_b hI
  refine lv_aload_n hx hb dX3_pattern_0 rfl (lv_at hl 0 rfl) ?_
  refine lv_iload_n hx hb dX3_pattern_1 rfl (lv_at hl 1 rfl) ?_
  by_cases hv_j : isN x (mnk M)
  rotate_left
  · exact x_thr hc hA ht hlocks (vx_runV (As := [.int (x)]) (rest := []) ⟨hx, hb, hml, hown, hts⟩ (c_X3_kindNumbered_t l hl9 D g lv a R M hr9 hC hI x hv_j _) (cwV 1 hts (goodIn_l gX3_pattern_X3_kindNumbered) rfl rfl rfl (by decide +kernel) ⟨Nat.le_of_ble_eq_true rfl, Nat.le_of_ble_eq_true rfl⟩) (r_preV hK hZ hc hA (hr9.1.1) (rfl) rfl) rfl rfl hl.1 rfl (lv_room (Nat.le_of_ble_eq_true rfl)) dX3_pattern_2 ⟨Nat.le_of_ble_eq_true rfl, Nat.le_of_ble_eq_true rfl⟩) ⟨rfl, 0, by rw [show oPattern M x y z = (1, nI 0, M) by simp only [oPattern, if_neg hv_j]], rfl⟩ (by decide) (by decide)
  obtain ⟨j, hj, hj9, rfl⟩ := isN_ex hv_j
  refine r_callr hc hA (va_runV (As := [.int (nI (j))]) (rest := []) ⟨hx, hb, hml, hown, hts⟩ (c_X3_kindNumbered_v l D g lv a R M hr9 ⟨hb9.2.2.2.2.1, hb9.2.2.2.2.2.1⟩ j hj _) (cwV 1 hts (goodIn_l gX3_pattern_X3_kindNumbered) rfl rfl rfl (by decide +kernel) ⟨Nat.le_of_ble_eq_true rfl, Nat.le_of_ble_eq_true rfl⟩) (r_preV hK hZ hc hA (hr9.1.1) (rfl) rfl) rfl rfl hl.1 rfl (lv_room (Nat.le_of_ble_eq_true rfl)) dX3_pattern_2 ⟨Nat.le_of_ble_eq_true rfl, Nat.le_of_ble_eq_true rfl⟩) (fun r R' H locs hp hc => ?_)
  obtain ⟨hre, hRe⟩ := hp
  rw [hRe] at hc
  rw [hre]
  refine lv_astore (lv' := [(4, .ref (a (10 + 3 * j))), (0, .ref (a (0))), (1, .int (nI (j))), (2, .int (y)), (3, .int (z))]) hx hb dX3_pattern_5 hl (by decide) rfl (fun ls hl => ?_)
  have hk9 := iv_k hI hj
  refine lv_iload_n hx hb dX3_pattern_7 rfl (lv_at hl 4 rfl) ?_
  refine lv_iconst (v := nI (0)) hx hb dX3_pattern_8 (by decide) ?_
  refine lv_iconst (v := nI (2)) hx hb dX3_pattern_9 (by decide) ?_
  refine r_calli hc hA (va_runS (As := [.int (z), .int (nI (0)), .int (nI (2))]) (rest := []) ⟨hx, hb, hml, hown, hts⟩ (c_X3_isOutside l D g lv a R z (nI (0)) (nI (2)) _) (va_cwS 3 hts (goodIn_l gX3_pattern_X3_isOutside) rfl rfl rfl (by decide +kernel) ⟨Nat.le_of_ble_eq_true rfl, Nat.le_of_ble_eq_true rfl⟩) (r_preS hK hZ hc hA) rfl rfl hl.1 rfl (lv_room (Nat.le_of_ble_eq_true rfl)) dX3_pattern_10 ⟨Nat.le_of_ble_eq_true rfl, Nat.le_of_ble_eq_true rfl⟩) (fun r R' H locs hp hc => ?_)
  obtain ⟨hRe, ⟨hw10, rfl⟩ | ⟨hw10, rfl⟩⟩ := hp
  · rw [hRe] at hc
    rw [w_iff (by decide) (by decide)] at hw10
    refine lv_if_eq (tgt := 26) hx hb dX3_pattern_13 (by decide) (fun hq_5 => ?_) (fun hq_5 => absurd hq_5 (by decide))
    refine lv_iload_n hx hb dX3_pattern_26 rfl (lv_at hl 3 rfl) ?_
    refine lv_iconst (v := nI (0)) hx hb dX3_pattern_27 (by decide) ?_
    refine lv_aload hx hb dX3_pattern_28 (lv_at hl 0 rfl) ?_
    refine r_get (C := RX0) (T := TX0) (N := 11) (v := .int (nI (kb M j))) hx hb hts hown hK.1 hc ((hr9.2.2.1 j (by omega)).1) (sh_K (by omega)) rfl rfl hinX0 9 (by decide) hf_106 (fun _ h9 => h9) (congrArg Value.int (hC.2.2.2.1 j (by omega)).1) dX3_pattern_30 ?_
    refine lv_iconst (v := nI (1)) hx hb dX3_pattern_33 (by decide) ?_
    refine lv_isub hx hb dX3_pattern_34 ?_
    refine r_calli hc hA (va_runS (As := [.int (y), .int (nI (0)), .int (nI (kb M j) - nI 1)]) (rest := []) ⟨hx, hb, hml, hown, hts⟩ (c_X3_isOutside l D g lv a R y (nI (0)) (nI (kb M j) - nI 1) _) (va_cwS 3 hts (goodIn_l gX3_pattern_X3_isOutside) rfl rfl rfl (by decide +kernel) ⟨Nat.le_of_ble_eq_true rfl, Nat.le_of_ble_eq_true rfl⟩) (r_preS hK hZ hc hA) rfl rfl hl.1 rfl (lv_room (Nat.le_of_ble_eq_true rfl)) dX3_pattern_35 ⟨Nat.le_of_ble_eq_true rfl, Nat.le_of_ble_eq_true rfl⟩) (fun r R' H locs hp hc => ?_)
    obtain ⟨hRe, ⟨hw35, rfl⟩ | ⟨hw35, rfl⟩⟩ := hp
    · rw [hRe] at hc
      rw [in_iff (by omega)] at hw35
      obtain ⟨i, hi, hi9, rfl⟩ := isN_ex hw35
      refine lv_if_eq (tgt := 51) hx hb dX3_pattern_38 (by decide) (fun hq_8 => ?_) (fun hq_8 => absurd hq_8 (by decide))
      have hi8 := iv_i hI hj hi
      obtain ⟨z1, hz0, hz1, hz2, rfl⟩ := isR_ex hw10
      refine lv_iload_n hx hb dX3_pattern_51 rfl (lv_at hl 4 rfl) ?_
      have hzc : z1 = 0 ∨ z1 = 1 ∨ z1 = 2 := by omega
      rcases hzc with rfl | rfl | rfl
      · refine lv_lookup (off := 28) (tgt := 80) hx hb dX3_pattern_52 (by decide) (by decide) (by decide) ?_
        refine lv_aload hx hb dX3_pattern_80 (lv_at hl 0 rfl) ?_
        refine r_get (C := RX0) (T := TX0) (N := 11) (v := .ref (a (11 + 3 * j))) hx hb hts hown hK.1 hc ((hr9.2.2.1 j (by omega)).1) (sh_K (by omega)) rfl rfl hinX0 7 (by decide) hf_116 (fun _ h9 => h9) (congrArg va_rf (hr9.2.2.1 j (by omega)).2.2.2.1) dX3_pattern_82 ?_
        refine lv_iload_n hx hb dX3_pattern_85 rfl (lv_at hl 3 rfl) ?_
        refine r_iald (v := nI (kc M j i)) hx hb hK.1 hc ((hr9.2.2.1 j (by omega)).2.1) (sh_Kc (by omega)) (by decide) (by omega) dX3_pattern_86 ((hC.2.2.2.1 j (by omega)).2.2 _ (by omega)).1 ?_
        refine lv_aload_n hx hb dX3_pattern_87 rfl (lv_at hl 1 rfl) ?_
        refine r_get (C := RX3) (T := TX3) (N := 12) (v := .int (nI (mW M))) hx hb hts hown hK.1 hc (hr9.1.1) (rfl) rfl rfl hinX3 0 (by decide) hf_53 (fun _ h9 => h9) (congrArg Value.int hC.1.1) dX3_pattern_88 ?_
        refine nv_irem hx hb dX3_pattern_91 (by omega) (by omega) (by omega) ?_
        refine vx_ret ?_
        refine W.widen (k := 1) (n := 6) (by decide) (by decide) ?_
        exact r_iret hx hb hr hlocks hc dX3_pattern_92 (by
      have hq9 : oPattern M (nI j) (nI i) (nI 0) = (0, nI ((kc M j i) % (mW M)), M) := by
        unfold oPattern
        simp only [if_pos hv_j, if_pos hw10, tN_nI hj9, tN_nI hi9, if_pos hw35]
        rfl
      unfold QC; rw [hq9]
      exact ⟨rfl, rfl, hC, outC.r R⟩)
      · refine lv_lookup (off := 41) (tgt := 93) hx hb dX3_pattern_52 (by decide) (by decide) (by decide) ?_
        refine lv_aload hx hb dX3_pattern_93 (lv_at hl 0 rfl) ?_
        refine r_get (C := RX0) (T := TX0) (N := 11) (v := .ref (a (11 + 3 * j))) hx hb hts hown hK.1 hc ((hr9.2.2.1 j (by omega)).1) (sh_K (by omega)) rfl rfl hinX0 7 (by decide) hf_116 (fun _ h9 => h9) (congrArg va_rf (hr9.2.2.1 j (by omega)).2.2.2.1) dX3_pattern_95 ?_
        refine lv_iload_n hx hb dX3_pattern_98 rfl (lv_at hl 3 rfl) ?_
        refine r_iald (v := nI (kc M j i)) hx hb hK.1 hc ((hr9.2.2.1 j (by omega)).2.1) (sh_Kc (by omega)) (by decide) (by omega) dX3_pattern_99 ((hC.2.2.2.1 j (by omega)).2.2 _ (by omega)).1 ?_
        refine lv_aload_n hx hb dX3_pattern_100 rfl (lv_at hl 1 rfl) ?_
        refine r_get (C := RX3) (T := TX3) (N := 12) (v := .int (nI (mW M))) hx hb hts hown hK.1 hc (hr9.1.1) (rfl) rfl rfl hinX3 0 (by decide) hf_53 (fun _ h9 => h9) (congrArg Value.int hC.1.1) dX3_pattern_101 ?_
        refine nv_idiv hx hb dX3_pattern_104 (by omega) (by omega) (by omega) ?_
        refine vx_ret ?_
        refine W.widen (k := 1) (n := 6) (by decide) (by decide) ?_
        exact r_iret hx hb hr hlocks hc dX3_pattern_105 (by
      have hq9 : oPattern M (nI j) (nI i) (nI 1) = (0, nI ((kc M j i) / (mW M)), M) := by
        unfold oPattern
        simp only [if_pos hv_j, if_pos hw10, tN_nI hj9, tN_nI hi9, if_pos hw35]
        rfl
      unfold QC; rw [hq9]
      exact ⟨rfl, rfl, hC, outC.r R⟩)
      · refine lv_lookup (off := 54) (tgt := 106) hx hb dX3_pattern_52 (by decide) (by decide) (by decide) ?_
        refine lv_aload hx hb dX3_pattern_106 (lv_at hl 0 rfl) ?_
        refine r_get (C := RX0) (T := TX0) (N := 11) (v := .ref (a (12 + 3 * j))) hx hb hts hown hK.1 hc ((hr9.2.2.1 j (by omega)).1) (sh_K (by omega)) rfl rfl hinX0 8 (by decide) hf_119 (fun _ h9 => h9) (congrArg va_rf (hr9.2.2.1 j (by omega)).2.2.2.2) dX3_pattern_108 ?_
        refine lv_iload_n hx hb dX3_pattern_111 rfl (lv_at hl 3 rfl) ?_
        refine r_iald (v := nI (ky M j i)) hx hb hK.1 hc ((hr9.2.2.1 j (by omega)).2.2.1) (sh_Kw (by omega)) (by decide) (by omega) dX3_pattern_112 ((hC.2.2.2.1 j (by omega)).2.2 _ (by omega)).2 ?_
        refine vx_ret ?_
        refine W.widen (k := 1) (n := 6) (by decide) (by decide) ?_
        exact r_iret hx hb hr hlocks hc dX3_pattern_113 (by
      have hq9 : oPattern M (nI j) (nI i) (nI 2) = (0, nI (ky M j i), M) := by
        unfold oPattern
        simp only [if_pos hv_j, if_pos hw10, tN_nI hj9, tN_nI hi9, if_pos hw35]
        rfl
      unfold QC; rw [hq9]
      exact ⟨rfl, rfl, hC, outC.r R⟩)
    · rw [hRe] at hc
      rw [in_iff (by omega)] at hw35
      refine lv_if_eq (tgt := 51) hx hb dX3_pattern_38 (by decide) (fun hq_9 => absurd hq_9 (by decide)) (fun hq_9 => ?_)
      exact x_own hx hb hl9 hown hts (hl.1.trans hml.symm) hlocks hK hZ hc ht tf_a (by decide +kernel) (by decide +kernel) (fun _ h => List.mem_append_right _ h) (is := 113) (text := "no such box in the pattern") (by decide) dX3_pattern_41 dX3_pattern_44 dX3_pattern_45 dX3_pattern_47 dX3_pattern_50 (Nat.le_of_ble_eq_true rfl) (Nat.le_of_ble_eq_true rfl) (Nat.le_of_ble_eq_true rfl) (Nat.le_of_ble_eq_true rfl) ⟨rfl, 2, by rw [show oPattern M (nI j) y z = (3, nI 0, M) by simp only [oPattern, tN_nI hj9, if_pos hv_j, if_pos hw10, if_neg hw35]], rfl⟩ (by decide) (by decide)
  · rw [hRe] at hc
    rw [w_iff (by decide) (by decide)] at hw10
    refine lv_if_eq (tgt := 26) hx hb dX3_pattern_13 (by decide) (fun hq_10 => absurd hq_10 (by decide)) (fun hq_10 => ?_)
    exact x_own hx hb hl9 hown hts (hl.1.trans hml.symm) hlocks hK hZ hc ht tf_i (by decide +kernel) (by decide +kernel) (fun w9 h9 => List.mem_append_left _ ((fun _ h => List.mem_cons_of_mem _ (List.mem_append_left _ (List.mem_append_left _ (List.mem_append_right _ h)))) w9 h9)) (is := 109) (text := "what is outside its range") (by decide) dX3_pattern_16 dX3_pattern_19 dX3_pattern_20 dX3_pattern_22 dX3_pattern_25 (Nat.le_of_ble_eq_true rfl) (Nat.le_of_ble_eq_true rfl) (Nat.le_of_ble_eq_true rfl) (Nat.le_of_ble_eq_true rfl) ⟨rfl, 1, by rw [show oPattern M (nI j) y z = (2, nI 0, M) by simp only [oPattern, tN_nI hj9, if_pos hv_j, if_neg hw10]], rfl⟩ (by decide) (by decide)
