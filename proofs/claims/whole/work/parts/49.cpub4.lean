set_option maxRecDepth 100000 in
set_option maxHeartbeats 4000000 in
theorem c_X3_truck (l : Launch) (hl9 : l.stackTraces = false) (D : va_G) (g : Nat → ClassId) (lv : Nat → Bool) (a : Nat → Nat) (R : RS) (M : MS) (hr9 : PCr lv a R M) (hC : PC R M) (hI : Inv M) (x y : Int32) : xI l D g lv a yX3_truck wsX3_truck ({ frames := 7, cells := 1, slots := 6, locals := 132 } : Room) [.ref (a (0)), .int (x), .int (y)] R (fun r R' => QC R (oTruck M x y) r R') (XP R (oTruck M x y) [NSE, IAE, ISE]) := by
  refine x_body (cc := cX3_truck) (maxL := 4) (ret := (some .int)) (by decide) rfl (Nat.le_of_ble_eq_true rfl) ?_
  intro pr en st mi bl me co ls B ht hl
  obtain ⟨hx, hb, hr, hml, hown, hts, hlocks, hnm, hK, hZ, hc, hA⟩ := B
  have hl : lv_has ls 4 [(0, .ref (a (0))), (1, .int (x)), (2, .int (y))] := hl
  have hinX1 : ∀ w ∈ u_ws RX1 TX1 10, w ∈ wsX3_truck := (fun _ h => List.mem_cons_of_mem _ (List.mem_append_left _ (List.mem_append_left _ (List.mem_append_left _ (List.mem_append_left _ (List.mem_append_right _ h))))))
  have hinX3 : ∀ w ∈ u_ws RX3 TX3 12, w ∈ wsX3_truck := (fun _ h => List.mem_cons_of_mem _ (List.mem_append_left _ (List.mem_append_left _ (List.mem_append_left _ (List.mem_append_left _ (List.mem_append_left _ (List.mem_append_right _ h)))))))
  have hf_21 := hts (.fieldLink RX3 21 "PalletLayers" "aboard" "[I") (by decide +kernel)
  have hf_32 := hts (.fieldLink RX3 32 "PalletLayers" "aboardCount" "I") (by decide +kernel)
  have hf_194 := hts (.fieldLink RX3 194 "PalletLayers$Pallet" "stop" "I") (by decide +kernel)
  have hb9 := iv_b hI
  refine lv_aload_n hx hb dX3_truck_0 rfl (lv_at hl 0 rfl) ?_
  refine lv_iload_n hx hb dX3_truck_1 rfl (lv_at hl 1 rfl) ?_
  by_cases hv_j : isN x (mnp M)
  rotate_left
  · exact x_thr hc hA ht hlocks (vx_runV (As := [.int (x)]) (rest := []) ⟨hx, hb, hml, hown, hts⟩ (c_X3_palletNumbered_t l hl9 D g lv a R M hr9 hC hI x hv_j _) (cwV 1 hts gX3_truck_X3_palletNumbered rfl rfl rfl (by decide +kernel) ⟨Nat.le_of_ble_eq_true rfl, Nat.le_of_ble_eq_true rfl⟩) (r_preV hK hZ hc hA (hr9.1.1) (rfl) rfl) rfl rfl hl.1 rfl (lv_room (Nat.le_of_ble_eq_true rfl)) dX3_truck_2 ⟨Nat.le_of_ble_eq_true rfl, Nat.le_of_ble_eq_true rfl⟩) ⟨rfl, 0, by rw [show oTruck M x y = (1, nI 0, M) by simp only [oTruck, if_neg hv_j]], rfl⟩ (by decide) (by decide)
  obtain ⟨j, hj, hj9, rfl⟩ := isN_ex hv_j
  refine r_callr hc hA (va_runV (As := [.int (nI (j))]) (rest := []) ⟨hx, hb, hml, hown, hts⟩ (c_X3_palletNumbered_v l D g lv a R M hr9 ⟨hb9.2.2.2.2.1, hb9.2.2.2.2.2.1⟩ j hj _) (cwV 1 hts gX3_truck_X3_palletNumbered rfl rfl rfl (by decide +kernel) ⟨Nat.le_of_ble_eq_true rfl, Nat.le_of_ble_eq_true rfl⟩) (r_preV hK hZ hc hA (hr9.1.1) (rfl) rfl) rfl rfl hl.1 rfl (lv_room (Nat.le_of_ble_eq_true rfl)) dX3_truck_2 ⟨Nat.le_of_ble_eq_true rfl, Nat.le_of_ble_eq_true rfl⟩) (fun r R' H locs hp hc => ?_)
  obtain ⟨hre, hRe⟩ := hp
  rw [hRe] at hc
  rw [hre]
  refine lv_astore_n (lv' := [(3, .ref (a (40 + 6 * j))), (0, .ref (a (0))), (1, .int (nI (j))), (2, .int (y))]) hx hb dX3_truck_5 rfl hl (by decide) rfl (fun ls hl => ?_)
  refine lv_iload_n hx hb dX3_truck_6 rfl (lv_at hl 3 rfl) ?_
  refine lv_iconst (v := nI (0)) hx hb dX3_truck_7 (by decide) ?_
  refine lv_bipush (v := nI (9)) hx hb dX3_truck_8 (by decide) ?_
  refine r_calli hc hA (va_runS (As := [.int (y), .int (nI (0)), .int (nI (9))]) (rest := []) ⟨hx, hb, hml, hown, hts⟩ (c_X3_isOutside l D g lv a R y (nI (0)) (nI (9)) _) (va_cwS 3 hts gX3_truck_X3_isOutside rfl rfl rfl (by decide +kernel) ⟨Nat.le_of_ble_eq_true rfl, Nat.le_of_ble_eq_true rfl⟩) (r_preS hK hZ hc hA) rfl rfl hl.1 rfl (lv_room (Nat.le_of_ble_eq_true rfl)) dX3_truck_10 ⟨Nat.le_of_ble_eq_true rfl, Nat.le_of_ble_eq_true rfl⟩) (fun r R' H locs hp hc => ?_)
  obtain ⟨hRe, ⟨hw10, rfl⟩ | ⟨hw10, rfl⟩⟩ := hp
  · rw [hRe] at hc
    rw [w_iff (by decide) (by decide)] at hw10
    obtain ⟨s, hs0, hs1, hs9, rfl⟩ := isR_ex hw10
    refine lv_if_eq (tgt := 26) hx hb dX3_truck_13 (by decide) (fun hq_5 => ?_) (fun hq_5 => absurd hq_5 (by decide))
    refine lv_aload_n hx hb dX3_truck_26 rfl (lv_at hl 0 rfl) ?_
    by_cases hps : ps M j = 0
    rotate_left
    · exact x_thr hc hA ht hlocks (vx_runS (As := [.ref (a (40 + 6 * j))]) (rest := []) ⟨hx, hb, hml, hown, hts⟩ (c_X3_refuseOnTruck_t l hl9 D g lv a R M hr9 hC hI j hj hps _) (va_cwS 1 hts gX3_truck_X3_refuseOnTruck rfl rfl rfl (by decide +kernel) ⟨Nat.le_of_ble_eq_true rfl, Nat.le_of_ble_eq_true rfl⟩) (r_preS hK hZ hc hA) rfl rfl hl.1 rfl (lv_room (Nat.le_of_ble_eq_true rfl)) dX3_truck_27 ⟨Nat.le_of_ble_eq_true rfl, Nat.le_of_ble_eq_true rfl⟩) ⟨rfl, 2, by rw [show oTruck M (nI j) (nI s) = (3, nI 0, M) by simp only [oTruck, tN_nI hj9, tN_nI hs9, if_pos hv_j, if_pos hw10, if_neg hps]], rfl⟩ (by decide) (by decide)
    refine r_callv hc hA (va_runS (As := [.ref (a (40 + 6 * j))]) (rest := []) ⟨hx, hb, hml, hown, hts⟩ (c_X3_refuseOnTruck_v l D g lv a R M hr9 hC hI j hj hps _) (va_cwS 1 hts gX3_truck_X3_refuseOnTruck rfl rfl rfl (by decide +kernel) ⟨Nat.le_of_ble_eq_true rfl, Nat.le_of_ble_eq_true rfl⟩) (r_preS hK hZ hc hA) rfl rfl hl.1 rfl (lv_room (Nat.le_of_ble_eq_true rfl)) dX3_truck_27 ⟨Nat.le_of_ble_eq_true rfl, Nat.le_of_ble_eq_true rfl⟩) (fun R' H locs hp hc => ?_)
    have hRe := hp
    rw [hRe] at hc
    refine lv_aload_n hx hb dX3_truck_30 rfl (lv_at hl 0 rfl) ?_
    by_cases hpn : ¬ pn M j = 0
    rotate_left
    · exact x_thr hc hA ht hlocks (vx_runS (As := [.ref (a (40 + 6 * j))]) (rest := []) ⟨hx, hb, hml, hown, hts⟩ (c_X3_refuseEmpty_t l hl9 D g lv a R M hr9 hC hI j hj (Decidable.not_not.mp hpn) _) (va_cwS 1 hts gX3_truck_X3_refuseEmpty rfl rfl rfl (by decide +kernel) ⟨Nat.le_of_ble_eq_true rfl, Nat.le_of_ble_eq_true rfl⟩) (r_preS hK hZ hc hA) rfl rfl hl.1 rfl (lv_room (Nat.le_of_ble_eq_true rfl)) dX3_truck_31 ⟨Nat.le_of_ble_eq_true rfl, Nat.le_of_ble_eq_true rfl⟩) ⟨rfl, 2, by rw [show oTruck M (nI j) (nI s) = (3, nI 0, M) by simp only [oTruck, tN_nI hj9, tN_nI hs9, if_pos hv_j, if_pos hw10, if_pos hps, if_pos (Decidable.not_not.mp hpn)]], rfl⟩ (by decide) (by decide)
    refine r_callv hc hA (va_runS (As := [.ref (a (40 + 6 * j))]) (rest := []) ⟨hx, hb, hml, hown, hts⟩ (c_X3_refuseEmpty_v l D g lv a R M hr9 hC hI j hj hpn _) (va_cwS 1 hts gX3_truck_X3_refuseEmpty rfl rfl rfl (by decide +kernel) ⟨Nat.le_of_ble_eq_true rfl, Nat.le_of_ble_eq_true rfl⟩) (r_preS hK hZ hc hA) rfl rfl hl.1 rfl (lv_room (Nat.le_of_ble_eq_true rfl)) dX3_truck_31 ⟨Nat.le_of_ble_eq_true rfl, Nat.le_of_ble_eq_true rfl⟩) (fun R' H locs hp hc => ?_)
    have hRe := hp
    rw [hRe] at hc
    refine lv_aload_n hx hb dX3_truck_34 rfl (lv_at hl 1 rfl) ?_
    refine lv_iload_n hx hb dX3_truck_35 rfl (lv_at hl 3 rfl) ?_
    refine r_calli hc hA (va_runV (As := [.int (nI (s))]) (rest := []) ⟨hx, hb, hml, hown, hts⟩ (c_X3_hasLesserStopAboard l D g lv a R M hr9 hC hI s (by omega) _) (cwV 1 hts gX3_truck_X3_hasLesserStopAboard rfl rfl rfl (by decide +kernel) ⟨Nat.le_of_ble_eq_true rfl, Nat.le_of_ble_eq_true rfl⟩) (r_preV hK hZ hc hA (hr9.1.1) (rfl) rfl) rfl rfl hl.1 rfl (lv_room (Nat.le_of_ble_eq_true rfl)) dX3_truck_36 ⟨Nat.le_of_ble_eq_true rfl, Nat.le_of_ble_eq_true rfl⟩) (fun r R' H locs hp hc => ?_)
    obtain ⟨hRe, ⟨hle9, rfl⟩ | ⟨hle9, rfl⟩⟩ := hp
    · rw [hRe] at hc
      refine lv_if_ne (tgt := 54) hx hb dX3_truck_39 (by decide) (fun hq_12 => ?_) (fun hq_12 => absurd hq_12 (by decide))
      exact x_own hx hb hl9 hown hts (hl.1.trans hml.symm) hlocks hK hZ hc ht tf_s (by decide +kernel) (by decide +kernel) (fun _ h => List.mem_cons_of_mem _ (List.mem_append_left _ (List.mem_append_left _ (List.mem_append_right _ h)))) (is := 208) (text := "a pallet for an earlier stop would be barred") (by decide) dX3_truck_54 dX3_truck_57 dX3_truck_58 dX3_truck_60 dX3_truck_63 (Nat.le_of_ble_eq_true rfl) (Nat.le_of_ble_eq_true rfl) (Nat.le_of_ble_eq_true rfl) (Nat.le_of_ble_eq_true rfl) ⟨rfl, 2, by rw [show oTruck M (nI j) (nI s) = (3, nI 0, M) by simp only [oTruck, tN_nI hj9, tN_nI hs9, if_pos hv_j, if_pos hw10, if_pos hps, if_neg hpn, if_pos hle9]], rfl⟩ (by decide) (by decide)
    · rw [hRe] at hc
      refine lv_if_ne (tgt := 54) hx hb dX3_truck_39 (by decide) (fun hq_13 => absurd hq_13 (by decide)) (fun hq_13 => ?_)
      have hna := na_lt hI hj hps
      refine lv_aload_n hx hb dX3_truck_42 rfl (lv_at hl 1 rfl) ?_
      refine r_get (C := RX3) (T := TX3) (N := 12) (v := .int (nI (mna M))) hx hb hts hown hK.1 hc (hr9.1.1) (rfl) rfl rfl hinX3 8 (by decide) hf_32 (fun _ h9 => h9) (congrArg Value.int hC.1.2.2.2.2.1) dX3_truck_43 ?_
      refine lv_aload_n hx hb dX3_truck_46 rfl (lv_at hl 1 rfl) ?_
      refine r_get (C := RX3) (T := TX3) (N := 12) (v := .ref (a (6))) hx hb hts hown hK.1 hc (hr9.1.1) (rfl) rfl rfl hinX3 5 (by decide) hf_21 (fun _ h9 => h9) (congrArg va_rf hr9.1.2.2.2.2.2.2.2) dX3_truck_47 ?_
      refine r_alen (n := 8) (t0 := 0) hx hb hK.1 hc (hr9.1.2.2.2.1) (rfl) (ct_i (rfl)) rfl dX3_truck_50 ?_
      refine lv_icmp_lt (tgt := 64) hx hb dX3_truck_51 (by decide) (fun hq_14 => ?_) (fun hq_14 => (absurd ((nI_ltI (a := mna M) (b := 8) (by omega) (by omega)).mpr hna) hq_14))
      refine lv_aload_n hx hb dX3_truck_64 rfl (lv_at hl 1 rfl) ?_
      refine r_get (C := RX3) (T := TX3) (N := 12) (v := .ref (a (6))) hx hb hts hown hK.1 hc (hr9.1.1) (rfl) rfl rfl hinX3 5 (by decide) hf_21 (fun _ h9 => h9) (congrArg va_rf hr9.1.2.2.2.2.2.2.2) dX3_truck_65 ?_
      refine lv_aload_n hx hb dX3_truck_68 rfl (lv_at hl 1 rfl) ?_
      refine r_get (C := RX3) (T := TX3) (N := 12) (v := .int (nI (mna M))) hx hb hts hown hK.1 hc (hr9.1.1) (rfl) rfl rfl hinX3 8 (by decide) hf_32 (fun _ h9 => h9) (congrArg Value.int hC.1.2.2.2.2.1) dX3_truck_69 ?_
      refine lv_iload_n hx hb dX3_truck_72 rfl (lv_at hl 2 rfl) ?_
      refine r_iast hx hb hK.1 hc (hr9.1.2.2.2.1) (rfl) (by decide) (by omega) dX3_truck_73 (fun H locs hc => ?_)
      refine lv_aload_n hx hb dX3_truck_74 rfl (lv_at hl 1 rfl) ?_
      refine lv_dup hx hb dX3_truck_75 rfl ?_
      refine r_get (C := RX3) (T := TX3) (N := 12) (v := .int (nI (mna M))) hx hb hts hown hK.1 hc (hr9.1.1) (rfl) rfl rfl hinX3 8 (by decide) hf_32 (fun _ h9 => h9) (congrArg Value.int hC.1.2.2.2.2.1) dX3_truck_76 ?_
      refine lv_iconst (v := nI (1)) hx hb dX3_truck_79 (by decide) ?_
      refine nv_iadd hx hb dX3_truck_80 ?_
      refine r_put (C := RX3) (T := TX3) (N := 12) (R' := sfi (sai R 6 (mna M) (nI (j))) 0 8 (nI ((mna M) + 1))) hx hb hts hown hK.1 hc (hr9.1.1) (rfl) rfl rfl hinX3 tyX3 tyX3_ok nmX3 8 (by decide) hf_32 (fun _ h9 => h9) rfl (tyX3_ok 8 (by decide)) rfl rfl dX3_truck_81 (fds_sfi (by decide) (by decide)) (fun _ h9 => ct_sfi h9) (fun H locs hc => ?_)
      refine lv_aload_n hx hb dX3_truck_84 rfl (lv_at hl 0 rfl) ?_
      refine lv_iload_n hx hb dX3_truck_85 rfl (lv_at hl 3 rfl) ?_
      refine r_put (C := RX1) (T := TX1) (N := 10) (R' := sfi (sfi (sai R 6 (mna M) (nI (j))) 0 8 (nI ((mna M) + 1))) (40 + 6 * j) 9 (nI (s))) hx hb hts hown hK.1 hc ((hr9.2.2.2.1 j (by omega)).1.1) (sh_P (by omega)) rfl rfl hinX1 tyX1 tyX1_ok nmX1 9 (by decide) hf_194 (fun _ h9 => h9) rfl (tyX1_ok 9 (by decide)) rfl rfl dX3_truck_86 (fds_sfi (by decide) (by decide)) (fun _ h9 => ct_sfi h9) (fun H locs hc => ?_)
      refine lv_aload_n hx hb dX3_truck_89 rfl (lv_at hl 1 rfl) ?_
      refine r_get (C := RX3) (T := TX3) (N := 12) (v := .int (nI ((mna M) + 1))) hx hb hts hown hK.1 hc (hr9.1.1) (rfl) rfl rfl hinX3 8 (by decide) hf_32 (fun _ h9 => h9) (congrArg Value.int ((up2_n (by omega)).trans rfl)) dX3_truck_90 ?_
      refine vx_ret ?_
      refine W.widen (k := 1) (n := 6) (by decide) (by decide) ?_
      exact r_iret hx hb hr hlocks hc dX3_truck_93 (by
      unfold QC; rw [show oTruck M (nI j) (nI s) = (0, nI (mna M + 1), nTruck M j s) by simp only [oTruck, tN_nI hj9, tN_nI hs9, if_pos hv_j, if_pos hw10, if_pos hps, if_neg hpn, if_neg (show ¬ les M s (mna M) = true by rw [hle9]; decide)]]
      exact ⟨rfl, rfl, pc_truck hC (by omega) (by omega) (by omega), ((((outC.r _).sai (by omega)).sfi (by omega)).sfi (by omega))⟩)
  · rw [hRe] at hc
    rw [w_iff (by decide) (by decide)] at hw10
    refine lv_if_eq (tgt := 26) hx hb dX3_truck_13 (by decide) (fun hq_15 => absurd hq_15 (by decide)) (fun hq_15 => ?_)
    exact x_own hx hb hl9 hown hts (hl.1.trans hml.symm) hlocks hK hZ hc ht tf_i (by decide +kernel) (by decide +kernel) (fun _ h => List.mem_cons_of_mem _ (List.mem_append_left _ (List.mem_append_left _ (List.mem_append_left _ (List.mem_append_right _ h))))) (is := 203) (text := "a stop is outside its range") (by decide) dX3_truck_16 dX3_truck_19 dX3_truck_20 dX3_truck_22 dX3_truck_25 (Nat.le_of_ble_eq_true rfl) (Nat.le_of_ble_eq_true rfl) (Nat.le_of_ble_eq_true rfl) (Nat.le_of_ble_eq_true rfl) ⟨rfl, 1, by rw [show oTruck M (nI j) y = (2, nI 0, M) by simp only [oTruck, tN_nI hj9, if_pos hv_j, if_neg hw10]], rfl⟩ (by decide) (by decide)
set_option maxRecDepth 100000 in
set_option maxHeartbeats 4000000 in
theorem c_X3_put (l : Launch) (hl9 : l.stackTraces = false) (D : va_G) (g : Nat → ClassId) (lv : Nat → Bool) (a : Nat → Nat) (R : RS) (M : MS) (hr9 : PCr lv a R M) (hC : PC R M) (hI : Inv M) (x y z : Int32) : xI l D g lv a yX3_put wsX3_put ({ frames := 7, cells := 1, slots := 6, locals := 132 } : Room) [.ref (a (0)), .int (x), .int (y), .int (z)] R (fun r R' => QC R (oPut M x y z) r R') (XP R (oPut M x y z) [NSE, IAE, ISE, UOE]) := by
  refine x_body (cc := cX3_put) (maxL := 7) (ret := (some .int)) (by decide) rfl (Nat.le_of_ble_eq_true rfl) ?_
  intro pr en st mi bl me co ls B ht hl
  obtain ⟨hx, hb, hr, hml, hown, hts, hlocks, hnm, hK, hZ, hc, hA⟩ := B
  have hl : lv_has ls 7 [(0, .ref (a (0))), (1, .int (x)), (2, .int (y)), (3, .int (z))] := hl
  have hinX1 : ∀ w ∈ u_ws RX1 TX1 10, w ∈ wsX3_put := (fun _ h => List.mem_cons_of_mem _ (List.mem_append_left _ (List.mem_append_left _ (List.mem_append_left _ (List.mem_append_left _ (List.mem_append_left _ (List.mem_append_left _ (List.mem_append_left _ (List.mem_append_right _ h)))))))))
  have hf_144 := hts (.fieldLink RX3 144 "PalletLayers$Pallet" "layers" "I") (by decide +kernel)
  have hb9 := iv_b hI
  refine lv_aload_n hx hb dX3_put_0 rfl (lv_at hl 0 rfl) ?_
  refine lv_iload_n hx hb dX3_put_1 rfl (lv_at hl 1 rfl) ?_
  by_cases hv_j : isN x (mnp M)
  rotate_left
  · exact x_thr hc hA ht hlocks (vx_runV (As := [.int (x)]) (rest := []) ⟨hx, hb, hml, hown, hts⟩ (c_X3_palletNumbered_t l hl9 D g lv a R M hr9 hC hI x hv_j _) (cwV 1 hts gX3_put_X3_palletNumbered rfl rfl rfl (by decide +kernel) ⟨Nat.le_of_ble_eq_true rfl, Nat.le_of_ble_eq_true rfl⟩) (r_preV hK hZ hc hA (hr9.1.1) (rfl) rfl) rfl rfl hl.1 rfl (lv_room (Nat.le_of_ble_eq_true rfl)) dX3_put_2 ⟨Nat.le_of_ble_eq_true rfl, Nat.le_of_ble_eq_true rfl⟩) ⟨rfl, 0, by rw [show oPut M x y z = (1, nI 0, M) by simp only [oPut, if_neg (not_and_of_not_left _ hv_j)]], rfl⟩ (by decide) (by decide)
  obtain ⟨j, hj, hj9, rfl⟩ := isN_ex hv_j
  refine r_callr hc hA (va_runV (As := [.int (nI (j))]) (rest := []) ⟨hx, hb, hml, hown, hts⟩ (c_X3_palletNumbered_v l D g lv a R M hr9 ⟨hb9.2.2.2.2.1, hb9.2.2.2.2.2.1⟩ j hj _) (cwV 1 hts gX3_put_X3_palletNumbered rfl rfl rfl (by decide +kernel) ⟨Nat.le_of_ble_eq_true rfl, Nat.le_of_ble_eq_true rfl⟩) (r_preV hK hZ hc hA (hr9.1.1) (rfl) rfl) rfl rfl hl.1 rfl (lv_room (Nat.le_of_ble_eq_true rfl)) dX3_put_2 ⟨Nat.le_of_ble_eq_true rfl, Nat.le_of_ble_eq_true rfl⟩) (fun r R' H locs hp hc => ?_)
  obtain ⟨hre, hRe⟩ := hp
  rw [hRe] at hc
  rw [hre]
  refine lv_astore (lv' := [(4, .ref (a (40 + 6 * j))), (0, .ref (a (0))), (1, .int (nI (j))), (2, .int (y)), (3, .int (z))]) hx hb dX3_put_5 hl (by decide) rfl (fun ls hl => ?_)
  refine lv_aload_n hx hb dX3_put_7 rfl (lv_at hl 1 rfl) ?_
  refine lv_iload_n hx hb dX3_put_8 rfl (lv_at hl 3 rfl) ?_
  by_cases hv_k : isN y (mnk M)
  rotate_left
  · exact x_thr hc hA ht hlocks (vx_runV (As := [.int (y)]) (rest := []) ⟨hx, hb, hml, hown, hts⟩ (c_X3_kindNumbered_t l hl9 D g lv a R M hr9 hC hI y hv_k _) (cwV 1 hts gX3_put_X3_kindNumbered rfl rfl rfl (by decide +kernel) ⟨Nat.le_of_ble_eq_true rfl, Nat.le_of_ble_eq_true rfl⟩) (r_preV hK hZ hc hA (hr9.1.1) (rfl) rfl) rfl rfl hl.1 rfl (lv_room (Nat.le_of_ble_eq_true rfl)) dX3_put_9 ⟨Nat.le_of_ble_eq_true rfl, Nat.le_of_ble_eq_true rfl⟩) ⟨rfl, 0, by rw [show oPut M (nI j) y z = (1, nI 0, M) by simp only [oPut, tN_nI hj9, if_neg (not_and_of_not_right _ hv_k)]], rfl⟩ (by decide) (by decide)
  obtain ⟨k, hk, hk9, rfl⟩ := isN_ex hv_k
  refine r_callr hc hA (va_runV (As := [.int (nI (k))]) (rest := []) ⟨hx, hb, hml, hown, hts⟩ (c_X3_kindNumbered_v l D g lv a R M hr9 ⟨hb9.2.2.2.2.1, hb9.2.2.2.2.2.1⟩ k hk _) (cwV 1 hts gX3_put_X3_kindNumbered rfl rfl rfl (by decide +kernel) ⟨Nat.le_of_ble_eq_true rfl, Nat.le_of_ble_eq_true rfl⟩) (r_preV hK hZ hc hA (hr9.1.1) (rfl) rfl) rfl rfl hl.1 rfl (lv_room (Nat.le_of_ble_eq_true rfl)) dX3_put_9 ⟨Nat.le_of_ble_eq_true rfl, Nat.le_of_ble_eq_true rfl⟩) (fun r R' H locs hp hc => ?_)
  obtain ⟨hre, hRe⟩ := hp
  rw [hRe] at hc
  rw [hre]
  refine lv_astore (lv' := [(5, .ref (a (10 + 3 * k))), (4, .ref (a (40 + 6 * j))), (0, .ref (a (0))), (1, .int (nI (j))), (2, .int (nI (k))), (3, .int (z))]) hx hb dX3_put_12 hl (by decide) rfl (fun ls hl => ?_)
  refine lv_iload_n hx hb dX3_put_14 rfl (lv_at hl 5 rfl) ?_
  refine lv_iconst (v := nI (1)) hx hb dX3_put_15 (by decide) ?_
  refine lv_bipush (v := nI (100)) hx hb dX3_put_16 (by decide) ?_
  refine r_calli hc hA (va_runS (As := [.int (z), .int (nI (1)), .int (nI (100))]) (rest := []) ⟨hx, hb, hml, hown, hts⟩ (c_X3_isOutside l D g lv a R z (nI (1)) (nI (100)) _) (va_cwS 3 hts gX3_put_X3_isOutside rfl rfl rfl (by decide +kernel) ⟨Nat.le_of_ble_eq_true rfl, Nat.le_of_ble_eq_true rfl⟩) (r_preS hK hZ hc hA) rfl rfl hl.1 rfl (lv_room (Nat.le_of_ble_eq_true rfl)) dX3_put_18 ⟨Nat.le_of_ble_eq_true rfl, Nat.le_of_ble_eq_true rfl⟩) (fun r R' H locs hp hc => ?_)
  obtain ⟨hRe, ⟨hw18, rfl⟩ | ⟨hw18, rfl⟩⟩ := hp
  · rw [hRe] at hc
    rw [w_iff (by decide) (by decide)] at hw18
    obtain ⟨n, hn0, hn1, hn9, rfl⟩ := isR_ex hw18
    refine lv_if_eq (tgt := 34) hx hb dX3_put_21 (by decide) (fun hq_7 => ?_) (fun hq_7 => absurd hq_7 (by decide))
    refine lv_aload hx hb dX3_put_34 (lv_at hl 1 rfl) ?_
    by_cases hps : ps M j = 0
    rotate_left
    · exact x_thr hc hA ht hlocks (vx_runS (As := [.ref (a (40 + 6 * j))]) (rest := []) ⟨hx, hb, hml, hown, hts⟩ (c_X3_refuseOnTruck_t l hl9 D g lv a R M hr9 hC hI j hj hps _) (va_cwS 1 hts gX3_put_X3_refuseOnTruck rfl rfl rfl (by decide +kernel) ⟨Nat.le_of_ble_eq_true rfl, Nat.le_of_ble_eq_true rfl⟩) (r_preS hK hZ hc hA) rfl rfl hl.1 rfl (lv_room (Nat.le_of_ble_eq_true rfl)) dX3_put_36 ⟨Nat.le_of_ble_eq_true rfl, Nat.le_of_ble_eq_true rfl⟩) ⟨rfl, 2, by rw [show oPut M (nI j) (nI k) (nI n) = (3, nI 0, M) by simp only [oPut, tN_nI hj9, tN_nI hk9, tN_nI hn9, if_pos (And.intro hv_j hv_k), if_pos hw18, if_neg hps]], rfl⟩ (by decide) (by decide)
    refine r_callv hc hA (va_runS (As := [.ref (a (40 + 6 * j))]) (rest := []) ⟨hx, hb, hml, hown, hts⟩ (c_X3_refuseOnTruck_v l D g lv a R M hr9 hC hI j hj hps _) (va_cwS 1 hts gX3_put_X3_refuseOnTruck rfl rfl rfl (by decide +kernel) ⟨Nat.le_of_ble_eq_true rfl, Nat.le_of_ble_eq_true rfl⟩) (r_preS hK hZ hc hA) rfl rfl hl.1 rfl (lv_room (Nat.le_of_ble_eq_true rfl)) dX3_put_36 ⟨Nat.le_of_ble_eq_true rfl, Nat.le_of_ble_eq_true rfl⟩) (fun R' H locs hp hc => ?_)
    have hRe := hp
    rw [hRe] at hc
    have hp9 := iv_p hI hj
    refine lv_aload hx hb dX3_put_39 (lv_at hl 1 rfl) ?_
    refine r_get (C := RX1) (T := TX1) (N := 10) (v := .int (nI (pn M j))) hx hb hts hown hK.1 hc ((hr9.2.2.2.1 j (by omega)).1.1) (sh_P (by omega)) rfl rfl hinX1 5 (by decide) hf_144 (fun _ h9 => h9) (congrArg Value.int (hC.2.2.2.2.1 j (by omega)).1) dX3_put_41 ?_
    refine lv_bipush (v := nI (10)) hx hb dX3_put_44 (by decide) ?_
    refine lv_icmp_lt (tgt := 59) hx hb dX3_put_46 (by decide) (fun hq_10 => ?_) (fun hq_10 => ?_)
    · have hq_10 : (pn M j) < 10 := (nI_ltI (a := (pn M j)) (b := 10) (by omega) (by omega)).mp hq_10
      have h10 : ¬ pn M j = 10 := by omega
      refine lv_aload_n hx hb dX3_put_59 rfl (lv_at hl 2 rfl) ?_
      refine lv_aload hx hb dX3_put_60 (lv_at hl 1 rfl) ?_
      refine lv_aload hx hb dX3_put_62 (lv_at hl 0 rfl) ?_
      refine lv_iload_n hx hb dX3_put_64 rfl (lv_at hl 5 rfl) ?_
      refine r_calli hc hA (va_runV (As := [.ref (a (40 + 6 * j)), .ref (a (10 + 3 * k)), .int (nI (n))]) (rest := []) ⟨hx, hb, hml, hown, hts⟩ (c_X3_whyNot l D g lv a R M hr9 hC hI j k n hj hk (by omega) _) (cwV 3 hts gX3_put_X3_whyNot rfl rfl rfl (by decide +kernel) ⟨Nat.le_of_ble_eq_true rfl, Nat.le_of_ble_eq_true rfl⟩) (r_preV hK hZ hc hA (hr9.1.1) (rfl) rfl) rfl rfl hl.1 rfl (lv_room (Nat.le_of_ble_eq_true rfl)) dX3_put_65 ⟨Nat.le_of_ble_eq_true rfl, Nat.le_of_ble_eq_true rfl⟩) (fun r R' H locs hp hc => ?_)
      obtain ⟨hre, hRe⟩ := hp
      rw [hRe] at hc
      rw [hre]
      refine lv_istore (lv' := [(6, .int (rsn M j k n)), (5, .ref (a (10 + 3 * k))), (4, .ref (a (40 + 6 * j))), (0, .ref (a (0))), (1, .int (nI (j))), (2, .int (nI (k))), (3, .int (nI (n)))]) hx hb dX3_put_68 hl (by decide) rfl (fun ls hl => ?_)
      refine lv_iload hx hb dX3_put_70 (lv_at hl 0 rfl) ?_
      refine lv_if_ge (tgt := 78) hx hb dX3_put_72 (by decide) (fun hq_13 => ?_) (fun hq_13 => ?_)
      · have hrs : rsn M j k n = nI 0 := rsn_0 hq_13
        refine lv_aload hx hb dX3_put_78 (lv_at hl 2 rfl) ?_
        refine lv_iload_n hx hb dX3_put_80 rfl (lv_at hl 5 rfl) ?_
        refine lv_aload hx hb dX3_put_81 (lv_at hl 1 rfl) ?_
        refine lv_iload_n hx hb dX3_put_83 rfl (lv_at hl 6 rfl) ?_
        refine r_callv hc hA (va_runV (As := [.int (nI (k)), .ref (a (10 + 3 * k)), .int (nI (n))]) (rest := []) ⟨hx, hb, hml, hown, hts⟩ (c_X1_lay l D g lv a R M j (by omega) (hr9.2.2.2.1 j hj) (hC.2.2.2.2.1 j hj) hp9.1 (hC.2.2.2.2.2.1 j hj) k (by omega) (hr9.2.2.1 k hk) (hC.2.2.1 k hk) (hC.2.2.2.1 k hk) hI hk n (rsn_kb hrs) (by omega) _) (cwV 3 hts gX3_put_X1_lay rfl rfl rfl (by decide +kernel) ⟨Nat.le_of_ble_eq_true rfl, Nat.le_of_ble_eq_true rfl⟩) (r_preV hK hZ hc hA ((hr9.2.2.2.1 j (by omega)).1.1) (sh_P (by omega)) rfl) rfl rfl hl.1 rfl (lv_room (Nat.le_of_ble_eq_true rfl)) dX3_put_84 ⟨Nat.le_of_ble_eq_true rfl, Nat.le_of_ble_eq_true rfl⟩) (fun R' H locs hp hc => ?_)
        have hRe := hp
        rw [hRe] at hc
        refine lv_aload hx hb dX3_put_87 (lv_at hl 2 rfl) ?_
        refine r_get (C := RX1) (T := TX1) (N := 10) (v := .int (nI (pn M j + 1))) hx hb hts hown hK.1 hc ((hr9.2.2.2.1 j (by omega)).1.1) (sh_P (by omega)) rfl rfl hinX1 5 (by decide) hf_144 (fun _ h9 => h9) (congrArg Value.int (up2_s _ _ _ _)) dX3_put_89 ?_
        refine vx_ret ?_
        refine W.widen (k := 1) (n := 6) (by decide) (by decide) ?_
        exact r_iret hx hb hr hlocks hc dX3_put_92 (by
      unfold QC; rw [show oPut M (nI j) (nI k) (nI n) = (0, nI (pn M j + 1), nAdd M j k n) by simp only [oPut, tN_nI hj9, tN_nI hk9, tN_nI hn9, if_pos (And.intro hv_j hv_k), if_pos hw18, if_pos hps, if_neg h10, if_pos hrs]]
      exact ⟨rfl, rfl, pc_add hC (by omega) (by omega) (by omega), outC_la (by omega)⟩)
      · have hrs : ¬ rsn M j k n = nI 0 := fun z => hq_13 (by rw [z]; decide)
        refine lv_iload hx hb dX3_put_75 (lv_at hl 0 rfl) ?_
        refine vx_ret ?_
        refine W.widen (k := 1) (n := 6) (by decide) (by decide) ?_
        exact r_iret hx hb hr hlocks hc dX3_put_77 (by
      unfold QC; rw [show oPut M (nI j) (nI k) (nI n) = (0, rsn M j k n, M) by simp only [oPut, tN_nI hj9, tN_nI hk9, tN_nI hn9, if_pos (And.intro hv_j hv_k), if_pos hw18, if_pos hps, if_neg h10, if_neg hrs]]
      exact ⟨rfl, rfl, hC, outC.r R⟩)
    · have hq_10 : ¬ ((pn M j) < 10) := fun z => hq_10 ((nI_ltI (a := (pn M j)) (b := 10) (by omega) (by omega)).mpr z)
      have h10 : pn M j = 10 := by omega
      exact x_own hx hb hl9 hown hts (hl.1.trans hml.symm) hlocks hK hZ hc ht tf_u (by decide +kernel) (by decide +kernel) (fun _ h => List.mem_cons_of_mem _ (List.mem_append_left _ (List.mem_append_left _ (List.mem_append_left _ (List.mem_append_right _ h))))) (is := 147) (text := "no room for another layer") (by decide) dX3_put_49 dX3_put_52 dX3_put_53 dX3_put_55 dX3_put_58 (Nat.le_of_ble_eq_true rfl) (Nat.le_of_ble_eq_true rfl) (Nat.le_of_ble_eq_true rfl) (Nat.le_of_ble_eq_true rfl) ⟨rfl, 3, by rw [show oPut M (nI j) (nI k) (nI n) = (4, nI 0, M) by simp only [oPut, tN_nI hj9, tN_nI hk9, tN_nI hn9, if_pos (And.intro hv_j hv_k), if_pos hw18, if_pos hps, if_pos h10]], rfl⟩ (by decide) (by decide)
  · rw [hRe] at hc
    rw [w_iff (by decide) (by decide)] at hw18
    refine lv_if_eq (tgt := 34) hx hb dX3_put_21 (by decide) (fun hq_16 => absurd hq_16 (by decide)) (fun hq_16 => ?_)
    exact x_own hx hb hl9 hown hts (hl.1.trans hml.symm) hlocks hK hZ hc ht tf_i (by decide +kernel) (by decide +kernel) (fun _ h => List.mem_cons_of_mem _ (List.mem_append_left _ (List.mem_append_left _ (List.mem_append_left _ (List.mem_append_left _ (List.mem_append_right _ h)))))) (is := 138) (text := "boxes are outside their range") (by decide) dX3_put_24 dX3_put_27 dX3_put_28 dX3_put_30 dX3_put_33 (Nat.le_of_ble_eq_true rfl) (Nat.le_of_ble_eq_true rfl) (Nat.le_of_ble_eq_true rfl) (Nat.le_of_ble_eq_true rfl) ⟨rfl, 1, by rw [show oPut M (nI j) (nI k) z = (2, nI 0, M) by simp only [oPut, tN_nI hj9, tN_nI hk9, if_pos (And.intro hv_j hv_k), if_neg hw18]], rfl⟩ (by decide) (by decide)
set_option maxRecDepth 100000 in
set_option maxHeartbeats 4000000 in
theorem c_X3_search (l : Launch) (hl9 : l.stackTraces = false) (D : va_G) (g : Nat → ClassId) (lv : Nat → Bool) (a : Nat → Nat) (R : RS) (M : MS) (hr9 : PCr lv a R M) (hC : PC R M) (hI : Inv M) (x y : Int32) : xI l D g lv a yX3_search wsX3_search ({ frames := 80, cells := 1, slots := 6, locals := 2468 } : Room) [.ref (a (0)), .int (x), .int (y)] R (fun r R' => QC R (oSearch M x y) r R') (XP R (oSearch M x y) [NSE, IAE, ISE]) := by
  refine x_body (cc := cX3_search) (maxL := 4) (ret := (some .int)) (by decide) rfl (Nat.le_of_ble_eq_true rfl) ?_
  intro pr en st mi bl me co ls B ht hl
  obtain ⟨hx, hb, hr, hml, hown, hts, hlocks, hnm, hK, hZ, hc, hA⟩ := B
  have hl : lv_has ls 4 [(0, .ref (a (0))), (1, .int (x)), (2, .int (y))] := hl
  have hinX0 : ∀ w ∈ u_ws RX0 TX0 11, w ∈ wsX3_search := (fun _ h => List.mem_cons_of_mem _ (List.mem_append_left _ (List.mem_append_left _ (List.mem_append_left _ (List.mem_append_left _ (List.mem_append_left _ (List.mem_append_left _ (List.mem_append_right _ h))))))))
  have hinX3 : ∀ w ∈ u_ws RX3 TX3 12, w ∈ wsX3_search := (fun _ h => List.mem_cons_of_mem _ (List.mem_append_left _ (List.mem_append_left _ (List.mem_append_left _ (List.mem_append_left _ (List.mem_append_left _ (List.mem_append_left _ (List.mem_append_left _ (List.mem_append_right _ h)))))))))
  have hf_64 := hts (.fieldLink RX3 64 "PalletLayers" "seeker" "LPalletLayers$PatternSearch;") (by decide +kernel)
  have hf_106 := hts (.fieldLink RX3 106 "PalletLayers$Kind" "boxes" "I") (by decide +kernel)
  have hb9 := iv_b hI
  refine lv_aload_n hx hb dX3_search_0 rfl (lv_at hl 0 rfl) ?_
  refine lv_iload_n hx hb dX3_search_1 rfl (lv_at hl 1 rfl) ?_
  by_cases hv_j : isN x (mnk M)
  rotate_left
  · exact x_thr hc hA ht hlocks (vx_runV (As := [.int (x)]) (rest := []) ⟨hx, hb, hml, hown, hts⟩ (c_X3_kindNumbered_t l hl9 D g lv a R M hr9 hC hI x hv_j _) (cwV 1 hts gX3_search_X3_kindNumbered rfl rfl rfl (by decide +kernel) ⟨Nat.le_of_ble_eq_true rfl, Nat.le_of_ble_eq_true rfl⟩) (r_preV hK hZ hc hA (hr9.1.1) (rfl) rfl) rfl rfl hl.1 rfl (lv_room (Nat.le_of_ble_eq_true rfl)) dX3_search_2 ⟨Nat.le_of_ble_eq_true rfl, Nat.le_of_ble_eq_true rfl⟩) ⟨rfl, 0, by rw [show oSearch M x y = (1, nI 0, M) by simp only [oSearch, if_neg hv_j]], rfl⟩ (by decide) (by decide)
  obtain ⟨j, hj, hj9, rfl⟩ := isN_ex hv_j
  refine r_callr hc hA (va_runV (As := [.int (nI (j))]) (rest := []) ⟨hx, hb, hml, hown, hts⟩ (c_X3_kindNumbered_v l D g lv a R M hr9 ⟨hb9.2.2.2.2.1, hb9.2.2.2.2.2.1⟩ j hj _) (cwV 1 hts gX3_search_X3_kindNumbered rfl rfl rfl (by decide +kernel) ⟨Nat.le_of_ble_eq_true rfl, Nat.le_of_ble_eq_true rfl⟩) (r_preV hK hZ hc hA (hr9.1.1) (rfl) rfl) rfl rfl hl.1 rfl (lv_room (Nat.le_of_ble_eq_true rfl)) dX3_search_2 ⟨Nat.le_of_ble_eq_true rfl, Nat.le_of_ble_eq_true rfl⟩) (fun r R' H locs hp hc => ?_)
  obtain ⟨hre, hRe⟩ := hp
  rw [hRe] at hc
  rw [hre]
  refine lv_astore_n (lv' := [(3, .ref (a (10 + 3 * j))), (0, .ref (a (0))), (1, .int (nI (j))), (2, .int (y))]) hx hb dX3_search_5 rfl hl (by decide) rfl (fun ls hl => ?_)
  refine lv_iload_n hx hb dX3_search_6 rfl (lv_at hl 3 rfl) ?_
  refine lv_iconst (v := nI (0)) hx hb dX3_search_7 (by decide) ?_
  refine lv_sipush (v := nI (5000)) hx hb dX3_search_8 (by decide) ?_
  refine r_calli hc hA (va_runS (As := [.int (y), .int (nI (0)), .int (nI (5000))]) (rest := []) ⟨hx, hb, hml, hown, hts⟩ (c_X3_isOutside l D g lv a R y (nI (0)) (nI (5000)) _) (va_cwS 3 hts gX3_search_X3_isOutside rfl rfl rfl (by decide +kernel) ⟨Nat.le_of_ble_eq_true rfl, Nat.le_of_ble_eq_true rfl⟩) (r_preS hK hZ hc hA) rfl rfl hl.1 rfl (lv_room (Nat.le_of_ble_eq_true rfl)) dX3_search_11 ⟨Nat.le_of_ble_eq_true rfl, Nat.le_of_ble_eq_true rfl⟩) (fun r R' H locs hp hc => ?_)
  obtain ⟨hRe, ⟨hw11, rfl⟩ | ⟨hw11, rfl⟩⟩ := hp
  · rw [hRe] at hc
    rw [w_iff (by decide) (by decide)] at hw11
    obtain ⟨s, hs0, hs1, hs9, rfl⟩ := isR_ex hw11
    refine lv_if_eq (tgt := 27) hx hb dX3_search_14 (by decide) (fun hq_5 => ?_) (fun hq_5 => absurd hq_5 (by decide))
    refine lv_aload_n hx hb dX3_search_27 rfl (lv_at hl 1 rfl) ?_
    refine lv_iload_n hx hb dX3_search_28 rfl (lv_at hl 2 rfl) ?_
    refine r_calli hc hA (va_runV (As := [.int (nI (j))]) (rest := []) ⟨hx, hb, hml, hown, hts⟩ (c_X3_isOnAPallet l D g lv a R M hr9 hC hI j hj _) (cwV 1 hts gX3_search_X3_isOnAPallet rfl rfl rfl (by decide +kernel) ⟨Nat.le_of_ble_eq_true rfl, Nat.le_of_ble_eq_true rfl⟩) (r_preV hK hZ hc hA (hr9.1.1) (rfl) rfl) rfl rfl hl.1 rfl (lv_room (Nat.le_of_ble_eq_true rfl)) dX3_search_29 ⟨Nat.le_of_ble_eq_true rfl, Nat.le_of_ble_eq_true rfl⟩) (fun r R' H locs hp hc => ?_)
    obtain ⟨hRe, ⟨hon, rfl⟩ | ⟨hon, rfl⟩⟩ := hp
    · rw [hRe] at hc
      refine lv_if_eq (tgt := 45) hx hb dX3_search_32 (by decide) (fun hq_8 => absurd hq_8 (by decide)) (fun hq_8 => ?_)
      exact x_own hx hb hl9 hown hts (hl.1.trans hml.symm) hlocks hK hZ hc ht tf_s (by decide +kernel) (by decide +kernel) (fun _ h => List.mem_cons_of_mem _ (List.mem_append_left _ (List.mem_append_left _ (List.mem_append_right _ h)))) (is := 99) (text := "a layer of this kind is on a pallet") (by decide) dX3_search_35 dX3_search_38 dX3_search_39 dX3_search_41 dX3_search_44 (Nat.le_of_ble_eq_true rfl) (Nat.le_of_ble_eq_true rfl) (Nat.le_of_ble_eq_true rfl) (Nat.le_of_ble_eq_true rfl) ⟨rfl, 2, by rw [show oSearch M (nI j) (nI s) = (3, nI 0, M) by simp only [oSearch, tN_nI hj9, tN_nI hs9, if_pos hv_j, if_pos hw11, if_pos hon]], rfl⟩ (by decide) (by decide)
    · rw [hRe] at hc
      refine lv_if_eq (tgt := 45) hx hb dX3_search_32 (by decide) (fun hq_9 => ?_) (fun hq_9 => absurd hq_9 (by decide))
      refine lv_aload_n hx hb dX3_search_45 rfl (lv_at hl 1 rfl) ?_
      refine r_get (C := RX3) (T := TX3) (N := 12) (v := .ref (a (1))) hx hb hts hown hK.1 hc (hr9.1.1) (rfl) rfl rfl hinX3 2 (by decide) hf_64 (fun _ h9 => h9) (congrArg va_rf hr9.1.2.2.2.2.1) dX3_search_46 ?_
      refine lv_aload_n hx hb dX3_search_49 rfl (lv_at hl 0 rfl) ?_
      refine lv_iload_n hx hb dX3_search_50 rfl (lv_at hl 3 rfl) ?_
      refine r_callv hc hA (va_runV (As := [.ref (a (10 + 3 * j)), .int (nI (s))]) (rest := []) ⟨hx, hb, hml, hown, hts⟩ (c_X2_seek l D g lv a R M j s (by omega) hj hI (by omega) ⟨hr9.2.2.1 j hj, hr9.2.1, hC.2.2.1 j hj, hC.2.1⟩ _) (cwV 2 hts gX3_search_X2_seek rfl rfl rfl (by decide +kernel) ⟨Nat.le_of_ble_eq_true rfl, Nat.le_of_ble_eq_true rfl⟩) (r_preV hK hZ hc hA (hr9.2.1.1) (rfl) rfl) rfl rfl hl.1 rfl (lv_room (Nat.le_of_ble_eq_true rfl)) dX3_search_51 ⟨Nat.le_of_ble_eq_true rfl, Nat.le_of_ble_eq_true rfl⟩) (fun R' H locs hp hc => ?_)
      obtain ⟨hFC, hLC, hx10⟩ := hp
      refine lv_aload_n hx hb dX3_search_54 rfl (lv_at hl 0 rfl) ?_
      refine r_get (C := RX0) (T := TX0) (N := 11) (v := .int (nI ((sk0 M j s).2.2.2.length))) hx hb hts hown hK.1 hc ((hr9.2.2.1 j (by omega)).1) (sh_K (by omega)) rfl rfl hinX0 9 (by decide) hf_106 (fun _ h9 => h9) (congrArg Value.int hLC.2.2.2.2.1) dX3_search_55 ?_
      refine vx_ret ?_
      refine W.widen (k := 1) (n := 6) (by decide) (by decide) ?_
      exact r_iret hx hb hr hlocks hc dX3_search_58 (by
      unfold QC; rw [show oSearch M (nI j) (nI s) = (0, nI (sk0 M j s).2.2.2.length, nSearch M j (sk0 M j s)) by simp only [oSearch, tN_nI hj9, tN_nI hs9, if_pos hv_j, if_pos hw11, if_neg (show ¬ onP M j (mnp M) = true by rw [hon]; decide)]]
      exact ⟨rfl, rfl, pc_search hC hI hj hFC hLC hx10 hon, outC_fc hFC (by omega)⟩)
  · rw [hRe] at hc
    rw [w_iff (by decide) (by decide)] at hw11
    refine lv_if_eq (tgt := 27) hx hb dX3_search_14 (by decide) (fun hq_12 => absurd hq_12 (by decide)) (fun hq_12 => ?_)
    exact x_own hx hb hl9 hown hts (hl.1.trans hml.symm) hlocks hK hZ hc ht tf_i (by decide +kernel) (by decide +kernel) (fun _ h => List.mem_cons_of_mem _ (List.mem_append_left _ (List.mem_append_left _ (List.mem_append_left _ (List.mem_append_right _ h))))) (is := 91) (text := "steps are outside their range") (by decide) dX3_search_17 dX3_search_20 dX3_search_21 dX3_search_23 dX3_search_26 (Nat.le_of_ble_eq_true rfl) (Nat.le_of_ble_eq_true rfl) (Nat.le_of_ble_eq_true rfl) (Nat.le_of_ble_eq_true rfl) ⟨rfl, 1, by rw [show oSearch M (nI j) y = (2, nI 0, M) by simp only [oSearch, tN_nI hj9, if_pos hv_j, if_neg hw11]], rfl⟩ (by decide) (by decide)
