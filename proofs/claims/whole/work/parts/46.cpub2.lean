set_option maxRecDepth 100000 in
set_option maxHeartbeats 4000000 in
theorem c_X3_told (l : Launch) (hl9 : l.stackTraces = false) (D : va_G) (g : Nat → ClassId) (lv : Nat → Bool) (a : Nat → Nat) (R : RS) (M : MS) (hr9 : PCr lv a R M) (hC : PC R M) (hI : Inv M) (x y : Int32) : xI l D g lv a yX3_told wsX3_told ({ frames := 7, cells := 1, slots := 6, locals := 132 } : Room) [.ref (a (0)), .int (x), .int (y)] R (fun r R' => QC R (oTold M x y) r R') (XP R (oTold M x y) [NSE, IAE]) := by
  refine x_body (cc := cX3_told) (maxL := 4) (ret := (some .int)) (by decide) rfl (Nat.le_of_ble_eq_true rfl) ?_
  intro pr en st mi bl me co ls B ht hl
  obtain ⟨hx, hb, hr, hml, hown, hts, hlocks, hnm, hK, hZ, hc, hA⟩ := B
  have hl : lv_has ls 4 [(0, .ref (a (0))), (1, .int (x)), (2, .int (y))] := hl
  have hinX1 : ∀ w ∈ u_ws RX1 TX1 10, w ∈ wsX3_told := (fun _ h => List.mem_cons_of_mem _ (List.mem_append_left _ (List.mem_append_left _ (List.mem_append_left _ (List.mem_append_left _ (List.mem_append_right _ h))))))
  have hf_144 := hts (.fieldLink RX3 144 "PalletLayers$Pallet" "layers" "I") (by decide +kernel)
  have hf_187 := hts (.fieldLink RX3 187 "PalletLayers$Pallet" "height" "I") (by decide +kernel)
  have hf_190 := hts (.fieldLink RX3 190 "PalletLayers$Pallet" "weight" "I") (by decide +kernel)
  have hf_193 := hts (.fieldLink RX3 193 "PalletLayers$Pallet" "boxes" "I") (by decide +kernel)
  have hf_194 := hts (.fieldLink RX3 194 "PalletLayers$Pallet" "stop" "I") (by decide +kernel)
  have hb9 := iv_b hI
  refine lv_aload_n hx hb dX3_told_0 rfl (lv_at hl 0 rfl) ?_
  refine lv_iload_n hx hb dX3_told_1 rfl (lv_at hl 1 rfl) ?_
  by_cases hv_j : isN x (mnp M)
  rotate_left
  · exact x_thr hc hA ht hlocks (vx_runV (As := [.int (x)]) (rest := []) ⟨hx, hb, hml, hown, hts⟩ (c_X3_palletNumbered_t l hl9 D g lv a R M hr9 hC hI x hv_j _) (cwV 1 hts gX3_told_X3_palletNumbered rfl rfl rfl (by decide +kernel) ⟨Nat.le_of_ble_eq_true rfl, Nat.le_of_ble_eq_true rfl⟩) (r_preV hK hZ hc hA (hr9.1.1) (rfl) rfl) rfl rfl hl.1 rfl (lv_room (Nat.le_of_ble_eq_true rfl)) dX3_told_2 ⟨Nat.le_of_ble_eq_true rfl, Nat.le_of_ble_eq_true rfl⟩) ⟨rfl, 0, by rw [show oTold M x y = (1, nI 0, M) by simp only [oTold, if_neg hv_j]], rfl⟩ (by decide) (by decide)
  obtain ⟨j, hj, hj9, rfl⟩ := isN_ex hv_j
  refine r_callr hc hA (va_runV (As := [.int (nI (j))]) (rest := []) ⟨hx, hb, hml, hown, hts⟩ (c_X3_palletNumbered_v l D g lv a R M hr9 ⟨hb9.2.2.2.2.1, hb9.2.2.2.2.2.1⟩ j hj _) (cwV 1 hts gX3_told_X3_palletNumbered rfl rfl rfl (by decide +kernel) ⟨Nat.le_of_ble_eq_true rfl, Nat.le_of_ble_eq_true rfl⟩) (r_preV hK hZ hc hA (hr9.1.1) (rfl) rfl) rfl rfl hl.1 rfl (lv_room (Nat.le_of_ble_eq_true rfl)) dX3_told_2 ⟨Nat.le_of_ble_eq_true rfl, Nat.le_of_ble_eq_true rfl⟩) (fun r R' H locs hp hc => ?_)
  obtain ⟨hre, hRe⟩ := hp
  rw [hRe] at hc
  rw [hre]
  refine lv_astore_n (lv' := [(3, .ref (a (40 + 6 * j))), (0, .ref (a (0))), (1, .int (nI (j))), (2, .int (y))]) hx hb dX3_told_5 rfl hl (by decide) rfl (fun ls hl => ?_)
  refine lv_iload_n hx hb dX3_told_6 rfl (lv_at hl 3 rfl) ?_
  by_cases hsw : isR y 0 5
  rotate_left
  · refine lv_tableOut (tgt := 74) hx hb dX3_told_7 (by have h9 := hsw; unfold isR at h9; omega) (by decide) ?_
    exact x_own hx hb hl9 hown hts (hl.1.trans hml.symm) hlocks hK hZ hc ht tf_i (by decide +kernel) (by decide +kernel) (fun _ h => List.mem_cons_of_mem _ (List.mem_append_left _ (List.mem_append_left _ (List.mem_append_right _ h)))) (is := 109) (text := "what is outside its range") (by decide) dX3_told_74 dX3_told_77 dX3_told_78 dX3_told_80 dX3_told_83 (Nat.le_of_ble_eq_true rfl) (Nat.le_of_ble_eq_true rfl) (Nat.le_of_ble_eq_true rfl) (Nat.le_of_ble_eq_true rfl) ⟨rfl, 1, by rw [show oTold M (nI j) y = (2, nI 0, M) by simp only [oTold, tN_nI hj9, if_pos hv_j, if_neg hsw]], rfl⟩ (by decide) (by decide)
  obtain ⟨z, hz0, hz1, hz2, rfl⟩ := isR_ex hsw
  have hzc : z = 0 ∨ z = 1 ∨ z = 2 ∨ z = 3 ∨ z = 4 ∨ z = 5 := by omega
  rcases hzc with rfl | rfl | rfl | rfl | rfl | rfl
  · refine lv_tableIn (off := 37) (tgt := 44) hx hb dX3_told_7 (by decide) (by decide) rfl (by decide) ?_
    refine lv_aload_n hx hb dX3_told_44 rfl (lv_at hl 0 rfl) ?_
    refine r_get (C := RX1) (T := TX1) (N := 10) (v := .int (nI (hS M j (pn M j)))) hx hb hts hown hK.1 hc ((hr9.2.2.2.1 j (by omega)).1.1) (sh_P (by omega)) rfl rfl hinX1 6 (by decide) hf_187 (fun _ h9 => h9) (congrArg Value.int (hC.2.2.2.2.1 j (by omega)).2.1) dX3_told_45 ?_
    refine vx_ret ?_
    refine W.widen (k := 1) (n := 6) (by decide) (by decide) ?_
    exact r_iret hx hb hr hlocks hc dX3_told_48 (by
      have hq9 : oTold M (nI j) (nI 0) = (0, nI (hS M j (pn M j)), M) := by
        unfold oTold
        simp only [if_pos hv_j, if_pos hsw, tN_nI hj9]
        rfl
      unfold QC; rw [hq9]
      exact ⟨rfl, rfl, hC, outC.r R⟩)
  · refine lv_tableIn (off := 42) (tgt := 49) hx hb dX3_told_7 (by decide) (by decide) rfl (by decide) ?_
    refine lv_aload_n hx hb dX3_told_49 rfl (lv_at hl 0 rfl) ?_
    refine r_get (C := RX1) (T := TX1) (N := 10) (v := .int (nI (wS M j (pn M j)))) hx hb hts hown hK.1 hc ((hr9.2.2.2.1 j (by omega)).1.1) (sh_P (by omega)) rfl rfl hinX1 7 (by decide) hf_190 (fun _ h9 => h9) (congrArg Value.int (hC.2.2.2.2.1 j (by omega)).2.2.1) dX3_told_50 ?_
    refine vx_ret ?_
    refine W.widen (k := 1) (n := 6) (by decide) (by decide) ?_
    exact r_iret hx hb hr hlocks hc dX3_told_53 (by
      have hq9 : oTold M (nI j) (nI 1) = (0, nI (wS M j (pn M j)), M) := by
        unfold oTold
        simp only [if_pos hv_j, if_pos hsw, tN_nI hj9]
        rfl
      unfold QC; rw [hq9]
      exact ⟨rfl, rfl, hC, outC.r R⟩)
  · refine lv_tableIn (off := 47) (tgt := 54) hx hb dX3_told_7 (by decide) (by decide) rfl (by decide) ?_
    refine lv_aload_n hx hb dX3_told_54 rfl (lv_at hl 0 rfl) ?_
    refine r_get (C := RX1) (T := TX1) (N := 10) (v := .int (nI (pn M j))) hx hb hts hown hK.1 hc ((hr9.2.2.2.1 j (by omega)).1.1) (sh_P (by omega)) rfl rfl hinX1 5 (by decide) hf_144 (fun _ h9 => h9) (congrArg Value.int (hC.2.2.2.2.1 j (by omega)).1) dX3_told_55 ?_
    refine vx_ret ?_
    refine W.widen (k := 1) (n := 6) (by decide) (by decide) ?_
    exact r_iret hx hb hr hlocks hc dX3_told_58 (by
      have hq9 : oTold M (nI j) (nI 2) = (0, nI (pn M j), M) := by
        unfold oTold
        simp only [if_pos hv_j, if_pos hsw, tN_nI hj9]
        rfl
      unfold QC; rw [hq9]
      exact ⟨rfl, rfl, hC, outC.r R⟩)
  · refine lv_tableIn (off := 52) (tgt := 59) hx hb dX3_told_7 (by decide) (by decide) rfl (by decide) ?_
    refine lv_aload_n hx hb dX3_told_59 rfl (lv_at hl 0 rfl) ?_
    refine r_get (C := RX1) (T := TX1) (N := 10) (v := .int (nI (bS M j (pn M j)))) hx hb hts hown hK.1 hc ((hr9.2.2.2.1 j (by omega)).1.1) (sh_P (by omega)) rfl rfl hinX1 8 (by decide) hf_193 (fun _ h9 => h9) (congrArg Value.int (hC.2.2.2.2.1 j (by omega)).2.2.2.1) dX3_told_60 ?_
    refine vx_ret ?_
    refine W.widen (k := 1) (n := 6) (by decide) (by decide) ?_
    exact r_iret hx hb hr hlocks hc dX3_told_63 (by
      have hq9 : oTold M (nI j) (nI 3) = (0, nI (bS M j (pn M j)), M) := by
        unfold oTold
        simp only [if_pos hv_j, if_pos hsw, tN_nI hj9]
        rfl
      unfold QC; rw [hq9]
      exact ⟨rfl, rfl, hC, outC.r R⟩)
  · refine lv_tableIn (off := 57) (tgt := 64) hx hb dX3_told_7 (by decide) (by decide) rfl (by decide) ?_
    refine lv_aload_n hx hb dX3_told_64 rfl (lv_at hl 0 rfl) ?_
    refine r_get (C := RX1) (T := TX1) (N := 10) (v := .int (stI (ps M j))) hx hb hts hown hK.1 hc ((hr9.2.2.2.1 j (by omega)).1.1) (sh_P (by omega)) rfl rfl hinX1 9 (by decide) hf_194 (fun _ h9 => h9) (congrArg Value.int (hC.2.2.2.2.1 j (by omega)).2.2.2.2) dX3_told_65 ?_
    refine vx_ret ?_
    refine W.widen (k := 1) (n := 6) (by decide) (by decide) ?_
    exact r_iret hx hb hr hlocks hc dX3_told_68 (by
      have hq9 : oTold M (nI j) (nI 4) = (0, stI (ps M j), M) := by
        unfold oTold
        simp only [if_pos hv_j, if_pos hsw, tN_nI hj9]
        rfl
      unfold QC; rw [hq9]
      exact ⟨rfl, rfl, hC, outC.r R⟩)
  · refine lv_tableIn (off := 62) (tgt := 69) hx hb dX3_told_7 (by decide) (by decide) rfl (by decide) ?_
    refine lv_aload_n hx hb dX3_told_69 rfl (lv_at hl 0 rfl) ?_
    refine r_calli hc hA (va_runV (As := []) (rest := []) ⟨hx, hb, hml, hown, hts⟩ (c_X1_kindBits l D g lv a R M j (by omega) (hr9.2.2.2.1 j hj) (hC.2.2.2.2.1 j hj) (iv_p hI hj).1 (hC.2.2.2.2.2.1 j hj) _) (cwV 0 hts gX3_told_X1_kindBits rfl rfl rfl (by decide +kernel) ⟨Nat.le_of_ble_eq_true rfl, Nat.le_of_ble_eq_true rfl⟩) (r_preV hK hZ hc hA ((hr9.2.2.2.1 j (by omega)).1.1) (sh_P (by omega)) rfl) rfl rfl hl.1 rfl (lv_room (Nat.le_of_ble_eq_true rfl)) dX3_told_70 ⟨Nat.le_of_ble_eq_true rfl, Nat.le_of_ble_eq_true rfl⟩) (fun r R' H locs hp hc => ?_)
    obtain ⟨hre, hRe⟩ := hp
    rw [hRe] at hc
    rw [hre]
    refine vx_ret ?_
    refine W.widen (k := 1) (n := 6) (by decide) (by decide) ?_
    exact r_iret hx hb hr hlocks hc dX3_told_73 (by
      have hq9 : oTold M (nI j) (nI 5) = (0, kbit M j (pn M j), M) := by
        unfold oTold
        simp only [if_pos hv_j, if_pos hsw, tN_nI hj9]
        rfl
      unfold QC; rw [hq9]
      exact ⟨rfl, rfl, hC, outC.r R⟩)
set_option maxRecDepth 100000 in
set_option maxHeartbeats 4000000 in
theorem c_X3_layer (l : Launch) (hl9 : l.stackTraces = false) (D : va_G) (g : Nat → ClassId) (lv : Nat → Bool) (a : Nat → Nat) (R : RS) (M : MS) (hr9 : PCr lv a R M) (hC : PC R M) (hI : Inv M) (x y z : Int32) : xI l D g lv a yX3_layer wsX3_layer ({ frames := 8, cells := 1, slots := 6, locals := 155 } : Room) [.ref (a (0)), .int (x), .int (y), .int (z)] R (fun r R' => QC R (oLayer M x y z) r R') (XP R (oLayer M x y z) [NSE, IAE]) := by
  refine x_body (cc := cX3_layer) (maxL := 5) (ret := (some .int)) (by decide) rfl (Nat.le_of_ble_eq_true rfl) ?_
  intro pr en st mi bl me co ls B ht hl
  obtain ⟨hx, hb, hr, hml, hown, hts, hlocks, hnm, hK, hZ, hc, hA⟩ := B
  have hl : lv_has ls 5 [(0, .ref (a (0))), (1, .int (x)), (2, .int (y)), (3, .int (z))] := hl
  have hinX0 : ∀ w ∈ u_ws RX0 TX0 11, w ∈ wsX3_layer := (fun _ h => List.mem_cons_of_mem _ (List.mem_append_left _ (List.mem_append_left _ (List.mem_append_left _ (List.mem_append_left _ (List.mem_append_right _ h))))))
  have hinX1 : ∀ w ∈ u_ws RX1 TX1 10, w ∈ wsX3_layer := (fun _ h => List.mem_cons_of_mem _ (List.mem_append_left _ (List.mem_append_left _ (List.mem_append_left _ (List.mem_append_left _ (List.mem_append_left _ (List.mem_append_right _ h)))))))
  have hf_106 := hts (.fieldLink RX3 106 "PalletLayers$Kind" "boxes" "I") (by decide +kernel)
  have hf_168 := hts (.fieldLink RX3 168 "PalletLayers$Pallet" "kindOf" "[I") (by decide +kernel)
  have hf_171 := hts (.fieldLink RX3 171 "PalletLayers$Pallet" "boxesOf" "[I") (by decide +kernel)
  have hf_200 := hts (.fieldLink RX3 200 "PalletLayers$Pallet" "bottomOf" "[I") (by decide +kernel)
  have hb9 := iv_b hI
  have hb31 := hb9
  refine lv_aload_n hx hb dX3_layer_0 rfl (lv_at hl 0 rfl) ?_
  refine lv_iload_n hx hb dX3_layer_1 rfl (lv_at hl 1 rfl) ?_
  refine lv_iload_n hx hb dX3_layer_2 rfl (lv_at hl 2 rfl) ?_
  by_cases hv : isN x (mnp M) ∧ isN y (pn M (tN x))
  rotate_left
  · exact x_thr hc hA ht hlocks (vx_runV (As := [.int (x), .int (y)]) (rest := []) ⟨hx, hb, hml, hown, hts⟩ (c_X3_palletWithLayer_t l hl9 D g lv a R M hr9 hC hI x y hv _) (cwV 2 hts gX3_layer_X3_palletWithLayer rfl rfl rfl (by decide +kernel) ⟨Nat.le_of_ble_eq_true rfl, Nat.le_of_ble_eq_true rfl⟩) (r_preV hK hZ hc hA (hr9.1.1) (rfl) rfl) rfl rfl hl.1 rfl (lv_room (Nat.le_of_ble_eq_true rfl)) dX3_layer_3 ⟨Nat.le_of_ble_eq_true rfl, Nat.le_of_ble_eq_true rfl⟩) ⟨rfl, 0, by rw [show oLayer M x y z = (1, nI 0, M) by simp only [oLayer, if_neg hv]], rfl⟩ (by decide) (by decide)
  obtain ⟨j, hj, hj9, rfl⟩ := isN_ex hv.1
  rw [tN_nI hj9] at hv
  obtain ⟨i, hi, hi9, rfl⟩ := isN_ex hv.2
  have hlk := iv_l hI hj hi
  have hk9 := iv_k hI hlk.1
  have hp9 := iv_p hI hj
  refine r_callr hc hA (va_runV (As := [.int (nI (j)), .int (nI (i))]) (rest := []) ⟨hx, hb, hml, hown, hts⟩ (c_X3_palletWithLayer_v l D g lv a R M hr9 hC hI j i hj hi _) (cwV 2 hts gX3_layer_X3_palletWithLayer rfl rfl rfl (by decide +kernel) ⟨Nat.le_of_ble_eq_true rfl, Nat.le_of_ble_eq_true rfl⟩) (r_preV hK hZ hc hA (hr9.1.1) (rfl) rfl) rfl rfl hl.1 rfl (lv_room (Nat.le_of_ble_eq_true rfl)) dX3_layer_3 ⟨Nat.le_of_ble_eq_true rfl, Nat.le_of_ble_eq_true rfl⟩) (fun r R' H locs hp hc => ?_)
  obtain ⟨hre, hRe⟩ := hp
  rw [hRe] at hc
  rw [hre]
  refine lv_astore (lv' := [(4, .ref (a (40 + 6 * j))), (0, .ref (a (0))), (1, .int (nI (j))), (2, .int (nI (i))), (3, .int (z))]) hx hb dX3_layer_6 hl (by decide) rfl (fun ls hl => ?_)
  refine lv_iload_n hx hb dX3_layer_8 rfl (lv_at hl 4 rfl) ?_
  by_cases hsw : isR z 0 3
  rotate_left
  · refine lv_tableOut (tgt := 94) hx hb dX3_layer_9 (by have h9 := hsw; unfold isR at h9; omega) (by decide) ?_
    exact x_own hx hb hl9 hown hts (hl.1.trans hml.symm) hlocks hK hZ hc ht tf_i (by decide +kernel) (by decide +kernel) (fun _ h => List.mem_cons_of_mem _ (List.mem_append_left _ (List.mem_append_right _ h))) (is := 109) (text := "what is outside its range") (by decide) dX3_layer_94 dX3_layer_97 dX3_layer_98 dX3_layer_100 dX3_layer_103 (Nat.le_of_ble_eq_true rfl) (Nat.le_of_ble_eq_true rfl) (Nat.le_of_ble_eq_true rfl) (Nat.le_of_ble_eq_true rfl) ⟨rfl, 1, by rw [show oLayer M (nI j) (nI i) z = (2, nI 0, M) by simp only [oLayer, tN_nI hj9, tN_nI hi9, if_pos hv, if_neg hsw]], rfl⟩ (by decide) (by decide)
  obtain ⟨z, hz0, hz1, hz2, rfl⟩ := isR_ex hsw
  have hzc : z = 0 ∨ z = 1 ∨ z = 2 ∨ z = 3 := by omega
  rcases hzc with rfl | rfl | rfl | rfl
  · refine lv_tableIn (off := 31) (tgt := 40) hx hb dX3_layer_9 (by decide) (by decide) rfl (by decide) ?_
    refine lv_aload hx hb dX3_layer_40 (lv_at hl 0 rfl) ?_
    refine r_get (C := RX1) (T := TX1) (N := 10) (v := .ref (a (41 + 6 * j))) hx hb hts hown hK.1 hc ((hr9.2.2.2.1 j (by omega)).1.1) (sh_P (by omega)) rfl rfl hinX1 0 (by decide) hf_168 (fun _ h9 => h9) (congrArg va_rf (hr9.2.2.2.1 j (by omega)).2.1) dX3_layer_42 ?_
    refine lv_iload_n hx hb dX3_layer_45 rfl (lv_at hl 3 rfl) ?_
    refine r_iald (v := nI (lk M j i)) hx hb hK.1 hc ((hr9.2.2.2.1 j (by omega)).1.2.1) (sh_Pi (j := 1) (by omega) (by decide) (by decide)) (by decide) (by omega) dX3_layer_46 (hC.2.2.2.2.2.1 j (by omega) i (by omega)).1 ?_
    refine vx_ret ?_
    refine W.widen (k := 1) (n := 6) (by decide) (by decide) ?_
    exact r_iret hx hb hr hlocks hc dX3_layer_47 (by
      have hq9 : oLayer M (nI j) (nI i) (nI 0) = (0, nI (lk M j i), M) := by
        unfold oLayer
        simp only [if_pos hv, if_pos hsw, tN_nI hj9, tN_nI hi9]
        rfl
      unfold QC; rw [hq9]
      exact ⟨rfl, rfl, hC, outC.r R⟩)
  · refine lv_tableIn (off := 39) (tgt := 48) hx hb dX3_layer_9 (by decide) (by decide) rfl (by decide) ?_
    refine lv_aload hx hb dX3_layer_48 (lv_at hl 0 rfl) ?_
    refine r_get (C := RX1) (T := TX1) (N := 10) (v := .ref (a (42 + 6 * j))) hx hb hts hown hK.1 hc ((hr9.2.2.2.1 j (by omega)).1.1) (sh_P (by omega)) rfl rfl hinX1 1 (by decide) hf_171 (fun _ h9 => h9) (congrArg va_rf (hr9.2.2.2.1 j (by omega)).2.2.1) dX3_layer_50 ?_
    refine lv_iload_n hx hb dX3_layer_53 rfl (lv_at hl 3 rfl) ?_
    refine r_iald (v := nI (lb M j i)) hx hb hK.1 hc ((hr9.2.2.2.1 j (by omega)).1.2.2.1) (sh_Pi (j := 2) (by omega) (by decide) (by decide)) (by decide) (by omega) dX3_layer_54 (hC.2.2.2.2.2.1 j (by omega) i (by omega)).2.1 ?_
    refine vx_ret ?_
    refine W.widen (k := 1) (n := 6) (by decide) (by decide) ?_
    exact r_iret hx hb hr hlocks hc dX3_layer_55 (by
      have hq9 : oLayer M (nI j) (nI i) (nI 1) = (0, nI (lb M j i), M) := by
        unfold oLayer
        simp only [if_pos hv, if_pos hsw, tN_nI hj9, tN_nI hi9]
        rfl
      unfold QC; rw [hq9]
      exact ⟨rfl, rfl, hC, outC.r R⟩)
  · refine lv_tableIn (off := 47) (tgt := 56) hx hb dX3_layer_9 (by decide) (by decide) rfl (by decide) ?_
    refine lv_aload hx hb dX3_layer_56 (lv_at hl 0 rfl) ?_
    refine r_get (C := RX1) (T := TX1) (N := 10) (v := .ref (a (43 + 6 * j))) hx hb hts hown hK.1 hc ((hr9.2.2.2.1 j (by omega)).1.1) (sh_P (by omega)) rfl rfl hinX1 2 (by decide) hf_200 (fun _ h9 => h9) (congrArg va_rf (hr9.2.2.2.1 j (by omega)).2.2.2.1) dX3_layer_58 ?_
    refine lv_iload_n hx hb dX3_layer_61 rfl (lv_at hl 3 rfl) ?_
    refine r_iald (v := nI (hS M j i)) hx hb hK.1 hc ((hr9.2.2.2.1 j (by omega)).1.2.2.2.1) (sh_Pi (j := 3) (by omega) (by decide) (by decide)) (by decide) (by omega) dX3_layer_62 (hC.2.2.2.2.2.1 j (by omega) i (by omega)).2.2.1 ?_
    refine vx_ret ?_
    refine W.widen (k := 1) (n := 6) (by decide) (by decide) ?_
    exact r_iret hx hb hr hlocks hc dX3_layer_63 (by
      have hq9 : oLayer M (nI j) (nI i) (nI 2) = (0, nI (hS M j i), M) := by
        unfold oLayer
        simp only [if_pos hv, if_pos hsw, tN_nI hj9, tN_nI hi9]
        rfl
      unfold QC; rw [hq9]
      exact ⟨rfl, rfl, hC, outC.r R⟩)
  · refine lv_tableIn (off := 55) (tgt := 64) hx hb dX3_layer_9 (by decide) (by decide) rfl (by decide) ?_
    refine lv_aload hx hb dX3_layer_64 (lv_at hl 0 rfl) ?_
    refine r_get (C := RX1) (T := TX1) (N := 10) (v := .ref (a (42 + 6 * j))) hx hb hts hown hK.1 hc ((hr9.2.2.2.1 j (by omega)).1.1) (sh_P (by omega)) rfl rfl hinX1 1 (by decide) hf_171 (fun _ h9 => h9) (congrArg va_rf (hr9.2.2.2.1 j (by omega)).2.2.1) dX3_layer_66 ?_
    refine lv_iload_n hx hb dX3_layer_69 rfl (lv_at hl 3 rfl) ?_
    refine r_iald (v := nI (lb M j i)) hx hb hK.1 hc ((hr9.2.2.2.1 j (by omega)).1.2.2.1) (sh_Pi (j := 2) (by omega) (by decide) (by decide)) (by decide) (by omega) dX3_layer_70 (hC.2.2.2.2.2.1 j (by omega) i (by omega)).2.1 ?_
    refine lv_aload_n hx hb dX3_layer_71 rfl (lv_at hl 1 rfl) ?_
    refine lv_aload hx hb dX3_layer_72 (lv_at hl 0 rfl) ?_
    refine r_get (C := RX1) (T := TX1) (N := 10) (v := .ref (a (41 + 6 * j))) hx hb hts hown hK.1 hc ((hr9.2.2.2.1 j (by omega)).1.1) (sh_P (by omega)) rfl rfl hinX1 0 (by decide) hf_168 (fun _ h9 => h9) (congrArg va_rf (hr9.2.2.2.1 j (by omega)).2.1) dX3_layer_74 ?_
    refine lv_iload_n hx hb dX3_layer_77 rfl (lv_at hl 3 rfl) ?_
    refine r_iald (v := nI (lk M j i)) hx hb hK.1 hc ((hr9.2.2.2.1 j (by omega)).1.2.1) (sh_Pi (j := 1) (by omega) (by decide) (by decide)) (by decide) (by omega) dX3_layer_78 (hC.2.2.2.2.2.1 j (by omega) i (by omega)).1 ?_
    refine r_callr hc hA (va_runV (As := [.int (nI (lk M j i))]) (rest := [.int (nI (lb M j i))]) ⟨hx, hb, hml, hown, hts⟩ (c_X3_kindNumbered_v l D g lv a R M hr9 ⟨hb9.2.2.2.2.1, hb9.2.2.2.2.2.1⟩ (lk M j i) (by omega) _) (cwV 1 hts gX3_layer_X3_kindNumbered rfl rfl rfl (by decide +kernel) ⟨Nat.le_of_ble_eq_true rfl, Nat.le_of_ble_eq_true rfl⟩) (r_preV hK hZ hc hA (hr9.1.1) (rfl) rfl) rfl rfl hl.1 rfl (lv_room (Nat.le_of_ble_eq_true rfl)) dX3_layer_79 ⟨Nat.le_of_ble_eq_true rfl, Nat.le_of_ble_eq_true rfl⟩) (fun r R' H locs hp hc => ?_)
    obtain ⟨hre, hRe⟩ := hp
    rw [hRe] at hc
    rw [hre]
    refine r_get (C := RX0) (T := TX0) (N := 11) (v := .int (nI (kb M (lk M j i)))) hx hb hts hown hK.1 hc ((hr9.2.2.1 (lk M j i) (by omega)).1) (sh_K (by omega)) rfl rfl hinX0 9 (by decide) hf_106 (fun _ h9 => h9) (congrArg Value.int (hC.2.2.2.1 (lk M j i) (by omega)).1) dX3_layer_82 ?_
    refine lv_icmp_ne (tgt := 92) hx hb dX3_layer_85 (by decide) (fun hq_5 => ?_) (fun hq_5 => ?_)
    · have hq_5 : ¬ ((lb M j i) = (kb M (lk M j i))) := fun z => hq_5 ((nI_eq (a := (lb M j i)) (b := (kb M (lk M j i))) (by omega) (by omega)).mpr z)
      have hfu : ¬ lb M j i = kb M (lk M j i) := hq_5
      refine lv_iconst (v := nI (0)) hx hb dX3_layer_92 (by decide) ?_
      refine vx_ret ?_
      refine W.widen (k := 1) (n := 6) (by decide) (by decide) ?_
      exact r_iret hx hb hr hlocks hc dX3_layer_93 (by
      have hq9 : oLayer M (nI j) (nI i) (nI 3) = (0, nI (0), M) := by
        unfold oLayer
        simp only [if_pos hv, if_pos hsw, tN_nI hj9, tN_nI hi9]
        show (0, nI (if lb M j i = kb M (lk M j i) then 1 else 0), M) = _; rw [if_neg hfu]
      unfold QC; rw [hq9]
      exact ⟨rfl, rfl, hC, outC.r R⟩)
    · have hq_5 : (lb M j i) = (kb M (lk M j i)) := (nI_eq (a := (lb M j i)) (b := (kb M (lk M j i))) (by omega) (by omega)).mp hq_5
      have hfu : lb M j i = kb M (lk M j i) := hq_5
      refine lv_iconst (v := nI (1)) hx hb dX3_layer_88 (by decide) ?_
      refine lv_goto (tgt := 93) hx hb dX3_layer_89 (by decide) ?_
      refine vx_ret ?_
      refine W.widen (k := 1) (n := 6) (by decide) (by decide) ?_
      exact r_iret hx hb hr hlocks hc dX3_layer_93 (by
      have hq9 : oLayer M (nI j) (nI i) (nI 3) = (0, nI (1), M) := by
        unfold oLayer
        simp only [if_pos hv, if_pos hsw, tN_nI hj9, tN_nI hi9]
        show (0, nI (if lb M j i = kb M (lk M j i) then 1 else 0), M) = _; rw [if_pos hfu]
      unfold QC; rw [hq9]
      exact ⟨rfl, rfl, hC, outC.r R⟩)
set_option maxRecDepth 100000 in
set_option maxHeartbeats 4000000 in
theorem c_X3_take (l : Launch) (hl9 : l.stackTraces = false) (D : va_G) (g : Nat → ClassId) (lv : Nat → Bool) (a : Nat → Nat) (R : RS) (M : MS) (hr9 : PCr lv a R M) (hC : PC R M) (hI : Inv M) (x : Int32) : xI l D g lv a yX3_take wsX3_take ({ frames := 7, cells := 1, slots := 6, locals := 132 } : Room) [.ref (a (0)), .int (x)] R (fun r R' => QC R (oTake M x) r R') (XP R (oTake M x) [NSE, ISE]) := by
  refine x_body (cc := cX3_take) (maxL := 3) (ret := (some .int)) (by decide) rfl (Nat.le_of_ble_eq_true rfl) ?_
  intro pr en st mi bl me co ls B ht hl
  obtain ⟨hx, hb, hr, hml, hown, hts, hlocks, hnm, hK, hZ, hc, hA⟩ := B
  have hl : lv_has ls 3 [(0, .ref (a (0))), (1, .int (x))] := hl
  have hb9 := iv_b hI
  refine lv_aload_n hx hb dX3_take_0 rfl (lv_at hl 0 rfl) ?_
  refine lv_iload_n hx hb dX3_take_1 rfl (lv_at hl 1 rfl) ?_
  by_cases hv_j : isN x (mnp M)
  rotate_left
  · exact x_thr hc hA ht hlocks (vx_runV (As := [.int (x)]) (rest := []) ⟨hx, hb, hml, hown, hts⟩ (c_X3_palletNumbered_t l hl9 D g lv a R M hr9 hC hI x hv_j _) (cwV 1 hts gX3_take_X3_palletNumbered rfl rfl rfl (by decide +kernel) ⟨Nat.le_of_ble_eq_true rfl, Nat.le_of_ble_eq_true rfl⟩) (r_preV hK hZ hc hA (hr9.1.1) (rfl) rfl) rfl rfl hl.1 rfl (lv_room (Nat.le_of_ble_eq_true rfl)) dX3_take_2 ⟨Nat.le_of_ble_eq_true rfl, Nat.le_of_ble_eq_true rfl⟩) ⟨rfl, 0, by rw [show oTake M x = (1, nI 0, M) by simp only [oTake, if_neg hv_j]], rfl⟩ (by decide) (by decide)
  obtain ⟨j, hj, hj9, rfl⟩ := isN_ex hv_j
  refine r_callr hc hA (va_runV (As := [.int (nI (j))]) (rest := []) ⟨hx, hb, hml, hown, hts⟩ (c_X3_palletNumbered_v l D g lv a R M hr9 ⟨hb9.2.2.2.2.1, hb9.2.2.2.2.2.1⟩ j hj _) (cwV 1 hts gX3_take_X3_palletNumbered rfl rfl rfl (by decide +kernel) ⟨Nat.le_of_ble_eq_true rfl, Nat.le_of_ble_eq_true rfl⟩) (r_preV hK hZ hc hA (hr9.1.1) (rfl) rfl) rfl rfl hl.1 rfl (lv_room (Nat.le_of_ble_eq_true rfl)) dX3_take_2 ⟨Nat.le_of_ble_eq_true rfl, Nat.le_of_ble_eq_true rfl⟩) (fun r R' H locs hp hc => ?_)
  obtain ⟨hre, hRe⟩ := hp
  rw [hRe] at hc
  rw [hre]
  refine lv_astore_n (lv' := [(2, .ref (a (40 + 6 * j))), (0, .ref (a (0))), (1, .int (nI (j)))]) hx hb dX3_take_5 rfl hl (by decide) rfl (fun ls hl => ?_)
  refine lv_aload_n hx hb dX3_take_6 rfl (lv_at hl 0 rfl) ?_
  by_cases hps : ps M j = 0
  rotate_left
  · exact x_thr hc hA ht hlocks (vx_runS (As := [.ref (a (40 + 6 * j))]) (rest := []) ⟨hx, hb, hml, hown, hts⟩ (c_X3_refuseOnTruck_t l hl9 D g lv a R M hr9 hC hI j hj hps _) (va_cwS 1 hts gX3_take_X3_refuseOnTruck rfl rfl rfl (by decide +kernel) ⟨Nat.le_of_ble_eq_true rfl, Nat.le_of_ble_eq_true rfl⟩) (r_preS hK hZ hc hA) rfl rfl hl.1 rfl (lv_room (Nat.le_of_ble_eq_true rfl)) dX3_take_7 ⟨Nat.le_of_ble_eq_true rfl, Nat.le_of_ble_eq_true rfl⟩) ⟨rfl, 1, by rw [show oTake M (nI j) = (2, nI 0, M) by simp only [oTake, tN_nI hj9, if_pos hv_j, if_neg hps]], rfl⟩ (by decide) (by decide)
  refine r_callv hc hA (va_runS (As := [.ref (a (40 + 6 * j))]) (rest := []) ⟨hx, hb, hml, hown, hts⟩ (c_X3_refuseOnTruck_v l D g lv a R M hr9 hC hI j hj hps _) (va_cwS 1 hts gX3_take_X3_refuseOnTruck rfl rfl rfl (by decide +kernel) ⟨Nat.le_of_ble_eq_true rfl, Nat.le_of_ble_eq_true rfl⟩) (r_preS hK hZ hc hA) rfl rfl hl.1 rfl (lv_room (Nat.le_of_ble_eq_true rfl)) dX3_take_7 ⟨Nat.le_of_ble_eq_true rfl, Nat.le_of_ble_eq_true rfl⟩) (fun R' H locs hp hc => ?_)
  have hRe := hp
  rw [hRe] at hc
  refine lv_aload_n hx hb dX3_take_10 rfl (lv_at hl 0 rfl) ?_
  by_cases hpn : ¬ pn M j = 0
  rotate_left
  · exact x_thr hc hA ht hlocks (vx_runS (As := [.ref (a (40 + 6 * j))]) (rest := []) ⟨hx, hb, hml, hown, hts⟩ (c_X3_refuseEmpty_t l hl9 D g lv a R M hr9 hC hI j hj (Decidable.not_not.mp hpn) _) (va_cwS 1 hts gX3_take_X3_refuseEmpty rfl rfl rfl (by decide +kernel) ⟨Nat.le_of_ble_eq_true rfl, Nat.le_of_ble_eq_true rfl⟩) (r_preS hK hZ hc hA) rfl rfl hl.1 rfl (lv_room (Nat.le_of_ble_eq_true rfl)) dX3_take_11 ⟨Nat.le_of_ble_eq_true rfl, Nat.le_of_ble_eq_true rfl⟩) ⟨rfl, 1, by rw [show oTake M (nI j) = (2, nI 0, M) by simp only [oTake, tN_nI hj9, if_pos hv_j, if_pos hps, if_pos (Decidable.not_not.mp hpn)]], rfl⟩ (by decide) (by decide)
  refine r_callv hc hA (va_runS (As := [.ref (a (40 + 6 * j))]) (rest := []) ⟨hx, hb, hml, hown, hts⟩ (c_X3_refuseEmpty_v l D g lv a R M hr9 hC hI j hj hpn _) (va_cwS 1 hts gX3_take_X3_refuseEmpty rfl rfl rfl (by decide +kernel) ⟨Nat.le_of_ble_eq_true rfl, Nat.le_of_ble_eq_true rfl⟩) (r_preS hK hZ hc hA) rfl rfl hl.1 rfl (lv_room (Nat.le_of_ble_eq_true rfl)) dX3_take_11 ⟨Nat.le_of_ble_eq_true rfl, Nat.le_of_ble_eq_true rfl⟩) (fun R' H locs hp hc => ?_)
  have hRe := hp
  rw [hRe] at hc
  refine lv_aload_n hx hb dX3_take_14 rfl (lv_at hl 0 rfl) ?_
  refine r_calli hc hA (va_runV (As := []) (rest := []) ⟨hx, hb, hml, hown, hts⟩ (c_X1_liftTop l D g lv a R M j (by omega) (hr9.2.2.2.1 j hj) (hC.2.2.2.2.1 j hj) (iv_p hI hj).1 (hC.2.2.2.2.2.1 j hj) (by omega) _) (cwV 0 hts gX3_take_X1_liftTop rfl rfl rfl (by decide +kernel) ⟨Nat.le_of_ble_eq_true rfl, Nat.le_of_ble_eq_true rfl⟩) (r_preV hK hZ hc hA ((hr9.2.2.2.1 j (by omega)).1.1) (sh_P (by omega)) rfl) rfl rfl hl.1 rfl (lv_room (Nat.le_of_ble_eq_true rfl)) dX3_take_15 ⟨Nat.le_of_ble_eq_true rfl, Nat.le_of_ble_eq_true rfl⟩) (fun r R' H locs hp hc => ?_)
  obtain ⟨hre, hRe⟩ := hp
  rw [hRe] at hc
  rw [hre]
  refine vx_ret ?_
  refine W.widen (k := 1) (n := 6) (by decide) (by decide) ?_
  exact r_iret hx hb hr hlocks hc dX3_take_18 (by
      unfold QC; rw [show oTake M (nI j) = (0, nI (lb M j (pn M j - 1)), nTake M j) by simp only [oTake, tN_nI hj9, if_pos hv_j, if_pos hps, if_neg hpn]]
      exact ⟨rfl, rfl, pc_take hC (by omega) (by omega) (by omega), outC_li (by omega)⟩)
set_option maxRecDepth 100000 in
set_option maxHeartbeats 4000000 in
theorem c_X3_support (l : Launch) (hl9 : l.stackTraces = false) (D : va_G) (g : Nat → ClassId) (lv : Nat → Bool) (a : Nat → Nat) (R : RS) (M : MS) (hr9 : PCr lv a R M) (hC : PC R M) (hI : Inv M) (x y z : Int32) : xI l D g lv a yX3_support wsX3_support ({ frames := 8, cells := 1, slots := 6, locals := 155 } : Room) [.ref (a (0)), .int (x), .int (y), .int (z)] R (fun r R' => QC R (oSupport M x y z) r R') (XP R (oSupport M x y z) [NSE]) := by
  refine x_body (cc := cX3_support) (maxL := 6) (ret := (some .int)) (by decide) rfl (Nat.le_of_ble_eq_true rfl) ?_
  intro pr en st mi bl me co ls B ht hl
  obtain ⟨hx, hb, hr, hml, hown, hts, hlocks, hnm, hK, hZ, hc, hA⟩ := B
  have hl : lv_has ls 6 [(0, .ref (a (0))), (1, .int (x)), (2, .int (y)), (3, .int (z))] := hl
  have hinX0 : ∀ w ∈ u_ws RX0 TX0 11, w ∈ wsX3_support := (fun _ h => List.mem_cons_of_mem _ (List.mem_append_left _ (List.mem_append_left _ (List.mem_append_left _ (List.mem_append_right _ h)))))
  have hinX1 : ∀ w ∈ u_ws RX1 TX1 10, w ∈ wsX3_support := (fun _ h => List.mem_cons_of_mem _ (List.mem_append_left _ (List.mem_append_left _ (List.mem_append_left _ (List.mem_append_left _ (List.mem_append_right _ h))))))
  have hf_126 := hts (.fieldLink RX3 126 "PalletLayers$Kind" "area" "I") (by decide +kernel)
  have hf_168 := hts (.fieldLink RX3 168 "PalletLayers$Pallet" "kindOf" "[I") (by decide +kernel)
  have hf_171 := hts (.fieldLink RX3 171 "PalletLayers$Pallet" "boxesOf" "[I") (by decide +kernel)
  have hb9 := iv_b hI
  refine lv_aload_n hx hb dX3_support_0 rfl (lv_at hl 0 rfl) ?_
  refine lv_iload_n hx hb dX3_support_1 rfl (lv_at hl 1 rfl) ?_
  refine lv_iload_n hx hb dX3_support_2 rfl (lv_at hl 2 rfl) ?_
  by_cases hv : isN x (mnp M) ∧ isN y (pn M (tN x))
  rotate_left
  · exact x_thr hc hA ht hlocks (vx_runV (As := [.int (x), .int (y)]) (rest := []) ⟨hx, hb, hml, hown, hts⟩ (c_X3_palletWithLayer_t l hl9 D g lv a R M hr9 hC hI x y hv _) (cwV 2 hts gX3_support_X3_palletWithLayer rfl rfl rfl (by decide +kernel) ⟨Nat.le_of_ble_eq_true rfl, Nat.le_of_ble_eq_true rfl⟩) (r_preV hK hZ hc hA (hr9.1.1) (rfl) rfl) rfl rfl hl.1 rfl (lv_room (Nat.le_of_ble_eq_true rfl)) dX3_support_3 ⟨Nat.le_of_ble_eq_true rfl, Nat.le_of_ble_eq_true rfl⟩) ⟨rfl, 0, by rw [show oSupport M x y z = (1, nI 0, M) by simp only [oSupport, if_neg hv]], rfl⟩ (by decide) (by decide)
  obtain ⟨j, hj, hj9, rfl⟩ := isN_ex hv.1
  rw [tN_nI hj9] at hv
  obtain ⟨i, hi, hi9, rfl⟩ := isN_ex hv.2
  have hlk := iv_l hI hj hi
  have hk9 := iv_k hI hlk.1
  have hp9 := iv_p hI hj
  refine r_callr hc hA (va_runV (As := [.int (nI (j)), .int (nI (i))]) (rest := []) ⟨hx, hb, hml, hown, hts⟩ (c_X3_palletWithLayer_v l D g lv a R M hr9 hC hI j i hj hi _) (cwV 2 hts gX3_support_X3_palletWithLayer rfl rfl rfl (by decide +kernel) ⟨Nat.le_of_ble_eq_true rfl, Nat.le_of_ble_eq_true rfl⟩) (r_preV hK hZ hc hA (hr9.1.1) (rfl) rfl) rfl rfl hl.1 rfl (lv_room (Nat.le_of_ble_eq_true rfl)) dX3_support_3 ⟨Nat.le_of_ble_eq_true rfl, Nat.le_of_ble_eq_true rfl⟩) (fun r R' H locs hp hc => ?_)
  obtain ⟨hre, hRe⟩ := hp
  rw [hRe] at hc
  rw [hre]
  refine lv_astore (lv' := [(4, .ref (a (40 + 6 * j))), (0, .ref (a (0))), (1, .int (nI (j))), (2, .int (nI (i))), (3, .int (z))]) hx hb dX3_support_6 hl (by decide) rfl (fun ls hl => ?_)
  refine lv_aload_n hx hb dX3_support_8 rfl (lv_at hl 1 rfl) ?_
  refine lv_aload hx hb dX3_support_9 (lv_at hl 0 rfl) ?_
  refine r_get (C := RX1) (T := TX1) (N := 10) (v := .ref (a (41 + 6 * j))) hx hb hts hown hK.1 hc ((hr9.2.2.2.1 j (by omega)).1.1) (sh_P (by omega)) rfl rfl hinX1 0 (by decide) hf_168 (fun _ h9 => h9) (congrArg va_rf (hr9.2.2.2.1 j (by omega)).2.1) dX3_support_11 ?_
  refine lv_iload_n hx hb dX3_support_14 rfl (lv_at hl 3 rfl) ?_
  refine r_iald (v := nI (lk M j i)) hx hb hK.1 hc ((hr9.2.2.2.1 j (by omega)).1.2.1) (sh_Pi (j := 1) (by omega) (by decide) (by decide)) (by decide) (by omega) dX3_support_15 (hC.2.2.2.2.2.1 j (by omega) i (by omega)).1 ?_
  refine r_callr hc hA (va_runV (As := [.int (nI (lk M j i))]) (rest := []) ⟨hx, hb, hml, hown, hts⟩ (c_X3_kindNumbered_v l D g lv a R M hr9 ⟨hb9.2.2.2.2.1, hb9.2.2.2.2.2.1⟩ (lk M j i) (by omega) _) (cwV 1 hts gX3_support_X3_kindNumbered rfl rfl rfl (by decide +kernel) ⟨Nat.le_of_ble_eq_true rfl, Nat.le_of_ble_eq_true rfl⟩) (r_preV hK hZ hc hA (hr9.1.1) (rfl) rfl) rfl rfl hl.1 rfl (lv_room (Nat.le_of_ble_eq_true rfl)) dX3_support_16 ⟨Nat.le_of_ble_eq_true rfl, Nat.le_of_ble_eq_true rfl⟩) (fun r R' H locs hp hc => ?_)
  obtain ⟨hre, hRe⟩ := hp
  rw [hRe] at hc
  rw [hre]
  refine lv_astore (lv' := [(5, .ref (a (10 + 3 * (lk M j i)))), (4, .ref (a (40 + 6 * j))), (0, .ref (a (0))), (1, .int (nI (j))), (2, .int (nI (i))), (3, .int (z))]) hx hb dX3_support_19 hl (by decide) rfl (fun ls hl => ?_)
  refine lv_iload_n hx hb dX3_support_21 rfl (lv_at hl 5 rfl) ?_
  refine lv_iconst (v := nI (0)) hx hb dX3_support_22 (by decide) ?_
  refine lv_aload hx hb dX3_support_23 (lv_at hl 1 rfl) ?_
  refine r_get (C := RX1) (T := TX1) (N := 10) (v := .ref (a (42 + 6 * j))) hx hb hts hown hK.1 hc ((hr9.2.2.2.1 j (by omega)).1.1) (sh_P (by omega)) rfl rfl hinX1 1 (by decide) hf_171 (fun _ h9 => h9) (congrArg va_rf (hr9.2.2.2.1 j (by omega)).2.2.1) dX3_support_25 ?_
  refine lv_iload_n hx hb dX3_support_28 rfl (lv_at hl 4 rfl) ?_
  refine r_iald (v := nI (lb M j i)) hx hb hK.1 hc ((hr9.2.2.2.1 j (by omega)).1.2.2.1) (sh_Pi (j := 2) (by omega) (by decide) (by decide)) (by decide) (by omega) dX3_support_29 (hC.2.2.2.2.2.1 j (by omega) i (by omega)).2.1 ?_
  refine lv_iconst (v := nI (1)) hx hb dX3_support_30 (by decide) ?_
  refine lv_isub hx hb dX3_support_31 ?_
  refine r_calli hc hA (va_runS (As := [.int (z), .int (nI (0)), .int (nI (lb M j i) - nI 1)]) (rest := []) ⟨hx, hb, hml, hown, hts⟩ (c_X3_isOutside l D g lv a R z (nI (0)) (nI (lb M j i) - nI 1) _) (va_cwS 3 hts gX3_support_X3_isOutside rfl rfl rfl (by decide +kernel) ⟨Nat.le_of_ble_eq_true rfl, Nat.le_of_ble_eq_true rfl⟩) (r_preS hK hZ hc hA) rfl rfl hl.1 rfl (lv_room (Nat.le_of_ble_eq_true rfl)) dX3_support_32 ⟨Nat.le_of_ble_eq_true rfl, Nat.le_of_ble_eq_true rfl⟩) (fun r R' H locs hp hc => ?_)
  obtain ⟨hRe, ⟨hw32, rfl⟩ | ⟨hw32, rfl⟩⟩ := hp
  · rw [hRe] at hc
    rw [in_iff (by omega)] at hw32
    obtain ⟨q, hq, hq9, rfl⟩ := isN_ex hw32
    refine lv_if_eq (tgt := 48) hx hb dX3_support_35 (by decide) (fun hq_7 => ?_) (fun hq_7 => absurd hq_7 (by decide))
    refine lv_aload hx hb dX3_support_48 (lv_at hl 1 rfl) ?_
    refine lv_iload_n hx hb dX3_support_50 rfl (lv_at hl 4 rfl) ?_
    refine lv_aload hx hb dX3_support_51 (lv_at hl 0 rfl) ?_
    refine lv_iload_n hx hb dX3_support_53 rfl (lv_at hl 5 rfl) ?_
    refine r_calll hc hA (va_runV (As := [.int (nI (q))]) (rest := [.int (nI (i)), .ref (a (40 + 6 * j))]) ⟨hx, hb, hml, hown, hts⟩ (c_X0_cellsOfBox l D g lv a R M (lk M j i) (by omega) (hr9.2.2.1 _ hlk.1) (hC.2.2.1 _ hlk.1) (hC.2.2.2.1 _ hlk.1) hI hlk.1 q (by omega) _) (cwV 1 hts gX3_support_X0_cellsOfBox rfl rfl rfl (by decide +kernel) ⟨Nat.le_of_ble_eq_true rfl, Nat.le_of_ble_eq_true rfl⟩) (r_preV hK hZ hc hA ((hr9.2.2.1 (lk M j i) (by omega)).1) (sh_K (by omega)) rfl) rfl rfl hl.1 rfl (lv_room (Nat.le_of_ble_eq_true rfl)) dX3_support_54 ⟨Nat.le_of_ble_eq_true rfl, Nat.le_of_ble_eq_true rfl⟩) (fun r R' H locs hp hc => ?_)
    obtain ⟨hre, hRe⟩ := hp
    rw [hRe] at hc
    rw [hre]
    refine r_calli hc hA (va_runS (As := [.ref (a (40 + 6 * j)), .int (nI (i)), .long (lN (bx M (lk M j i) q))]) (rest := []) ⟨hx, hb, hml, hown, hts⟩ (c_X3_supportedCells l D g lv a R M hr9 hC hI (lk M j i) q j i hlk.1 (by omega) hj (by omega) _) (va_cwS 3 hts gX3_support_X3_supportedCells rfl rfl rfl (by decide +kernel) ⟨Nat.le_of_ble_eq_true rfl, Nat.le_of_ble_eq_true rfl⟩) (r_preS hK hZ hc hA) rfl rfl hl.1 rfl (lv_room (Nat.le_of_ble_eq_true rfl)) dX3_support_57 ⟨Nat.le_of_ble_eq_true rfl, Nat.le_of_ble_eq_true rfl⟩) (fun r R' H locs hp hc => ?_)
    obtain ⟨hre, hRe⟩ := hp
    rw [hRe] at hc
    rw [hre]
    have hsp := spt_le (i := q) hI hlk.1 hj (show i ≤ pn M j by omega)
    have har := ar_b hk9
    refine lv_bipush (v := nI (100)) hx hb dX3_support_60 (by decide) ?_
    refine nv_imul hx hb dX3_support_62 ?_
    refine lv_aload hx hb dX3_support_63 (lv_at hl 0 rfl) ?_
    refine r_get (C := RX0) (T := TX0) (N := 11) (v := .int (nI (kw M (lk M j i) * kd M (lk M j i)))) hx hb hts hown hK.1 hc ((hr9.2.2.1 (lk M j i) (by omega)).1) (sh_K (by omega)) rfl rfl hinX0 4 (by decide) hf_126 (fun _ h9 => h9) (congrArg Value.int (hC.2.2.1 (lk M j i) (by omega)).2.2.2.2.1) dX3_support_65 ?_
    refine nv_idiv hx hb dX3_support_68 har.1 (by omega) (by omega) ?_
    refine vx_ret ?_
    refine W.widen (k := 1) (n := 6) (by decide) (by decide) ?_
    exact r_iret hx hb hr hlocks hc dX3_support_69 (by
      unfold QC; rw [show oSupport M (nI j) (nI i) (nI q) = (0, nI (spt M (lk M j i) q j i * 100 / (kw M (lk M j i) * kd M (lk M j i))), M) by simp only [oSupport, tN_nI hj9, tN_nI hi9, tN_nI hq9, Nat.mul_comm 100, if_pos hv, if_pos hw32]]
      exact ⟨rfl, rfl, hC, outC.r R⟩)
  · rw [hRe] at hc
    rw [in_iff (by omega)] at hw32
    refine lv_if_eq (tgt := 48) hx hb dX3_support_35 (by decide) (fun hq_12 => absurd hq_12 (by decide)) (fun hq_12 => ?_)
    exact x_ownN hx hb hl9 hown hts (hl.1.trans hml.symm) hlocks hK hZ hc ht tf_n (by decide +kernel) (by decide +kernel) (fun _ h => List.mem_cons_of_mem _ (List.mem_append_right _ h)) (is := 176) (text := "no such box") (by decide) dX3_support_38 dX3_support_41 dX3_support_42 dX3_support_44 dX3_support_47 (Nat.le_of_ble_eq_true rfl) (Nat.le_of_ble_eq_true rfl) (Nat.le_of_ble_eq_true rfl) (Nat.le_of_ble_eq_true rfl) ⟨rfl, 0, by rw [show oSupport M (nI j) (nI i) z = (1, nI 0, M) by simp only [oSupport, tN_nI hj9, tN_nI hi9, if_pos hv, if_neg hw32]], rfl⟩ (by decide) (by decide)
