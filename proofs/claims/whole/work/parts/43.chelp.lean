set_option maxRecDepth 100000 in
set_option maxHeartbeats 4000000 in
theorem c_X3_kindNumbered_v (l : Launch) (D : va_G) (g : Nat → ClassId) (lv : Nat → Bool) (a : Nat → Nat) (R : RS) (M : MS) (hr9 : PCr lv a R M) (hn9 : mnk M ≤ 6 ∧ mnp M ≤ 8) (j : Nat) (hj : j < mnk M) : cR l D g lv a yX3_kindNumbered wsX3_kindNumbered ({ frames := 1, cells := 0, slots := 0, locals := 22 } : Room) [.ref (a (0)), .int (nI (j))] R (fun r R' => r = a (10 + 3 * j) ∧ R' = R) 0 0 := by
  refine c_body (cc := cX3_kindNumbered) (maxL := 3) (ret := (some (.object "PalletLayers$Kind"))) (by decide) rfl (Nat.le_of_ble_eq_true rfl) ?_
  intro pr en st mi bl me co ls B hl
  obtain ⟨hx, hb, hr, hml, hown, hts, hlocks, hnm, hK, hZ, hc, hA⟩ := B
  have hl : lv_has ls 3 [(0, .ref (a (0))), (1, .int (nI (j)))] := hl
  have hinX3 : ∀ w ∈ u_ws RX3 TX3 12, w ∈ wsX3_kindNumbered := (fun _ h => List.mem_cons_of_mem _ (List.mem_append_left _ (List.mem_append_right _ h)))
  have hf_11 := hts (.fieldLink RX3 11 "PalletLayers" "kinds" "[LPalletLayers$Kind;") (by decide +kernel)
  refine lv_iload_n hx hb dX3_kindNumbered_0 rfl (lv_at hl 1 rfl) ?_
  refine lv_iconst (v := nI (0)) hx hb dX3_kindNumbered_1 (by decide) ?_
  refine lv_aload_n hx hb dX3_kindNumbered_2 rfl (lv_at hl 0 rfl) ?_
  refine r_get (C := RX3) (T := TX3) (N := 12) (v := .ref (a (4))) hx hb hts hown hK.1 hc (hr9.1.1) (rfl) rfl rfl hinX3 3 (by decide) hf_11 (fun _ h9 => h9) (congrArg va_rf hr9.1.2.2.2.2.2.1) dX3_kindNumbered_3 ?_
  refine r_alen (n := 6) (t0 := 3) hx hb hK.1 hc (hr9.1.2.1) (rfl) (ct_k (rfl)) rfl dX3_kindNumbered_6 ?_
  refine lv_iconst (v := nI (1)) hx hb dX3_kindNumbered_7 (by decide) ?_
  refine nv_isub hx hb dX3_kindNumbered_8 (by omega) ?_
  refine r_calli hc hA (va_runS (As := [.int (nI (j)), .int (nI (0)), .int (nI (6 - 1))]) (rest := []) ⟨hx, hb, hml, hown, hts⟩ (c_X3_isOutside l D g lv a R (nI (j)) (nI (0)) (nI (6 - 1)) _) (va_cwS 3 hts gX3_kindNumbered_X3_isOutside rfl rfl rfl (by decide +kernel) ⟨Nat.le_of_ble_eq_true rfl, Nat.le_of_ble_eq_true rfl⟩) (r_preS hK hZ hc hA) rfl rfl hl.1 rfl (lv_room (Nat.le_of_ble_eq_true rfl)) dX3_kindNumbered_9 ⟨Nat.le_of_ble_eq_true rfl, Nat.le_of_ble_eq_true rfl⟩) (fun r R' H locs hp hc => ?_)
  obtain ⟨hRe, ⟨hw, rfl⟩ | ⟨hw, rfl⟩⟩ := hp
  · rw [hRe] at hc
    refine lv_if_eq (tgt := 19) hx hb dX3_kindNumbered_12 (by decide) (fun hq_3 => ?_) (fun hq_3 => absurd hq_3 (by decide))
    refine lv_aload_n hx hb dX3_kindNumbered_19 rfl (lv_at hl 0 rfl) ?_
    refine r_get (C := RX3) (T := TX3) (N := 12) (v := .ref (a (4))) hx hb hts hown hK.1 hc (hr9.1.1) (rfl) rfl rfl hinX3 3 (by decide) hf_11 (fun _ h9 => h9) (congrArg va_rf hr9.1.2.2.2.2.2.1) dX3_kindNumbered_20 ?_
    refine lv_iload_n hx hb dX3_kindNumbered_23 rfl (lv_at hl 1 rfl) ?_
    refine r_kald (v := some (a (10 + 3 * j))) hx hb hK.1 hc (hr9.1.2.1) (rfl) (by decide) (by omega) dX3_kindNumbered_24 ((hr9.2.2.2.2.1 j (by omega)).trans (if_pos hj)) ?_
    refine lv_astore_n (lv' := [(2, .ref (a (10 + 3 * j))), (0, .ref (a (0))), (1, .int (nI (j)))]) hx hb dX3_kindNumbered_25 rfl hl (by decide) rfl (fun ls hl => ?_)
    refine lv_aload_n hx hb dX3_kindNumbered_26 rfl (lv_at hl 0 rfl) ?_
    refine lv_ifnonnull (tgt := 40) hx hb dX3_kindNumbered_27 (by decide) ?_
    refine lv_aload_n hx hb dX3_kindNumbered_40 rfl (lv_at hl 0 rfl) ?_
    exact r_aret hx hb hr hlocks hc dX3_kindNumbered_41 ⟨rfl, rfl⟩
  · rw [hRe] at hc
    exact absurd ⟨nI_le (Nat.zero_le _) (by omega), nI_le (by omega) (by omega)⟩ hw
set_option maxRecDepth 100000 in
set_option maxHeartbeats 4000000 in
theorem c_X3_kindNumbered_t (l : Launch) (hl9 : l.stackTraces = false) (D : va_G) (g : Nat → ClassId) (lv : Nat → Bool) (a : Nat → Nat) (R : RS) (M : MS) (hr9 : PCr lv a R M) (hC : PC R M) (hI : Inv M) (x : Int32) (hn : ¬ isN x (mnk M)) : tC l D g lv a yX3_kindNumbered wsX3_kindNumbered ({ frames := 6, cells := 1, slots := 6, locals := 110 } : Room) [.ref (a (0)), .int (x)] R (NSE) := by
  refine x_body (cc := cX3_kindNumbered) (maxL := 3) (ret := (some (.object "PalletLayers$Kind"))) (by decide) rfl (Nat.le_of_ble_eq_true rfl) ?_
  intro pr en st mi bl me co ls B ht hl
  obtain ⟨hx, hb, hr, hml, hown, hts, hlocks, hnm, hK, hZ, hc, hA⟩ := B
  have hl : lv_has ls 3 [(0, .ref (a (0))), (1, .int (x))] := hl
  have hinX3 : ∀ w ∈ u_ws RX3 TX3 12, w ∈ wsX3_kindNumbered := (fun _ h => List.mem_cons_of_mem _ (List.mem_append_left _ (List.mem_append_right _ h)))
  have hf_11 := hts (.fieldLink RX3 11 "PalletLayers" "kinds" "[LPalletLayers$Kind;") (by decide +kernel)
  have hb9 := iv_b hI
  refine lv_iload_n hx hb dX3_kindNumbered_0 rfl (lv_at hl 1 rfl) ?_
  refine lv_iconst (v := nI (0)) hx hb dX3_kindNumbered_1 (by decide) ?_
  refine lv_aload_n hx hb dX3_kindNumbered_2 rfl (lv_at hl 0 rfl) ?_
  refine r_get (C := RX3) (T := TX3) (N := 12) (v := .ref (a (4))) hx hb hts hown hK.1 hc (hr9.1.1) (rfl) rfl rfl hinX3 3 (by decide) hf_11 (fun _ h9 => h9) (congrArg va_rf hr9.1.2.2.2.2.2.1) dX3_kindNumbered_3 ?_
  refine r_alen (n := 6) (t0 := 3) hx hb hK.1 hc (hr9.1.2.1) (rfl) (ct_k (rfl)) rfl dX3_kindNumbered_6 ?_
  refine lv_iconst (v := nI (1)) hx hb dX3_kindNumbered_7 (by decide) ?_
  refine nv_isub hx hb dX3_kindNumbered_8 (by omega) ?_
  refine r_calli hc hA (va_runS (As := [.int (x), .int (nI (0)), .int (nI (6 - 1))]) (rest := []) ⟨hx, hb, hml, hown, hts⟩ (c_X3_isOutside l D g lv a R x (nI (0)) (nI (6 - 1)) _) (va_cwS 3 hts gX3_kindNumbered_X3_isOutside rfl rfl rfl (by decide +kernel) ⟨Nat.le_of_ble_eq_true rfl, Nat.le_of_ble_eq_true rfl⟩) (r_preS hK hZ hc hA) rfl rfl hl.1 rfl (lv_room (Nat.le_of_ble_eq_true rfl)) dX3_kindNumbered_9 ⟨Nat.le_of_ble_eq_true rfl, Nat.le_of_ble_eq_true rfl⟩) (fun r R' H locs hp hc => ?_)
  obtain ⟨hRe, ⟨hw, rfl⟩ | ⟨hw, rfl⟩⟩ := hp
  · rw [hRe] at hc
    rw [w_iff (by decide) (by decide)] at hw
    obtain ⟨j, -, hj6, hj9, rfl⟩ := isR_ex hw
    have hjn : ¬ j < mnk M := fun z => hn ((isN_nI hj9).mpr z)
    refine lv_if_eq (tgt := 19) hx hb dX3_kindNumbered_12 (by decide) (fun hq_3 => ?_) (fun hq_3 => absurd hq_3 (by decide))
    refine lv_aload_n hx hb dX3_kindNumbered_19 rfl (lv_at hl 0 rfl) ?_
    refine r_get (C := RX3) (T := TX3) (N := 12) (v := .ref (a (4))) hx hb hts hown hK.1 hc (hr9.1.1) (rfl) rfl rfl hinX3 3 (by decide) hf_11 (fun _ h9 => h9) (congrArg va_rf hr9.1.2.2.2.2.2.1) dX3_kindNumbered_20 ?_
    refine lv_iload_n hx hb dX3_kindNumbered_23 rfl (lv_at hl 1 rfl) ?_
    refine r_kald (v := none) hx hb hK.1 hc (hr9.1.2.1) (rfl) (by decide) (by omega) dX3_kindNumbered_24 ((hr9.2.2.2.2.1 j (by omega)).trans (if_neg hjn)) ?_
    refine lv_astore_nN (lv' := [(2, .null), (0, .ref (a (0))), (1, .int (nI (j)))]) hx hb dX3_kindNumbered_25 rfl hl (by decide) rfl (fun ls hl => ?_)
    refine lv_aload_nN hx hb dX3_kindNumbered_26 rfl (lv_at hl 0 rfl) ?_
    refine lv_ifnonnullN hx hb dX3_kindNumbered_27 ?_
    exact x_ownN hx hb hl9 hown hts (hl.1.trans hml.symm) hlocks hK hZ hc ht tf_n (by decide +kernel) (by decide +kernel) (fun _ h => List.mem_cons_of_mem _ (List.mem_append_right _ h)) (is := 227) (text := "no such kind") (by decide) dX3_kindNumbered_30 dX3_kindNumbered_33 dX3_kindNumbered_34 dX3_kindNumbered_36 dX3_kindNumbered_39 (Nat.le_of_ble_eq_true rfl) (Nat.le_of_ble_eq_true rfl) (Nat.le_of_ble_eq_true rfl) (Nat.le_of_ble_eq_true rfl) ⟨rfl, rfl⟩ (by decide) (by decide)
  · rw [hRe] at hc
    refine lv_if_eq (tgt := 19) hx hb dX3_kindNumbered_12 (by decide) (fun hq_4 => absurd hq_4 (by decide)) (fun hq_4 => ?_)
    refine lv_null hx hb dX3_kindNumbered_15 ?_
    refine lv_goto (tgt := 25) hx hb dX3_kindNumbered_16 (by decide) ?_
    refine lv_astore_nN (lv' := [(2, .null), (0, .ref (a (0))), (1, .int (x))]) hx hb dX3_kindNumbered_25 rfl hl (by decide) rfl (fun ls hl => ?_)
    refine lv_aload_nN hx hb dX3_kindNumbered_26 rfl (lv_at hl 0 rfl) ?_
    refine lv_ifnonnullN hx hb dX3_kindNumbered_27 ?_
    exact x_ownN hx hb hl9 hown hts (hl.1.trans hml.symm) hlocks hK hZ hc ht tf_n (by decide +kernel) (by decide +kernel) (fun _ h => List.mem_cons_of_mem _ (List.mem_append_right _ h)) (is := 227) (text := "no such kind") (by decide) dX3_kindNumbered_30 dX3_kindNumbered_33 dX3_kindNumbered_34 dX3_kindNumbered_36 dX3_kindNumbered_39 (Nat.le_of_ble_eq_true rfl) (Nat.le_of_ble_eq_true rfl) (Nat.le_of_ble_eq_true rfl) (Nat.le_of_ble_eq_true rfl) ⟨rfl, rfl⟩ (by decide) (by decide)
set_option maxRecDepth 100000 in
set_option maxHeartbeats 4000000 in
theorem c_X3_palletNumbered_v (l : Launch) (D : va_G) (g : Nat → ClassId) (lv : Nat → Bool) (a : Nat → Nat) (R : RS) (M : MS) (hr9 : PCr lv a R M) (hn9 : mnk M ≤ 6 ∧ mnp M ≤ 8) (j : Nat) (hj : j < mnp M) : cR l D g lv a yX3_palletNumbered wsX3_palletNumbered ({ frames := 1, cells := 0, slots := 0, locals := 22 } : Room) [.ref (a (0)), .int (nI (j))] R (fun r R' => r = a (40 + 6 * j) ∧ R' = R) 0 0 := by
  refine c_body (cc := cX3_palletNumbered) (maxL := 3) (ret := (some (.object "PalletLayers$Pallet"))) (by decide) rfl (Nat.le_of_ble_eq_true rfl) ?_
  intro pr en st mi bl me co ls B hl
  obtain ⟨hx, hb, hr, hml, hown, hts, hlocks, hnm, hK, hZ, hc, hA⟩ := B
  have hl : lv_has ls 3 [(0, .ref (a (0))), (1, .int (nI (j)))] := hl
  have hinX3 : ∀ w ∈ u_ws RX3 TX3 12, w ∈ wsX3_palletNumbered := (fun _ h => List.mem_cons_of_mem _ (List.mem_append_left _ (List.mem_append_right _ h)))
  have hf_17 := hts (.fieldLink RX3 17 "PalletLayers" "pallets" "[LPalletLayers$Pallet;") (by decide +kernel)
  refine lv_iload_n hx hb dX3_palletNumbered_0 rfl (lv_at hl 1 rfl) ?_
  refine lv_iconst (v := nI (0)) hx hb dX3_palletNumbered_1 (by decide) ?_
  refine lv_aload_n hx hb dX3_palletNumbered_2 rfl (lv_at hl 0 rfl) ?_
  refine r_get (C := RX3) (T := TX3) (N := 12) (v := .ref (a (5))) hx hb hts hown hK.1 hc (hr9.1.1) (rfl) rfl rfl hinX3 4 (by decide) hf_17 (fun _ h9 => h9) (congrArg va_rf hr9.1.2.2.2.2.2.2.1) dX3_palletNumbered_3 ?_
  refine r_alen (n := 8) (t0 := 4) hx hb hK.1 hc (hr9.1.2.2.1) (rfl) (ct_p (rfl)) rfl dX3_palletNumbered_6 ?_
  refine lv_iconst (v := nI (1)) hx hb dX3_palletNumbered_7 (by decide) ?_
  refine nv_isub hx hb dX3_palletNumbered_8 (by omega) ?_
  refine r_calli hc hA (va_runS (As := [.int (nI (j)), .int (nI (0)), .int (nI (8 - 1))]) (rest := []) ⟨hx, hb, hml, hown, hts⟩ (c_X3_isOutside l D g lv a R (nI (j)) (nI (0)) (nI (8 - 1)) _) (va_cwS 3 hts gX3_palletNumbered_X3_isOutside rfl rfl rfl (by decide +kernel) ⟨Nat.le_of_ble_eq_true rfl, Nat.le_of_ble_eq_true rfl⟩) (r_preS hK hZ hc hA) rfl rfl hl.1 rfl (lv_room (Nat.le_of_ble_eq_true rfl)) dX3_palletNumbered_9 ⟨Nat.le_of_ble_eq_true rfl, Nat.le_of_ble_eq_true rfl⟩) (fun r R' H locs hp hc => ?_)
  obtain ⟨hRe, ⟨hw, rfl⟩ | ⟨hw, rfl⟩⟩ := hp
  · rw [hRe] at hc
    refine lv_if_eq (tgt := 19) hx hb dX3_palletNumbered_12 (by decide) (fun hq_3 => ?_) (fun hq_3 => absurd hq_3 (by decide))
    refine lv_aload_n hx hb dX3_palletNumbered_19 rfl (lv_at hl 0 rfl) ?_
    refine r_get (C := RX3) (T := TX3) (N := 12) (v := .ref (a (5))) hx hb hts hown hK.1 hc (hr9.1.1) (rfl) rfl rfl hinX3 4 (by decide) hf_17 (fun _ h9 => h9) (congrArg va_rf hr9.1.2.2.2.2.2.2.1) dX3_palletNumbered_20 ?_
    refine lv_iload_n hx hb dX3_palletNumbered_23 rfl (lv_at hl 1 rfl) ?_
    refine r_pald (v := some (a (40 + 6 * j))) hx hb hK.1 hc (hr9.1.2.2.1) (rfl) (by decide) (by omega) dX3_palletNumbered_24 ((hr9.2.2.2.2.2.1 j (by omega)).trans (if_pos hj)) ?_
    refine lv_astore_n (lv' := [(2, .ref (a (40 + 6 * j))), (0, .ref (a (0))), (1, .int (nI (j)))]) hx hb dX3_palletNumbered_25 rfl hl (by decide) rfl (fun ls hl => ?_)
    refine lv_aload_n hx hb dX3_palletNumbered_26 rfl (lv_at hl 0 rfl) ?_
    refine lv_ifnonnull (tgt := 40) hx hb dX3_palletNumbered_27 (by decide) ?_
    refine lv_aload_n hx hb dX3_palletNumbered_40 rfl (lv_at hl 0 rfl) ?_
    exact r_aret hx hb hr hlocks hc dX3_palletNumbered_41 ⟨rfl, rfl⟩
  · rw [hRe] at hc
    exact absurd ⟨nI_le (Nat.zero_le _) (by omega), nI_le (by omega) (by omega)⟩ hw
set_option maxRecDepth 100000 in
set_option maxHeartbeats 4000000 in
theorem c_X3_palletNumbered_t (l : Launch) (hl9 : l.stackTraces = false) (D : va_G) (g : Nat → ClassId) (lv : Nat → Bool) (a : Nat → Nat) (R : RS) (M : MS) (hr9 : PCr lv a R M) (hC : PC R M) (hI : Inv M) (x : Int32) (hn : ¬ isN x (mnp M)) : tC l D g lv a yX3_palletNumbered wsX3_palletNumbered ({ frames := 6, cells := 1, slots := 6, locals := 110 } : Room) [.ref (a (0)), .int (x)] R (NSE) := by
  refine x_body (cc := cX3_palletNumbered) (maxL := 3) (ret := (some (.object "PalletLayers$Pallet"))) (by decide) rfl (Nat.le_of_ble_eq_true rfl) ?_
  intro pr en st mi bl me co ls B ht hl
  obtain ⟨hx, hb, hr, hml, hown, hts, hlocks, hnm, hK, hZ, hc, hA⟩ := B
  have hl : lv_has ls 3 [(0, .ref (a (0))), (1, .int (x))] := hl
  have hinX3 : ∀ w ∈ u_ws RX3 TX3 12, w ∈ wsX3_palletNumbered := (fun _ h => List.mem_cons_of_mem _ (List.mem_append_left _ (List.mem_append_right _ h)))
  have hf_17 := hts (.fieldLink RX3 17 "PalletLayers" "pallets" "[LPalletLayers$Pallet;") (by decide +kernel)
  have hb9 := iv_b hI
  refine lv_iload_n hx hb dX3_palletNumbered_0 rfl (lv_at hl 1 rfl) ?_
  refine lv_iconst (v := nI (0)) hx hb dX3_palletNumbered_1 (by decide) ?_
  refine lv_aload_n hx hb dX3_palletNumbered_2 rfl (lv_at hl 0 rfl) ?_
  refine r_get (C := RX3) (T := TX3) (N := 12) (v := .ref (a (5))) hx hb hts hown hK.1 hc (hr9.1.1) (rfl) rfl rfl hinX3 4 (by decide) hf_17 (fun _ h9 => h9) (congrArg va_rf hr9.1.2.2.2.2.2.2.1) dX3_palletNumbered_3 ?_
  refine r_alen (n := 8) (t0 := 4) hx hb hK.1 hc (hr9.1.2.2.1) (rfl) (ct_p (rfl)) rfl dX3_palletNumbered_6 ?_
  refine lv_iconst (v := nI (1)) hx hb dX3_palletNumbered_7 (by decide) ?_
  refine nv_isub hx hb dX3_palletNumbered_8 (by omega) ?_
  refine r_calli hc hA (va_runS (As := [.int (x), .int (nI (0)), .int (nI (8 - 1))]) (rest := []) ⟨hx, hb, hml, hown, hts⟩ (c_X3_isOutside l D g lv a R x (nI (0)) (nI (8 - 1)) _) (va_cwS 3 hts gX3_palletNumbered_X3_isOutside rfl rfl rfl (by decide +kernel) ⟨Nat.le_of_ble_eq_true rfl, Nat.le_of_ble_eq_true rfl⟩) (r_preS hK hZ hc hA) rfl rfl hl.1 rfl (lv_room (Nat.le_of_ble_eq_true rfl)) dX3_palletNumbered_9 ⟨Nat.le_of_ble_eq_true rfl, Nat.le_of_ble_eq_true rfl⟩) (fun r R' H locs hp hc => ?_)
  obtain ⟨hRe, ⟨hw, rfl⟩ | ⟨hw, rfl⟩⟩ := hp
  · rw [hRe] at hc
    rw [w_iff (by decide) (by decide)] at hw
    obtain ⟨j, -, hj6, hj9, rfl⟩ := isR_ex hw
    have hjn : ¬ j < mnp M := fun z => hn ((isN_nI hj9).mpr z)
    refine lv_if_eq (tgt := 19) hx hb dX3_palletNumbered_12 (by decide) (fun hq_3 => ?_) (fun hq_3 => absurd hq_3 (by decide))
    refine lv_aload_n hx hb dX3_palletNumbered_19 rfl (lv_at hl 0 rfl) ?_
    refine r_get (C := RX3) (T := TX3) (N := 12) (v := .ref (a (5))) hx hb hts hown hK.1 hc (hr9.1.1) (rfl) rfl rfl hinX3 4 (by decide) hf_17 (fun _ h9 => h9) (congrArg va_rf hr9.1.2.2.2.2.2.2.1) dX3_palletNumbered_20 ?_
    refine lv_iload_n hx hb dX3_palletNumbered_23 rfl (lv_at hl 1 rfl) ?_
    refine r_pald (v := none) hx hb hK.1 hc (hr9.1.2.2.1) (rfl) (by decide) (by omega) dX3_palletNumbered_24 ((hr9.2.2.2.2.2.1 j (by omega)).trans (if_neg hjn)) ?_
    refine lv_astore_nN (lv' := [(2, .null), (0, .ref (a (0))), (1, .int (nI (j)))]) hx hb dX3_palletNumbered_25 rfl hl (by decide) rfl (fun ls hl => ?_)
    refine lv_aload_nN hx hb dX3_palletNumbered_26 rfl (lv_at hl 0 rfl) ?_
    refine lv_ifnonnullN hx hb dX3_palletNumbered_27 ?_
    exact x_ownN hx hb hl9 hown hts (hl.1.trans hml.symm) hlocks hK hZ hc ht tf_n (by decide +kernel) (by decide +kernel) (fun _ h => List.mem_cons_of_mem _ (List.mem_append_right _ h)) (is := 229) (text := "no such pallet") (by decide) dX3_palletNumbered_30 dX3_palletNumbered_33 dX3_palletNumbered_34 dX3_palletNumbered_36 dX3_palletNumbered_39 (Nat.le_of_ble_eq_true rfl) (Nat.le_of_ble_eq_true rfl) (Nat.le_of_ble_eq_true rfl) (Nat.le_of_ble_eq_true rfl) ⟨rfl, rfl⟩ (by decide) (by decide)
  · rw [hRe] at hc
    refine lv_if_eq (tgt := 19) hx hb dX3_palletNumbered_12 (by decide) (fun hq_4 => absurd hq_4 (by decide)) (fun hq_4 => ?_)
    refine lv_null hx hb dX3_palletNumbered_15 ?_
    refine lv_goto (tgt := 25) hx hb dX3_palletNumbered_16 (by decide) ?_
    refine lv_astore_nN (lv' := [(2, .null), (0, .ref (a (0))), (1, .int (x))]) hx hb dX3_palletNumbered_25 rfl hl (by decide) rfl (fun ls hl => ?_)
    refine lv_aload_nN hx hb dX3_palletNumbered_26 rfl (lv_at hl 0 rfl) ?_
    refine lv_ifnonnullN hx hb dX3_palletNumbered_27 ?_
    exact x_ownN hx hb hl9 hown hts (hl.1.trans hml.symm) hlocks hK hZ hc ht tf_n (by decide +kernel) (by decide +kernel) (fun _ h => List.mem_cons_of_mem _ (List.mem_append_right _ h)) (is := 229) (text := "no such pallet") (by decide) dX3_palletNumbered_30 dX3_palletNumbered_33 dX3_palletNumbered_34 dX3_palletNumbered_36 dX3_palletNumbered_39 (Nat.le_of_ble_eq_true rfl) (Nat.le_of_ble_eq_true rfl) (Nat.le_of_ble_eq_true rfl) (Nat.le_of_ble_eq_true rfl) ⟨rfl, rfl⟩ (by decide) (by decide)
set_option maxRecDepth 100000 in
set_option maxHeartbeats 4000000 in
theorem c_X3_palletWithLayer_v (l : Launch) (D : va_G) (g : Nat → ClassId) (lv : Nat → Bool) (a : Nat → Nat) (R : RS) (M : MS) (hr9 : PCr lv a R M) (hC : PC R M) (hI : Inv M) (j i : Nat) (hj : j < mnp M) (hi : i < pn M j) : cR l D g lv a yX3_palletWithLayer wsX3_palletWithLayer ({ frames := 2, cells := 0, slots := 0, locals := 44 } : Room) [.ref (a (0)), .int (nI (j)), .int (nI (i))] R (fun r R' => r = a (40 + 6 * j) ∧ R' = R) 0 0 := by
  refine c_body (cc := cX3_palletWithLayer) (maxL := 4) (ret := (some (.object "PalletLayers$Pallet"))) (by decide) rfl (Nat.le_of_ble_eq_true rfl) ?_
  intro pr en st mi bl me co ls B hl
  obtain ⟨hx, hb, hr, hml, hown, hts, hlocks, hnm, hK, hZ, hc, hA⟩ := B
  have hl : lv_has ls 4 [(0, .ref (a (0))), (1, .int (nI (j))), (2, .int (nI (i)))] := hl
  have hinX1 : ∀ w ∈ u_ws RX1 TX1 10, w ∈ wsX3_palletWithLayer := (fun _ h => List.mem_cons_of_mem _ (List.mem_append_left _ (List.mem_append_left _ (List.mem_append_right _ h))))
  have hf_144 := hts (.fieldLink RX3 144 "PalletLayers$Pallet" "layers" "I") (by decide +kernel)
  have hb9 := iv_b hI
  have hp9 := iv_p hI hj
  refine lv_aload_n hx hb dX3_palletWithLayer_0 rfl (lv_at hl 0 rfl) ?_
  refine lv_iload_n hx hb dX3_palletWithLayer_1 rfl (lv_at hl 1 rfl) ?_
  refine r_callr hc hA (va_runV (As := [.int (nI (j))]) (rest := []) ⟨hx, hb, hml, hown, hts⟩ (c_X3_palletNumbered_v l D g lv a R M hr9 ⟨hb9.2.2.2.2.1, hb9.2.2.2.2.2.1⟩ j (by omega) _) (cwV 1 hts gX3_palletWithLayer_X3_palletNumbered rfl rfl rfl (by decide +kernel) ⟨Nat.le_of_ble_eq_true rfl, Nat.le_of_ble_eq_true rfl⟩) (r_preV hK hZ hc hA (hr9.1.1) (rfl) rfl) rfl rfl hl.1 rfl (lv_room (Nat.le_of_ble_eq_true rfl)) dX3_palletWithLayer_2 ⟨Nat.le_of_ble_eq_true rfl, Nat.le_of_ble_eq_true rfl⟩) (fun r R' H locs hp hc => ?_)
  obtain ⟨hre, hRe⟩ := hp
  rw [hRe] at hc
  rw [hre]
  refine lv_astore_n (lv' := [(3, .ref (a (40 + 6 * j))), (0, .ref (a (0))), (1, .int (nI (j))), (2, .int (nI (i)))]) hx hb dX3_palletWithLayer_5 rfl hl (by decide) rfl (fun ls hl => ?_)
  refine lv_iload_n hx hb dX3_palletWithLayer_6 rfl (lv_at hl 3 rfl) ?_
  refine lv_iconst (v := nI (0)) hx hb dX3_palletWithLayer_7 (by decide) ?_
  refine lv_aload_n hx hb dX3_palletWithLayer_8 rfl (lv_at hl 0 rfl) ?_
  refine r_get (C := RX1) (T := TX1) (N := 10) (v := .int (nI (pn M j))) hx hb hts hown hK.1 hc ((hr9.2.2.2.1 j (by omega)).1.1) (sh_P (by omega)) rfl rfl hinX1 5 (by decide) hf_144 (fun _ h9 => h9) (congrArg Value.int (hC.2.2.2.2.1 j (by omega)).1) dX3_palletWithLayer_9 ?_
  refine lv_iconst (v := nI (1)) hx hb dX3_palletWithLayer_12 (by decide) ?_
  refine lv_isub hx hb dX3_palletWithLayer_13 ?_
  refine r_calli hc hA (va_runS (As := [.int (nI (i)), .int (nI (0)), .int (nI (pn M j) - nI 1)]) (rest := []) ⟨hx, hb, hml, hown, hts⟩ (c_X3_isOutside l D g lv a R (nI (i)) (nI (0)) (nI (pn M j) - nI 1) _) (va_cwS 3 hts gX3_palletWithLayer_X3_isOutside rfl rfl rfl (by decide +kernel) ⟨Nat.le_of_ble_eq_true rfl, Nat.le_of_ble_eq_true rfl⟩) (r_preS hK hZ hc hA) rfl rfl hl.1 rfl (lv_room (Nat.le_of_ble_eq_true rfl)) dX3_palletWithLayer_14 ⟨Nat.le_of_ble_eq_true rfl, Nat.le_of_ble_eq_true rfl⟩) (fun r R' H locs hp hc => ?_)
  obtain ⟨hRe, ⟨hw, rfl⟩ | ⟨hw, rfl⟩⟩ := hp
  · rw [hRe] at hc
    refine lv_if_eq (tgt := 30) hx hb dX3_palletWithLayer_17 (by decide) (fun hq_5 => ?_) (fun hq_5 => absurd hq_5 (by decide))
    refine lv_aload_n hx hb dX3_palletWithLayer_30 rfl (lv_at hl 0 rfl) ?_
    exact r_aret hx hb hr hlocks hc dX3_palletWithLayer_31 ⟨rfl, rfl⟩
  · rw [hRe] at hc
    exact absurd ((in_iff (by omega)).mpr ((isN_nI (by omega)).mpr hi)) hw
set_option maxRecDepth 100000 in
set_option maxHeartbeats 4000000 in
theorem c_X3_palletWithLayer_t (l : Launch) (hl9 : l.stackTraces = false) (D : va_G) (g : Nat → ClassId) (lv : Nat → Bool) (a : Nat → Nat) (R : RS) (M : MS) (hr9 : PCr lv a R M) (hC : PC R M) (hI : Inv M) (x y : Int32) (hn : ¬ (isN x (mnp M) ∧ isN y (pn M (tN x)))) : tC l D g lv a yX3_palletWithLayer wsX3_palletWithLayer ({ frames := 7, cells := 1, slots := 6, locals := 132 } : Room) [.ref (a (0)), .int (x), .int (y)] R (NSE) := by
  refine x_body (cc := cX3_palletWithLayer) (maxL := 4) (ret := (some (.object "PalletLayers$Pallet"))) (by decide) rfl (Nat.le_of_ble_eq_true rfl) ?_
  intro pr en st mi bl me co ls B ht hl
  obtain ⟨hx, hb, hr, hml, hown, hts, hlocks, hnm, hK, hZ, hc, hA⟩ := B
  have hl : lv_has ls 4 [(0, .ref (a (0))), (1, .int (x)), (2, .int (y))] := hl
  have hinX1 : ∀ w ∈ u_ws RX1 TX1 10, w ∈ wsX3_palletWithLayer := (fun _ h => List.mem_cons_of_mem _ (List.mem_append_left _ (List.mem_append_left _ (List.mem_append_right _ h))))
  have hf_144 := hts (.fieldLink RX3 144 "PalletLayers$Pallet" "layers" "I") (by decide +kernel)
  have hb9 := iv_b hI
  refine lv_aload_n hx hb dX3_palletWithLayer_0 rfl (lv_at hl 0 rfl) ?_
  refine lv_iload_n hx hb dX3_palletWithLayer_1 rfl (lv_at hl 1 rfl) ?_
  by_cases hv_j : isN x (mnp M)
  rotate_left
  · exact x_thr hc hA ht hlocks (vx_runV (As := [.int (x)]) (rest := []) ⟨hx, hb, hml, hown, hts⟩ (c_X3_palletNumbered_t l hl9 D g lv a R M hr9 hC hI x hv_j _) (cwV 1 hts gX3_palletWithLayer_X3_palletNumbered rfl rfl rfl (by decide +kernel) ⟨Nat.le_of_ble_eq_true rfl, Nat.le_of_ble_eq_true rfl⟩) (r_preV hK hZ hc hA (hr9.1.1) (rfl) rfl) rfl rfl hl.1 rfl (lv_room (Nat.le_of_ble_eq_true rfl)) dX3_palletWithLayer_2 ⟨Nat.le_of_ble_eq_true rfl, Nat.le_of_ble_eq_true rfl⟩) ⟨rfl, rfl⟩ (by decide) (by decide)
  obtain ⟨j, hj, hj9, rfl⟩ := isN_ex hv_j
  refine r_callr hc hA (va_runV (As := [.int (nI (j))]) (rest := []) ⟨hx, hb, hml, hown, hts⟩ (c_X3_palletNumbered_v l D g lv a R M hr9 ⟨hb9.2.2.2.2.1, hb9.2.2.2.2.2.1⟩ j hj _) (cwV 1 hts gX3_palletWithLayer_X3_palletNumbered rfl rfl rfl (by decide +kernel) ⟨Nat.le_of_ble_eq_true rfl, Nat.le_of_ble_eq_true rfl⟩) (r_preV hK hZ hc hA (hr9.1.1) (rfl) rfl) rfl rfl hl.1 rfl (lv_room (Nat.le_of_ble_eq_true rfl)) dX3_palletWithLayer_2 ⟨Nat.le_of_ble_eq_true rfl, Nat.le_of_ble_eq_true rfl⟩) (fun r R' H locs hp hc => ?_)
  obtain ⟨hre, hRe⟩ := hp
  rw [hRe] at hc
  rw [hre]
  refine lv_astore_n (lv' := [(3, .ref (a (40 + 6 * j))), (0, .ref (a (0))), (1, .int (nI (j))), (2, .int (y))]) hx hb dX3_palletWithLayer_5 rfl hl (by decide) rfl (fun ls hl => ?_)
  have hp9 := iv_p hI hj
  refine lv_iload_n hx hb dX3_palletWithLayer_6 rfl (lv_at hl 3 rfl) ?_
  refine lv_iconst (v := nI (0)) hx hb dX3_palletWithLayer_7 (by decide) ?_
  refine lv_aload_n hx hb dX3_palletWithLayer_8 rfl (lv_at hl 0 rfl) ?_
  refine r_get (C := RX1) (T := TX1) (N := 10) (v := .int (nI (pn M j))) hx hb hts hown hK.1 hc ((hr9.2.2.2.1 j (by omega)).1.1) (sh_P (by omega)) rfl rfl hinX1 5 (by decide) hf_144 (fun _ h9 => h9) (congrArg Value.int (hC.2.2.2.2.1 j (by omega)).1) dX3_palletWithLayer_9 ?_
  refine lv_iconst (v := nI (1)) hx hb dX3_palletWithLayer_12 (by decide) ?_
  refine lv_isub hx hb dX3_palletWithLayer_13 ?_
  refine r_calli hc hA (va_runS (As := [.int (y), .int (nI (0)), .int (nI (pn M j) - nI 1)]) (rest := []) ⟨hx, hb, hml, hown, hts⟩ (c_X3_isOutside l D g lv a R y (nI (0)) (nI (pn M j) - nI 1) _) (va_cwS 3 hts gX3_palletWithLayer_X3_isOutside rfl rfl rfl (by decide +kernel) ⟨Nat.le_of_ble_eq_true rfl, Nat.le_of_ble_eq_true rfl⟩) (r_preS hK hZ hc hA) rfl rfl hl.1 rfl (lv_room (Nat.le_of_ble_eq_true rfl)) dX3_palletWithLayer_14 ⟨Nat.le_of_ble_eq_true rfl, Nat.le_of_ble_eq_true rfl⟩) (fun r R' H locs hp hc => ?_)
  obtain ⟨hRe, ⟨hw, rfl⟩ | ⟨hw, rfl⟩⟩ := hp
  · rw [hRe] at hc
    exact absurd ⟨hv_j, by rw [tN_nI hj9]; exact (in_iff (by omega)).mp hw⟩ hn
  · rw [hRe] at hc
    refine lv_if_eq (tgt := 30) hx hb dX3_palletWithLayer_17 (by decide) (fun hq_5 => absurd hq_5 (by decide)) (fun hq_5 => ?_)
    exact x_ownN hx hb hl9 hown hts (hl.1.trans hml.symm) hlocks hK hZ hc ht tf_n (by decide +kernel) (by decide +kernel) (fun _ h => List.mem_cons_of_mem _ (List.mem_append_right _ h)) (is := 231) (text := "no such layer") (by decide) dX3_palletWithLayer_20 dX3_palletWithLayer_23 dX3_palletWithLayer_24 dX3_palletWithLayer_26 dX3_palletWithLayer_29 (Nat.le_of_ble_eq_true rfl) (Nat.le_of_ble_eq_true rfl) (Nat.le_of_ble_eq_true rfl) (Nat.le_of_ble_eq_true rfl) ⟨rfl, rfl⟩ (by decide) (by decide)
set_option maxRecDepth 100000 in
set_option maxHeartbeats 4000000 in
theorem c_X3_refuseOnTruck_v (l : Launch) (D : va_G) (g : Nat → ClassId) (lv : Nat → Bool) (a : Nat → Nat) (R : RS) (M : MS) (hr9 : PCr lv a R M) (hC : PC R M) (hI : Inv M) (j : Nat) (hj : j < mnp M) (h0 : ps M j = 0) : cV l D g lv a yX3_refuseOnTruck wsX3_refuseOnTruck ({ frames := 0, cells := 0, slots := 0, locals := 0 } : Room) [.ref (a (40 + 6 * j))] R (fun R' => R' = R) 0 0 := by
  refine c_body (cc := cX3_refuseOnTruck) (maxL := 1) (ret := none) (by decide) rfl (Nat.le_of_ble_eq_true rfl) ?_
  intro pr en st mi bl me co ls B hl
  obtain ⟨hx, hb, hr, hml, hown, hts, hlocks, hnm, hK, hZ, hc, hA⟩ := B
  have hl : lv_has ls 1 [(0, .ref (a (40 + 6 * j)))] := hl
  have hinX1 : ∀ w ∈ u_ws RX1 TX1 10, w ∈ wsX3_refuseOnTruck := (fun _ h => List.mem_cons_of_mem _ (List.mem_append_left _ (List.mem_append_right _ h)))
  have hf_194 := hts (.fieldLink RX3 194 "PalletLayers$Pallet" "stop" "I") (by decide +kernel)
  have hb9 := iv_b hI
  refine lv_aload_n hx hb dX3_refuseOnTruck_0 rfl (lv_at hl 0 rfl) ?_
  refine r_get (C := RX1) (T := TX1) (N := 10) (v := .int (stI (ps M j))) hx hb hts hown hK.1 hc ((hr9.2.2.2.1 j (by omega)).1.1) (sh_P (by omega)) rfl rfl hinX1 9 (by decide) hf_194 (fun _ h9 => h9) (congrArg Value.int (hC.2.2.2.2.1 j (by omega)).2.2.2.2) dX3_refuseOnTruck_1 ?_
  refine lv_iconst (v := (-1)) hx hb dX3_refuseOnTruck_4 (by decide) ?_
  refine lv_icmp_eq (tgt := 18) hx hb dX3_refuseOnTruck_5 (by decide) (fun hq_1 => ?_) (fun hq_1 => (absurd (show stI (ps M j) = -1 by rw [h0]; rfl) hq_1))
  exact r_vret hx hb hr hlocks hc dX3_refuseOnTruck_18 rfl
set_option maxRecDepth 100000 in
set_option maxHeartbeats 4000000 in
theorem c_X3_refuseOnTruck_t (l : Launch) (hl9 : l.stackTraces = false) (D : va_G) (g : Nat → ClassId) (lv : Nat → Bool) (a : Nat → Nat) (R : RS) (M : MS) (hr9 : PCr lv a R M) (hC : PC R M) (hI : Inv M) (j : Nat) (hj : j < mnp M) (h0 : ¬ ps M j = 0) : tC l D g lv a yX3_refuseOnTruck wsX3_refuseOnTruck ({ frames := 6, cells := 1, slots := 6, locals := 110 } : Room) [.ref (a (40 + 6 * j))] R (ISE) := by
  refine x_body (cc := cX3_refuseOnTruck) (maxL := 1) (ret := none) (by decide) rfl (Nat.le_of_ble_eq_true rfl) ?_
  intro pr en st mi bl me co ls B ht hl
  obtain ⟨hx, hb, hr, hml, hown, hts, hlocks, hnm, hK, hZ, hc, hA⟩ := B
  have hl : lv_has ls 1 [(0, .ref (a (40 + 6 * j)))] := hl
  have hinX1 : ∀ w ∈ u_ws RX1 TX1 10, w ∈ wsX3_refuseOnTruck := (fun _ h => List.mem_cons_of_mem _ (List.mem_append_left _ (List.mem_append_right _ h)))
  have hf_194 := hts (.fieldLink RX3 194 "PalletLayers$Pallet" "stop" "I") (by decide +kernel)
  have hb9 := iv_b hI
  have hp9 := iv_p hI hj
  refine lv_aload_n hx hb dX3_refuseOnTruck_0 rfl (lv_at hl 0 rfl) ?_
  refine r_get (C := RX1) (T := TX1) (N := 10) (v := .int (stI (ps M j))) hx hb hts hown hK.1 hc ((hr9.2.2.2.1 j (by omega)).1.1) (sh_P (by omega)) rfl rfl hinX1 9 (by decide) hf_194 (fun _ h9 => h9) (congrArg Value.int (hC.2.2.2.2.1 j (by omega)).2.2.2.2) dX3_refuseOnTruck_1 ?_
  refine lv_iconst (v := (-1)) hx hb dX3_refuseOnTruck_4 (by decide) ?_
  refine lv_icmp_eq (tgt := 18) hx hb dX3_refuseOnTruck_5 (by decide) (fun hq_1 => (absurd (stI_0 hp9.2 hq_1) h0)) (fun hq_1 => ?_)
  exact x_own hx hb hl9 hown hts (hl.1.trans hml.symm) hlocks hK hZ hc ht tf_s (by decide +kernel) (by decide +kernel) (fun _ h => List.mem_cons_of_mem _ (List.mem_append_right _ h)) (is := 233) (text := "the pallet is on a truck") (by decide) dX3_refuseOnTruck_8 dX3_refuseOnTruck_11 dX3_refuseOnTruck_12 dX3_refuseOnTruck_14 dX3_refuseOnTruck_17 (Nat.le_of_ble_eq_true rfl) (Nat.le_of_ble_eq_true rfl) (Nat.le_of_ble_eq_true rfl) (Nat.le_of_ble_eq_true rfl) ⟨rfl, rfl⟩ (by decide) (by decide)
set_option maxRecDepth 100000 in
set_option maxHeartbeats 4000000 in
theorem c_X3_refuseEmpty_v (l : Launch) (D : va_G) (g : Nat → ClassId) (lv : Nat → Bool) (a : Nat → Nat) (R : RS) (M : MS) (hr9 : PCr lv a R M) (hC : PC R M) (hI : Inv M) (j : Nat) (hj : j < mnp M) (h0 : ¬ pn M j = 0) : cV l D g lv a yX3_refuseEmpty wsX3_refuseEmpty ({ frames := 0, cells := 0, slots := 0, locals := 0 } : Room) [.ref (a (40 + 6 * j))] R (fun R' => R' = R) 0 0 := by
  refine c_body (cc := cX3_refuseEmpty) (maxL := 1) (ret := none) (by decide) rfl (Nat.le_of_ble_eq_true rfl) ?_
  intro pr en st mi bl me co ls B hl
  obtain ⟨hx, hb, hr, hml, hown, hts, hlocks, hnm, hK, hZ, hc, hA⟩ := B
  have hl : lv_has ls 1 [(0, .ref (a (40 + 6 * j)))] := hl
  have hinX1 : ∀ w ∈ u_ws RX1 TX1 10, w ∈ wsX3_refuseEmpty := (fun _ h => List.mem_cons_of_mem _ (List.mem_append_left _ (List.mem_append_right _ h)))
  have hf_144 := hts (.fieldLink RX3 144 "PalletLayers$Pallet" "layers" "I") (by decide +kernel)
  have hb9 := iv_b hI
  have hp9 := iv_p hI hj
  refine lv_aload_n hx hb dX3_refuseEmpty_0 rfl (lv_at hl 0 rfl) ?_
  refine r_get (C := RX1) (T := TX1) (N := 10) (v := .int (nI (pn M j))) hx hb hts hown hK.1 hc ((hr9.2.2.2.1 j (by omega)).1.1) (sh_P (by omega)) rfl rfl hinX1 5 (by decide) hf_144 (fun _ h9 => h9) (congrArg Value.int (hC.2.2.2.2.1 j (by omega)).1) dX3_refuseEmpty_1 ?_
  refine lv_if_ne (tgt := 17) hx hb dX3_refuseEmpty_4 (by decide) (fun hq_1 => ?_) (fun hq_1 => (absurd ((nI_eq (a := pn M j) (b := 0) (by omega) (by omega)).mp hq_1) h0))
  exact r_vret hx hb hr hlocks hc dX3_refuseEmpty_17 rfl
set_option maxRecDepth 100000 in
set_option maxHeartbeats 4000000 in
theorem c_X3_refuseEmpty_t (l : Launch) (hl9 : l.stackTraces = false) (D : va_G) (g : Nat → ClassId) (lv : Nat → Bool) (a : Nat → Nat) (R : RS) (M : MS) (hr9 : PCr lv a R M) (hC : PC R M) (hI : Inv M) (j : Nat) (hj : j < mnp M) (h0 : pn M j = 0) : tC l D g lv a yX3_refuseEmpty wsX3_refuseEmpty ({ frames := 6, cells := 1, slots := 6, locals := 110 } : Room) [.ref (a (40 + 6 * j))] R (ISE) := by
  refine x_body (cc := cX3_refuseEmpty) (maxL := 1) (ret := none) (by decide) rfl (Nat.le_of_ble_eq_true rfl) ?_
  intro pr en st mi bl me co ls B ht hl
  obtain ⟨hx, hb, hr, hml, hown, hts, hlocks, hnm, hK, hZ, hc, hA⟩ := B
  have hl : lv_has ls 1 [(0, .ref (a (40 + 6 * j)))] := hl
  have hinX1 : ∀ w ∈ u_ws RX1 TX1 10, w ∈ wsX3_refuseEmpty := (fun _ h => List.mem_cons_of_mem _ (List.mem_append_left _ (List.mem_append_right _ h)))
  have hf_144 := hts (.fieldLink RX3 144 "PalletLayers$Pallet" "layers" "I") (by decide +kernel)
  have hb9 := iv_b hI
  have hp9 := iv_p hI hj
  refine lv_aload_n hx hb dX3_refuseEmpty_0 rfl (lv_at hl 0 rfl) ?_
  refine r_get (C := RX1) (T := TX1) (N := 10) (v := .int (nI (pn M j))) hx hb hts hown hK.1 hc ((hr9.2.2.2.1 j (by omega)).1.1) (sh_P (by omega)) rfl rfl hinX1 5 (by decide) hf_144 (fun _ h9 => h9) (congrArg Value.int (hC.2.2.2.2.1 j (by omega)).1) dX3_refuseEmpty_1 ?_
  refine lv_if_ne (tgt := 17) hx hb dX3_refuseEmpty_4 (by decide) (fun hq_1 => (absurd ((nI_eq (a := pn M j) (b := 0) (by omega) (by omega)).mpr h0) hq_1)) (fun hq_1 => ?_)
  exact x_own hx hb hl9 hown hts (hl.1.trans hml.symm) hlocks hK hZ hc ht tf_s (by decide +kernel) (by decide +kernel) (fun _ h => List.mem_cons_of_mem _ (List.mem_append_right _ h)) (is := 235) (text := "the pallet has no layers") (by decide) dX3_refuseEmpty_7 dX3_refuseEmpty_10 dX3_refuseEmpty_11 dX3_refuseEmpty_13 dX3_refuseEmpty_16 (Nat.le_of_ble_eq_true rfl) (Nat.le_of_ble_eq_true rfl) (Nat.le_of_ble_eq_true rfl) (Nat.le_of_ble_eq_true rfl) ⟨rfl, rfl⟩ (by decide) (by decide)
set_option maxRecDepth 100000 in
set_option maxHeartbeats 4000000 in
theorem c_X3_isOnAPallet (l : Launch) (D : va_G) (g : Nat → ClassId) (lv : Nat → Bool) (a : Nat → Nat) (R : RS) (M : MS) (hr9 : PCr lv a R M) (hC : PC R M) (hI : Inv M) (k : Nat) (hk : k < mnk M) : cI l D g lv a yX3_isOnAPallet wsX3_isOnAPallet ({ frames := 1, cells := 0, slots := 0, locals := 22 } : Room) [.ref (a (0)), .int (nI (k))] R (fun r R' => R' = R ∧ (onP M k (mnp M) = true ∧ r = nI 1 ∨ onP M k (mnp M) = false ∧ r = nI 0)) 0 0 := by
  refine c_body (cc := cX3_isOnAPallet) (maxL := 6) (ret := (some .boolean)) (by decide) rfl (Nat.le_of_ble_eq_true rfl) ?_
  intro pr en st mi bl me co ls B hl
  obtain ⟨hx, hb, hr, hml, hown, hts, hlocks, hnm, hK, hZ, hc, hA⟩ := B
  have hl : lv_has ls 6 [(0, .ref (a (0))), (1, .int (nI (k)))] := hl
  have hinX3 : ∀ w ∈ u_ws RX3 TX3 12, w ∈ wsX3_isOnAPallet := (fun _ h => List.mem_cons_of_mem _ (List.mem_append_left _ (List.mem_append_left _ (List.mem_append_right _ h))))
  have hf_17 := hts (.fieldLink RX3 17 "PalletLayers" "pallets" "[LPalletLayers$Pallet;") (by decide +kernel)
  have hb9 := iv_b hI
  refine lv_aload_n hx hb dX3_isOnAPallet_0 rfl (lv_at hl 0 rfl) ?_
  refine r_get (C := RX3) (T := TX3) (N := 12) (v := .ref (a (5))) hx hb hts hown hK.1 hc (hr9.1.1) (rfl) rfl rfl hinX3 4 (by decide) hf_17 (fun _ h9 => h9) (congrArg va_rf hr9.1.2.2.2.2.2.2.1) dX3_isOnAPallet_1 ?_
  refine lv_astore_n (lv' := [(2, .ref (a (5))), (0, .ref (a (0))), (1, .int (nI (k)))]) hx hb dX3_isOnAPallet_4 rfl hl (by decide) rfl (fun ls hl => ?_)
  refine lv_aload_n hx hb dX3_isOnAPallet_5 rfl (lv_at hl 0 rfl) ?_
  refine r_alen (n := 8) (t0 := 4) hx hb hK.1 hc (hr9.1.2.2.1) (rfl) (ct_p (rfl)) rfl dX3_isOnAPallet_6 ?_
  refine lv_istore_n (lv' := [(3, .int (nI (8))), (2, .ref (a (5))), (0, .ref (a (0))), (1, .int (nI (k)))]) hx hb dX3_isOnAPallet_7 rfl hl (by decide) rfl (fun ls hl => ?_)
  refine lv_iconst (v := nI (0)) hx hb dX3_isOnAPallet_8 (by decide) ?_
  refine lv_istore (lv' := [(4, .int (nI (0))), (3, .int (nI (8))), (2, .ref (a (5))), (0, .ref (a (0))), (1, .int (nI (k)))]) hx hb dX3_isOnAPallet_9 hl (by decide) rfl (fun ls hl => ?_)
  have loop11 : ∀ (fuel11 : Nat) (i : Nat) (H : Heap) (locs : List Loc) (ls : Array Slot), 8 - i < fuel11 → (i ≤ 8) → (onP M k (min i (mnp M)) = false) → rc D g (rA lv a st.heap.size) st.heap lv a R H locs → lv_has ls 6 [(0, .ref (a (0))), (1, .int (nI (k))), (2, .ref (a (5))), (3, .int (nI (8))), (4, .int (nI (i)))] → W pr l en ({ frames := 1, cells := 0, slots := 0, locals := 22 } : Room) st mi ([.ref (a (0)), .int (nI (k))] : List Value).toArray bl me co H locs 0 0 (MQ bl (va_Qi (fun r R' => R' = R ∧ (onP M k (mnp M) = true ∧ r = nI 1 ∨ onP M k (mnp M) = false ∧ r = nI 0)) (cB D g lv a) (rA lv a st.heap.size)) ([.ref (a (0)), .int (nI (k))] : List Value).toArray st 0 0 (rA lv a st.heap.size)) (F0 mi 11 ls []) := by
    intro fuel11
    induction fuel11 with
    | zero => intro i H locs ls hmu; exact absurd hmu (Nat.not_lt_zero _)
    | succ fuel11 ih11 =>
      intro i H locs ls hmu11 hi hin hc hl
      refine lv_iload hx hb dX3_isOnAPallet_11 (lv_at hl 4 rfl) ?_
      refine lv_iload_n hx hb dX3_isOnAPallet_13 rfl (lv_at hl 3 rfl) ?_
      refine lv_icmp_ge (tgt := 49) hx hb dX3_isOnAPallet_14 (by decide) (fun hq_1 => ?_) (fun hq_1 => ?_)
      · have hq_1 : 8 ≤ i := (nI_leI (a := 8) (b := i) (by omega) (by omega)).mp hq_1
        refine lv_iconst (v := nI (0)) hx hb dX3_isOnAPallet_49 (by decide) ?_
        exact r_zret hx hb hr hlocks hc dX3_isOnAPallet_50 (by decide) ⟨rfl, Or.inr ⟨by rw [Nat.min_eq_right (by omega)] at hin; exact hin, rfl⟩⟩
      · have hq_1 : ¬ (8 ≤ i) := fun z => hq_1 ((nI_leI (a := 8) (b := i) (by omega) (by omega)).mpr z)
        refine lv_aload_n hx hb dX3_isOnAPallet_17 rfl (lv_at hl 2 rfl) ?_
        refine lv_iload hx hb dX3_isOnAPallet_18 (lv_at hl 4 rfl) ?_
        by_cases hv : i < mnp M
        · refine r_pald (v := some (a (40 + 6 * i))) hx hb hK.1 hc (hr9.1.2.2.1) (rfl) (by decide) (by omega) dX3_isOnAPallet_20 ((hr9.2.2.2.2.2.1 i (by omega)).trans (if_pos hv)) ?_
          refine lv_astore (lv' := [(5, .ref (a (40 + 6 * i))), (0, .ref (a (0))), (1, .int (nI (k))), (2, .ref (a (5))), (3, .int (nI (8))), (4, .int (nI (i)))]) hx hb dX3_isOnAPallet_21 hl (by decide) rfl (fun ls hl => ?_)
          refine lv_aload hx hb dX3_isOnAPallet_23 (lv_at hl 0 rfl) ?_
          refine lv_ifnull hx hb dX3_isOnAPallet_25 ?_
          refine lv_aload hx hb dX3_isOnAPallet_28 (lv_at hl 0 rfl) ?_
          refine r_calli hc hA (va_runV (As := []) (rest := []) ⟨hx, hb, hml, hown, hts⟩ (c_X1_kindBits l D g lv a R M i (by omega) (hr9.2.2.2.1 i hv) (hC.2.2.2.2.1 i hv) (iv_p hI hv).1 (hC.2.2.2.2.2.1 i hv) _) (cwV 0 hts gX3_isOnAPallet_X1_kindBits rfl rfl rfl (by decide +kernel) ⟨Nat.le_of_ble_eq_true rfl, Nat.le_of_ble_eq_true rfl⟩) (r_preV hK hZ hc hA ((hr9.2.2.2.1 i (by omega)).1.1) (sh_P (by omega)) rfl) rfl rfl hl.1 rfl (lv_room (Nat.le_of_ble_eq_true rfl)) dX3_isOnAPallet_30 ⟨Nat.le_of_ble_eq_true rfl, Nat.le_of_ble_eq_true rfl⟩) (fun r R' H locs hp hc => ?_)
          obtain ⟨hre, hRe⟩ := hp
          rw [hRe] at hc
          rw [hre]
          refine lv_iload_n hx hb dX3_isOnAPallet_33 rfl (lv_at hl 2 rfl) ?_
          refine lv_ishr hx hb dX3_isOnAPallet_34 ?_
          refine lv_iconst (v := nI (1)) hx hb dX3_isOnAPallet_35 (by decide) ?_
          refine lv_iand hx hb dX3_isOnAPallet_36 ?_
          refine lv_iconst (v := nI (1)) hx hb dX3_isOnAPallet_37 (by decide) ?_
          refine lv_icmp_ne (tgt := 43) hx hb dX3_isOnAPallet_38 (by decide) (fun hq_4 => ?_) (fun hq_4 => ?_)
          · have hof : onL M k i (pn M i) = false := Bool.eq_false_iff.mpr (fun z => hq_4 ((kbit_on (by omega) (fun l hl => by have := (iv_l hI hv hl).1; omega)).mpr z))
            refine lv_iinc (v := nI (i + 1)) (lv' := [(4, .int (nI (i + 1))), (5, .ref (a (40 + 6 * i))), (0, .ref (a (0))), (1, .int (nI (k))), (2, .ref (a (5))), (3, .int (nI (8)))]) hx hb dX3_isOnAPallet_43 hl (k := 5) rfl (nI_inc _ 1) (by decide) rfl (fun ls hl => ?_)
            refine lv_goto (tgt := 11) hx hb dX3_isOnAPallet_46 (by decide) ?_
            exact ih11 (i + 1) _ _ ls (by omega) (by omega) (onP_s1 hin hv hof) hc (lv_sub hl [2, 3, 4, 5, 0] rfl)
          · have hon : onL M k i (pn M i) = true := (kbit_on (by omega) (fun l hl => by have := (iv_l hI hv hl).1; omega)).mp hq_4
            refine lv_iconst (v := nI (1)) hx hb dX3_isOnAPallet_41 (by decide) ?_
            exact r_zret hx hb hr hlocks hc dX3_isOnAPallet_42 (by decide) ⟨rfl, Or.inl ⟨onP_mono (i := i + 1) hv (by show (onP M k i || onL M k i (pn M i)) = true; rw [hon, Bool.or_true]), rfl⟩⟩
        · refine r_pald (v := none) hx hb hK.1 hc (hr9.1.2.2.1) (rfl) (by decide) (by omega) dX3_isOnAPallet_20 ((hr9.2.2.2.2.2.1 i (by omega)).trans (if_neg hv)) ?_
          refine lv_astoreN (lv' := [(5, .null), (0, .ref (a (0))), (1, .int (nI (k))), (2, .ref (a (5))), (3, .int (nI (8))), (4, .int (nI (i)))]) hx hb dX3_isOnAPallet_21 hl (by decide) rfl (fun ls hl => ?_)
          refine lv_aloadN hx hb dX3_isOnAPallet_23 (lv_at hl 0 rfl) ?_
          refine lv_ifnullN (tgt := 43) hx hb dX3_isOnAPallet_25 (by decide) ?_
          refine lv_iinc (v := nI (i + 1)) (lv' := [(4, .int (nI (i + 1))), (5, .null), (0, .ref (a (0))), (1, .int (nI (k))), (2, .ref (a (5))), (3, .int (nI (8)))]) hx hb dX3_isOnAPallet_43 hl (k := 5) rfl (nI_inc _ 1) (by decide) rfl (fun ls hl => ?_)
          refine lv_goto (tgt := 11) hx hb dX3_isOnAPallet_46 (by decide) ?_
          exact ih11 (i + 1) _ _ ls (by omega) (by omega) (onP_s2 hin hv) hc (lv_sub hl [2, 3, 4, 5, 0] rfl)
  exact loop11 (8 + 1) 0 _ _ ls (by omega) (by decide) (by rw [Nat.zero_min]; rfl) hc (lv_sub hl [3, 4, 2, 1, 0] rfl)
set_option maxRecDepth 100000 in
set_option maxHeartbeats 4000000 in
theorem c_X3_boxesOnPallets_0 (l : Launch) (D : va_G) (g : Nat → ClassId) (lv : Nat → Bool) (a : Nat → Nat) (R : RS) (M : MS) (hr9 : PCr lv a R M) (hC : PC R M) (hI : Inv M)  : cI l D g lv a yX3_boxesOnPallets wsX3_boxesOnPallets ({ frames := 0, cells := 0, slots := 0, locals := 0 } : Room) [.ref (a (0)), .int (nI (0))] R (fun r R' => r = nI (allS M (mnp M)) ∧ R' = R) 0 0 := by
  refine c_body (cc := cX3_boxesOnPallets) (maxL := 7) (ret := (some .int)) (by decide) rfl (Nat.le_of_ble_eq_true rfl) ?_
  intro pr en st mi bl me co ls B hl
  obtain ⟨hx, hb, hr, hml, hown, hts, hlocks, hnm, hK, hZ, hc, hA⟩ := B
  have hl : lv_has ls 7 [(0, .ref (a (0))), (1, .int (nI (0)))] := hl
  have hinX1 : ∀ w ∈ u_ws RX1 TX1 10, w ∈ wsX3_boxesOnPallets := (fun _ h => List.mem_cons_of_mem _ (List.mem_append_right _ h))
  have hinX3 : ∀ w ∈ u_ws RX3 TX3 12, w ∈ wsX3_boxesOnPallets := (fun _ h => List.mem_cons_of_mem _ (List.mem_append_left _ (List.mem_append_right _ h)))
  have hf_17 := hts (.fieldLink RX3 17 "PalletLayers" "pallets" "[LPalletLayers$Pallet;") (by decide +kernel)
  have hf_193 := hts (.fieldLink RX3 193 "PalletLayers$Pallet" "boxes" "I") (by decide +kernel)
  have hb9 := iv_b hI
  refine lv_iconst (v := nI (0)) hx hb dX3_boxesOnPallets_0 (by decide) ?_
  refine lv_istore_n (lv' := [(2, .int (nI (0))), (0, .ref (a (0))), (1, .int (nI (0)))]) hx hb dX3_boxesOnPallets_1 rfl hl (by decide) rfl (fun ls hl => ?_)
  refine lv_aload_n hx hb dX3_boxesOnPallets_2 rfl (lv_at hl 1 rfl) ?_
  refine r_get (C := RX3) (T := TX3) (N := 12) (v := .ref (a (5))) hx hb hts hown hK.1 hc (hr9.1.1) (rfl) rfl rfl hinX3 4 (by decide) hf_17 (fun _ h9 => h9) (congrArg va_rf hr9.1.2.2.2.2.2.2.1) dX3_boxesOnPallets_3 ?_
  refine lv_astore_n (lv' := [(3, .ref (a (5))), (2, .int (nI (0))), (0, .ref (a (0))), (1, .int (nI (0)))]) hx hb dX3_boxesOnPallets_6 rfl hl (by decide) rfl (fun ls hl => ?_)
  refine lv_aload_n hx hb dX3_boxesOnPallets_7 rfl (lv_at hl 0 rfl) ?_
  refine r_alen (n := 8) (t0 := 4) hx hb hK.1 hc (hr9.1.2.2.1) (rfl) (ct_p (rfl)) rfl dX3_boxesOnPallets_8 ?_
  refine lv_istore (lv' := [(4, .int (nI (8))), (3, .ref (a (5))), (2, .int (nI (0))), (0, .ref (a (0))), (1, .int (nI (0)))]) hx hb dX3_boxesOnPallets_9 hl (by decide) rfl (fun ls hl => ?_)
  refine lv_iconst (v := nI (0)) hx hb dX3_boxesOnPallets_11 (by decide) ?_
  refine lv_istore (lv' := [(5, .int (nI (0))), (4, .int (nI (8))), (3, .ref (a (5))), (2, .int (nI (0))), (0, .ref (a (0))), (1, .int (nI (0)))]) hx hb dX3_boxesOnPallets_12 hl (by decide) rfl (fun ls hl => ?_)
  have loop14 : ∀ (fuel14 : Nat) (i : Nat) (H : Heap) (locs : List Loc) (ls : Array Slot), 8 - i < fuel14 → (i ≤ 8) → rc D g (rA lv a st.heap.size) st.heap lv a R H locs → lv_has ls 7 [(0, .ref (a (0))), (1, .int (nI (0))), (2, .int (nI (allS M (min i (mnp M))))), (3, .ref (a (5))), (4, .int (nI (8))), (5, .int (nI (i)))] → W pr l en ({ frames := 0, cells := 0, slots := 0, locals := 0 } : Room) st mi ([.ref (a (0)), .int (nI (0))] : List Value).toArray bl me co H locs 0 0 (MQ bl (va_Qi (fun r R' => r = nI (allS M (mnp M)) ∧ R' = R) (cB D g lv a) (rA lv a st.heap.size)) ([.ref (a (0)), .int (nI (0))] : List Value).toArray st 0 0 (rA lv a st.heap.size)) (F0 mi 14 ls []) := by
    intro fuel14
    induction fuel14 with
    | zero => intro i H locs ls hmu; exact absurd hmu (Nat.not_lt_zero _)
    | succ fuel14 ih14 =>
      intro i H locs ls hmu14 hi hc hl
      refine lv_iload hx hb dX3_boxesOnPallets_14 (lv_at hl 5 rfl) ?_
      refine lv_iload hx hb dX3_boxesOnPallets_16 (lv_at hl 4 rfl) ?_
      refine lv_icmp_ge (tgt := 59) hx hb dX3_boxesOnPallets_18 (by decide) (fun hq_1 => ?_) (fun hq_1 => ?_)
      · have hq_1 : 8 ≤ i := (nI_leI (a := 8) (b := i) (by omega) (by omega)).mp hq_1
        refine lv_iload_n hx hb dX3_boxesOnPallets_59 rfl (lv_at hl 2 rfl) ?_
        exact r_iret hx hb hr hlocks hc dX3_boxesOnPallets_60 ⟨by rw [Nat.min_eq_right (show mnp M ≤ i by omega)], rfl⟩
      · have hq_1 : ¬ (8 ≤ i) := fun z => hq_1 ((nI_leI (a := 8) (b := i) (by omega) (by omega)).mpr z)
        refine lv_aload_n hx hb dX3_boxesOnPallets_21 rfl (lv_at hl 3 rfl) ?_
        refine lv_iload hx hb dX3_boxesOnPallets_22 (lv_at hl 5 rfl) ?_
        by_cases hv : i < mnp M
        · refine r_pald (v := some (a (40 + 6 * i))) hx hb hK.1 hc (hr9.1.2.2.1) (rfl) (by decide) (by omega) dX3_boxesOnPallets_24 ((hr9.2.2.2.2.2.1 i (by omega)).trans (if_pos hv)) ?_
          refine lv_astore (lv' := [(6, .ref (a (40 + 6 * i))), (0, .ref (a (0))), (1, .int (nI (0))), (2, .int (nI (allS M (min i (mnp M))))), (3, .ref (a (5))), (4, .int (nI (8))), (5, .int (nI (i)))]) hx hb dX3_boxesOnPallets_25 hl (by decide) rfl (fun ls hl => ?_)
          refine lv_aload hx hb dX3_boxesOnPallets_27 (lv_at hl 0 rfl) ?_
          refine lv_ifnull hx hb dX3_boxesOnPallets_29 ?_
          refine lv_iload_n hx hb dX3_boxesOnPallets_32 rfl (lv_at hl 2 rfl) ?_
          refine lv_if_eq (tgt := 45) hx hb dX3_boxesOnPallets_33 (by decide) (fun hq_2 => ?_) (fun hq_2 => absurd hq_2 (by decide))
          refine lv_iload_n hx hb dX3_boxesOnPallets_45 rfl (lv_at hl 3 rfl) ?_
          refine lv_aload hx hb dX3_boxesOnPallets_46 (lv_at hl 0 rfl) ?_
          refine r_get (C := RX1) (T := TX1) (N := 10) (v := .int (nI (bS M i (pn M i)))) hx hb hts hown hK.1 hc ((hr9.2.2.2.1 i (by omega)).1.1) (sh_P (by omega)) rfl rfl hinX1 8 (by decide) hf_193 (fun _ h9 => h9) (congrArg Value.int (hC.2.2.2.2.1 i (by omega)).2.2.2.1) dX3_boxesOnPallets_48 ?_
          refine nv_iadd hx hb dX3_boxesOnPallets_51 ?_
          refine lv_istore_n (lv' := [(2, .int (nI ((allS M (min i (mnp M))) + (bS M i (pn M i))))), (6, .ref (a (40 + 6 * i))), (0, .ref (a (0))), (1, .int (nI (0))), (3, .ref (a (5))), (4, .int (nI (8))), (5, .int (nI (i)))]) hx hb dX3_boxesOnPallets_52 rfl hl (by decide) rfl (fun ls hl => ?_)
          refine lv_iinc (v := nI (i + 1)) (lv' := [(5, .int (nI (i + 1))), (2, .int (nI ((allS M (min i (mnp M))) + (bS M i (pn M i))))), (6, .ref (a (40 + 6 * i))), (0, .ref (a (0))), (1, .int (nI (0))), (3, .ref (a (5))), (4, .int (nI (8)))]) hx hb dX3_boxesOnPallets_53 hl (k := 6) rfl (nI_inc _ 1) (by decide) rfl (fun ls hl => ?_)
          refine lv_goto (tgt := 14) hx hb dX3_boxesOnPallets_56 (by decide) ?_
          rw [show (allS M (min i (mnp M))) + (bS M i (pn M i)) = allS M (min (i + 1) (mnp M)) from allS_s1 hv] at hl
          exact ih14 (i + 1) _ _ ls (by omega) (by omega) hc (lv_sub hl [3, 4, 1, 5, 6, 0] rfl)
        · refine r_pald (v := none) hx hb hK.1 hc (hr9.1.2.2.1) (rfl) (by decide) (by omega) dX3_boxesOnPallets_24 ((hr9.2.2.2.2.2.1 i (by omega)).trans (if_neg hv)) ?_
          refine lv_astoreN (lv' := [(6, .null), (0, .ref (a (0))), (1, .int (nI (0))), (2, .int (nI (allS M (min i (mnp M))))), (3, .ref (a (5))), (4, .int (nI (8))), (5, .int (nI (i)))]) hx hb dX3_boxesOnPallets_25 hl (by decide) rfl (fun ls hl => ?_)
          refine lv_aloadN hx hb dX3_boxesOnPallets_27 (lv_at hl 0 rfl) ?_
          refine lv_ifnullN (tgt := 53) hx hb dX3_boxesOnPallets_29 (by decide) ?_
          refine lv_iinc (v := nI (i + 1)) (lv' := [(5, .int (nI (i + 1))), (6, .null), (0, .ref (a (0))), (1, .int (nI (0))), (2, .int (nI (allS M (min i (mnp M))))), (3, .ref (a (5))), (4, .int (nI (8)))]) hx hb dX3_boxesOnPallets_53 hl (k := 6) rfl (nI_inc _ 1) (by decide) rfl (fun ls hl => ?_)
          refine lv_goto (tgt := 14) hx hb dX3_boxesOnPallets_56 (by decide) ?_
          rw [show allS M (min i (mnp M)) = allS M (min (i + 1) (mnp M)) from allS_s2 hv] at hl
          exact ih14 (i + 1) _ _ ls (by omega) (by omega) hc (lv_sub hl [2, 3, 4, 5, 6, 0] rfl)
  rw [show nI 0 = nI (allS M (min 0 (mnp M))) by rw [Nat.zero_min]; rfl] at hl
  exact loop14 (8 + 1) 0 _ _ ls (by omega) (by decide) hc (lv_sub hl [4, 5, 3, 2, 1, 0] rfl)
set_option maxRecDepth 100000 in
set_option maxHeartbeats 4000000 in
theorem c_X3_boxesOnPallets_1 (l : Launch) (D : va_G) (g : Nat → ClassId) (lv : Nat → Bool) (a : Nat → Nat) (R : RS) (M : MS) (hr9 : PCr lv a R M) (hC : PC R M) (hI : Inv M)  : cI l D g lv a yX3_boxesOnPallets wsX3_boxesOnPallets ({ frames := 0, cells := 0, slots := 0, locals := 0 } : Room) [.ref (a (0)), .int (nI (1))] R (fun r R' => r = nI (trkS M (mnp M)) ∧ R' = R) 0 0 := by
  refine c_body (cc := cX3_boxesOnPallets) (maxL := 7) (ret := (some .int)) (by decide) rfl (Nat.le_of_ble_eq_true rfl) ?_
  intro pr en st mi bl me co ls B hl
  obtain ⟨hx, hb, hr, hml, hown, hts, hlocks, hnm, hK, hZ, hc, hA⟩ := B
  have hl : lv_has ls 7 [(0, .ref (a (0))), (1, .int (nI (1)))] := hl
  have hinX1 : ∀ w ∈ u_ws RX1 TX1 10, w ∈ wsX3_boxesOnPallets := (fun _ h => List.mem_cons_of_mem _ (List.mem_append_right _ h))
  have hinX3 : ∀ w ∈ u_ws RX3 TX3 12, w ∈ wsX3_boxesOnPallets := (fun _ h => List.mem_cons_of_mem _ (List.mem_append_left _ (List.mem_append_right _ h)))
  have hf_17 := hts (.fieldLink RX3 17 "PalletLayers" "pallets" "[LPalletLayers$Pallet;") (by decide +kernel)
  have hf_193 := hts (.fieldLink RX3 193 "PalletLayers$Pallet" "boxes" "I") (by decide +kernel)
  have hf_194 := hts (.fieldLink RX3 194 "PalletLayers$Pallet" "stop" "I") (by decide +kernel)
  have hb9 := iv_b hI
  refine lv_iconst (v := nI (0)) hx hb dX3_boxesOnPallets_0 (by decide) ?_
  refine lv_istore_n (lv' := [(2, .int (nI (0))), (0, .ref (a (0))), (1, .int (nI (1)))]) hx hb dX3_boxesOnPallets_1 rfl hl (by decide) rfl (fun ls hl => ?_)
  refine lv_aload_n hx hb dX3_boxesOnPallets_2 rfl (lv_at hl 1 rfl) ?_
  refine r_get (C := RX3) (T := TX3) (N := 12) (v := .ref (a (5))) hx hb hts hown hK.1 hc (hr9.1.1) (rfl) rfl rfl hinX3 4 (by decide) hf_17 (fun _ h9 => h9) (congrArg va_rf hr9.1.2.2.2.2.2.2.1) dX3_boxesOnPallets_3 ?_
  refine lv_astore_n (lv' := [(3, .ref (a (5))), (2, .int (nI (0))), (0, .ref (a (0))), (1, .int (nI (1)))]) hx hb dX3_boxesOnPallets_6 rfl hl (by decide) rfl (fun ls hl => ?_)
  refine lv_aload_n hx hb dX3_boxesOnPallets_7 rfl (lv_at hl 0 rfl) ?_
  refine r_alen (n := 8) (t0 := 4) hx hb hK.1 hc (hr9.1.2.2.1) (rfl) (ct_p (rfl)) rfl dX3_boxesOnPallets_8 ?_
  refine lv_istore (lv' := [(4, .int (nI (8))), (3, .ref (a (5))), (2, .int (nI (0))), (0, .ref (a (0))), (1, .int (nI (1)))]) hx hb dX3_boxesOnPallets_9 hl (by decide) rfl (fun ls hl => ?_)
  refine lv_iconst (v := nI (0)) hx hb dX3_boxesOnPallets_11 (by decide) ?_
  refine lv_istore (lv' := [(5, .int (nI (0))), (4, .int (nI (8))), (3, .ref (a (5))), (2, .int (nI (0))), (0, .ref (a (0))), (1, .int (nI (1)))]) hx hb dX3_boxesOnPallets_12 hl (by decide) rfl (fun ls hl => ?_)
  have loop14 : ∀ (fuel14 : Nat) (i : Nat) (H : Heap) (locs : List Loc) (ls : Array Slot), 8 - i < fuel14 → (i ≤ 8) → rc D g (rA lv a st.heap.size) st.heap lv a R H locs → lv_has ls 7 [(0, .ref (a (0))), (1, .int (nI (1))), (2, .int (nI (trkS M (min i (mnp M))))), (3, .ref (a (5))), (4, .int (nI (8))), (5, .int (nI (i)))] → W pr l en ({ frames := 0, cells := 0, slots := 0, locals := 0 } : Room) st mi ([.ref (a (0)), .int (nI (1))] : List Value).toArray bl me co H locs 0 0 (MQ bl (va_Qi (fun r R' => r = nI (trkS M (mnp M)) ∧ R' = R) (cB D g lv a) (rA lv a st.heap.size)) ([.ref (a (0)), .int (nI (1))] : List Value).toArray st 0 0 (rA lv a st.heap.size)) (F0 mi 14 ls []) := by
    intro fuel14
    induction fuel14 with
    | zero => intro i H locs ls hmu; exact absurd hmu (Nat.not_lt_zero _)
    | succ fuel14 ih14 =>
      intro i H locs ls hmu14 hi hc hl
      refine lv_iload hx hb dX3_boxesOnPallets_14 (lv_at hl 5 rfl) ?_
      refine lv_iload hx hb dX3_boxesOnPallets_16 (lv_at hl 4 rfl) ?_
      refine lv_icmp_ge (tgt := 59) hx hb dX3_boxesOnPallets_18 (by decide) (fun hq_1 => ?_) (fun hq_1 => ?_)
      · have hq_1 : 8 ≤ i := (nI_leI (a := 8) (b := i) (by omega) (by omega)).mp hq_1
        refine lv_iload_n hx hb dX3_boxesOnPallets_59 rfl (lv_at hl 2 rfl) ?_
        exact r_iret hx hb hr hlocks hc dX3_boxesOnPallets_60 ⟨by rw [Nat.min_eq_right (show mnp M ≤ i by omega)], rfl⟩
      · have hq_1 : ¬ (8 ≤ i) := fun z => hq_1 ((nI_leI (a := 8) (b := i) (by omega) (by omega)).mpr z)
        refine lv_aload_n hx hb dX3_boxesOnPallets_21 rfl (lv_at hl 3 rfl) ?_
        refine lv_iload hx hb dX3_boxesOnPallets_22 (lv_at hl 5 rfl) ?_
        by_cases hv : i < mnp M
        · refine r_pald (v := some (a (40 + 6 * i))) hx hb hK.1 hc (hr9.1.2.2.1) (rfl) (by decide) (by omega) dX3_boxesOnPallets_24 ((hr9.2.2.2.2.2.1 i (by omega)).trans (if_pos hv)) ?_
          refine lv_astore (lv' := [(6, .ref (a (40 + 6 * i))), (0, .ref (a (0))), (1, .int (nI (1))), (2, .int (nI (trkS M (min i (mnp M))))), (3, .ref (a (5))), (4, .int (nI (8))), (5, .int (nI (i)))]) hx hb dX3_boxesOnPallets_25 hl (by decide) rfl (fun ls hl => ?_)
          refine lv_aload hx hb dX3_boxesOnPallets_27 (lv_at hl 0 rfl) ?_
          refine lv_ifnull hx hb dX3_boxesOnPallets_29 ?_
          refine lv_iload_n hx hb dX3_boxesOnPallets_32 rfl (lv_at hl 2 rfl) ?_
          refine lv_if_eq (tgt := 45) hx hb dX3_boxesOnPallets_33 (by decide) (fun hq_2 => absurd hq_2 (by decide)) (fun hq_2 => ?_)
          refine lv_aload hx hb dX3_boxesOnPallets_36 (lv_at hl 0 rfl) ?_
          refine r_get (C := RX1) (T := TX1) (N := 10) (v := .int (stI (ps M i))) hx hb hts hown hK.1 hc ((hr9.2.2.2.1 i (by omega)).1.1) (sh_P (by omega)) rfl rfl hinX1 9 (by decide) hf_194 (fun _ h9 => h9) (congrArg Value.int (hC.2.2.2.2.1 i (by omega)).2.2.2.2) dX3_boxesOnPallets_38 ?_
          refine lv_iconst (v := (-1)) hx hb dX3_boxesOnPallets_41 (by decide) ?_
          refine lv_icmp_eq (tgt := 53) hx hb dX3_boxesOnPallets_42 (by decide) (fun hq_3 => ?_) (fun hq_3 => ?_)
          · have hps : ps M i = 0 := stI_0 (iv_p hI hv).2 hq_3
            refine lv_iinc (v := nI (i + 1)) (lv' := [(5, .int (nI (i + 1))), (6, .ref (a (40 + 6 * i))), (0, .ref (a (0))), (1, .int (nI (1))), (2, .int (nI (trkS M (min i (mnp M))))), (3, .ref (a (5))), (4, .int (nI (8)))]) hx hb dX3_boxesOnPallets_53 hl (k := 6) rfl (nI_inc _ 1) (by decide) rfl (fun ls hl => ?_)
            refine lv_goto (tgt := 14) hx hb dX3_boxesOnPallets_56 (by decide) ?_
            rw [show trkS M (min i (mnp M)) = trkS M (min (i + 1) (mnp M)) from trkS_s3 hv hps] at hl
            exact ih14 (i + 1) _ _ ls (by omega) (by omega) hc (lv_sub hl [2, 3, 4, 5, 6, 0] rfl)
          · have hps : ¬ ps M i = 0 := fun z => hq_3 (by rw [z]; rfl)
            refine lv_iload_n hx hb dX3_boxesOnPallets_45 rfl (lv_at hl 3 rfl) ?_
            refine lv_aload hx hb dX3_boxesOnPallets_46 (lv_at hl 0 rfl) ?_
            refine r_get (C := RX1) (T := TX1) (N := 10) (v := .int (nI (bS M i (pn M i)))) hx hb hts hown hK.1 hc ((hr9.2.2.2.1 i (by omega)).1.1) (sh_P (by omega)) rfl rfl hinX1 8 (by decide) hf_193 (fun _ h9 => h9) (congrArg Value.int (hC.2.2.2.2.1 i (by omega)).2.2.2.1) dX3_boxesOnPallets_48 ?_
            refine nv_iadd hx hb dX3_boxesOnPallets_51 ?_
            refine lv_istore_n (lv' := [(2, .int (nI ((trkS M (min i (mnp M))) + (bS M i (pn M i))))), (6, .ref (a (40 + 6 * i))), (0, .ref (a (0))), (1, .int (nI (1))), (3, .ref (a (5))), (4, .int (nI (8))), (5, .int (nI (i)))]) hx hb dX3_boxesOnPallets_52 rfl hl (by decide) rfl (fun ls hl => ?_)
            refine lv_iinc (v := nI (i + 1)) (lv' := [(5, .int (nI (i + 1))), (2, .int (nI ((trkS M (min i (mnp M))) + (bS M i (pn M i))))), (6, .ref (a (40 + 6 * i))), (0, .ref (a (0))), (1, .int (nI (1))), (3, .ref (a (5))), (4, .int (nI (8)))]) hx hb dX3_boxesOnPallets_53 hl (k := 6) rfl (nI_inc _ 1) (by decide) rfl (fun ls hl => ?_)
            refine lv_goto (tgt := 14) hx hb dX3_boxesOnPallets_56 (by decide) ?_
            rw [show (trkS M (min i (mnp M))) + (bS M i (pn M i)) = trkS M (min (i + 1) (mnp M)) from trkS_s1 hv hps] at hl
            exact ih14 (i + 1) _ _ ls (by omega) (by omega) hc (lv_sub hl [3, 4, 1, 5, 6, 0] rfl)
        · refine r_pald (v := none) hx hb hK.1 hc (hr9.1.2.2.1) (rfl) (by decide) (by omega) dX3_boxesOnPallets_24 ((hr9.2.2.2.2.2.1 i (by omega)).trans (if_neg hv)) ?_
          refine lv_astoreN (lv' := [(6, .null), (0, .ref (a (0))), (1, .int (nI (1))), (2, .int (nI (trkS M (min i (mnp M))))), (3, .ref (a (5))), (4, .int (nI (8))), (5, .int (nI (i)))]) hx hb dX3_boxesOnPallets_25 hl (by decide) rfl (fun ls hl => ?_)
          refine lv_aloadN hx hb dX3_boxesOnPallets_27 (lv_at hl 0 rfl) ?_
          refine lv_ifnullN (tgt := 53) hx hb dX3_boxesOnPallets_29 (by decide) ?_
          refine lv_iinc (v := nI (i + 1)) (lv' := [(5, .int (nI (i + 1))), (6, .null), (0, .ref (a (0))), (1, .int (nI (1))), (2, .int (nI (trkS M (min i (mnp M))))), (3, .ref (a (5))), (4, .int (nI (8)))]) hx hb dX3_boxesOnPallets_53 hl (k := 6) rfl (nI_inc _ 1) (by decide) rfl (fun ls hl => ?_)
          refine lv_goto (tgt := 14) hx hb dX3_boxesOnPallets_56 (by decide) ?_
          rw [show trkS M (min i (mnp M)) = trkS M (min (i + 1) (mnp M)) from trkS_s2 hv] at hl
          exact ih14 (i + 1) _ _ ls (by omega) (by omega) hc (lv_sub hl [2, 3, 4, 5, 6, 0] rfl)
  rw [show nI 0 = nI (trkS M (min 0 (mnp M))) by rw [Nat.zero_min]; rfl] at hl
  exact loop14 (8 + 1) 0 _ _ ls (by omega) (by decide) hc (lv_sub hl [4, 5, 3, 2, 1, 0] rfl)
set_option maxRecDepth 100000 in
set_option maxHeartbeats 4000000 in
theorem c_X3_count (l : Launch) (D : va_G) (g : Nat → ClassId) (lv : Nat → Bool) (a : Nat → Nat) (R : RS) (M : MS) (hr9 : PCr lv a R M) (hC : PC R M) (hI : Inv M) (x : Int32) : cI l D g lv a yX3_count wsX3_count ({ frames := 1, cells := 0, slots := 0, locals := 26 } : Room) [.ref (a (0)), .int (x)] R (fun r R' => r = oCount M x ∧ R' = R) 0 0 := by
  refine c_body (cc := cX3_count) (maxL := 2) (ret := (some .int)) (by decide) rfl (Nat.le_of_ble_eq_true rfl) ?_
  intro pr en st mi bl me co ls B hl
  obtain ⟨hx, hb, hr, hml, hown, hts, hlocks, hnm, hK, hZ, hc, hA⟩ := B
  have hl : lv_has ls 2 [(0, .ref (a (0))), (1, .int (x))] := hl
  have hinX2 : ∀ w ∈ u_ws RX2 TX2 9, w ∈ wsX3_count := (fun _ h => List.mem_cons_of_mem _ (List.mem_append_left _ (List.mem_append_right _ h)))
  have hinX3 : ∀ w ∈ u_ws RX3 TX3 12, w ∈ wsX3_count := (fun _ h => List.mem_cons_of_mem _ (List.mem_append_left _ (List.mem_append_left _ (List.mem_append_right _ h))))
  have hf_25 := hts (.fieldLink RX3 25 "PalletLayers" "kindCount" "I") (by decide +kernel)
  have hf_29 := hts (.fieldLink RX3 29 "PalletLayers" "palletCount" "I") (by decide +kernel)
  have hf_32 := hts (.fieldLink RX3 32 "PalletLayers" "aboardCount" "I") (by decide +kernel)
  have hf_64 := hts (.fieldLink RX3 64 "PalletLayers" "seeker" "LPalletLayers$PatternSearch;") (by decide +kernel)
  have hf_224 := hts (.fieldLink RX3 224 "PalletLayers$PatternSearch" "stepsMade" "I") (by decide +kernel)
  have hb9 := iv_b hI
  refine lv_iload_n hx hb dX3_count_0 rfl (lv_at hl 1 rfl) ?_
  by_cases hsw : isR x 0 5
  rotate_left
  · refine lv_tableOut (tgt := 75) hx hb dX3_count_1 (by have h9 := hsw; unfold isR at h9; omega) (by decide) ?_
    refine lv_iconst (v := (-1)) hx hb dX3_count_75 (by decide) ?_
    exact r_iret hx hb hr hlocks hc dX3_count_76 ⟨by unfold oCount; rw [if_neg hsw], rfl⟩
  obtain ⟨z, hz0, hz1, hz2, rfl⟩ := isR_ex hsw
  have hzc : z = 0 ∨ z = 1 ∨ z = 2 ∨ z = 3 ∨ z = 4 ∨ z = 5 := by omega
  rcases hzc with rfl | rfl | rfl | rfl | rfl | rfl
  · refine lv_tableIn (off := 39) (tgt := 40) hx hb dX3_count_1 (by decide) (by decide) rfl (by decide) ?_
    refine lv_aload_n hx hb dX3_count_40 rfl (lv_at hl 0 rfl) ?_
    refine r_get (C := RX3) (T := TX3) (N := 12) (v := .int (nI (mnk M))) hx hb hts hown hK.1 hc (hr9.1.1) (rfl) rfl rfl hinX3 6 (by decide) hf_25 (fun _ h9 => h9) (congrArg Value.int hC.1.2.2.1) dX3_count_41 ?_
    exact r_iret hx hb hr hlocks hc dX3_count_44 ⟨by unfold oCount; rw [if_pos hsw]; rfl, rfl⟩
  · refine lv_tableIn (off := 44) (tgt := 45) hx hb dX3_count_1 (by decide) (by decide) rfl (by decide) ?_
    refine lv_aload_n hx hb dX3_count_45 rfl (lv_at hl 0 rfl) ?_
    refine r_get (C := RX3) (T := TX3) (N := 12) (v := .int (nI (mnp M))) hx hb hts hown hK.1 hc (hr9.1.1) (rfl) rfl rfl hinX3 7 (by decide) hf_29 (fun _ h9 => h9) (congrArg Value.int hC.1.2.2.2.1) dX3_count_46 ?_
    exact r_iret hx hb hr hlocks hc dX3_count_49 ⟨by unfold oCount; rw [if_pos hsw]; rfl, rfl⟩
  · refine lv_tableIn (off := 49) (tgt := 50) hx hb dX3_count_1 (by decide) (by decide) rfl (by decide) ?_
    refine lv_aload_n hx hb dX3_count_50 rfl (lv_at hl 0 rfl) ?_
    refine r_get (C := RX3) (T := TX3) (N := 12) (v := .int (nI (mna M))) hx hb hts hown hK.1 hc (hr9.1.1) (rfl) rfl rfl hinX3 8 (by decide) hf_32 (fun _ h9 => h9) (congrArg Value.int hC.1.2.2.2.2.1) dX3_count_51 ?_
    exact r_iret hx hb hr hlocks hc dX3_count_54 ⟨by unfold oCount; rw [if_pos hsw]; rfl, rfl⟩
  · refine lv_tableIn (off := 54) (tgt := 55) hx hb dX3_count_1 (by decide) (by decide) rfl (by decide) ?_
    refine lv_aload_n hx hb dX3_count_55 rfl (lv_at hl 0 rfl) ?_
    refine lv_iconst (v := nI (0)) hx hb dX3_count_56 (by decide) ?_
    refine r_calli hc hA (va_runV (As := [.int (nI (0))]) (rest := []) ⟨hx, hb, hml, hown, hts⟩ (c_X3_boxesOnPallets_0 l D g lv a R M hr9 hC hI _) (cwV 1 hts gX3_count_X3_boxesOnPallets rfl rfl rfl (by decide +kernel) ⟨Nat.le_of_ble_eq_true rfl, Nat.le_of_ble_eq_true rfl⟩) (r_preV hK hZ hc hA (hr9.1.1) (rfl) rfl) rfl rfl hl.1 rfl (lv_room (Nat.le_of_ble_eq_true rfl)) dX3_count_57 ⟨Nat.le_of_ble_eq_true rfl, Nat.le_of_ble_eq_true rfl⟩) (fun r R' H locs hp hc => ?_)
    obtain ⟨hre, hRe⟩ := hp
    rw [hRe] at hc
    rw [hre]
    exact r_iret hx hb hr hlocks hc dX3_count_60 ⟨by unfold oCount; rw [if_pos hsw]; rfl, rfl⟩
  · refine lv_tableIn (off := 60) (tgt := 61) hx hb dX3_count_1 (by decide) (by decide) rfl (by decide) ?_
    refine lv_aload_n hx hb dX3_count_61 rfl (lv_at hl 0 rfl) ?_
    refine lv_iconst (v := nI (1)) hx hb dX3_count_62 (by decide) ?_
    refine r_calli hc hA (va_runV (As := [.int (nI (1))]) (rest := []) ⟨hx, hb, hml, hown, hts⟩ (c_X3_boxesOnPallets_1 l D g lv a R M hr9 hC hI _) (cwV 1 hts gX3_count_X3_boxesOnPallets rfl rfl rfl (by decide +kernel) ⟨Nat.le_of_ble_eq_true rfl, Nat.le_of_ble_eq_true rfl⟩) (r_preV hK hZ hc hA (hr9.1.1) (rfl) rfl) rfl rfl hl.1 rfl (lv_room (Nat.le_of_ble_eq_true rfl)) dX3_count_63 ⟨Nat.le_of_ble_eq_true rfl, Nat.le_of_ble_eq_true rfl⟩) (fun r R' H locs hp hc => ?_)
    obtain ⟨hre, hRe⟩ := hp
    rw [hRe] at hc
    rw [hre]
    exact r_iret hx hb hr hlocks hc dX3_count_66 ⟨by unfold oCount; rw [if_pos hsw]; rfl, rfl⟩
  · refine lv_tableIn (off := 66) (tgt := 67) hx hb dX3_count_1 (by decide) (by decide) rfl (by decide) ?_
    refine lv_aload_n hx hb dX3_count_67 rfl (lv_at hl 0 rfl) ?_
    refine r_get (C := RX3) (T := TX3) (N := 12) (v := .ref (a (1))) hx hb hts hown hK.1 hc (hr9.1.1) (rfl) rfl rfl hinX3 2 (by decide) hf_64 (fun _ h9 => h9) (congrArg va_rf hr9.1.2.2.2.2.1) dX3_count_68 ?_
    refine r_get (C := RX2) (T := TX2) (N := 9) (v := .int (nI (mst M))) hx hb hts hown hK.1 hc (hr9.2.1.1) (rfl) rfl rfl hinX2 6 (by decide) hf_224 (fun _ h9 => h9) (congrArg Value.int hC.1.2.2.2.2.2.2.2.2) dX3_count_71 ?_
    exact r_iret hx hb hr hlocks hc dX3_count_74 ⟨by unfold oCount; rw [if_pos hsw]; rfl, rfl⟩
set_option maxRecDepth 100000 in
set_option maxHeartbeats 4000000 in
theorem c_X3_supportedCells (l : Launch) (D : va_G) (g : Nat → ClassId) (lv : Nat → Bool) (a : Nat → Nat) (R : RS) (M : MS) (hr9 : PCr lv a R M) (hC : PC R M) (hI : Inv M) (k i p l9 : Nat) (hk : k < mnk M) (hi : i < kb M k) (hp : p < mnp M) (hl0 : l9 ≤ pn M p) : cI l D g lv a yX3_supportedCells wsX3_supportedCells ({ frames := 2, cells := 0, slots := 0, locals := 43 } : Room) [.ref (a (40 + 6 * p)), .int (nI (l9)), .long (lN (bx M k i))] R (fun r R' => r = nI (spt M k i p l9) ∧ R' = R) 0 0 := by
  refine c_body (cc := cX3_supportedCells) (maxL := 6) (ret := (some .int)) (by decide) rfl (Nat.le_of_ble_eq_true rfl) ?_
  intro pr en st mi bl me co ls B hl
  obtain ⟨hx, hb, hr, hml, hown, hts, hlocks, hnm, hK, hZ, hc, hA⟩ := B
  have hl : lv_has ls 6 [(0, .ref (a (40 + 6 * p))), (1, .int (nI (l9))), (2, .long (lN (bx M k i)))] := hl
  have hb9 := iv_b hI
  have hp9 := iv_p hI hp
  have hbx := bx_lt hI hk hi
  refine lv_iload_n hx hb dX3_supportedCells_0 rfl (lv_at hl 1 rfl) ?_
  refine lv_if_ne (tgt := 8) hx hb dX3_supportedCells_1 (by decide) (fun hq_1 => ?_) (fun hq_1 => ?_)
  · have hq_1 : ¬ (l9 = 0) := fun z => hq_1 ((nI_eq (a := l9) (b := 0) (by omega) (by omega)).mpr z)
    have hl1 : ¬ l9 = 0 := hq_1
    have hlk := iv_l hI hp (show l9 - 1 < pn M p by omega)
    have hcv := cov_lt hI hlk.1 (lb M p (l9 - 1)) (by omega)
    refine lv_lload_n hx hb dX3_supportedCells_8 rfl (lv_at hl 2 rfl) ?_
    refine lv_aload_n hx hb dX3_supportedCells_9 rfl (lv_at hl 0 rfl) ?_
    refine lv_iload_n hx hb dX3_supportedCells_10 rfl (lv_at hl 1 rfl) ?_
    refine lv_iconst (v := nI (1)) hx hb dX3_supportedCells_11 (by decide) ?_
    refine nv_isub hx hb dX3_supportedCells_12 (by omega) ?_
    refine r_calll hc hA (va_runV (As := [.int (nI (l9 - 1))]) (rest := [.long (lN (bx M k i))]) ⟨hx, hb, hml, hown, hts⟩ (c_X1_coveredIn l D g lv a R M p (by omega) (hr9.2.2.2.1 p hp) (hC.2.2.2.2.1 p hp) hp9.1 (hC.2.2.2.2.2.1 p hp) (l9 - 1) (by omega) _) (cwV 1 hts gX3_supportedCells_X1_coveredIn rfl rfl rfl (by decide +kernel) ⟨Nat.le_of_ble_eq_true rfl, Nat.le_of_ble_eq_true rfl⟩) (r_preV hK hZ hc hA ((hr9.2.2.2.1 p (by omega)).1.1) (sh_P (by omega)) rfl) rfl rfl hl.1 rfl (lv_room (Nat.le_of_ble_eq_true rfl)) dX3_supportedCells_13 ⟨Nat.le_of_ble_eq_true rfl, Nat.le_of_ble_eq_true rfl⟩) (fun r R' H locs hp hc => ?_)
    obtain ⟨hre, hRe⟩ := hp
    rw [hRe] at hc
    rw [hre]
    refine nv_land hx hb dX3_supportedCells_16 (by omega) (by omega) ?_
    refine lv_lstore (lv' := [(4, .long (lN ((bx M k i) &&& (cov M (lk M p (l9 - 1)) (lb M p (l9 - 1)))))), (0, .ref (a (40 + 6 * p))), (1, .int (nI (l9))), (2, .long (lN (bx M k i)))]) hx hb dX3_supportedCells_17 hl (by decide) rfl (fun ls hl => ?_)
    refine lv_lload hx hb dX3_supportedCells_19 (lv_at hl 0 rfl) ?_
    refine r_calli hc hA (va_runS (As := [.long (lN ((bx M k i) &&& (cov M (lk M p (l9 - 1)) (lb M p (l9 - 1)))))]) (rest := []) ⟨hx, hb, hml, hown, hts⟩ (c_J13_bitCount_95d88 l D g lv a R ((bx M k i) &&& (cov M (lk M p (l9 - 1)) (lb M p (l9 - 1)))) (Nat.lt_of_le_of_lt Nat.and_le_left (by omega)) _) (va_cwS 1 hts gX3_supportedCells_J13_bitCount_95d88 rfl rfl rfl (by decide +kernel) ⟨Nat.le_of_ble_eq_true rfl, Nat.le_of_ble_eq_true rfl⟩) (r_preS hK hZ hc hA) rfl rfl hl.1 rfl (lv_room (Nat.le_of_ble_eq_true rfl)) dX3_supportedCells_21 ⟨Nat.le_of_ble_eq_true rfl, Nat.le_of_ble_eq_true rfl⟩) (fun r R' H locs hp hc => ?_)
    obtain ⟨hre, hRe⟩ := hp
    rw [hRe] at hc
    rw [hre]
    exact r_iret hx hb hr hlocks hc dX3_supportedCells_24 ⟨by unfold spt; rw [if_neg hl1, spS_cov hI hlk.1 _ hlk.2.2], rfl⟩
  · have hq_1 : l9 = 0 := (nI_eq (a := l9) (b := 0) (by omega) (by omega)).mp hq_1
    have hl1 : l9 = 0 := hq_1
    refine lv_lload_n hx hb dX3_supportedCells_4 rfl (lv_at hl 2 rfl) ?_
    refine lv_goto (tgt := 17) hx hb dX3_supportedCells_5 (by decide) ?_
    refine lv_lstore (lv' := [(4, .long (lN (bx M k i))), (0, .ref (a (40 + 6 * p))), (1, .int (nI (l9))), (2, .long (lN (bx M k i)))]) hx hb dX3_supportedCells_17 hl (by decide) rfl (fun ls hl => ?_)
    refine lv_lload hx hb dX3_supportedCells_19 (lv_at hl 0 rfl) ?_
    refine r_calli hc hA (va_runS (As := [.long (lN (bx M k i))]) (rest := []) ⟨hx, hb, hml, hown, hts⟩ (c_J13_bitCount_95d88 l D g lv a R (bx M k i) (by omega) _) (va_cwS 1 hts gX3_supportedCells_J13_bitCount_95d88 rfl rfl rfl (by decide +kernel) ⟨Nat.le_of_ble_eq_true rfl, Nat.le_of_ble_eq_true rfl⟩) (r_preS hK hZ hc hA) rfl rfl hl.1 rfl (lv_room (Nat.le_of_ble_eq_true rfl)) dX3_supportedCells_21 ⟨Nat.le_of_ble_eq_true rfl, Nat.le_of_ble_eq_true rfl⟩) (fun r R' H locs hp hc => ?_)
    obtain ⟨hre, hRe⟩ := hp
    rw [hRe] at hc
    rw [hre]
    exact r_iret hx hb hr hlocks hc dX3_supportedCells_24 ⟨by unfold spt; rw [if_pos hl1, bx_pc hI hk hi], rfl⟩
