set_option maxRecDepth 100000 in
set_option maxHeartbeats 4000000 in
theorem c_X1_clear (l : Launch) (D : va_G) (g : Nat → ClassId) (lv : Nat → Bool) (a : Nat → Nat) (R : RS) (p : Nat) (hp : p < 8) (hpr : PR lv a R p) : cV l D g lv a yX1_clear wsX1_clear ({ frames := 0, cells := 0, slots := 0, locals := 0 } : Room) [.ref (a (40 + 6 * p))] R (fun R' => R' = clS R p) 0 0 := by
  refine c_body (cc := cX1_clear) (maxL := 1) (ret := none) (by decide) rfl (Nat.le_of_ble_eq_true rfl) ?_
  intro pr en st mi bl me co ls B hl
  obtain ⟨hx, hb, hr, hml, hown, hts, hlocks, hnm, hK, hZ, hc, hA⟩ := B
  have hl : lv_has ls 1 [(0, .ref (a (40 + 6 * p)))] := hl
  have hinX1 : ∀ w ∈ u_ws RX1 TX1 10, w ∈ wsX1_clear := (fun _ h => List.mem_cons_of_mem _ (List.mem_append_right _ h))
  have hf_28 := hts (.fieldLink RX1 28 "PalletLayers$Pallet" "layers" "I") (by decide +kernel)
  have hf_32 := hts (.fieldLink RX1 32 "PalletLayers$Pallet" "height" "I") (by decide +kernel)
  have hf_35 := hts (.fieldLink RX1 35 "PalletLayers$Pallet" "weight" "I") (by decide +kernel)
  have hf_38 := hts (.fieldLink RX1 38 "PalletLayers$Pallet" "boxes" "I") (by decide +kernel)
  have hf_41 := hts (.fieldLink RX1 41 "PalletLayers$Pallet" "stop" "I") (by decide +kernel)
  refine lv_aload_n hx hb dX1_clear_0 rfl (lv_at hl 0 rfl) ?_
  refine lv_iconst (v := nI (0)) hx hb dX1_clear_1 (by decide) ?_
  refine r_put (C := RX1) (T := TX1) (N := 10) (R' := sfi R (40 + 6 * p) 5 (nI (0))) hx hb hts hown hK.1 hc (hpr.1.1) (sh_P (by omega)) rfl rfl hinX1 tyX1 tyX1_ok nmX1 5 (by decide) hf_28 (fun _ h9 => h9) rfl (tyX1_ok 5 (by decide)) rfl rfl dX1_clear_2 (fds_sfi (by decide) (by decide)) (fun _ h9 => ct_sfi h9) (fun H locs hc => ?_)
  refine lv_aload_n hx hb dX1_clear_5 rfl (lv_at hl 0 rfl) ?_
  refine lv_iconst (v := nI (0)) hx hb dX1_clear_6 (by decide) ?_
  refine r_put (C := RX1) (T := TX1) (N := 10) (R' := sfi (sfi R (40 + 6 * p) 5 (nI (0))) (40 + 6 * p) 6 (nI (0))) hx hb hts hown hK.1 hc (hpr.1.1) (sh_P (by omega)) rfl rfl hinX1 tyX1 tyX1_ok nmX1 6 (by decide) hf_32 (fun _ h9 => h9) rfl (tyX1_ok 6 (by decide)) rfl rfl dX1_clear_7 (fds_sfi (by decide) (by decide)) (fun _ h9 => ct_sfi h9) (fun H locs hc => ?_)
  refine lv_aload_n hx hb dX1_clear_10 rfl (lv_at hl 0 rfl) ?_
  refine lv_iconst (v := nI (0)) hx hb dX1_clear_11 (by decide) ?_
  refine r_put (C := RX1) (T := TX1) (N := 10) (R' := sfi (sfi (sfi R (40 + 6 * p) 5 (nI (0))) (40 + 6 * p) 6 (nI (0))) (40 + 6 * p) 7 (nI (0))) hx hb hts hown hK.1 hc (hpr.1.1) (sh_P (by omega)) rfl rfl hinX1 tyX1 tyX1_ok nmX1 7 (by decide) hf_35 (fun _ h9 => h9) rfl (tyX1_ok 7 (by decide)) rfl rfl dX1_clear_12 (fds_sfi (by decide) (by decide)) (fun _ h9 => ct_sfi h9) (fun H locs hc => ?_)
  refine lv_aload_n hx hb dX1_clear_15 rfl (lv_at hl 0 rfl) ?_
  refine lv_iconst (v := nI (0)) hx hb dX1_clear_16 (by decide) ?_
  refine r_put (C := RX1) (T := TX1) (N := 10) (R' := sfi (sfi (sfi (sfi R (40 + 6 * p) 5 (nI (0))) (40 + 6 * p) 6 (nI (0))) (40 + 6 * p) 7 (nI (0))) (40 + 6 * p) 8 (nI (0))) hx hb hts hown hK.1 hc (hpr.1.1) (sh_P (by omega)) rfl rfl hinX1 tyX1 tyX1_ok nmX1 8 (by decide) hf_38 (fun _ h9 => h9) rfl (tyX1_ok 8 (by decide)) rfl rfl dX1_clear_17 (fds_sfi (by decide) (by decide)) (fun _ h9 => ct_sfi h9) (fun H locs hc => ?_)
  refine lv_aload_n hx hb dX1_clear_20 rfl (lv_at hl 0 rfl) ?_
  refine lv_iconst (v := (-1)) hx hb dX1_clear_21 (by decide) ?_
  refine r_put (C := RX1) (T := TX1) (N := 10) (R' := sfi (sfi (sfi (sfi (sfi R (40 + 6 * p) 5 (nI (0))) (40 + 6 * p) 6 (nI (0))) (40 + 6 * p) 7 (nI (0))) (40 + 6 * p) 8 (nI (0))) (40 + 6 * p) 9 ((-1))) hx hb hts hown hK.1 hc (hpr.1.1) (sh_P (by omega)) rfl rfl hinX1 tyX1 tyX1_ok nmX1 9 (by decide) hf_41 (fun _ h9 => h9) rfl (tyX1_ok 9 (by decide)) rfl rfl dX1_clear_22 (fds_sfi (by decide) (by decide)) (fun _ h9 => ct_sfi h9) (fun H locs hc => ?_)
  exact r_vret hx hb hr hlocks hc dX1_clear_25 rfl
set_option maxRecDepth 100000 in
set_option maxHeartbeats 4000000 in
theorem c_X1_coveredIn (l : Launch) (D : va_G) (g : Nat → ClassId) (lv : Nat → Bool) (a : Nat → Nat) (R : RS) (M : MS) (p : Nat) (hp : p < 8) (hpr : PR lv a R p) (hpf : PF R M p) (h10 : pn M p ≤ 10) (hpl : ∀ l, l < pn M p → PL R M p l) (i : Nat) (hi : i < pn M p) : cL l D g lv a yX1_coveredIn wsX1_coveredIn ({ frames := 1, cells := 0, slots := 0, locals := 22 } : Room) [.ref (a (40 + 6 * p)), .int (nI (i))] R (fun r R' => r = lN (cov M (lk M p i) (lb M p i)) ∧ R' = R) 0 0 := by
  refine c_body (cc := cX1_coveredIn) (maxL := 2) (ret := (some .long)) (by decide) rfl (Nat.le_of_ble_eq_true rfl) ?_
  intro pr en st mi bl me co ls B hl
  obtain ⟨hx, hb, hr, hml, hown, hts, hlocks, hnm, hK, hZ, hc, hA⟩ := B
  have hl : lv_has ls 2 [(0, .ref (a (40 + 6 * p))), (1, .int (nI (i)))] := hl
  have hinX1 : ∀ w ∈ u_ws RX1 TX1 10, w ∈ wsX1_coveredIn := (fun _ h => List.mem_cons_of_mem _ (List.mem_append_left _ (List.mem_append_right _ h)))
  have hf_24 := hts (.fieldLink RX1 24 "PalletLayers$Pallet" "coveredOf" "[J") (by decide +kernel)
  have hf_28 := hts (.fieldLink RX1 28 "PalletLayers$Pallet" "layers" "I") (by decide +kernel)
  refine lv_iload_n hx hb dX1_coveredIn_0 rfl (lv_at hl 1 rfl) ?_
  refine lv_iconst (v := nI (0)) hx hb dX1_coveredIn_1 (by decide) ?_
  refine lv_aload_n hx hb dX1_coveredIn_2 rfl (lv_at hl 0 rfl) ?_
  refine r_get (C := RX1) (T := TX1) (N := 10) (v := .int (nI (pn M p))) hx hb hts hown hK.1 hc (hpr.1.1) (sh_P (by omega)) rfl rfl hinX1 5 (by decide) hf_28 (fun _ h9 => h9) (congrArg Value.int hpf.1) dX1_coveredIn_3 ?_
  refine lv_iconst (v := nI (1)) hx hb dX1_coveredIn_6 (by decide) ?_
  refine lv_isub hx hb dX1_coveredIn_7 ?_
  refine r_calli hc hA (va_runSN (As := [.int (nI (i)), .int (nI (0)), .int (nI (pn M p) - nI 1)]) (rest := []) ⟨hx, hb, hml, hown, hts⟩ (c_X3_isOutside l D g lv a R (nI (i)) (nI (0)) (nI (pn M p) - nI 1) _) ⟨va_cnB 3 hts gX1_coveredIn_X3_isOutside_n52 rfl rfl rfl hK.2.1.2.1 (hts (.initialized RX3) (by decide +kernel)) (by decide +kernel) ⟨Nat.le_of_ble_eq_true rfl, Nat.le_of_ble_eq_true rfl⟩, hts (.static yX3_isOutside) (by decide +kernel), trivial⟩ (r_preS hK hZ hc hA) rfl rfl hl.1 rfl (lv_room (Nat.le_of_ble_eq_true rfl)) dX1_coveredIn_8 ⟨Nat.le_of_ble_eq_true rfl, Nat.le_of_ble_eq_true rfl⟩) (fun r R' H locs hp hc => ?_)
  obtain ⟨hRe, ⟨hw8, rfl⟩ | ⟨hw8, rfl⟩⟩ := hp
  · rw [hRe] at hc
    refine lv_if_eq (tgt := 18) hx hb dX1_coveredIn_11 (by decide) (fun hq_3 => ?_) (fun hq_3 => absurd hq_3 (by decide))
    refine lv_aload_n hx hb dX1_coveredIn_18 rfl (lv_at hl 0 rfl) ?_
    refine r_get (C := RX1) (T := TX1) (N := 10) (v := .ref (a (45 + 6 * p))) hx hb hts hown hK.1 hc (hpr.1.1) (sh_P (by omega)) rfl rfl hinX1 4 (by decide) hf_24 (fun _ h9 => h9) (congrArg va_rf hpr.2.2.2.2.2) dX1_coveredIn_19 ?_
    refine lv_iload_n hx hb dX1_coveredIn_22 rfl (lv_at hl 1 rfl) ?_
    refine r_lald (v := lN (cov M (lk M p i) (lb M p i))) hx hb hK.1 hc (hpr.1.2.2.2.2.2) (sh_Pl (by omega)) (by decide) (by omega) dX1_coveredIn_23 (hpl i (by omega)).2.2.2.2 ?_
    exact r_lret hx hb hr hlocks hc dX1_coveredIn_24 ⟨rfl, rfl⟩
  · rw [hRe] at hc
    exact absurd ((in_iff (by omega)).mpr ((isN_nI (by omega)).mpr hi)) hw8
set_option maxRecDepth 100000 in
set_option maxHeartbeats 4000000 in
theorem c_X1_kindBits (l : Launch) (D : va_G) (g : Nat → ClassId) (lv : Nat → Bool) (a : Nat → Nat) (R : RS) (M : MS) (p : Nat) (hp : p < 8) (hpr : PR lv a R p) (hpf : PF R M p) (h10 : pn M p ≤ 10) (hpl : ∀ l, l < pn M p → PL R M p l) : cI l D g lv a yX1_kindBits wsX1_kindBits ({ frames := 0, cells := 0, slots := 0, locals := 0 } : Room) [.ref (a (40 + 6 * p))] R (fun r R' => r = kbit M p (pn M p) ∧ R' = R) 0 0 := by
  refine c_body (cc := cX1_kindBits) (maxL := 3) (ret := (some .int)) (by decide) rfl (Nat.le_of_ble_eq_true rfl) ?_
  intro pr en st mi bl me co ls B hl
  obtain ⟨hx, hb, hr, hml, hown, hts, hlocks, hnm, hK, hZ, hc, hA⟩ := B
  have hl : lv_has ls 3 [(0, .ref (a (40 + 6 * p)))] := hl
  have hinX1 : ∀ w ∈ u_ws RX1 TX1 10, w ∈ wsX1_kindBits := (fun _ h => List.mem_cons_of_mem _ (List.mem_append_left _ (List.mem_append_right _ h)))
  have hf_9 := hts (.fieldLink RX1 9 "PalletLayers$Pallet" "kindOf" "[I") (by decide +kernel)
  have hf_28 := hts (.fieldLink RX1 28 "PalletLayers$Pallet" "layers" "I") (by decide +kernel)
  refine lv_iconst (v := nI (0)) hx hb dX1_kindBits_0 (by decide) ?_
  refine lv_istore_n (lv' := [(1, .int (nI (0))), (0, .ref (a (40 + 6 * p)))]) hx hb dX1_kindBits_1 rfl hl (by decide) rfl (fun ls hl => ?_)
  refine lv_iconst (v := nI (0)) hx hb dX1_kindBits_2 (by decide) ?_
  refine lv_istore_n (lv' := [(2, .int (nI (0))), (1, .int (nI (0))), (0, .ref (a (40 + 6 * p)))]) hx hb dX1_kindBits_3 rfl hl (by decide) rfl (fun ls hl => ?_)
  have loop4 : ∀ (fuel4 : Nat) (i : Nat) (H : Heap) (locs : List Loc) (ls : Array Slot), pn M p - i < fuel4 → (i ≤ pn M p) → rc D g (rA lv a st.heap.size) st.heap lv a R H locs → lv_has ls 3 [(0, .ref (a (40 + 6 * p))), (1, .int (kbit M p i)), (2, .int (nI (i)))] → W pr l en ({ frames := 0, cells := 0, slots := 0, locals := 0 } : Room) st mi ([.ref (a (40 + 6 * p))] : List Value).toArray bl me co H locs 0 0 (MQ bl (va_Qi (fun r R' => r = kbit M p (pn M p) ∧ R' = R) (cB D g lv a) (rA lv a st.heap.size)) ([.ref (a (40 + 6 * p))] : List Value).toArray st 0 0 (rA lv a st.heap.size)) (F0 mi 4 ls []) := by
    intro fuel4
    induction fuel4 with
    | zero => intro i H locs ls hmu; exact absurd hmu (Nat.not_lt_zero _)
    | succ fuel4 ih4 =>
      intro i H locs ls hmu4 hi hc hl
      refine lv_iload_n hx hb dX1_kindBits_4 rfl (lv_at hl 2 rfl) ?_
      refine lv_aload_n hx hb dX1_kindBits_5 rfl (lv_at hl 0 rfl) ?_
      refine r_get (C := RX1) (T := TX1) (N := 10) (v := .int (nI (pn M p))) hx hb hts hown hK.1 hc (hpr.1.1) (sh_P (by omega)) rfl rfl hinX1 5 (by decide) hf_28 (fun _ h9 => h9) (congrArg Value.int hpf.1) dX1_kindBits_6 ?_
      refine lv_icmp_ge (tgt := 29) hx hb dX1_kindBits_9 (by decide) (fun hq_1 => ?_) (fun hq_1 => ?_)
      · have hq_1 : (pn M p) ≤ i := (nI_leI (a := (pn M p)) (b := i) (by omega) (by omega)).mp hq_1
        refine lv_iload_n hx hb dX1_kindBits_29 rfl (lv_at hl 1 rfl) ?_
        exact r_iret hx hb hr hlocks hc dX1_kindBits_30 ⟨by rw [show i = pn M p by omega], rfl⟩
      · have hq_1 : ¬ ((pn M p) ≤ i) := fun z => hq_1 ((nI_leI (a := (pn M p)) (b := i) (by omega) (by omega)).mpr z)
        refine lv_iload_n hx hb dX1_kindBits_12 rfl (lv_at hl 1 rfl) ?_
        refine lv_iconst (v := nI (1)) hx hb dX1_kindBits_13 (by decide) ?_
        refine lv_aload_n hx hb dX1_kindBits_14 rfl (lv_at hl 0 rfl) ?_
        refine r_get (C := RX1) (T := TX1) (N := 10) (v := .ref (a (41 + 6 * p))) hx hb hts hown hK.1 hc (hpr.1.1) (sh_P (by omega)) rfl rfl hinX1 0 (by decide) hf_9 (fun _ h9 => h9) (congrArg va_rf hpr.2.1) dX1_kindBits_15 ?_
        refine lv_iload_n hx hb dX1_kindBits_18 rfl (lv_at hl 2 rfl) ?_
        refine r_iald (v := nI (lk M p i)) hx hb hK.1 hc (hpr.1.2.1) (sh_Pi (j := 1) (by omega) (by decide) (by decide)) (by decide) (by omega) dX1_kindBits_19 (hpl i (by omega)).1 ?_
        refine lv_ishl hx hb dX1_kindBits_20 ?_
        refine lv_ior hx hb dX1_kindBits_21 ?_
        refine lv_istore_n (lv' := [(1, .int ((kbit M p i) ||| ((nI (1)) <<< ((nI (lk M p i)) &&& 31)))), (0, .ref (a (40 + 6 * p))), (2, .int (nI (i)))]) hx hb dX1_kindBits_22 rfl hl (by decide) rfl (fun ls hl => ?_)
        refine lv_iinc (v := nI (i + 1)) (lv' := [(2, .int (nI (i + 1))), (1, .int ((kbit M p i) ||| ((nI (1)) <<< ((nI (lk M p i)) &&& 31)))), (0, .ref (a (40 + 6 * p)))]) hx hb dX1_kindBits_23 hl (k := 2) rfl (nI_inc _ 1) (by decide) rfl (fun ls hl => ?_)
        refine lv_goto (tgt := 4) hx hb dX1_kindBits_26 (by decide) ?_
        exact ih4 (i + 1) _ _ ls (by omega) (by omega) hc (lv_sub hl [2, 1, 0] rfl)
  exact loop4 (pn M p + 1) 0 _ _ ls (by omega) (Nat.zero_le _) hc (lv_sub hl [2, 1, 0] rfl)
set_option maxRecDepth 100000 in
set_option maxHeartbeats 4000000 in
theorem c_X1_liftTop (l : Launch) (D : va_G) (g : Nat → ClassId) (lv : Nat → Bool) (a : Nat → Nat) (R : RS) (M : MS) (p : Nat) (hp : p < 8) (hpr : PR lv a R p) (hpf : PF R M p) (h10 : pn M p ≤ 10) (hpl : ∀ l, l < pn M p → PL R M p l) (h1 : 0 < pn M p) : cI l D g lv a yX1_liftTop wsX1_liftTop ({ frames := 0, cells := 0, slots := 0, locals := 0 } : Room) [.ref (a (40 + 6 * p))] R (fun r R' => r = nI (lb M p (pn M p - 1)) ∧ R' = liS R M p) 0 0 := by
  refine c_body (cc := cX1_liftTop) (maxL := 1) (ret := (some .int)) (by decide) rfl (Nat.le_of_ble_eq_true rfl) ?_
  intro pr en st mi bl me co ls B hl
  obtain ⟨hx, hb, hr, hml, hown, hts, hlocks, hnm, hK, hZ, hc, hA⟩ := B
  have hl : lv_has ls 1 [(0, .ref (a (40 + 6 * p)))] := hl
  have hinX1 : ∀ w ∈ u_ws RX1 TX1 10, w ∈ wsX1_liftTop := (fun _ h => List.mem_cons_of_mem _ (List.mem_append_left _ (List.mem_append_right _ h)))
  have hf_15 := hts (.fieldLink RX1 15 "PalletLayers$Pallet" "boxesOf" "[I") (by decide +kernel)
  have hf_18 := hts (.fieldLink RX1 18 "PalletLayers$Pallet" "bottomOf" "[I") (by decide +kernel)
  have hf_21 := hts (.fieldLink RX1 21 "PalletLayers$Pallet" "weightOf" "[I") (by decide +kernel)
  have hf_28 := hts (.fieldLink RX1 28 "PalletLayers$Pallet" "layers" "I") (by decide +kernel)
  have hf_32 := hts (.fieldLink RX1 32 "PalletLayers$Pallet" "height" "I") (by decide +kernel)
  have hf_35 := hts (.fieldLink RX1 35 "PalletLayers$Pallet" "weight" "I") (by decide +kernel)
  have hf_38 := hts (.fieldLink RX1 38 "PalletLayers$Pallet" "boxes" "I") (by decide +kernel)
  have hw9 := wS_top (M := M) (p := p) h1
  have hb9 := bS_top (M := M) (p := p) h1
  refine lv_aload_n hx hb dX1_liftTop_0 rfl (lv_at hl 0 rfl) ?_
  refine r_get (C := RX1) (T := TX1) (N := 10) (v := .int (nI (pn M p))) hx hb hts hown hK.1 hc (hpr.1.1) (sh_P (by omega)) rfl rfl hinX1 5 (by decide) hf_28 (fun _ h9 => h9) (congrArg Value.int hpf.1) dX1_liftTop_1 ?_
  refine lv_if_ne (tgt := 9) hx hb dX1_liftTop_4 (by decide) (fun hq_1 => ?_) (fun hq_1 => (absurd ((nI_eq (a := pn M p) (b := 0) (by omega) (by omega)).mp hq_1) (by omega)))
  refine lv_aload_n hx hb dX1_liftTop_9 rfl (lv_at hl 0 rfl) ?_
  refine lv_dup hx hb dX1_liftTop_10 rfl ?_
  refine r_get (C := RX1) (T := TX1) (N := 10) (v := .int (nI (pn M p))) hx hb hts hown hK.1 hc (hpr.1.1) (sh_P (by omega)) rfl rfl hinX1 5 (by decide) hf_28 (fun _ h9 => h9) (congrArg Value.int hpf.1) dX1_liftTop_11 ?_
  refine lv_iconst (v := nI (1)) hx hb dX1_liftTop_14 (by decide) ?_
  refine nv_isub hx hb dX1_liftTop_15 (by omega) ?_
  refine r_put (C := RX1) (T := TX1) (N := 10) (R' := sfi R (40 + 6 * p) 5 (nI ((pn M p) - 1))) hx hb hts hown hK.1 hc (hpr.1.1) (sh_P (by omega)) rfl rfl hinX1 tyX1 tyX1_ok nmX1 5 (by decide) hf_28 (fun _ h9 => h9) rfl (tyX1_ok 5 (by decide)) rfl rfl dX1_liftTop_16 (fds_sfi (by decide) (by decide)) (fun _ h9 => ct_sfi h9) (fun H locs hc => ?_)
  refine lv_aload_n hx hb dX1_liftTop_19 rfl (lv_at hl 0 rfl) ?_
  refine lv_aload_n hx hb dX1_liftTop_20 rfl (lv_at hl 0 rfl) ?_
  refine r_get (C := RX1) (T := TX1) (N := 10) (v := .ref (a (43 + 6 * p))) hx hb hts hown hK.1 hc (hpr.1.1) (sh_P (by omega)) rfl rfl hinX1 2 (by decide) hf_18 (fun _ h9 => h9) (congrArg va_rf hpr.2.2.2.1) dX1_liftTop_21 ?_
  refine lv_aload_n hx hb dX1_liftTop_24 rfl (lv_at hl 0 rfl) ?_
  refine r_get (C := RX1) (T := TX1) (N := 10) (v := .int (nI ((pn M p) - 1))) hx hb hts hown hK.1 hc (hpr.1.1) (sh_P (by omega)) rfl rfl hinX1 5 (by decide) hf_28 (fun _ h9 => h9) (congrArg Value.int (up2_s _ _ _ _)) dX1_liftTop_25 ?_
  refine r_iald (v := nI (hS M p ((pn M p) - 1))) hx hb hK.1 hc (hpr.1.2.2.2.1) (sh_Pi (j := 3) (by omega) (by decide) (by decide)) (by decide) (by omega) dX1_liftTop_28 (hpl ((pn M p) - 1) (by omega)).2.2.1 ?_
  refine r_put (C := RX1) (T := TX1) (N := 10) (R' := sfi (sfi R (40 + 6 * p) 5 (nI ((pn M p) - 1))) (40 + 6 * p) 6 (nI (hS M p ((pn M p) - 1)))) hx hb hts hown hK.1 hc (hpr.1.1) (sh_P (by omega)) rfl rfl hinX1 tyX1 tyX1_ok nmX1 6 (by decide) hf_32 (fun _ h9 => h9) rfl (tyX1_ok 6 (by decide)) rfl rfl dX1_liftTop_29 (fds_sfi (by decide) (by decide)) (fun _ h9 => ct_sfi h9) (fun H locs hc => ?_)
  refine lv_aload_n hx hb dX1_liftTop_32 rfl (lv_at hl 0 rfl) ?_
  refine lv_dup hx hb dX1_liftTop_33 rfl ?_
  refine r_get (C := RX1) (T := TX1) (N := 10) (v := .int (nI (wS M p (pn M p)))) hx hb hts hown hK.1 hc (hpr.1.1) (sh_P (by omega)) rfl rfl hinX1 7 (by decide) hf_35 (fun _ h9 => h9) (congrArg Value.int ((up2_n (by omega)).trans ((up2_n (by omega)).trans hpf.2.2.1))) dX1_liftTop_34 ?_
  refine lv_aload_n hx hb dX1_liftTop_37 rfl (lv_at hl 0 rfl) ?_
  refine r_get (C := RX1) (T := TX1) (N := 10) (v := .ref (a (44 + 6 * p))) hx hb hts hown hK.1 hc (hpr.1.1) (sh_P (by omega)) rfl rfl hinX1 3 (by decide) hf_21 (fun _ h9 => h9) (congrArg va_rf hpr.2.2.2.2.1) dX1_liftTop_38 ?_
  refine lv_aload_n hx hb dX1_liftTop_41 rfl (lv_at hl 0 rfl) ?_
  refine r_get (C := RX1) (T := TX1) (N := 10) (v := .int (nI ((pn M p) - 1))) hx hb hts hown hK.1 hc (hpr.1.1) (sh_P (by omega)) rfl rfl hinX1 5 (by decide) hf_28 (fun _ h9 => h9) (congrArg Value.int ((up2_n (by omega)).trans (up2_s _ _ _ _))) dX1_liftTop_42 ?_
  refine r_iald (v := nI (kq M (lk M p ((pn M p) - 1)) * lb M p ((pn M p) - 1))) hx hb hK.1 hc (hpr.1.2.2.2.2.1) (sh_Pi (j := 4) (by omega) (by decide) (by decide)) (by decide) (by omega) dX1_liftTop_45 (hpl ((pn M p) - 1) (by omega)).2.2.2.1 ?_
  refine nv_isub hx hb dX1_liftTop_46 (by omega) ?_
  rw [show wS M p (pn M p) - kq M (lk M p (pn M p - 1)) * lb M p (pn M p - 1) = wS M p (pn M p - 1) by omega]
  refine r_put (C := RX1) (T := TX1) (N := 10) (R' := sfi (sfi (sfi R (40 + 6 * p) 5 (nI ((pn M p) - 1))) (40 + 6 * p) 6 (nI (hS M p ((pn M p) - 1)))) (40 + 6 * p) 7 (nI (wS M p (pn M p - 1)))) hx hb hts hown hK.1 hc (hpr.1.1) (sh_P (by omega)) rfl rfl hinX1 tyX1 tyX1_ok nmX1 7 (by decide) hf_35 (fun _ h9 => h9) rfl (tyX1_ok 7 (by decide)) rfl rfl dX1_liftTop_47 (fds_sfi (by decide) (by decide)) (fun _ h9 => ct_sfi h9) (fun H locs hc => ?_)
  refine lv_aload_n hx hb dX1_liftTop_50 rfl (lv_at hl 0 rfl) ?_
  refine lv_dup hx hb dX1_liftTop_51 rfl ?_
  refine r_get (C := RX1) (T := TX1) (N := 10) (v := .int (nI (bS M p (pn M p)))) hx hb hts hown hK.1 hc (hpr.1.1) (sh_P (by omega)) rfl rfl hinX1 8 (by decide) hf_38 (fun _ h9 => h9) (congrArg Value.int ((up2_n (by omega)).trans ((up2_n (by omega)).trans ((up2_n (by omega)).trans hpf.2.2.2.1)))) dX1_liftTop_52 ?_
  refine lv_aload_n hx hb dX1_liftTop_55 rfl (lv_at hl 0 rfl) ?_
  refine r_get (C := RX1) (T := TX1) (N := 10) (v := .ref (a (42 + 6 * p))) hx hb hts hown hK.1 hc (hpr.1.1) (sh_P (by omega)) rfl rfl hinX1 1 (by decide) hf_15 (fun _ h9 => h9) (congrArg va_rf hpr.2.2.1) dX1_liftTop_56 ?_
  refine lv_aload_n hx hb dX1_liftTop_59 rfl (lv_at hl 0 rfl) ?_
  refine r_get (C := RX1) (T := TX1) (N := 10) (v := .int (nI ((pn M p) - 1))) hx hb hts hown hK.1 hc (hpr.1.1) (sh_P (by omega)) rfl rfl hinX1 5 (by decide) hf_28 (fun _ h9 => h9) (congrArg Value.int ((up2_n (by omega)).trans ((up2_n (by omega)).trans (up2_s _ _ _ _)))) dX1_liftTop_60 ?_
  refine r_iald (v := nI (lb M p ((pn M p) - 1))) hx hb hK.1 hc (hpr.1.2.2.1) (sh_Pi (j := 2) (by omega) (by decide) (by decide)) (by decide) (by omega) dX1_liftTop_63 (hpl ((pn M p) - 1) (by omega)).2.1 ?_
  refine nv_isub hx hb dX1_liftTop_64 (by omega) ?_
  rw [show bS M p (pn M p) - lb M p (pn M p - 1) = bS M p (pn M p - 1) by omega]
  refine r_put (C := RX1) (T := TX1) (N := 10) (R' := sfi (sfi (sfi (sfi R (40 + 6 * p) 5 (nI ((pn M p) - 1))) (40 + 6 * p) 6 (nI (hS M p ((pn M p) - 1)))) (40 + 6 * p) 7 (nI (wS M p (pn M p - 1)))) (40 + 6 * p) 8 (nI (bS M p (pn M p - 1)))) hx hb hts hown hK.1 hc (hpr.1.1) (sh_P (by omega)) rfl rfl hinX1 tyX1 tyX1_ok nmX1 8 (by decide) hf_38 (fun _ h9 => h9) rfl (tyX1_ok 8 (by decide)) rfl rfl dX1_liftTop_65 (fds_sfi (by decide) (by decide)) (fun _ h9 => ct_sfi h9) (fun H locs hc => ?_)
  refine lv_aload_n hx hb dX1_liftTop_68 rfl (lv_at hl 0 rfl) ?_
  refine r_get (C := RX1) (T := TX1) (N := 10) (v := .ref (a (42 + 6 * p))) hx hb hts hown hK.1 hc (hpr.1.1) (sh_P (by omega)) rfl rfl hinX1 1 (by decide) hf_15 (fun _ h9 => h9) (congrArg va_rf hpr.2.2.1) dX1_liftTop_69 ?_
  refine lv_aload_n hx hb dX1_liftTop_72 rfl (lv_at hl 0 rfl) ?_
  refine r_get (C := RX1) (T := TX1) (N := 10) (v := .int (nI ((pn M p) - 1))) hx hb hts hown hK.1 hc (hpr.1.1) (sh_P (by omega)) rfl rfl hinX1 5 (by decide) hf_28 (fun _ h9 => h9) (congrArg Value.int ((up2_n (by omega)).trans ((up2_n (by omega)).trans ((up2_n (by omega)).trans (up2_s _ _ _ _))))) dX1_liftTop_73 ?_
  refine r_iald (v := nI (lb M p ((pn M p) - 1))) hx hb hK.1 hc (hpr.1.2.2.1) (sh_Pi (j := 2) (by omega) (by decide) (by decide)) (by decide) (by omega) dX1_liftTop_76 (hpl ((pn M p) - 1) (by omega)).2.1 ?_
  exact r_iret hx hb hr hlocks hc dX1_liftTop_77 ⟨rfl, rfl⟩
set_option maxRecDepth 100000 in
set_option maxHeartbeats 4000000 in
theorem c_X1_lay (l : Launch) (D : va_G) (g : Nat → ClassId) (lv : Nat → Bool) (a : Nat → Nat) (R : RS) (M : MS) (p : Nat) (hp : p < 8) (hpr : PR lv a R p) (hpf : PF R M p) (h10 : pn M p ≤ 10) (hpl : ∀ l, l < pn M p → PL R M p l) (k : Nat) (hk : k < 6) (hkr : KR lv a R k) (hks : KS R M k) (hkv : KV R M k) (hI : Inv M) (hkm : k < mnk M) (n : Nat) (hn : n ≤ kb M k) (h9 : pn M p < 10) : cV l D g lv a yX1_lay wsX1_lay ({ frames := 3, cells := 0, slots := 0, locals := 67 } : Room) [.ref (a (40 + 6 * p)), .int (nI (k)), .ref (a (10 + 3 * k)), .int (nI (n))] R (fun R' => R' = laS R M p k n) 0 0 := by
  refine c_body (cc := cX1_lay) (maxL := 4) (ret := none) (by decide) rfl (Nat.le_of_ble_eq_true rfl) ?_
  intro pr en st mi bl me co ls B hl
  obtain ⟨hx, hb, hr, hml, hown, hts, hlocks, hnm, hK, hZ, hc, hA⟩ := B
  have hl : lv_has ls 4 [(0, .ref (a (40 + 6 * p))), (1, .int (nI (k))), (2, .ref (a (10 + 3 * k))), (3, .int (nI (n)))] := hl
  have hinX0 : ∀ w ∈ u_ws RX0 TX0 11, w ∈ wsX1_lay := (fun _ h => List.mem_cons_of_mem _ (List.mem_append_left _ (List.mem_append_right _ h)))
  have hinX1 : ∀ w ∈ u_ws RX1 TX1 10, w ∈ wsX1_lay := (fun _ h => List.mem_cons_of_mem _ (List.mem_append_left _ (List.mem_append_left _ (List.mem_append_right _ h))))
  have hf_9 := hts (.fieldLink RX1 9 "PalletLayers$Pallet" "kindOf" "[I") (by decide +kernel)
  have hf_15 := hts (.fieldLink RX1 15 "PalletLayers$Pallet" "boxesOf" "[I") (by decide +kernel)
  have hf_18 := hts (.fieldLink RX1 18 "PalletLayers$Pallet" "bottomOf" "[I") (by decide +kernel)
  have hf_21 := hts (.fieldLink RX1 21 "PalletLayers$Pallet" "weightOf" "[I") (by decide +kernel)
  have hf_24 := hts (.fieldLink RX1 24 "PalletLayers$Pallet" "coveredOf" "[J") (by decide +kernel)
  have hf_28 := hts (.fieldLink RX1 28 "PalletLayers$Pallet" "layers" "I") (by decide +kernel)
  have hf_32 := hts (.fieldLink RX1 32 "PalletLayers$Pallet" "height" "I") (by decide +kernel)
  have hf_35 := hts (.fieldLink RX1 35 "PalletLayers$Pallet" "weight" "I") (by decide +kernel)
  have hf_38 := hts (.fieldLink RX1 38 "PalletLayers$Pallet" "boxes" "I") (by decide +kernel)
  have hf_44 := hts (.fieldLink RX1 44 "PalletLayers$Kind" "weight" "I") (by decide +kernel)
  have hf_51 := hts (.fieldLink RX1 51 "PalletLayers$Kind" "height" "I") (by decide +kernel)
  refine lv_aload_n hx hb dX1_lay_0 rfl (lv_at hl 0 rfl) ?_
  refine r_get (C := RX1) (T := TX1) (N := 10) (v := .int (nI (pn M p))) hx hb hts hown hK.1 hc (hpr.1.1) (sh_P (by omega)) rfl rfl hinX1 5 (by decide) hf_28 (fun _ h9 => h9) (congrArg Value.int hpf.1) dX1_lay_1 ?_
  refine lv_bipush (v := nI (10)) hx hb dX1_lay_4 (by decide) ?_
  refine lv_icmp_lt (tgt := 10) hx hb dX1_lay_6 (by decide) (fun hq_1 => ?_) (fun hq_1 => (absurd ((nI_ltI (a := pn M p) (b := 10) (by omega) (by omega)).mpr h9) hq_1))
  refine lv_aload_n hx hb dX1_lay_10 rfl (lv_at hl 0 rfl) ?_
  refine r_get (C := RX1) (T := TX1) (N := 10) (v := .ref (a (41 + 6 * p))) hx hb hts hown hK.1 hc (hpr.1.1) (sh_P (by omega)) rfl rfl hinX1 0 (by decide) hf_9 (fun _ h9 => h9) (congrArg va_rf hpr.2.1) dX1_lay_11 ?_
  refine lv_aload_n hx hb dX1_lay_14 rfl (lv_at hl 0 rfl) ?_
  refine r_get (C := RX1) (T := TX1) (N := 10) (v := .int (nI (pn M p))) hx hb hts hown hK.1 hc (hpr.1.1) (sh_P (by omega)) rfl rfl hinX1 5 (by decide) hf_28 (fun _ h9 => h9) (congrArg Value.int hpf.1) dX1_lay_15 ?_
  refine lv_iload_n hx hb dX1_lay_18 rfl (lv_at hl 1 rfl) ?_
  refine r_iast hx hb hK.1 hc (hpr.1.2.1) (sh_Pi (j := 1) (by omega) (by decide) (by decide)) (by decide) (by omega) dX1_lay_19 (fun H locs hc => ?_)
  refine lv_aload_n hx hb dX1_lay_20 rfl (lv_at hl 0 rfl) ?_
  refine r_get (C := RX1) (T := TX1) (N := 10) (v := .ref (a (42 + 6 * p))) hx hb hts hown hK.1 hc (hpr.1.1) (sh_P (by omega)) rfl rfl hinX1 1 (by decide) hf_15 (fun _ h9 => h9) (congrArg va_rf hpr.2.2.1) dX1_lay_21 ?_
  refine lv_aload_n hx hb dX1_lay_24 rfl (lv_at hl 0 rfl) ?_
  refine r_get (C := RX1) (T := TX1) (N := 10) (v := .int (nI (pn M p))) hx hb hts hown hK.1 hc (hpr.1.1) (sh_P (by omega)) rfl rfl hinX1 5 (by decide) hf_28 (fun _ h9 => h9) (congrArg Value.int hpf.1) dX1_lay_25 ?_
  refine lv_iload_n hx hb dX1_lay_28 rfl (lv_at hl 3 rfl) ?_
  refine r_iast hx hb hK.1 hc (hpr.1.2.2.1) (sh_Pi (j := 2) (by omega) (by decide) (by decide)) (by decide) (by omega) dX1_lay_29 (fun H locs hc => ?_)
  refine lv_aload_n hx hb dX1_lay_30 rfl (lv_at hl 0 rfl) ?_
  refine r_get (C := RX1) (T := TX1) (N := 10) (v := .ref (a (43 + 6 * p))) hx hb hts hown hK.1 hc (hpr.1.1) (sh_P (by omega)) rfl rfl hinX1 2 (by decide) hf_18 (fun _ h9 => h9) (congrArg va_rf hpr.2.2.2.1) dX1_lay_31 ?_
  refine lv_aload_n hx hb dX1_lay_34 rfl (lv_at hl 0 rfl) ?_
  refine r_get (C := RX1) (T := TX1) (N := 10) (v := .int (nI (pn M p))) hx hb hts hown hK.1 hc (hpr.1.1) (sh_P (by omega)) rfl rfl hinX1 5 (by decide) hf_28 (fun _ h9 => h9) (congrArg Value.int hpf.1) dX1_lay_35 ?_
  refine lv_aload_n hx hb dX1_lay_38 rfl (lv_at hl 0 rfl) ?_
  refine r_get (C := RX1) (T := TX1) (N := 10) (v := .int (nI (hS M p (pn M p)))) hx hb hts hown hK.1 hc (hpr.1.1) (sh_P (by omega)) rfl rfl hinX1 6 (by decide) hf_32 (fun _ h9 => h9) (congrArg Value.int hpf.2.1) dX1_lay_39 ?_
  refine r_iast hx hb hK.1 hc (hpr.1.2.2.2.1) (sh_Pi (j := 3) (by omega) (by decide) (by decide)) (by decide) (by omega) dX1_lay_42 (fun H locs hc => ?_)
  refine lv_aload_n hx hb dX1_lay_43 rfl (lv_at hl 0 rfl) ?_
  refine r_get (C := RX1) (T := TX1) (N := 10) (v := .ref (a (44 + 6 * p))) hx hb hts hown hK.1 hc (hpr.1.1) (sh_P (by omega)) rfl rfl hinX1 3 (by decide) hf_21 (fun _ h9 => h9) (congrArg va_rf hpr.2.2.2.2.1) dX1_lay_44 ?_
  refine lv_aload_n hx hb dX1_lay_47 rfl (lv_at hl 0 rfl) ?_
  refine r_get (C := RX1) (T := TX1) (N := 10) (v := .int (nI (pn M p))) hx hb hts hown hK.1 hc (hpr.1.1) (sh_P (by omega)) rfl rfl hinX1 5 (by decide) hf_28 (fun _ h9 => h9) (congrArg Value.int hpf.1) dX1_lay_48 ?_
  refine lv_aload_n hx hb dX1_lay_51 rfl (lv_at hl 2 rfl) ?_
  refine r_get (C := RX0) (T := TX0) (N := 11) (v := .int (nI (kq M k))) hx hb hts hown hK.1 hc (hkr.1) (sh_K (by omega)) rfl rfl hinX0 3 (by decide) hf_44 (fun _ h9 => h9) (congrArg Value.int hks.2.2.2.1) dX1_lay_52 ?_
  refine lv_iload_n hx hb dX1_lay_55 rfl (lv_at hl 3 rfl) ?_
  refine nv_imul hx hb dX1_lay_56 ?_
  refine r_iast hx hb hK.1 hc (hpr.1.2.2.2.2.1) (sh_Pi (j := 4) (by omega) (by decide) (by decide)) (by decide) (by omega) dX1_lay_57 (fun H locs hc => ?_)
  refine lv_aload_n hx hb dX1_lay_58 rfl (lv_at hl 0 rfl) ?_
  refine r_get (C := RX1) (T := TX1) (N := 10) (v := .ref (a (45 + 6 * p))) hx hb hts hown hK.1 hc (hpr.1.1) (sh_P (by omega)) rfl rfl hinX1 4 (by decide) hf_24 (fun _ h9 => h9) (congrArg va_rf hpr.2.2.2.2.2) dX1_lay_59 ?_
  refine lv_aload_n hx hb dX1_lay_62 rfl (lv_at hl 0 rfl) ?_
  refine r_get (C := RX1) (T := TX1) (N := 10) (v := .int (nI (pn M p))) hx hb hts hown hK.1 hc (hpr.1.1) (sh_P (by omega)) rfl rfl hinX1 5 (by decide) hf_28 (fun _ h9 => h9) (congrArg Value.int hpf.1) dX1_lay_63 ?_
  refine lv_aload_n hx hb dX1_lay_66 rfl (lv_at hl 2 rfl) ?_
  refine lv_iload_n hx hb dX1_lay_67 rfl (lv_at hl 3 rfl) ?_
  refine r_calll hc hA (va_runV (As := [.int (nI (n))]) (rest := [.int (nI (pn M p)), .ref (a (45 + 6 * p))]) ⟨hx, hb, hml, hown, hts⟩ (c_X0_cellsOfFirst l D g lv a (sai (sai (sai (sai R (41 + 6 * p) (pn M p) (nI (k))) (42 + 6 * p) (pn M p) (nI (n))) (43 + 6 * p) (pn M p) (nI (hS M p (pn M p)))) (44 + 6 * p) (pn M p) (nI ((kq M k) * n))) M k hk hkr hks ((((hkv.sai (by omega)).sai (by omega)).sai (by omega)).sai (by omega)) hI hkm n hn _) (cwV 1 hts gX1_lay_X0_cellsOfFirst rfl rfl rfl (by decide +kernel) ⟨Nat.le_of_ble_eq_true rfl, Nat.le_of_ble_eq_true rfl⟩) (r_preV hK hZ hc hA (hkr.1) (sh_K (by omega)) rfl) rfl rfl hl.1 rfl (lv_room (Nat.le_of_ble_eq_true rfl)) dX1_lay_68 ⟨Nat.le_of_ble_eq_true rfl, Nat.le_of_ble_eq_true rfl⟩) (fun r R' H locs hp hc => ?_)
  obtain ⟨hre, hRe⟩ := hp
  rw [hRe] at hc
  rw [hre]
  refine r_last hx hb hK.1 hc (hpr.1.2.2.2.2.2) (sh_Pl (by omega)) (by decide) (by omega) dX1_lay_71 (fun H locs hc => ?_)
  refine lv_aload_n hx hb dX1_lay_72 rfl (lv_at hl 0 rfl) ?_
  refine lv_dup hx hb dX1_lay_73 rfl ?_
  refine r_get (C := RX1) (T := TX1) (N := 10) (v := .int (nI (hS M p (pn M p)))) hx hb hts hown hK.1 hc (hpr.1.1) (sh_P (by omega)) rfl rfl hinX1 6 (by decide) hf_32 (fun _ h9 => h9) (congrArg Value.int hpf.2.1) dX1_lay_74 ?_
  refine lv_aload_n hx hb dX1_lay_77 rfl (lv_at hl 2 rfl) ?_
  refine r_get (C := RX0) (T := TX0) (N := 11) (v := .int (nI (kh M k))) hx hb hts hown hK.1 hc (hkr.1) (sh_K (by omega)) rfl rfl hinX0 2 (by decide) hf_51 (fun _ h9 => h9) (congrArg Value.int hks.2.2.1) dX1_lay_78 ?_
  refine nv_iadd hx hb dX1_lay_81 ?_
  refine r_put (C := RX1) (T := TX1) (N := 10) (R' := sfi (sal (sai (sai (sai (sai R (41 + 6 * p) (pn M p) (nI (k))) (42 + 6 * p) (pn M p) (nI (n))) (43 + 6 * p) (pn M p) (nI (hS M p (pn M p)))) (44 + 6 * p) (pn M p) (nI ((kq M k) * n))) (45 + 6 * p) (pn M p) (lN (cov M k n))) (40 + 6 * p) 6 (nI ((hS M p (pn M p)) + (kh M k)))) hx hb hts hown hK.1 hc (hpr.1.1) (sh_P (by omega)) rfl rfl hinX1 tyX1 tyX1_ok nmX1 6 (by decide) hf_32 (fun _ h9 => h9) rfl (tyX1_ok 6 (by decide)) rfl rfl dX1_lay_82 (fds_sfi (by decide) (by decide)) (fun _ h9 => ct_sfi h9) (fun H locs hc => ?_)
  refine lv_aload_n hx hb dX1_lay_85 rfl (lv_at hl 0 rfl) ?_
  refine lv_dup hx hb dX1_lay_86 rfl ?_
  refine r_get (C := RX1) (T := TX1) (N := 10) (v := .int (nI (wS M p (pn M p)))) hx hb hts hown hK.1 hc (hpr.1.1) (sh_P (by omega)) rfl rfl hinX1 7 (by decide) hf_35 (fun _ h9 => h9) (congrArg Value.int ((up2_n (by omega)).trans hpf.2.2.1)) dX1_lay_87 ?_
  refine lv_aload_n hx hb dX1_lay_90 rfl (lv_at hl 2 rfl) ?_
  refine r_get (C := RX0) (T := TX0) (N := 11) (v := .int (nI (kq M k))) hx hb hts hown hK.1 hc (hkr.1) (sh_K (by omega)) rfl rfl hinX0 3 (by decide) hf_44 (fun _ h9 => h9) (congrArg Value.int ((up2_n (by omega)).trans hks.2.2.2.1)) dX1_lay_91 ?_
  refine lv_iload_n hx hb dX1_lay_94 rfl (lv_at hl 3 rfl) ?_
  refine nv_imul hx hb dX1_lay_95 ?_
  refine nv_iadd hx hb dX1_lay_96 ?_
  refine r_put (C := RX1) (T := TX1) (N := 10) (R' := sfi (sfi (sal (sai (sai (sai (sai R (41 + 6 * p) (pn M p) (nI (k))) (42 + 6 * p) (pn M p) (nI (n))) (43 + 6 * p) (pn M p) (nI (hS M p (pn M p)))) (44 + 6 * p) (pn M p) (nI ((kq M k) * n))) (45 + 6 * p) (pn M p) (lN (cov M k n))) (40 + 6 * p) 6 (nI ((hS M p (pn M p)) + (kh M k)))) (40 + 6 * p) 7 (nI ((wS M p (pn M p)) + ((kq M k) * n)))) hx hb hts hown hK.1 hc (hpr.1.1) (sh_P (by omega)) rfl rfl hinX1 tyX1 tyX1_ok nmX1 7 (by decide) hf_35 (fun _ h9 => h9) rfl (tyX1_ok 7 (by decide)) rfl rfl dX1_lay_97 (fds_sfi (by decide) (by decide)) (fun _ h9 => ct_sfi h9) (fun H locs hc => ?_)
  refine lv_aload_n hx hb dX1_lay_100 rfl (lv_at hl 0 rfl) ?_
  refine lv_dup hx hb dX1_lay_101 rfl ?_
  refine r_get (C := RX1) (T := TX1) (N := 10) (v := .int (nI (bS M p (pn M p)))) hx hb hts hown hK.1 hc (hpr.1.1) (sh_P (by omega)) rfl rfl hinX1 8 (by decide) hf_38 (fun _ h9 => h9) (congrArg Value.int ((up2_n (by omega)).trans ((up2_n (by omega)).trans hpf.2.2.2.1))) dX1_lay_102 ?_
  refine lv_iload_n hx hb dX1_lay_105 rfl (lv_at hl 3 rfl) ?_
  refine nv_iadd hx hb dX1_lay_106 ?_
  refine r_put (C := RX1) (T := TX1) (N := 10) (R' := sfi (sfi (sfi (sal (sai (sai (sai (sai R (41 + 6 * p) (pn M p) (nI (k))) (42 + 6 * p) (pn M p) (nI (n))) (43 + 6 * p) (pn M p) (nI (hS M p (pn M p)))) (44 + 6 * p) (pn M p) (nI ((kq M k) * n))) (45 + 6 * p) (pn M p) (lN (cov M k n))) (40 + 6 * p) 6 (nI ((hS M p (pn M p)) + (kh M k)))) (40 + 6 * p) 7 (nI ((wS M p (pn M p)) + ((kq M k) * n)))) (40 + 6 * p) 8 (nI ((bS M p (pn M p)) + n))) hx hb hts hown hK.1 hc (hpr.1.1) (sh_P (by omega)) rfl rfl hinX1 tyX1 tyX1_ok nmX1 8 (by decide) hf_38 (fun _ h9 => h9) rfl (tyX1_ok 8 (by decide)) rfl rfl dX1_lay_107 (fds_sfi (by decide) (by decide)) (fun _ h9 => ct_sfi h9) (fun H locs hc => ?_)
  refine lv_aload_n hx hb dX1_lay_110 rfl (lv_at hl 0 rfl) ?_
  refine lv_dup hx hb dX1_lay_111 rfl ?_
  refine r_get (C := RX1) (T := TX1) (N := 10) (v := .int (nI (pn M p))) hx hb hts hown hK.1 hc (hpr.1.1) (sh_P (by omega)) rfl rfl hinX1 5 (by decide) hf_28 (fun _ h9 => h9) (congrArg Value.int ((up2_n (by omega)).trans ((up2_n (by omega)).trans ((up2_n (by omega)).trans hpf.1)))) dX1_lay_112 ?_
  refine lv_iconst (v := nI (1)) hx hb dX1_lay_115 (by decide) ?_
  refine nv_iadd hx hb dX1_lay_116 ?_
  refine r_put (C := RX1) (T := TX1) (N := 10) (R' := sfi (sfi (sfi (sfi (sal (sai (sai (sai (sai R (41 + 6 * p) (pn M p) (nI (k))) (42 + 6 * p) (pn M p) (nI (n))) (43 + 6 * p) (pn M p) (nI (hS M p (pn M p)))) (44 + 6 * p) (pn M p) (nI ((kq M k) * n))) (45 + 6 * p) (pn M p) (lN (cov M k n))) (40 + 6 * p) 6 (nI ((hS M p (pn M p)) + (kh M k)))) (40 + 6 * p) 7 (nI ((wS M p (pn M p)) + ((kq M k) * n)))) (40 + 6 * p) 8 (nI ((bS M p (pn M p)) + n))) (40 + 6 * p) 5 (nI ((pn M p) + 1))) hx hb hts hown hK.1 hc (hpr.1.1) (sh_P (by omega)) rfl rfl hinX1 tyX1 tyX1_ok nmX1 5 (by decide) hf_28 (fun _ h9 => h9) rfl (tyX1_ok 5 (by decide)) rfl rfl dX1_lay_117 (fds_sfi (by decide) (by decide)) (fun _ h9 => ct_sfi h9) (fun H locs hc => ?_)
  exact r_vret hx hb hr hlocks hc dX1_lay_120 rfl
