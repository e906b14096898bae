set_option maxRecDepth 100000 in
set_option maxHeartbeats 4000000 in
theorem c_X2_firstOpen (l : Launch) (D : va_G) (g : Nat → ClassId) (lv : Nat → Bool) (a : Nat → Nat) (R : RS) (M : MS) (hsr : SR lv a R) (hsv : SV R M) (hI : Inv M) (c0 x : Nat) (hx36 : x < 68719476736) (hc0 : c0 ≤ mW M * mD M) (hcl0 : ∀ i, i < c0 → x.testBit i = true) : cI l D g lv a yX2_firstOpen wsX2_firstOpen ({ frames := 0, cells := 0, slots := 0, locals := 0 } : Room) [.ref (a (1)), .int (nI (c0)), .long (lN (x))] R (fun r R' => r = nI (fo (mW M * mD M) x) ∧ R' = R) 0 0 := by
  refine c_body (cc := cX2_firstOpen) (maxL := 5) (ret := (some .int)) (by decide) rfl (Nat.le_of_ble_eq_true rfl) ?_
  intro pr en st mi bl me co ls B hl
  obtain ⟨hx, hb, hr, hml, hown, hts, hlocks, hnm, hK, hZ, hc, hA⟩ := B
  have hl : lv_has ls 5 [(0, .ref (a (1))), (1, .int (nI (c0))), (2, .long (lN (x)))] := hl
  have hinX2 : ∀ w ∈ u_ws RX2 TX2 9, w ∈ wsX2_firstOpen := (fun _ h => List.mem_cons_of_mem _ (List.mem_append_right _ h))
  have hf_38 := hts (.fieldLink RX2 38 "PalletLayers$PatternSearch" "cellCount" "I") (by decide +kernel)
  have hce := ce_b (iv_b hI)
  refine lv_iload_n hx hb dX2_firstOpen_0 rfl (lv_at hl 1 rfl) ?_
  refine lv_istore (lv' := [(4, .int (nI (c0))), (0, .ref (a (1))), (1, .int (nI (c0))), (2, .long (lN (x)))]) hx hb dX2_firstOpen_1 hl (by decide) rfl (fun ls hl => ?_)
  have loop3 : ∀ (fuel3 : Nat) (i : Nat) (H : Heap) (locs : List Loc) (ls : Array Slot), mW M * mD M - i < fuel3 → (i ≤ mW M * mD M) → (∀ j, j < i → x.testBit j = true) → rc D g (rA lv a st.heap.size) st.heap lv a R H locs → lv_has ls 5 [(0, .ref (a (1))), (2, .long (lN (x))), (4, .int (nI (i)))] → W pr l en ({ frames := 0, cells := 0, slots := 0, locals := 0 } : Room) st mi ([.ref (a (1)), .int (nI (c0)), .long (lN (x))] : List Value).toArray bl me co H locs 0 0 (MQ bl (va_Qi (fun r R' => r = nI (fo (mW M * mD M) x) ∧ R' = R) (cB D g lv a) (rA lv a st.heap.size)) ([.ref (a (1)), .int (nI (c0)), .long (lN (x))] : List Value).toArray st 0 0 (rA lv a st.heap.size)) (F0 mi 3 ls []) := by
    intro fuel3
    induction fuel3 with
    | zero => intro i H locs ls hmu; exact absurd hmu (Nat.not_lt_zero _)
    | succ fuel3 ih3 =>
      intro i H locs ls hmu3 hi hcl hc hl
      refine lv_iload hx hb dX2_firstOpen_3 (lv_at hl 2 rfl) ?_
      refine lv_aload_n hx hb dX2_firstOpen_5 rfl (lv_at hl 0 rfl) ?_
      refine r_get (C := RX2) (T := TX2) (N := 9) (v := .int (nI (mW M * mD M))) hx hb hts hown hK.1 hc (hsr.1) (rfl) rfl rfl hinX2 2 (by decide) hf_38 (fun _ h9 => h9) (congrArg Value.int hsv.2.2) dX2_firstOpen_6 ?_
      refine lv_icmp_ge (tgt := 29) hx hb dX2_firstOpen_9 (by decide) (fun hq_1 => ?_) (fun hq_1 => ?_)
      · have hq_1 : (mW M * mD M) ≤ i := (nI_leI (a := (mW M * mD M)) (b := i) (by omega) (by omega)).mp hq_1
        refine lv_iload hx hb dX2_firstOpen_29 (lv_at hl 2 rfl) ?_
        exact r_iret hx hb hr hlocks hc dX2_firstOpen_31 ⟨by rw [fo_1 hi hcl (by omega)], rfl⟩
      · have hq_1 : ¬ ((mW M * mD M) ≤ i) := fun z => hq_1 ((nI_leI (a := (mW M * mD M)) (b := i) (by omega) (by omega)).mpr z)
        refine lv_lload_n hx hb dX2_firstOpen_12 rfl (lv_at hl 1 rfl) ?_
        refine lv_iload hx hb dX2_firstOpen_13 (lv_at hl 2 rfl) ?_
        refine lv_lshr (v := lN (x / 2 ^ i)) hx hb dX2_firstOpen_15 (n_shr (by omega) (by omega)) ?_
        refine lv_lconst (v := lN 1) hx hb dX2_firstOpen_16 (by decide) ?_
        refine nv_land hx hb dX2_firstOpen_17 (Nat.lt_of_le_of_lt (Nat.div_le_self _ _) (by omega)) (by decide) ?_
        refine lv_lconst (v := lN 1) hx hb dX2_firstOpen_18 (by decide) ?_
        refine W.lcmp hx hb dX2_firstOpen_19 ?_
        refine lv_if_ne (tgt := 29) hx hb dX2_firstOpen_20 (by decide) (fun hq_2 => ?_) (fun hq_2 => ?_)
        · have hq_2 : ¬ (((x / 2 ^ i) &&& 1) = 1) := fun z => hq_2 (lg_0.mpr ((pk_lEQ (by have h9 : x / 2 ^ i &&& 1 ≤ 1 := Nat.and_le_right; omega) (by have h9 : x / 2 ^ i &&& 1 ≤ 1 := Nat.and_le_right; omega)).mpr z))
          have hbt : ¬ x.testBit i = true := fun z => hq_2 (by rw [Nat.and_one_is_mod]; exact tb_div.mpr z)
          refine lv_iload hx hb dX2_firstOpen_29 (lv_at hl 2 rfl) ?_
          exact r_iret hx hb hr hlocks hc dX2_firstOpen_31 ⟨by rw [fo_2 (by omega) hcl hbt], rfl⟩
        · have hq_2 : ((x / 2 ^ i) &&& 1) = 1 := (pk_lEQ (by have h9 : x / 2 ^ i &&& 1 ≤ 1 := Nat.and_le_right; omega) (by have h9 : x / 2 ^ i &&& 1 ≤ 1 := Nat.and_le_right; omega)).mp (lg_0.mp hq_2)
          have hbt : x.testBit i = true := tb_div.mp (by rw [← Nat.and_one_is_mod]; exact hq_2)
          refine lv_iinc (v := nI (i + 1)) (lv' := [(4, .int (nI (i + 1))), (0, .ref (a (1))), (2, .long (lN (x)))]) hx hb dX2_firstOpen_23 hl (k := 2) rfl (nI_inc _ 1) (by decide) rfl (fun ls hl => ?_)
          refine lv_goto (tgt := 3) hx hb dX2_firstOpen_26 (by decide) ?_
          exact ih3 (i + 1) _ _ ls (by omega) (by omega) (fun j hj => if h : j < i then hcl j h else by rw [show j = i by omega]; exact hbt) hc (lv_sub hl [1, 2, 0] rfl)
  exact loop3 (mW M * mD M + 1) c0 _ _ ls (by omega) hc0 hcl0 hc (lv_sub hl [1, 3, 0] rfl)
set_option maxRecDepth 100000 in
set_option maxHeartbeats 4000000 in
theorem c_X2_takeStep (l : Launch) (D : va_G) (g : Nat → ClassId) (lv : Nat → Bool) (a : Nat → Nat) (R : RS) (M : MS) (k mx : Nat) (hk : k < 6) (hkm : k < mnk M) (hI : Inv M) (hmx : mx ≤ 5000) (pl : List (Nat × Nat)) (S : SS) (hst : ST lv a R M k) (hL : LC R k mx pl S) (hsi : SI M k mx S) : cI l D g lv a yX2_takeStep wsX2_takeStep ({ frames := 0, cells := 0, slots := 0, locals := 0 } : Room) [.ref (a (1))] R (fun r R' => (S.1 < mx ∧ r = nI 1 ∧ R' = sfi R 1 6 (nI (S.1 + 1))) ∨ (¬ S.1 < mx ∧ r = nI 0 ∧ R' = sfi R 1 8 (nI 1))) 0 0 := by
  refine c_body (cc := cX2_takeStep) (maxL := 1) (ret := (some .boolean)) (by decide) rfl (Nat.le_of_ble_eq_true rfl) ?_
  intro pr en st mi bl me co ls B hl
  obtain ⟨hx, hb, hr, hml, hown, hts, hlocks, hnm, hK, hZ, hc, hA⟩ := B
  have hl : lv_has ls 1 [(0, .ref (a (1)))] := hl
  have hinX2 : ∀ w ∈ u_ws RX2 TX2 9, w ∈ wsX2_takeStep := (fun _ h => List.mem_cons_of_mem _ (List.mem_append_right _ h))
  have hf_18 := hts (.fieldLink RX2 18 "PalletLayers$PatternSearch" "mostSteps" "I") (by decide +kernel)
  have hf_22 := hts (.fieldLink RX2 22 "PalletLayers$PatternSearch" "stepsMade" "I") (by decide +kernel)
  have hf_28 := hts (.fieldLink RX2 28 "PalletLayers$PatternSearch" "lackedSteps" "Z") (by decide +kernel)
  have hs9 := hsi.1
  refine lv_aload_n hx hb dX2_takeStep_0 rfl (lv_at hl 0 rfl) ?_
  refine r_get (C := RX2) (T := TX2) (N := 9) (v := .int (nI (S.1))) hx hb hts hown hK.1 hc (hst.2.1.1) (rfl) rfl rfl hinX2 6 (by decide) hf_22 (fun _ h9 => h9) (congrArg Value.int hL.2.1) dX2_takeStep_1 ?_
  refine lv_aload_n hx hb dX2_takeStep_4 rfl (lv_at hl 0 rfl) ?_
  refine r_get (C := RX2) (T := TX2) (N := 9) (v := .int (nI (mx))) hx hb hts hown hK.1 hc (hst.2.1.1) (rfl) rfl rfl hinX2 5 (by decide) hf_18 (fun _ h9 => h9) (congrArg Value.int hL.1) dX2_takeStep_5 ?_
  refine lv_icmp_lt (tgt := 18) hx hb dX2_takeStep_8 (by decide) (fun hq_1 => ?_) (fun hq_1 => ?_)
  · have hq_1 : S.1 < mx := (nI_ltI (a := S.1) (b := mx) (by omega) (by omega)).mp hq_1
    refine lv_aload_n hx hb dX2_takeStep_18 rfl (lv_at hl 0 rfl) ?_
    refine lv_dup hx hb dX2_takeStep_19 rfl ?_
    refine r_get (C := RX2) (T := TX2) (N := 9) (v := .int (nI (S.1))) hx hb hts hown hK.1 hc (hst.2.1.1) (rfl) rfl rfl hinX2 6 (by decide) hf_22 (fun _ h9 => h9) (congrArg Value.int hL.2.1) dX2_takeStep_20 ?_
    refine lv_iconst (v := nI (1)) hx hb dX2_takeStep_23 (by decide) ?_
    refine nv_iadd hx hb dX2_takeStep_24 ?_
    refine r_put (C := RX2) (T := TX2) (N := 9) (R' := sfi R 1 6 (nI (S.1 + 1))) hx hb hts hown hK.1 hc (hst.2.1.1) (rfl) rfl rfl hinX2 tyX2 tyX2_ok nmX2 6 (by decide) hf_22 (fun _ h9 => h9) rfl (tyX2_ok 6 (by decide)) rfl rfl dX2_takeStep_25 (fds_sfi (by decide) (by decide)) (fun _ h9 => ct_sfi h9) (fun H locs hc => ?_)
    refine lv_iconst (v := nI (1)) hx hb dX2_takeStep_28 (by decide) ?_
    exact r_zret hx hb hr hlocks hc dX2_takeStep_29 (by decide) (Or.inl ⟨hq_1, rfl, rfl⟩)
  · have hq_1 : ¬ (S.1 < mx) := fun z => hq_1 ((nI_ltI (a := S.1) (b := mx) (by omega) (by omega)).mpr z)
    refine lv_aload_n hx hb dX2_takeStep_11 rfl (lv_at hl 0 rfl) ?_
    refine lv_iconst (v := nI (1)) hx hb dX2_takeStep_12 (by decide) ?_
    refine r_put (C := RX2) (T := TX2) (N := 9) (R' := sfi R 1 8 (nI (1))) hx hb hts hown hK.1 hc (hst.2.1.1) (rfl) rfl rfl hinX2 tyX2 tyX2_ok nmX2 8 (by decide) hf_28 (fun _ h9 => h9) rfl (tyX2_ok 8 (by decide)) rfl rfl dX2_takeStep_13 (fds_sfi (by decide) (by decide)) (fun _ h9 => ct_sfi h9) (fun H locs hc => ?_)
    refine lv_iconst (v := nI (0)) hx hb dX2_takeStep_16 (by decide) ?_
    exact r_zret hx hb hr hlocks hc dX2_takeStep_17 (by decide) (Or.inr ⟨hq_1, rfl, rfl⟩)
set_option maxRecDepth 100000 in
set_option maxHeartbeats 4000000 in
theorem c_X2_mayBeatBest (l : Launch) (D : va_G) (g : Nat → ClassId) (lv : Nat → Bool) (a : Nat → Nat) (R : RS) (M : MS) (k mx : Nat) (hk : k < 6) (hkm : k < mnk M) (hI : Inv M) (hmx : mx ≤ 5000) (pl : List (Nat × Nat)) (S : SS) (hst : ST lv a R M k) (hL : LC R k mx pl S) (hsi : SI M k mx S) (x : Nat) (hxx : x < 2 ^ (mW M * mD M)) (hn : pl.length ≤ 36) : cI l D g lv a yX2_mayBeatBest wsX2_mayBeatBest ({ frames := 1, cells := 0, slots := 0, locals := 21 } : Room) [.ref (a (1)), .ref (a (10 + 3 * k)), .long (lN (x)), .int (nI (pl.length))] R (fun r R' => R' = R ∧ (S.2.1 < pl.length + (mW M * mD M - pc x) / (kw M k * kd M k) + 1 ∧ r = nI 1 ∨ ¬ (S.2.1 < pl.length + (mW M * mD M - pc x) / (kw M k * kd M k) + 1) ∧ r = nI 0)) 0 0 := by
  refine c_body (cc := cX2_mayBeatBest) (maxL := 6) (ret := (some .boolean)) (by decide) rfl (Nat.le_of_ble_eq_true rfl) ?_
  intro pr en st mi bl me co ls B hl
  obtain ⟨hx, hb, hr, hml, hown, hts, hlocks, hnm, hK, hZ, hc, hA⟩ := B
  have hl : lv_has ls 6 [(0, .ref (a (1))), (1, .ref (a (10 + 3 * k))), (2, .long (lN (x))), (4, .int (nI (pl.length)))] := hl
  have hinX0 : ∀ w ∈ u_ws RX0 TX0 11, w ∈ wsX2_mayBeatBest := (fun _ h => List.mem_cons_of_mem _ (List.mem_append_right _ h))
  have hinX2 : ∀ w ∈ u_ws RX2 TX2 9, w ∈ wsX2_mayBeatBest := (fun _ h => List.mem_cons_of_mem _ (List.mem_append_left _ (List.mem_append_right _ h)))
  have hf_25 := hts (.fieldLink RX2 25 "PalletLayers$PatternSearch" "best" "I") (by decide +kernel)
  have hf_38 := hts (.fieldLink RX2 38 "PalletLayers$PatternSearch" "cellCount" "I") (by decide +kernel)
  have hf_97 := hts (.fieldLink RX2 97 "PalletLayers$Kind" "area" "I") (by decide +kernel)
  have hce := ce_b (iv_b hI)
  have har := ar_b (iv_k hI hkm)
  have hpl := pc_le hxx
  have hx36 : x < 68719476736 := Nat.lt_of_lt_of_le hxx (p36 hce.2)
  have hb37 : S.2.1 ≤ 37 := by rcases hsi.2.1 with h | h <;> have := hsi.2.2.1 <;> omega
  have hdv : (mW M * mD M - pc x) / (kw M k * kd M k) ≤ 36 := Nat.le_trans (Nat.div_le_self _ _) (by omega)
  refine lv_aload_n hx hb dX2_mayBeatBest_0 rfl (lv_at hl 0 rfl) ?_
  refine r_get (C := RX2) (T := TX2) (N := 9) (v := .int (nI (mW M * mD M))) hx hb hts hown hK.1 hc (hst.2.1.1) (rfl) rfl rfl hinX2 2 (by decide) hf_38 (fun _ h9 => h9) (congrArg Value.int hst.2.2.2.2.2) dX2_mayBeatBest_1 ?_
  refine lv_lload_n hx hb dX2_mayBeatBest_4 rfl (lv_at hl 2 rfl) ?_
  refine r_calli hc hA (va_runS (As := [.long (lN (x))]) (rest := [.int (nI (mW M * mD M))]) ⟨hx, hb, hml, hown, hts⟩ (c_J13_bitCount_95d88 l D g lv a R x (by omega) _) (va_cwS 1 hts gX2_mayBeatBest_J13_bitCount_95d88 rfl rfl rfl (by decide +kernel) ⟨Nat.le_of_ble_eq_true rfl, Nat.le_of_ble_eq_true rfl⟩) (r_preS hK hZ hc hA) rfl rfl hl.1 rfl (lv_room (Nat.le_of_ble_eq_true rfl)) dX2_mayBeatBest_5 ⟨Nat.le_of_ble_eq_true rfl, Nat.le_of_ble_eq_true rfl⟩) (fun r R' H locs hp hc => ?_)
  obtain ⟨hre, hRe⟩ := hp
  rw [hRe] at hc
  rw [hre]
  refine nv_isub hx hb dX2_mayBeatBest_8 (by omega) ?_
  refine lv_istore (lv' := [(5, .int (nI ((mW M * mD M) - (pc x)))), (0, .ref (a (1))), (1, .ref (a (10 + 3 * k))), (2, .long (lN (x))), (4, .int (nI (pl.length)))]) hx hb dX2_mayBeatBest_9 hl (by decide) rfl (fun ls hl => ?_)
  refine lv_iload hx hb dX2_mayBeatBest_11 (lv_at hl 4 rfl) ?_
  refine lv_iload hx hb dX2_mayBeatBest_13 (lv_at hl 0 rfl) ?_
  refine lv_aload_n hx hb dX2_mayBeatBest_15 rfl (lv_at hl 2 rfl) ?_
  refine r_get (C := RX0) (T := TX0) (N := 11) (v := .int (nI (kw M k * kd M k))) hx hb hts hown hK.1 hc (hst.1.1) (sh_K (by omega)) rfl rfl hinX0 4 (by decide) hf_97 (fun _ h9 => h9) (congrArg Value.int hst.2.2.1.2.2.2.2.1) dX2_mayBeatBest_16 ?_
  refine nv_idiv hx hb dX2_mayBeatBest_19 har.1 (by omega) (by omega) ?_
  refine nv_iadd hx hb dX2_mayBeatBest_20 ?_
  refine lv_aload_n hx hb dX2_mayBeatBest_21 rfl (lv_at hl 1 rfl) ?_
  refine r_get (C := RX2) (T := TX2) (N := 9) (v := .int (stI S.2.1)) hx hb hts hown hK.1 hc (hst.2.1.1) (rfl) rfl rfl hinX2 7 (by decide) hf_25 (fun _ h9 => h9) (congrArg Value.int hL.2.2.1) dX2_mayBeatBest_22 ?_
  refine lv_icmp_le (tgt := 32) hx hb dX2_mayBeatBest_25 (by decide) (fun hq_3 => ?_) (fun hq_3 => ?_)
  · have hq_3 := (le_st (by omega) (by omega)).mp hq_3
    have hbb := hq_3
    refine lv_iconst (v := nI (0)) hx hb dX2_mayBeatBest_32 (by decide) ?_
    exact r_zret hx hb hr hlocks hc dX2_mayBeatBest_33 (by decide) ⟨rfl, Or.inr ⟨hbb, rfl⟩⟩
  · have hq_3 : S.2.1 < pl.length + (mW M * mD M - pc x) / (kw M k * kd M k) + 1 := Decidable.byContradiction (fun z => hq_3 ((le_st (by omega) (by omega)).mpr z))
    have hbb := hq_3
    refine lv_iconst (v := nI (1)) hx hb dX2_mayBeatBest_28 (by decide) ?_
    refine lv_goto (tgt := 33) hx hb dX2_mayBeatBest_29 (by decide) ?_
    exact r_zret hx hb hr hlocks hc dX2_mayBeatBest_33 (by decide) ⟨rfl, Or.inl ⟨hbb, rfl⟩⟩
set_option maxRecDepth 100000 in
set_option maxHeartbeats 4000000 in
theorem c_X2_keepIfBetter (l : Launch) (D : va_G) (g : Nat → ClassId) (lv : Nat → Bool) (a : Nat → Nat) (R : RS) (M : MS) (k mx : Nat) (hk : k < 6) (hkm : k < mnk M) (hI : Inv M) (hmx : mx ≤ 5000) (pl : List (Nat × Nat)) (S : SS) (hst : ST lv a R M k) (hL : LC R k mx pl S) (hsi : SI M k mx S) (hn : pl.length ≤ 36) : cV l D g lv a yX2_keepIfBetter wsX2_keepIfBetter ({ frames := 2, cells := 0, slots := 0, locals := 84 } : Room) [.ref (a (1)), .ref (a (10 + 3 * k)), .int (nI (pl.length))] R (fun R' => FC R R' k ∧ LC R' k mx pl (leaf pl S)) 0 0 := by
  refine c_body (cc := cX2_keepIfBetter) (maxL := 3) (ret := none) (by decide) rfl (Nat.le_of_ble_eq_true rfl) ?_
  intro pr en st mi bl me co ls B hl
  obtain ⟨hx, hb, hr, hml, hown, hts, hlocks, hnm, hK, hZ, hc, hA⟩ := B
  have hl : lv_has ls 3 [(0, .ref (a (1))), (1, .ref (a (10 + 3 * k))), (2, .int (nI (pl.length)))] := hl
  have hinX2 : ∀ w ∈ u_ws RX2 TX2 9, w ∈ wsX2_keepIfBetter := (fun _ h => List.mem_cons_of_mem _ (List.mem_append_left _ (List.mem_append_left _ (List.mem_append_right _ h))))
  have hf_9 := hts (.fieldLink RX2 9 "PalletLayers$PatternSearch" "corners" "[I") (by decide +kernel)
  have hf_15 := hts (.fieldLink RX2 15 "PalletLayers$PatternSearch" "ways" "[I") (by decide +kernel)
  have hf_25 := hts (.fieldLink RX2 25 "PalletLayers$PatternSearch" "best" "I") (by decide +kernel)
  have hb37 : S.2.1 ≤ 37 := by rcases hsi.2.1 with h | h <;> have := hsi.2.2.1 <;> omega
  refine lv_iload_n hx hb dX2_keepIfBetter_0 rfl (lv_at hl 2 rfl) ?_
  refine lv_aload_n hx hb dX2_keepIfBetter_1 rfl (lv_at hl 0 rfl) ?_
  refine r_get (C := RX2) (T := TX2) (N := 9) (v := .int (stI S.2.1)) hx hb hts hown hK.1 hc (hst.2.1.1) (rfl) rfl rfl hinX2 7 (by decide) hf_25 (fun _ h9 => h9) (congrArg Value.int hL.2.2.1) dX2_keepIfBetter_2 ?_
  refine lv_icmp_le (tgt := 26) hx hb dX2_keepIfBetter_5 (by decide) (fun hq_1 => ?_) (fun hq_1 => ?_)
  · have hq_1 := (le_st (by omega) (by omega)).mp hq_1
    exact r_vret hx hb hr hlocks hc dX2_keepIfBetter_26 ⟨FC.r _ _, by rw [show leaf pl S = S from if_neg hq_1]; exact hL⟩
  · have hq_1 : S.2.1 < pl.length + 1 := Decidable.byContradiction (fun z => hq_1 ((le_st (by omega) (by omega)).mpr z))
    refine lv_aload_n hx hb dX2_keepIfBetter_8 rfl (lv_at hl 0 rfl) ?_
    refine lv_iload_n hx hb dX2_keepIfBetter_9 rfl (lv_at hl 2 rfl) ?_
    refine r_put (C := RX2) (T := TX2) (N := 9) (R' := sfi R 1 7 (nI (pl.length))) hx hb hts hown hK.1 hc (hst.2.1.1) (rfl) rfl rfl hinX2 tyX2 tyX2_ok nmX2 7 (by decide) hf_25 (fun _ h9 => h9) rfl (tyX2_ok 7 (by decide)) rfl rfl dX2_keepIfBetter_10 (fds_sfi (by decide) (by decide)) (fun _ h9 => ct_sfi h9) (fun H locs hc => ?_)
    refine lv_aload_n hx hb dX2_keepIfBetter_13 rfl (lv_at hl 1 rfl) ?_
    refine lv_aload_n hx hb dX2_keepIfBetter_14 rfl (lv_at hl 0 rfl) ?_
    refine r_get (C := RX2) (T := TX2) (N := 9) (v := .ref (a (2))) hx hb hts hown hK.1 hc (hst.2.1.1) (rfl) rfl rfl hinX2 3 (by decide) hf_9 (fun _ h9 => h9) (congrArg va_rf hst.2.1.2.2.2.1) dX2_keepIfBetter_15 ?_
    refine lv_aload_n hx hb dX2_keepIfBetter_18 rfl (lv_at hl 0 rfl) ?_
    refine r_get (C := RX2) (T := TX2) (N := 9) (v := .ref (a (3))) hx hb hts hown hK.1 hc (hst.2.1.1) (rfl) rfl rfl hinX2 4 (by decide) hf_15 (fun _ h9 => h9) (congrArg va_rf hst.2.1.2.2.2.2) dX2_keepIfBetter_19 ?_
    refine lv_iload_n hx hb dX2_keepIfBetter_22 rfl (lv_at hl 2 rfl) ?_
    refine r_callv hc hA (va_runV (As := [.ref (a (2)), .ref (a (3)), .int (nI (pl.length))]) (rest := []) ⟨hx, hb, hml, hown, hts⟩ (c_X0_keepPattern l D g lv a (sfi R 1 7 (nI (pl.length))) k hk hst.1 hst.2.1 pl.length hn _) (cwV 3 hts gX2_keepIfBetter_X0_keepPattern rfl rfl rfl (by decide +kernel) ⟨Nat.le_of_ble_eq_true rfl, Nat.le_of_ble_eq_true rfl⟩) (r_preV hK hZ hc hA (hst.1.1) (sh_K (by omega)) rfl) rfl rfl hl.1 rfl (lv_room (Nat.le_of_ble_eq_true rfl)) dX2_keepIfBetter_23 ⟨Nat.le_of_ble_eq_true rfl, Nat.le_of_ble_eq_true rfl⟩) (fun R' H locs hp hc => ?_)
    have hkp := hp
    exact r_vret hx hb hr hlocks hc dX2_keepIfBetter_26 ⟨((FC.r R k).s1 (by decide)).kp hkp, lc_keep hL hk hq_1 hkp⟩
set_option maxRecDepth 100000 in
set_option maxHeartbeats 4000000 in
theorem c_X2_tryBox (l : Launch) (D : va_G) (g : Nat → ClassId) (lv : Nat → Bool) (a : Nat → Nat) (R : RS) (M : MS) (k mx : Nat) (hk : k < 6) (hkm : k < mnk M) (hI : Inv M) (hmx : mx ≤ 5000) (pl : List (Nat × Nat)) (S : SS) (hst : ST lv a R M k) (hL : LC R k mx pl S) (hsi : SI M k mx S) (f : Nat) (ih : goC l D g lv a M k mx f) (x c y : Nat) (hxx : x < 2 ^ (mW M * mD M)) (hG : GX M k x pl) (hcf : c = fo (mW M * mD M) x) (hc2 : c < mW M * mD M) (hy : y ≤ 1) (hk9 : ¬ (y + 1 = 2 ∧ kw M k = kd M k)) (hfu : mW M * mD M - fo (mW M * mD M) x < f + 1) : cV l D g lv a yX2_tryBox wsX2_tryBox (tR f) [.ref (a (1)), .ref (a (10 + 3 * k)), .int (nI (c)), .int (nI (y)), .long (lN (x)), .int (nI (pl.length))] R (fun R' => FC R R' k ∧ LC R' k mx pl (tr1 (goS M k mx f) M k mx x c pl (y + 1) S)) 0 0 := by
  refine c_body (cc := cX2_tryBox) (maxL := 10) (ret := none) (by decide) rfl (Nat.le_of_ble_eq_true rfl) ?_
  intro pr en st mi bl me co ls B hl
  obtain ⟨hx, hb, hr, hml, hown, hts, hlocks, hnm, hK, hZ, hc, hA⟩ := B
  have hl : lv_has ls 10 [(0, .ref (a (1))), (1, .ref (a (10 + 3 * k))), (2, .int (nI (c))), (3, .int (nI (y))), (4, .long (lN (x))), (6, .int (nI (pl.length)))] := hl
  have hinX2 : ∀ w ∈ u_ws RX2 TX2 9, w ∈ wsX2_tryBox := (fun _ h => List.mem_cons_of_mem _ (List.mem_append_left _ (List.mem_append_left _ (List.mem_append_right _ h))))
  have hf_9 := hts (.fieldLink RX2 9 "PalletLayers$PatternSearch" "corners" "[I") (by decide +kernel)
  have hf_15 := hts (.fieldLink RX2 15 "PalletLayers$PatternSearch" "ways" "[I") (by decide +kernel)
  have hf_32 := hts (.fieldLink RX2 32 "PalletLayers$PatternSearch" "areaWidth" "I") (by decide +kernel)
  have hf_35 := hts (.fieldLink RX2 35 "PalletLayers$PatternSearch" "areaDepth" "I") (by decide +kernel)
  have hce := ce_b (iv_b hI)
  have hb9 := iv_b hI
  have hki := iv_k hI hkm
  have hac9 := ac_b (y := y) hki
  have hmd := md_b (c := c) ⟨hb9.1, hb9.2.1⟩ (by omega)
  have hx36 : x < 68719476736 := Nat.lt_of_lt_of_le hxx (p36 hce.2)
  have hplc := hG.1
  refine lv_aload_n hx hb dX2_tryBox_0 rfl (lv_at hl 1 rfl) ?_
  refine lv_iload_n hx hb dX2_tryBox_1 rfl (lv_at hl 2 rfl) ?_
  refine lv_iload_n hx hb dX2_tryBox_2 rfl (lv_at hl 3 rfl) ?_
  refine r_calll hc hA (va_runV (As := [.int (nI (c)), .int (nI (y))]) (rest := []) ⟨hx, hb, hml, hown, hts⟩ (c_X0_cellsAt l D g lv a R M k hk hst.1 hst.2.2.1 c y (by omega) (by omega) _) (cwV 2 hts gX2_tryBox_X0_cellsAt rfl rfl rfl (by decide +kernel) (tR_le (by decide) (by decide))) (r_preV hK hZ hc hA (hst.1.1) (sh_K (by omega)) rfl) rfl rfl hl.1 rfl (lv_room (Nat.le_of_ble_eq_true rfl)) dX2_tryBox_3 tR_c) (fun r R' H locs hp hc => ?_)
  obtain ⟨hre, hRe⟩ := hp
  rw [hRe] at hc
  rw [hre]
  refine lv_lstore (lv' := [(7, .long (lN (bm (mW M) c (ac M k y) (alo M k y)))), (0, .ref (a (1))), (1, .ref (a (10 + 3 * k))), (2, .int (nI (c))), (3, .int (nI (y))), (4, .long (lN (x))), (6, .int (nI (pl.length)))]) hx hb dX2_tryBox_6 hl (by decide) rfl (fun ls hl => ?_)
  refine lv_iload_n hx hb dX2_tryBox_8 rfl (lv_at hl 3 rfl) ?_
  refine lv_aload_n hx hb dX2_tryBox_9 rfl (lv_at hl 1 rfl) ?_
  refine r_get (C := RX2) (T := TX2) (N := 9) (v := .int (nI (mW M))) hx hb hts hown hK.1 hc (hst.2.1.1) (rfl) rfl rfl hinX2 0 (by decide) hf_32 (fun _ h9 => h9) (congrArg Value.int hst.2.2.2.1) dX2_tryBox_10 ?_
  refine nv_irem hx hb dX2_tryBox_13 (by omega) (by omega) (by omega) ?_
  refine lv_aload_n hx hb dX2_tryBox_14 rfl (lv_at hl 2 rfl) ?_
  refine lv_iload_n hx hb dX2_tryBox_15 rfl (lv_at hl 4 rfl) ?_
  refine r_calli hc hA (va_runV (As := [.int (nI (y))]) (rest := [.int (nI (c % (mW M)))]) ⟨hx, hb, hml, hown, hts⟩ (c_X0_across l D g lv a R M k hk hst.1 hst.2.2.1 y (by omega) _) (cwV 1 hts gX2_tryBox_X0_across rfl rfl rfl (by decide +kernel) (tR_le (by decide) (by decide))) (r_preV hK hZ hc hA (hst.1.1) (sh_K (by omega)) rfl) rfl rfl hl.1 rfl (lv_room (Nat.le_of_ble_eq_true rfl)) dX2_tryBox_16 tR_c) (fun r R' H locs hp hc => ?_)
  obtain ⟨hre, hRe⟩ := hp
  rw [hRe] at hc
  rw [hre]
  refine nv_iadd hx hb dX2_tryBox_19 ?_
  refine lv_aload_n hx hb dX2_tryBox_20 rfl (lv_at hl 1 rfl) ?_
  refine r_get (C := RX2) (T := TX2) (N := 9) (v := .int (nI (mW M))) hx hb hts hown hK.1 hc (hst.2.1.1) (rfl) rfl rfl hinX2 0 (by decide) hf_32 (fun _ h9 => h9) (congrArg Value.int hst.2.2.2.1) dX2_tryBox_21 ?_
  refine lv_icmp_gt (tgt := 50) hx hb dX2_tryBox_24 (by decide) (fun hq_5 => ?_) (fun hq_5 => ?_)
  · have hq_5 : (mW M) < ((c % (mW M)) + (ac M k y)) := (nI_ltI (a := (mW M)) (b := ((c % (mW M)) + (ac M k y))) (by omega) (by omega)).mp hq_5
    refine lv_iconst (v := nI (0)) hx hb dX2_tryBox_50 (by decide) ?_
    refine lv_istore (lv' := [(9, .int (nI (0))), (7, .long (lN (bm (mW M) c (ac M k y) (alo M k y)))), (0, .ref (a (1))), (1, .ref (a (10 + 3 * k))), (2, .int (nI (c))), (3, .int (nI (y))), (4, .long (lN (x))), (6, .int (nI (pl.length)))]) hx hb dX2_tryBox_51 hl (by decide) rfl (fun ls hl => ?_)
    refine lv_iload hx hb dX2_tryBox_53 (lv_at hl 0 rfl) ?_
    refine lv_if_eq (tgt := 85) hx hb dX2_tryBox_55 (by decide) (fun hq_6 => ?_) (fun hq_6 => absurd hq_6 (by decide))
    exact r_vret hx hb hr hlocks hc dX2_tryBox_85 ⟨FC.r R k, by rw [tr1_n hy (fun z => by rw [key9, Nat.add_sub_cancel] at z; have := cel_ok z.2.1; omega)]; exact hL⟩
  · have hq_5 : ¬ ((mW M) < ((c % (mW M)) + (ac M k y))) := fun z => hq_5 ((nI_ltI (a := (mW M)) (b := ((c % (mW M)) + (ac M k y))) (by omega) (by omega)).mpr z)
    refine lv_iload_n hx hb dX2_tryBox_27 rfl (lv_at hl 3 rfl) ?_
    refine lv_aload_n hx hb dX2_tryBox_28 rfl (lv_at hl 1 rfl) ?_
    refine r_get (C := RX2) (T := TX2) (N := 9) (v := .int (nI (mW M))) hx hb hts hown hK.1 hc (hst.2.1.1) (rfl) rfl rfl hinX2 0 (by decide) hf_32 (fun _ h9 => h9) (congrArg Value.int hst.2.2.2.1) dX2_tryBox_29 ?_
    refine nv_idiv hx hb dX2_tryBox_32 (by omega) (by omega) (by omega) ?_
    refine lv_aload_n hx hb dX2_tryBox_33 rfl (lv_at hl 2 rfl) ?_
    refine lv_iload_n hx hb dX2_tryBox_34 rfl (lv_at hl 4 rfl) ?_
    refine r_calli hc hA (va_runV (As := [.int (nI (y))]) (rest := [.int (nI (c / (mW M)))]) ⟨hx, hb, hml, hown, hts⟩ (c_X0_along l D g lv a R M k hk hst.1 hst.2.2.1 y (by omega) _) (cwV 1 hts gX2_tryBox_X0_along rfl rfl rfl (by decide +kernel) (tR_le (by decide) (by decide))) (r_preV hK hZ hc hA (hst.1.1) (sh_K (by omega)) rfl) rfl rfl hl.1 rfl (lv_room (Nat.le_of_ble_eq_true rfl)) dX2_tryBox_35 tR_c) (fun r R' H locs hp hc => ?_)
    obtain ⟨hre, hRe⟩ := hp
    rw [hRe] at hc
    rw [hre]
    refine nv_iadd hx hb dX2_tryBox_38 ?_
    refine lv_aload_n hx hb dX2_tryBox_39 rfl (lv_at hl 1 rfl) ?_
    refine r_get (C := RX2) (T := TX2) (N := 9) (v := .int (nI (mD M))) hx hb hts hown hK.1 hc (hst.2.1.1) (rfl) rfl rfl hinX2 1 (by decide) hf_35 (fun _ h9 => h9) (congrArg Value.int hst.2.2.2.2.1) dX2_tryBox_40 ?_
    refine lv_icmp_gt (tgt := 50) hx hb dX2_tryBox_43 (by decide) (fun hq_9 => ?_) (fun hq_9 => ?_)
    · have hq_9 : (mD M) < ((c / (mW M)) + (alo M k y)) := (nI_ltI (a := (mD M)) (b := ((c / (mW M)) + (alo M k y))) (by omega) (by omega)).mp hq_9
      refine lv_iconst (v := nI (0)) hx hb dX2_tryBox_50 (by decide) ?_
      refine lv_istore (lv' := [(9, .int (nI (0))), (7, .long (lN (bm (mW M) c (ac M k y) (alo M k y)))), (0, .ref (a (1))), (1, .ref (a (10 + 3 * k))), (2, .int (nI (c))), (3, .int (nI (y))), (4, .long (lN (x))), (6, .int (nI (pl.length)))]) hx hb dX2_tryBox_51 hl (by decide) rfl (fun ls hl => ?_)
      refine lv_iload hx hb dX2_tryBox_53 (lv_at hl 0 rfl) ?_
      refine lv_if_eq (tgt := 85) hx hb dX2_tryBox_55 (by decide) (fun hq_10 => ?_) (fun hq_10 => absurd hq_10 (by decide))
      exact r_vret hx hb hr hlocks hc dX2_tryBox_85 ⟨FC.r R k, by rw [tr1_n hy (fun z => by rw [key9, Nat.add_sub_cancel] at z; have := cel_ok z.2.1; omega)]; exact hL⟩
    · have hq_9 : ¬ ((mD M) < ((c / (mW M)) + (alo M k y))) := fun z => hq_9 ((nI_ltI (a := (mD M)) (b := ((c / (mW M)) + (alo M k y))) (by omega) (by omega)).mpr z)
      refine lv_iconst (v := nI (1)) hx hb dX2_tryBox_46 (by decide) ?_
      refine lv_goto (tgt := 51) hx hb dX2_tryBox_47 (by decide) ?_
      refine lv_istore (lv' := [(9, .int (nI (1))), (7, .long (lN (bm (mW M) c (ac M k y) (alo M k y)))), (0, .ref (a (1))), (1, .ref (a (10 + 3 * k))), (2, .int (nI (c))), (3, .int (nI (y))), (4, .long (lN (x))), (6, .int (nI (pl.length)))]) hx hb dX2_tryBox_51 hl (by decide) rfl (fun ls hl => ?_)
      refine lv_iload hx hb dX2_tryBox_53 (lv_at hl 0 rfl) ?_
      refine lv_if_eq (tgt := 85) hx hb dX2_tryBox_55 (by decide) (fun hq_11 => absurd hq_11 (by decide)) (fun hq_11 => ?_)
      have hcel : cel M k c y = bm (mW M) c (ac M k y) (alo M k y) := cel_t (by omega) (by omega)
      rw [← hcel] at hl
      have hclt : cel M k c y < 68719476736 := Nat.lt_of_lt_of_le cel_lt (p36 hce.2)
      have hcel0 : cel M k c y ≠ 0 := fun z => by have := bm_c (W := mW M) (c := c) (w := ac M k y) (d := alo M k y) (by omega) (by omega); rw [← hcel, z] at this; simp at this
      refine lv_lload hx hb dX2_tryBox_58 (lv_at hl 1 rfl) ?_
      refine lv_lload hx hb dX2_tryBox_60 (lv_at hl 6 rfl) ?_
      refine nv_land hx hb dX2_tryBox_62 (by omega) (by omega) ?_
      refine lv_lconst (v := lN 0) hx hb dX2_tryBox_63 (by decide) ?_
      refine W.lcmp hx hb dX2_tryBox_64 ?_
      refine lv_if_ne (tgt := 85) hx hb dX2_tryBox_65 (by decide) (fun hq_12 => ?_) (fun hq_12 => ?_)
      · have hq_12 : ¬ (((cel M k c y) &&& x) = 0) := fun z => hq_12 (lg_0.mpr ((pk_lEQ (by have h9 : cel M k c y &&& x ≤ cel M k c y := Nat.and_le_left; omega) (by have h9 : cel M k c y &&& x ≤ cel M k c y := Nat.and_le_left; omega)).mpr z))
        have hov : ¬ cel M k c y &&& x = 0 := hq_12
        exact r_vret hx hb hr hlocks hc dX2_tryBox_85 ⟨FC.r R k, by rw [tr1_n hy (fun z => by rw [key9, Nat.add_sub_cancel] at z; exact hov z.2.2)]; exact hL⟩
      · have hq_12 : ((cel M k c y) &&& x) = 0 := (pk_lEQ (by have h9 : cel M k c y &&& x ≤ cel M k c y := Nat.and_le_left; omega) (by have h9 : cel M k c y &&& x ≤ cel M k c y := Nat.and_le_left; omega)).mp (lg_0.mp hq_12)
        have hov : cel M k c y &&& x = 0 := hq_12
        refine lv_iload hx hb dX2_tryBox_68 (lv_at hl 7 rfl) ?_
        refine lv_aload_n hx hb dX2_tryBox_70 rfl (lv_at hl 2 rfl) ?_
        refine r_get (C := RX2) (T := TX2) (N := 9) (v := .ref (a (2))) hx hb hts hown hK.1 hc (hst.2.1.1) (rfl) rfl rfl hinX2 3 (by decide) hf_9 (fun _ h9 => h9) (congrArg va_rf hst.2.1.2.2.2.1) dX2_tryBox_71 ?_
        refine r_alen (n := 36) (t0 := 0) hx hb hK.1 hc (hst.2.1.2.1) (rfl) (ct_i (rfl)) rfl dX2_tryBox_74 ?_
        refine lv_icmp_ge (tgt := 85) hx hb dX2_tryBox_75 (by decide) (fun hq_13 => (absurd ((nI_leI (a := 36) (b := pl.length) (by omega) (by omega)).mp hq_13) (by omega))) (fun hq_13 => ?_)
        refine lv_aload_n hx hb dX2_tryBox_78 rfl (lv_at hl 2 rfl) ?_
        refine r_calli hc hA (va_runV (As := []) (rest := []) ⟨hx, hb, hml, hown, hts⟩ (c_X2_takeStep l D g lv a R M k mx hk hkm hI hmx pl S hst hL hsi _) (cwV 0 hts gX2_tryBox_X2_takeStep rfl rfl rfl (by decide +kernel) (tR_le (by decide) (by decide))) (r_preV hK hZ hc hA (hst.2.1.1) (rfl) rfl) rfl rfl hl.1 rfl (lv_room (Nat.le_of_ble_eq_true rfl)) dX2_tryBox_79 tR_c) (fun r R' H locs hp hc => ?_)
        obtain ⟨hs1, rfl, hRe⟩ | ⟨hs1, rfl, hRe⟩ := hp
        · rw [hRe] at hc
          refine lv_if_ne (tgt := 86) hx hb dX2_tryBox_82 (by decide) (fun hq_16 => ?_) (fun hq_16 => absurd hq_16 (by decide))
          refine lv_aload_n hx hb dX2_tryBox_86 rfl (lv_at hl 2 rfl) ?_
          refine r_get (C := RX2) (T := TX2) (N := 9) (v := .ref (a (2))) hx hb hts hown hK.1 hc (hst.2.1.1) (rfl) rfl rfl hinX2 3 (by decide) hf_9 (fun _ h9 => h9) (congrArg va_rf hst.2.1.2.2.2.1) dX2_tryBox_87 ?_
          refine lv_iload hx hb dX2_tryBox_90 (lv_at hl 7 rfl) ?_
          refine lv_iload_n hx hb dX2_tryBox_92 rfl (lv_at hl 4 rfl) ?_
          refine r_iast hx hb hK.1 hc (hst.2.1.2.1) (rfl) (by decide) (by omega) dX2_tryBox_93 (fun H locs hc => ?_)
          refine lv_aload_n hx hb dX2_tryBox_94 rfl (lv_at hl 2 rfl) ?_
          refine r_get (C := RX2) (T := TX2) (N := 9) (v := .ref (a (3))) hx hb hts hown hK.1 hc (hst.2.1.1) (rfl) rfl rfl hinX2 4 (by decide) hf_15 (fun _ h9 => h9) (congrArg va_rf hst.2.1.2.2.2.2) dX2_tryBox_95 ?_
          refine lv_iload hx hb dX2_tryBox_98 (lv_at hl 7 rfl) ?_
          refine lv_iload_n hx hb dX2_tryBox_100 rfl (lv_at hl 5 rfl) ?_
          refine r_iast hx hb hK.1 hc (hst.2.1.2.2.1) (rfl) (by decide) (by omega) dX2_tryBox_101 (fun H locs hc => ?_)
          refine lv_aload_n hx hb dX2_tryBox_102 rfl (lv_at hl 2 rfl) ?_
          refine lv_aload_n hx hb dX2_tryBox_103 rfl (lv_at hl 3 rfl) ?_
          refine lv_iload_n hx hb dX2_tryBox_104 rfl (lv_at hl 4 rfl) ?_
          refine lv_iconst (v := nI (1)) hx hb dX2_tryBox_105 (by decide) ?_
          refine nv_iadd hx hb dX2_tryBox_106 ?_
          refine lv_lload hx hb dX2_tryBox_107 (lv_at hl 6 rfl) ?_
          refine lv_lload hx hb dX2_tryBox_109 (lv_at hl 1 rfl) ?_
          refine nv_lor hx hb dX2_tryBox_111 (by omega) (by omega) ?_
          refine lv_iload hx hb dX2_tryBox_112 (lv_at hl 7 rfl) ?_
          refine lv_iconst (v := nI (1)) hx hb dX2_tryBox_114 (by decide) ?_
          refine nv_iadd hx hb dX2_tryBox_115 ?_
          rw [show pl.length + 1 = (pl ++ [(c, y)]).length by simp]
          refine r_callv hc hA (va_runV (As := [.ref (a (10 + 3 * k)), .int (nI (c + 1)), .long (lN (x ||| (cel M k c y))), .int (nI ((pl ++ [(c, y)]).length))]) (rest := []) ⟨hx, hb, hml, hown, hts⟩ (ih (sai (sai (sfi R 1 6 (nI (S.1 + 1))) 2 pl.length (nI (c))) 3 pl.length (nI (y))) (x ||| cel M k c y) (c + 1) (pl ++ [(c, y)]) (stepS S) (hst.fc ((((FC.r R k).s1 (by decide)).a2 (by decide)).a2 (by decide)) hk) (lc_box (lc_step hL) hk) (gx_box hI hkm hG hcf hc2 hy hcel0 hov) (si_step hsi hs1) (Nat.or_lt_two_pow hxx cel_lt) (by omega) (fo_closed hcf (cel_bit hI hkm hcel0)) (by have := fo_up (n := mW M * mD M) (x := x) (y := cel M k c y) (by omega) (by rw [← hcf]; exact cel_bit hI hkm hcel0); omega) _) (cwV 4 hts gX2_tryBox_X2_goOn rfl rfl rfl (by decide +kernel) gt_le) (r_preV hK hZ hc hA (hst.2.1.1) (rfl) rfl) rfl rfl hl.1 rfl (lv_room (Nat.le_of_ble_eq_true rfl)) dX2_tryBox_116 tR_c) (fun R' H locs hp hc => ?_)
          have hgo := hp
          exact r_vret hx hb hr hlocks hc dX2_tryBox_119 ⟨((((FC.r R k).s1 (by decide)).a2 (by decide)).a2 (by decide)).trans hgo.1, by rw [tr1_k hy ⟨hk9, by rw [Nat.add_sub_cancel]; exact hcel0, by rw [Nat.add_sub_cancel]; exact hov⟩ hs1]; exact lc_back hgo.2⟩
        · rw [hRe] at hc
          refine lv_if_ne (tgt := 86) hx hb dX2_tryBox_82 (by decide) (fun hq_19 => absurd hq_19 (by decide)) (fun hq_19 => ?_)
          exact r_vret hx hb hr hlocks hc dX2_tryBox_85 ⟨(FC.r R k).s1 (by decide), by rw [tr1_l hy ⟨hk9, by rw [Nat.add_sub_cancel]; exact hcel0, by rw [Nat.add_sub_cancel]; exact hov⟩ hs1]; exact lc_lack hL⟩
set_option maxRecDepth 100000 in
set_option maxHeartbeats 4000000 in
theorem c_X2_goOn (l : Launch) (D : va_G) (g : Nat → ClassId) (lv : Nat → Bool) (a : Nat → Nat) (R : RS) (M : MS) (k mx : Nat) (hk : k < 6) (hkm : k < mnk M) (hI : Inv M) (hmx : mx ≤ 5000) (pl : List (Nat × Nat)) (S : SS) (hst : ST lv a R M k) (hL : LC R k mx pl S) (hsi : SI M k mx S) (f : Nat) (ih : goC l D g lv a M k mx f) (x c0 : Nat) (hxx : x < 2 ^ (mW M * mD M)) (hG : GX M k x pl) (hc0 : c0 ≤ mW M * mD M) (hcl0 : ∀ i, i < c0 → x.testBit i = true) (hfu : mW M * mD M - fo (mW M * mD M) x < f + 1) : cV l D g lv a yX2_goOn wsX2_goOn (gR (f + 1)) [.ref (a (1)), .ref (a (10 + 3 * k)), .int (nI (c0)), .long (lN (x)), .int (nI (pl.length))] R (fun R' => FC R R' k ∧ LC R' k mx pl (goS M k mx (f + 1) x pl S)) 0 0 := by
  refine c_body (cc := cX2_goOn) (maxL := 7) (ret := none) (by decide) rfl (Nat.le_of_ble_eq_true rfl) ?_
  intro pr en st mi bl me co ls B hl
  obtain ⟨hx, hb, hr, hml, hown, hts, hlocks, hnm, hK, hZ, hc, hA⟩ := B
  have hl : lv_has ls 7 [(0, .ref (a (1))), (1, .ref (a (10 + 3 * k))), (2, .int (nI (c0))), (3, .long (lN (x))), (5, .int (nI (pl.length)))] := hl
  have hinX0 : ∀ w ∈ u_ws RX0 TX0 11, w ∈ wsX2_goOn := (fun _ h => List.mem_cons_of_mem _ (List.mem_append_left _ (List.mem_append_right _ h)))
  have hinX2 : ∀ w ∈ u_ws RX2 TX2 9, w ∈ wsX2_goOn := (fun _ h => List.mem_cons_of_mem _ (List.mem_append_left _ (List.mem_append_left _ (List.mem_append_right _ h))))
  have hf_38 := hts (.fieldLink RX2 38 "PalletLayers$PatternSearch" "cellCount" "I") (by decide +kernel)
  have hf_70 := hts (.fieldLink RX2 70 "PalletLayers$Kind" "width" "I") (by decide +kernel)
  have hf_73 := hts (.fieldLink RX2 73 "PalletLayers$Kind" "depth" "I") (by decide +kernel)
  have hce := ce_b (iv_b hI)
  have hki := iv_k hI hkm
  have hx36 : x < 68719476736 := Nat.lt_of_lt_of_le hxx (p36 hce.2)
  have hplc := hG.1
  have hfl := fo_le (mW M * mD M) x
  refine lv_aload_n hx hb dX2_goOn_0 rfl (lv_at hl 0 rfl) ?_
  refine lv_iload_n hx hb dX2_goOn_1 rfl (lv_at hl 2 rfl) ?_
  refine lv_lload_n hx hb dX2_goOn_2 rfl (lv_at hl 3 rfl) ?_
  refine r_calli hc hA (va_runV (As := [.int (nI (c0)), .long (lN (x))]) (rest := []) ⟨hx, hb, hml, hown, hts⟩ (c_X2_firstOpen l D g lv a R M hst.2.1 hst.2.2.2 hI c0 x hx36 hc0 hcl0 _) (cwV 2 hts gX2_goOn_X2_firstOpen rfl rfl rfl (by decide +kernel) (gR_le (by decide) (by decide))) (r_preV hK hZ hc hA (hst.2.1.1) (rfl) rfl) rfl rfl hl.1 rfl (lv_room (Nat.le_of_ble_eq_true rfl)) dX2_goOn_3 gR_c) (fun r R' H locs hp hc => ?_)
  obtain ⟨hre, hRe⟩ := hp
  rw [hRe] at hc
  rw [hre]
  obtain ⟨c, hcf⟩ : ∃ z, z = fo (mW M * mD M) x := ⟨_, rfl⟩
  rw [← hcf]
  refine lv_istore (lv' := [(6, .int (nI (c))), (0, .ref (a (1))), (1, .ref (a (10 + 3 * k))), (2, .int (nI (c0))), (3, .long (lN (x))), (5, .int (nI (pl.length)))]) hx hb dX2_goOn_6 hl (by decide) rfl (fun ls hl => ?_)
  refine lv_iload hx hb dX2_goOn_8 (lv_at hl 0 rfl) ?_
  refine lv_aload_n hx hb dX2_goOn_10 rfl (lv_at hl 1 rfl) ?_
  refine r_get (C := RX2) (T := TX2) (N := 9) (v := .int (nI (mW M * mD M))) hx hb hts hown hK.1 hc (hst.2.1.1) (rfl) rfl rfl hinX2 2 (by decide) hf_38 (fun _ h9 => h9) (congrArg Value.int hst.2.2.2.2.2) dX2_goOn_11 ?_
  refine lv_icmp_lt (tgt := 25) hx hb dX2_goOn_14 (by decide) (fun hq_3 => ?_) (fun hq_3 => ?_)
  · have hq_3 : c < (mW M * mD M) := (nI_ltI (a := c) (b := (mW M * mD M)) (by omega) (by omega)).mp hq_3
    have hc2 : c < mW M * mD M := hq_3
    refine lv_aload_n hx hb dX2_goOn_25 rfl (lv_at hl 1 rfl) ?_
    refine lv_aload_n hx hb dX2_goOn_26 rfl (lv_at hl 2 rfl) ?_
    refine lv_lload_n hx hb dX2_goOn_27 rfl (lv_at hl 4 rfl) ?_
    refine lv_iload hx hb dX2_goOn_28 (lv_at hl 5 rfl) ?_
    refine r_calli hc hA (va_runV (As := [.ref (a (10 + 3 * k)), .long (lN (x)), .int (nI (pl.length))]) (rest := []) ⟨hx, hb, hml, hown, hts⟩ (c_X2_mayBeatBest l D g lv a R M k mx hk hkm hI hmx pl S hst hL hsi x hxx (by omega) _) (cwV 3 hts gX2_goOn_X2_mayBeatBest rfl rfl rfl (by decide +kernel) (gR_le (by decide) (by decide))) (r_preV hK hZ hc hA (hst.2.1.1) (rfl) rfl) rfl rfl hl.1 rfl (lv_room (Nat.le_of_ble_eq_true rfl)) dX2_goOn_30 gR_c) (fun r R' H locs hp hc => ?_)
    obtain ⟨hRe, ⟨hcut, rfl⟩ | ⟨hcut, rfl⟩⟩ := hp
    · rw [hRe] at hc
      refine lv_if_ne (tgt := 37) hx hb dX2_goOn_33 (by decide) (fun hq_6 => ?_) (fun hq_6 => absurd hq_6 (by decide))
      refine lv_aload_n hx hb dX2_goOn_37 rfl (lv_at hl 1 rfl) ?_
      refine lv_aload_n hx hb dX2_goOn_38 rfl (lv_at hl 2 rfl) ?_
      refine lv_iload hx hb dX2_goOn_39 (lv_at hl 0 rfl) ?_
      refine lv_iconst (v := nI (0)) hx hb dX2_goOn_41 (by decide) ?_
      refine lv_lload_n hx hb dX2_goOn_42 rfl (lv_at hl 4 rfl) ?_
      refine lv_iload hx hb dX2_goOn_43 (lv_at hl 5 rfl) ?_
      refine r_callv hc hA (va_runV (As := [.ref (a (10 + 3 * k)), .int (nI (c)), .int (nI (0)), .long (lN (x)), .int (nI (pl.length))]) (rest := []) ⟨hx, hb, hml, hown, hts⟩ (c_X2_tryBox l D g lv a R M k mx hk hkm hI hmx pl S hst hL hsi f ih x c 0 hxx hG hcf hc2 (by decide) (by omega) hfu _) (cwV 5 hts gX2_goOn_X2_tryBox rfl rfl rfl (by decide +kernel) tg_le) (r_preV hK hZ hc hA (hst.2.1.1) (rfl) rfl) rfl rfl hl.1 rfl (lv_room (Nat.le_of_ble_eq_true rfl)) dX2_goOn_45 gR_c) (fun R1 H locs hp hc => ?_)
      obtain ⟨hF1, hL_R1⟩ := hp
      have hst_R1 := hst.fc hF1 hk
      have hsi1 := tr1_si hI hkm (goS_si hI hkm f) hG hcf hc2 (show 0 + 1 ≤ 3 by decide) hsi
      obtain ⟨S1, hS1⟩ : ∃ z, z = tr1 (goS M k mx f) M k mx x c pl (0 + 1) S := ⟨_, rfl⟩
      rw [← hS1] at hL_R1 hsi1
      refine lv_aload_n hx hb dX2_goOn_48 rfl (lv_at hl 2 rfl) ?_
      refine r_get (C := RX0) (T := TX0) (N := 11) (v := .int (nI (kw M k))) hx hb hts hown hK.1 hc (hst_R1.1.1) (sh_K (by omega)) rfl rfl hinX0 0 (by decide) hf_70 (fun _ h9 => h9) (congrArg Value.int hst_R1.2.2.1.1) dX2_goOn_49 ?_
      refine lv_aload_n hx hb dX2_goOn_52 rfl (lv_at hl 2 rfl) ?_
      refine r_get (C := RX0) (T := TX0) (N := 11) (v := .int (nI (kd M k))) hx hb hts hown hK.1 hc (hst_R1.1.1) (sh_K (by omega)) rfl rfl hinX0 1 (by decide) hf_73 (fun _ h9 => h9) (congrArg Value.int hst_R1.2.2.1.2.1) dX2_goOn_53 ?_
      refine lv_icmp_eq (tgt := 70) hx hb dX2_goOn_56 (by decide) (fun hq_9 => ?_) (fun hq_9 => ?_)
      · have hq_9 : (kw M k) = (kd M k) := (nI_eq (a := (kw M k)) (b := (kd M k)) (by omega) (by omega)).mp hq_9
        have hsq : kw M k = kd M k := hq_9
        have hS2 : S1 = tr1 (goS M k mx f) M k mx x c pl 2 S1 := (tr1_n (y := 1) (by decide) (fun z => z.1 ⟨rfl, hsq⟩)).symm
        refine lv_aload_n hx hb dX2_goOn_70 rfl (lv_at hl 1 rfl) ?_
        refine r_calli hc hA (va_runV (As := []) (rest := []) ⟨hx, hb, hml, hown, hts⟩ (c_X2_takeStep l D g lv a R1 M k mx hk hkm hI hmx pl S1 hst_R1 hL_R1 hsi1 _) (cwV 0 hts gX2_goOn_X2_takeStep rfl rfl rfl (by decide +kernel) (gR_le (by decide) (by decide))) (r_preV hK hZ hc hA (hst_R1.2.1.1) (rfl) rfl) rfl rfl hl.1 rfl (lv_room (Nat.le_of_ble_eq_true rfl)) dX2_goOn_71 gR_c) (fun r R' H locs hp hc => ?_)
        obtain ⟨hs1, rfl, hRe⟩ | ⟨hs1, rfl, hRe⟩ := hp
        · rw [hRe] at hc
          refine lv_if_eq (tgt := 94) hx hb dX2_goOn_74 (by decide) (fun hq_12 => absurd hq_12 (by decide)) (fun hq_12 => ?_)
          refine lv_aload_n hx hb dX2_goOn_77 rfl (lv_at hl 1 rfl) ?_
          refine lv_aload_n hx hb dX2_goOn_78 rfl (lv_at hl 2 rfl) ?_
          refine lv_iload hx hb dX2_goOn_79 (lv_at hl 0 rfl) ?_
          refine lv_iconst (v := nI (1)) hx hb dX2_goOn_81 (by decide) ?_
          refine nv_iadd hx hb dX2_goOn_82 ?_
          refine lv_lload_n hx hb dX2_goOn_83 rfl (lv_at hl 4 rfl) ?_
          refine lv_lconst (v := lN 1) hx hb dX2_goOn_84 (by decide) ?_
          refine lv_iload hx hb dX2_goOn_85 (lv_at hl 0 rfl) ?_
          refine lv_lshl (v := lN (1 * 2 ^ c)) hx hb dX2_goOn_87 (wb_shl _ (by omega)) ?_
          refine nv_lor hx hb dX2_goOn_88 (by omega) (by rw [Nat.one_mul]; exact Nat.lt_of_lt_of_le (p2_lt hc2) (Nat.le_trans (p36 hce.2) (by decide))) ?_
          rw [Nat.one_mul]
          refine lv_iload hx hb dX2_goOn_89 (lv_at hl 5 rfl) ?_
          refine r_callv hc hA (va_runV (As := [.ref (a (10 + 3 * k)), .int (nI (c + 1)), .long (lN (x ||| 2 ^ c)), .int (nI (pl.length))]) (rest := []) ⟨hx, hb, hml, hown, hts⟩ (ih (sfi R1 1 6 (nI (S1.1 + 1))) (x ||| 2 ^ c) (c + 1) pl (stepS S1) (hst_R1.fc ((FC.r R1 k).s1 (by decide)) hk) (lc_step hL_R1) (gx_free hG hcf hc2) (si_step hsi1 hs1) (Nat.or_lt_two_pow hxx (p2_lt hc2)) (by omega) (fo_closed hcf Nat.testBit_two_pow_self) (by have := fo_up (n := mW M * mD M) (x := x) (y := 2 ^ c) (by omega) (by rw [← hcf]; exact Nat.testBit_two_pow_self); omega) _) (cwV 4 hts gX2_goOn_X2_goOn rfl rfl rfl (by decide +kernel) gg_le) (r_preV hK hZ hc hA (hst_R1.2.1.1) (rfl) rfl) rfl rfl hl.1 rfl (lv_room (Nat.le_of_ble_eq_true rfl)) dX2_goOn_91 gR_c) (fun R' H locs hp hc => ?_)
          have hgo := hp
          exact r_vret hx hb hr hlocks hc dX2_goOn_94 ⟨((hF1).s1 (by decide)).trans hgo.1, by rw [goS_go3 (by omega) hcut, ← hcf, show tr1 (goS M k mx f) M k mx x c pl 1 S = S1 from hS1.symm, show tr1 (goS M k mx f) M k mx x c pl 2 S1 = S1 from hS2.symm, tr1_3 hs1]; exact hgo.2⟩
        · rw [hRe] at hc
          refine lv_if_eq (tgt := 94) hx hb dX2_goOn_74 (by decide) (fun hq_15 => ?_) (fun hq_15 => absurd hq_15 (by decide))
          exact r_vret hx hb hr hlocks hc dX2_goOn_94 ⟨(hF1).s1 (by decide), by rw [goS_go3 (by omega) hcut, ← hcf, show tr1 (goS M k mx f) M k mx x c pl 1 S = S1 from hS1.symm, show tr1 (goS M k mx f) M k mx x c pl 2 S1 = S1 from hS2.symm, tr1_lack3 hs1]; exact lc_lack hL_R1⟩
      · have hq_9 : ¬ ((kw M k) = (kd M k)) := fun z => hq_9 ((nI_eq (a := (kw M k)) (b := (kd M k)) (by omega) (by omega)).mpr z)
        have hsq : ¬ kw M k = kd M k := hq_9
        refine lv_aload_n hx hb dX2_goOn_59 rfl (lv_at hl 1 rfl) ?_
        refine lv_aload_n hx hb dX2_goOn_60 rfl (lv_at hl 2 rfl) ?_
        refine lv_iload hx hb dX2_goOn_61 (lv_at hl 0 rfl) ?_
        refine lv_iconst (v := nI (1)) hx hb dX2_goOn_63 (by decide) ?_
        refine lv_lload_n hx hb dX2_goOn_64 rfl (lv_at hl 4 rfl) ?_
        refine lv_iload hx hb dX2_goOn_65 (lv_at hl 5 rfl) ?_
        refine r_callv hc hA (va_runV (As := [.ref (a (10 + 3 * k)), .int (nI (c)), .int (nI (1)), .long (lN (x)), .int (nI (pl.length))]) (rest := []) ⟨hx, hb, hml, hown, hts⟩ (c_X2_tryBox l D g lv a R1 M k mx hk hkm hI hmx pl S1 hst_R1 hL_R1 hsi1 f ih x c 1 hxx hG hcf hc2 (by decide) (by omega) hfu _) (cwV 5 hts gX2_goOn_X2_tryBox rfl rfl rfl (by decide +kernel) tg_le) (r_preV hK hZ hc hA (hst_R1.2.1.1) (rfl) rfl) rfl rfl hl.1 rfl (lv_room (Nat.le_of_ble_eq_true rfl)) dX2_goOn_67 gR_c) (fun R2 H locs hp hc => ?_)
        obtain ⟨hF2, hL_R2⟩ := hp
        have hst_R2 := hst_R1.fc hF2 hk
        have hsi2 := tr1_si hI hkm (goS_si hI hkm f) hG hcf hc2 (show 1 + 1 ≤ 3 by decide) hsi1
        obtain ⟨S2, hS2⟩ : ∃ z, z = tr1 (goS M k mx f) M k mx x c pl (1 + 1) S1 := ⟨_, rfl⟩
        rw [← hS2] at hL_R2 hsi2
        refine lv_aload_n hx hb dX2_goOn_70 rfl (lv_at hl 1 rfl) ?_
        refine r_calli hc hA (va_runV (As := []) (rest := []) ⟨hx, hb, hml, hown, hts⟩ (c_X2_takeStep l D g lv a R2 M k mx hk hkm hI hmx pl S2 hst_R2 hL_R2 hsi2 _) (cwV 0 hts gX2_goOn_X2_takeStep rfl rfl rfl (by decide +kernel) (gR_le (by decide) (by decide))) (r_preV hK hZ hc hA (hst_R2.2.1.1) (rfl) rfl) rfl rfl hl.1 rfl (lv_room (Nat.le_of_ble_eq_true rfl)) dX2_goOn_71 gR_c) (fun r R' H locs hp hc => ?_)
        obtain ⟨hs1, rfl, hRe⟩ | ⟨hs1, rfl, hRe⟩ := hp
        · rw [hRe] at hc
          refine lv_if_eq (tgt := 94) hx hb dX2_goOn_74 (by decide) (fun hq_20 => absurd hq_20 (by decide)) (fun hq_20 => ?_)
          refine lv_aload_n hx hb dX2_goOn_77 rfl (lv_at hl 1 rfl) ?_
          refine lv_aload_n hx hb dX2_goOn_78 rfl (lv_at hl 2 rfl) ?_
          refine lv_iload hx hb dX2_goOn_79 (lv_at hl 0 rfl) ?_
          refine lv_iconst (v := nI (1)) hx hb dX2_goOn_81 (by decide) ?_
          refine nv_iadd hx hb dX2_goOn_82 ?_
          refine lv_lload_n hx hb dX2_goOn_83 rfl (lv_at hl 4 rfl) ?_
          refine lv_lconst (v := lN 1) hx hb dX2_goOn_84 (by decide) ?_
          refine lv_iload hx hb dX2_goOn_85 (lv_at hl 0 rfl) ?_
          refine lv_lshl (v := lN (1 * 2 ^ c)) hx hb dX2_goOn_87 (wb_shl _ (by omega)) ?_
          refine nv_lor hx hb dX2_goOn_88 (by omega) (by rw [Nat.one_mul]; exact Nat.lt_of_lt_of_le (p2_lt hc2) (Nat.le_trans (p36 hce.2) (by decide))) ?_
          rw [Nat.one_mul]
          refine lv_iload hx hb dX2_goOn_89 (lv_at hl 5 rfl) ?_
          refine r_callv hc hA (va_runV (As := [.ref (a (10 + 3 * k)), .int (nI (c + 1)), .long (lN (x ||| 2 ^ c)), .int (nI (pl.length))]) (rest := []) ⟨hx, hb, hml, hown, hts⟩ (ih (sfi R2 1 6 (nI (S2.1 + 1))) (x ||| 2 ^ c) (c + 1) pl (stepS S2) (hst_R2.fc ((FC.r R2 k).s1 (by decide)) hk) (lc_step hL_R2) (gx_free hG hcf hc2) (si_step hsi2 hs1) (Nat.or_lt_two_pow hxx (p2_lt hc2)) (by omega) (fo_closed hcf Nat.testBit_two_pow_self) (by have := fo_up (n := mW M * mD M) (x := x) (y := 2 ^ c) (by omega) (by rw [← hcf]; exact Nat.testBit_two_pow_self); omega) _) (cwV 4 hts gX2_goOn_X2_goOn rfl rfl rfl (by decide +kernel) gg_le) (r_preV hK hZ hc hA (hst_R2.2.1.1) (rfl) rfl) rfl rfl hl.1 rfl (lv_room (Nat.le_of_ble_eq_true rfl)) dX2_goOn_91 gR_c) (fun R' H locs hp hc => ?_)
          have hgo := hp
          exact r_vret hx hb hr hlocks hc dX2_goOn_94 ⟨((hF1.trans hF2).s1 (by decide)).trans hgo.1, by rw [goS_go3 (by omega) hcut, ← hcf, show tr1 (goS M k mx f) M k mx x c pl 1 S = S1 from hS1.symm, show tr1 (goS M k mx f) M k mx x c pl 2 S1 = S2 from hS2.symm, tr1_3 hs1]; exact hgo.2⟩
        · rw [hRe] at hc
          refine lv_if_eq (tgt := 94) hx hb dX2_goOn_74 (by decide) (fun hq_23 => ?_) (fun hq_23 => absurd hq_23 (by decide))
          exact r_vret hx hb hr hlocks hc dX2_goOn_94 ⟨(hF1.trans hF2).s1 (by decide), by rw [goS_go3 (by omega) hcut, ← hcf, show tr1 (goS M k mx f) M k mx x c pl 1 S = S1 from hS1.symm, show tr1 (goS M k mx f) M k mx x c pl 2 S1 = S2 from hS2.symm, tr1_lack3 hs1]; exact lc_lack hL_R2⟩
    · rw [hRe] at hc
      refine lv_if_ne (tgt := 37) hx hb dX2_goOn_33 (by decide) (fun hq_24 => absurd hq_24 (by decide)) (fun hq_24 => ?_)
      exact r_vret hx hb hr hlocks hc dX2_goOn_36 ⟨FC.r R k, by rw [goS_cut (by omega) hcut]; exact hL⟩
  · have hq_3 : ¬ (c < (mW M * mD M)) := fun z => hq_3 ((nI_ltI (a := c) (b := (mW M * mD M)) (by omega) (by omega)).mpr z)
    refine lv_aload_n hx hb dX2_goOn_17 rfl (lv_at hl 1 rfl) ?_
    refine lv_aload_n hx hb dX2_goOn_18 rfl (lv_at hl 2 rfl) ?_
    refine lv_iload hx hb dX2_goOn_19 (lv_at hl 5 rfl) ?_
    refine r_callv hc hA (va_runV (As := [.ref (a (10 + 3 * k)), .int (nI (pl.length))]) (rest := []) ⟨hx, hb, hml, hown, hts⟩ (c_X2_keepIfBetter l D g lv a R M k mx hk hkm hI hmx pl S hst hL hsi (by omega) _) (cwV 2 hts gX2_goOn_X2_keepIfBetter rfl rfl rfl (by decide +kernel) (gR_le (by decide) (by decide))) (r_preV hK hZ hc hA (hst.2.1.1) (rfl) rfl) rfl rfl hl.1 rfl (lv_room (Nat.le_of_ble_eq_true rfl)) dX2_goOn_21 gR_c) (fun R' H locs hp hc => ?_)
    have hkb := hp
    exact r_vret hx hb hr hlocks hc dX2_goOn_24 ⟨hkb.1, by rw [goS_leaf (by have := fo_le (mW M * mD M) x; omega)]; exact hkb.2⟩
