set_option maxRecDepth 100000 in
set_option maxHeartbeats 4000000 in
theorem c_X3_isOutside (l : Launch) (D : va_G) (g : Nat → ClassId) (lv : Nat → Bool) (a : Nat → Nat) (R : RS) (x y z : Int32) : cI l D g lv a yX3_isOutside wsX3_isOutside ({ frames := 0, cells := 0, slots := 0, locals := 0 } : Room) [.int (x), .int (y), .int (z)] R (fun r R' => R' = R ∧ ((y ≤ x ∧ x ≤ z) ∧ r = nI 0 ∨ ¬ (y ≤ x ∧ x ≤ z) ∧ r = nI 1)) 0 0 := by
  refine c_body (cc := cX3_isOutside) (maxL := 3) (ret := (some .boolean)) (by decide) rfl (Nat.le_of_ble_eq_true rfl) ?_
  intro pr en st mi bl me co ls B hl
  obtain ⟨hx, hb, hr, hml, hown, hts, hlocks, hnm, hK, hZ, hc, hA⟩ := B
  have hl : lv_has ls 3 [(0, .int (x)), (1, .int (y)), (2, .int (z))] := hl
  refine lv_iload_n hx hb dX3_isOutside_0 rfl (lv_at hl 0 rfl) ?_
  refine lv_iload_n hx hb dX3_isOutside_1 rfl (lv_at hl 1 rfl) ?_
  refine lv_icmp_lt (tgt := 10) hx hb dX3_isOutside_2 (by decide) (fun hq_1 => ?_) (fun hq_1 => ?_)
  · skip
    refine lv_iconst (v := nI (1)) hx hb dX3_isOutside_10 (by decide) ?_
    refine lv_goto (tgt := 15) hx hb dX3_isOutside_11 (by decide) ?_
    exact r_zret hx hb hr hlocks hc dX3_isOutside_15 (by decide) ⟨rfl, Or.inr ⟨by intro h; first | exact absurd hq_1 (Int32.not_lt.mpr h.1) | exact absurd h.2 hq_2, rfl⟩⟩
  · skip
    refine lv_iload_n hx hb dX3_isOutside_5 rfl (lv_at hl 0 rfl) ?_
    refine lv_iload_n hx hb dX3_isOutside_6 rfl (lv_at hl 2 rfl) ?_
    refine lv_icmp_le (tgt := 14) hx hb dX3_isOutside_7 (by decide) (fun hq_2 => ?_) (fun hq_2 => ?_)
    · skip
      refine lv_iconst (v := nI (0)) hx hb dX3_isOutside_14 (by decide) ?_
      exact r_zret hx hb hr hlocks hc dX3_isOutside_15 (by decide) ⟨rfl, Or.inl ⟨⟨Int32.not_lt.mp hq_1, hq_2⟩, rfl⟩⟩
    · skip
      refine lv_iconst (v := nI (1)) hx hb dX3_isOutside_10 (by decide) ?_
      refine lv_goto (tgt := 15) hx hb dX3_isOutside_11 (by decide) ?_
      exact r_zret hx hb hr hlocks hc dX3_isOutside_15 (by decide) ⟨rfl, Or.inr ⟨by intro h; first | exact absurd hq_1 (Int32.not_lt.mpr h.1) | exact absurd h.2 hq_2, rfl⟩⟩
set_option maxRecDepth 100000 in
set_option maxHeartbeats 4000000 in
theorem c_X0_shape (l : Launch) (D : va_G) (g : Nat → ClassId) (lv : Nat → Bool) (a : Nat → Nat) (R : RS) (aw w d : Nat) (hW : aw ≤ 6) (hw : w ≤ 6) (hd : d ≤ 6) : cL l D g lv a yX0_shape wsX0_shape ({ frames := 0, cells := 0, slots := 0, locals := 0 } : Room) [.int (nI (aw)), .int (nI (w)), .int (nI (d))] R (fun r R' => r = lN (bm aw 0 w d) ∧ R' = R) 0 0 := by
  refine c_body (cc := cX0_shape) (maxL := 8) (ret := (some .long)) (by decide) rfl (Nat.le_of_ble_eq_true rfl) ?_
  intro pr en st mi bl me co ls B hl
  obtain ⟨hx, hb, hr, hml, hown, hts, hlocks, hnm, hK, hZ, hc, hA⟩ := B
  have hl : lv_has ls 8 [(0, .int (nI (aw))), (1, .int (nI (w))), (2, .int (nI (d)))] := hl
  refine lv_lconst (v := lN 1) hx hb dX0_shape_0 (by decide) ?_
  refine lv_iload_n hx hb dX0_shape_1 rfl (lv_at hl 1 rfl) ?_
  refine lv_lshl (v := lN (1 * 2 ^ w)) hx hb dX0_shape_2 (wb_shl _ (by omega)) ?_
  refine lv_lconst (v := lN 1) hx hb dX0_shape_3 (by decide) ?_
  refine nv_lsub hx hb dX0_shape_4 (by have := Nat.two_pow_pos w; omega) ?_
  refine lv_lstore_n (lv' := [(3, .long (lN ((1 * 2 ^ w) - 1))), (0, .int (nI (aw))), (1, .int (nI (w))), (2, .int (nI (d)))]) hx hb dX0_shape_5 rfl hl (by decide) rfl (fun ls hl => ?_)
  refine lv_lconst (v := lN 0) hx hb dX0_shape_6 (by decide) ?_
  refine lv_lstore (lv' := [(5, .long (lN (0))), (3, .long (lN ((1 * 2 ^ w) - 1))), (0, .int (nI (aw))), (1, .int (nI (w))), (2, .int (nI (d)))]) hx hb dX0_shape_7 hl (by decide) rfl (fun ls hl => ?_)
  refine lv_iconst (v := nI (0)) hx hb dX0_shape_9 (by decide) ?_
  refine lv_istore (lv' := [(7, .int (nI (0))), (5, .long (lN (0))), (3, .long (lN ((1 * 2 ^ w) - 1))), (0, .int (nI (aw))), (1, .int (nI (w))), (2, .int (nI (d)))]) hx hb dX0_shape_10 hl (by decide) rfl (fun ls hl => ?_)
  have loop12 : ∀ (fuel12 : Nat) (y : Nat) (H : Heap) (locs : List Loc) (ls : Array Slot), d - y < fuel12 → (y ≤ d) → rc D g (rA lv a st.heap.size) st.heap lv a R H locs → lv_has ls 8 [(0, .int (nI (aw))), (1, .int (nI (w))), (2, .int (nI (d))), (3, .long (lN ((1 * 2 ^ w) - 1))), (5, .long (lN (bm aw 0 w y))), (7, .int (nI (y)))] → W pr l en ({ frames := 0, cells := 0, slots := 0, locals := 0 } : Room) st mi ([.int (nI (aw)), .int (nI (w)), .int (nI (d))] : List Value).toArray bl me co H locs 0 0 (MQ bl (va_Ql (fun r R' => r = lN (bm aw 0 w d) ∧ R' = R) (cB D g lv a) (rA lv a st.heap.size)) ([.int (nI (aw)), .int (nI (w)), .int (nI (d))] : List Value).toArray st 0 0 (rA lv a st.heap.size)) (F0 mi 12 ls []) := by
    intro fuel12
    induction fuel12 with
    | zero => intro y H locs ls hmu; exact absurd hmu (Nat.not_lt_zero _)
    | succ fuel12 ih12 =>
      intro y H locs ls hmu12 hy hc hl
      refine lv_iload hx hb dX0_shape_12 (lv_at hl 5 rfl) ?_
      refine lv_iload_n hx hb dX0_shape_14 rfl (lv_at hl 2 rfl) ?_
      refine lv_icmp_ge (tgt := 35) hx hb dX0_shape_15 (by decide) (fun hq_1 => ?_) (fun hq_1 => ?_)
      · have hq_1 : d ≤ y := (nI_leI (a := d) (b := y) (by omega) (by omega)).mp hq_1
        refine lv_lload hx hb dX0_shape_35 (lv_at hl 4 rfl) ?_
        exact r_lret hx hb hr hlocks hc dX0_shape_37 ⟨by rw [show y = d by omega], rfl⟩
      · have hq_1 : ¬ (d ≤ y) := fun z => hq_1 ((nI_leI (a := d) (b := y) (by omega) (by omega)).mpr z)
        refine lv_lload hx hb dX0_shape_18 (lv_at hl 4 rfl) ?_
        refine lv_lload_n hx hb dX0_shape_20 rfl (lv_at hl 3 rfl) ?_
        refine lv_iload hx hb dX0_shape_21 (lv_at hl 5 rfl) ?_
        refine lv_iload_n hx hb dX0_shape_23 rfl (lv_at hl 0 rfl) ?_
        refine nv_imul hx hb dX0_shape_24 ?_
        refine lv_lshl (v := lN (((1 * 2 ^ w) - 1) * 2 ^ (y * aw))) hx hb dX0_shape_25 (wb_shl _ (bm_s1 hW (by omega))) ?_
        refine nv_lor hx hb dX0_shape_26 (bm_s2 hW hw (by omega)) (bm_s3 hW hw (by omega)) ?_
        rw [bm_st]
        refine lv_lstore (lv' := [(5, .long (lN (bm aw 0 w (y + 1)))), (0, .int (nI (aw))), (1, .int (nI (w))), (2, .int (nI (d))), (3, .long (lN ((1 * 2 ^ w) - 1))), (7, .int (nI (y)))]) hx hb dX0_shape_27 hl (by decide) rfl (fun ls hl => ?_)
        refine lv_iinc (v := nI (y + 1)) (lv' := [(7, .int (nI (y + 1))), (5, .long (lN (bm aw 0 w (y + 1)))), (0, .int (nI (aw))), (1, .int (nI (w))), (2, .int (nI (d))), (3, .long (lN ((1 * 2 ^ w) - 1)))]) hx hb dX0_shape_29 hl (k := 5) rfl (nI_inc _ 1) (by decide) rfl (fun ls hl => ?_)
        refine lv_goto (tgt := 12) hx hb dX0_shape_32 (by decide) ?_
        exact ih12 (y + 1) _ _ ls (by omega) (by omega) hc (lv_sub hl [2, 3, 4, 5, 1, 0] rfl)
  exact loop12 (d + 1) 0 _ _ ls (by omega) (Nat.zero_le _) hc (lv_sub hl [3, 4, 5, 2, 1, 0] rfl)
set_option maxRecDepth 100000 in
set_option maxHeartbeats 4000000 in
theorem c_X0_across (l : Launch) (D : va_G) (g : Nat → ClassId) (lv : Nat → Bool) (a : Nat → Nat) (R : RS) (M : MS) (k : Nat) (hk : k < 6) (hkr : KR lv a R k) (hks : KS R M k) (y : Nat) (hy : y < 2 ^ 31) : cI l D g lv a yX0_across wsX0_across ({ frames := 0, cells := 0, slots := 0, locals := 0 } : Room) [.ref (a (10 + 3 * k)), .int (nI (y))] R (fun r R' => r = nI (ac M k y) ∧ R' = R) 0 0 := by
  refine c_body (cc := cX0_across) (maxL := 2) (ret := (some .int)) (by decide) rfl (Nat.le_of_ble_eq_true rfl) ?_
  intro pr en st mi bl me co ls B hl
  obtain ⟨hx, hb, hr, hml, hown, hts, hlocks, hnm, hK, hZ, hc, hA⟩ := B
  have hl : lv_has ls 2 [(0, .ref (a (10 + 3 * k))), (1, .int (nI (y)))] := hl
  have hinX0 : ∀ w ∈ u_ws RX0 TX0 11, w ∈ wsX0_across := (fun _ h => List.mem_cons_of_mem _ (List.mem_append_right _ h))
  have hf_26 := hts (.fieldLink RX0 26 "PalletLayers$Kind" "width" "I") (by decide +kernel)
  have hf_29 := hts (.fieldLink RX0 29 "PalletLayers$Kind" "depth" "I") (by decide +kernel)
  refine lv_iload_n hx hb dX0_across_0 rfl (lv_at hl 1 rfl) ?_
  refine lv_if_ne (tgt := 11) hx hb dX0_across_1 (by decide) (fun hq_1 => ?_) (fun hq_1 => ?_)
  · have hq_1 : ¬ (y = 0) := fun z => hq_1 ((nI_eq (a := y) (b := 0) (by omega) (by omega)).mpr z)
    refine lv_aload_n hx hb dX0_across_11 rfl (lv_at hl 0 rfl) ?_
    refine r_get (C := RX0) (T := TX0) (N := 11) (v := .int (nI (kd M k))) hx hb hts hown hK.1 hc (hkr.1) (sh_K (by omega)) rfl rfl hinX0 1 (by decide) hf_29 (fun _ h9 => h9) (congrArg Value.int hks.2.1) dX0_across_12 ?_
    exact r_iret hx hb hr hlocks hc dX0_across_15 ⟨by simp only [ac, if_neg hq_1], rfl⟩
  · have hq_1 : y = 0 := (nI_eq (a := y) (b := 0) (by omega) (by omega)).mp hq_1
    refine lv_aload_n hx hb dX0_across_4 rfl (lv_at hl 0 rfl) ?_
    refine r_get (C := RX0) (T := TX0) (N := 11) (v := .int (nI (kw M k))) hx hb hts hown hK.1 hc (hkr.1) (sh_K (by omega)) rfl rfl hinX0 0 (by decide) hf_26 (fun _ h9 => h9) (congrArg Value.int hks.1) dX0_across_5 ?_
    refine lv_goto (tgt := 15) hx hb dX0_across_8 (by decide) ?_
    exact r_iret hx hb hr hlocks hc dX0_across_15 ⟨by simp only [ac, if_pos hq_1], rfl⟩
set_option maxRecDepth 100000 in
set_option maxHeartbeats 4000000 in
theorem c_X0_along (l : Launch) (D : va_G) (g : Nat → ClassId) (lv : Nat → Bool) (a : Nat → Nat) (R : RS) (M : MS) (k : Nat) (hk : k < 6) (hkr : KR lv a R k) (hks : KS R M k) (y : Nat) (hy : y < 2 ^ 31) : cI l D g lv a yX0_along wsX0_along ({ frames := 0, cells := 0, slots := 0, locals := 0 } : Room) [.ref (a (10 + 3 * k)), .int (nI (y))] R (fun r R' => r = nI (alo M k y) ∧ R' = R) 0 0 := by
  refine c_body (cc := cX0_along) (maxL := 2) (ret := (some .int)) (by decide) rfl (Nat.le_of_ble_eq_true rfl) ?_
  intro pr en st mi bl me co ls B hl
  obtain ⟨hx, hb, hr, hml, hown, hts, hlocks, hnm, hK, hZ, hc, hA⟩ := B
  have hl : lv_has ls 2 [(0, .ref (a (10 + 3 * k))), (1, .int (nI (y)))] := hl
  have hinX0 : ∀ w ∈ u_ws RX0 TX0 11, w ∈ wsX0_along := (fun _ h => List.mem_cons_of_mem _ (List.mem_append_right _ h))
  have hf_26 := hts (.fieldLink RX0 26 "PalletLayers$Kind" "width" "I") (by decide +kernel)
  have hf_29 := hts (.fieldLink RX0 29 "PalletLayers$Kind" "depth" "I") (by decide +kernel)
  refine lv_iload_n hx hb dX0_along_0 rfl (lv_at hl 1 rfl) ?_
  refine lv_if_ne (tgt := 11) hx hb dX0_along_1 (by decide) (fun hq_1 => ?_) (fun hq_1 => ?_)
  · have hq_1 : ¬ (y = 0) := fun z => hq_1 ((nI_eq (a := y) (b := 0) (by omega) (by omega)).mpr z)
    refine lv_aload_n hx hb dX0_along_11 rfl (lv_at hl 0 rfl) ?_
    refine r_get (C := RX0) (T := TX0) (N := 11) (v := .int (nI (kw M k))) hx hb hts hown hK.1 hc (hkr.1) (sh_K (by omega)) rfl rfl hinX0 0 (by decide) hf_26 (fun _ h9 => h9) (congrArg Value.int hks.1) dX0_along_12 ?_
    exact r_iret hx hb hr hlocks hc dX0_along_15 ⟨by simp only [alo, if_neg hq_1], rfl⟩
  · have hq_1 : y = 0 := (nI_eq (a := y) (b := 0) (by omega) (by omega)).mp hq_1
    refine lv_aload_n hx hb dX0_along_4 rfl (lv_at hl 0 rfl) ?_
    refine r_get (C := RX0) (T := TX0) (N := 11) (v := .int (nI (kd M k))) hx hb hts hown hK.1 hc (hkr.1) (sh_K (by omega)) rfl rfl hinX0 1 (by decide) hf_29 (fun _ h9 => h9) (congrArg Value.int hks.2.1) dX0_along_5 ?_
    refine lv_goto (tgt := 15) hx hb dX0_along_8 (by decide) ?_
    exact r_iret hx hb hr hlocks hc dX0_along_15 ⟨by simp only [alo, if_pos hq_1], rfl⟩
set_option maxRecDepth 100000 in
set_option maxHeartbeats 4000000 in
theorem c_X0_cellsAt (l : Launch) (D : va_G) (g : Nat → ClassId) (lv : Nat → Bool) (a : Nat → Nat) (R : RS) (M : MS) (k : Nat) (hk : k < 6) (hkr : KR lv a R k) (hks : KS R M k) (c y : Nat) (hc64 : c < 64) (hy : y < 2 ^ 31) : cL l D g lv a yX0_cellsAt wsX0_cellsAt ({ frames := 0, cells := 0, slots := 0, locals := 0 } : Room) [.ref (a (10 + 3 * k)), .int (nI (c)), .int (nI (y))] R (fun r R' => r = lN (bm (mW M) c (ac M k y) (alo M k y)) ∧ R' = R) 0 0 := by
  refine c_body (cc := cX0_cellsAt) (maxL := 3) (ret := (some .long)) (by decide) rfl (Nat.le_of_ble_eq_true rfl) ?_
  intro pr en st mi bl me co ls B hl
  obtain ⟨hx, hb, hr, hml, hown, hts, hlocks, hnm, hK, hZ, hc, hA⟩ := B
  have hl : lv_has ls 3 [(0, .ref (a (10 + 3 * k))), (1, .int (nI (c))), (2, .int (nI (y)))] := hl
  have hinX0 : ∀ w ∈ u_ws RX0 TX0 11, w ∈ wsX0_cellsAt := (fun _ h => List.mem_cons_of_mem _ (List.mem_append_right _ h))
  have hf_45 := hts (.fieldLink RX0 45 "PalletLayers$Kind" "straightShape" "J") (by decide +kernel)
  have hf_49 := hts (.fieldLink RX0 49 "PalletLayers$Kind" "turnedShape" "J") (by decide +kernel)
  refine lv_iload_n hx hb dX0_cellsAt_0 rfl (lv_at hl 2 rfl) ?_
  refine lv_if_ne (tgt := 11) hx hb dX0_cellsAt_1 (by decide) (fun hq_1 => ?_) (fun hq_1 => ?_)
  · have hq_1 : ¬ (y = 0) := fun z => hq_1 ((nI_eq (a := y) (b := 0) (by omega) (by omega)).mpr z)
    refine lv_aload_n hx hb dX0_cellsAt_11 rfl (lv_at hl 0 rfl) ?_
    refine r_get (C := RX0) (T := TX0) (N := 11) (v := .long (lN (bm (mW M) 0 (kd M k) (kw M k)))) hx hb hts hown hK.1 hc (hkr.1) (sh_K (by omega)) rfl rfl hinX0 6 (by decide) hf_49 (fun _ h9 => h9) (congrArg Value.long hks.2.2.2.2.2.2) dX0_cellsAt_12 ?_
    refine lv_iload_n hx hb dX0_cellsAt_15 rfl (lv_at hl 1 rfl) ?_
    refine lv_lshl (v := lN ((bm (mW M) 0 (kd M k) (kw M k)) * 2 ^ c)) hx hb dX0_cellsAt_16 (wb_shl _ (by omega)) ?_
    exact r_lret hx hb hr hlocks hc dX0_cellsAt_17 ⟨by rw [← bm_sh (c := c), Nat.shiftLeft_eq]; simp only [ac, alo, if_neg hq_1], rfl⟩
  · have hq_1 : y = 0 := (nI_eq (a := y) (b := 0) (by omega) (by omega)).mp hq_1
    refine lv_aload_n hx hb dX0_cellsAt_4 rfl (lv_at hl 0 rfl) ?_
    refine r_get (C := RX0) (T := TX0) (N := 11) (v := .long (lN (bm (mW M) 0 (kw M k) (kd M k)))) hx hb hts hown hK.1 hc (hkr.1) (sh_K (by omega)) rfl rfl hinX0 5 (by decide) hf_45 (fun _ h9 => h9) (congrArg Value.long hks.2.2.2.2.2.1) dX0_cellsAt_5 ?_
    refine lv_goto (tgt := 15) hx hb dX0_cellsAt_8 (by decide) ?_
    refine lv_iload_n hx hb dX0_cellsAt_15 rfl (lv_at hl 1 rfl) ?_
    refine lv_lshl (v := lN ((bm (mW M) 0 (kw M k) (kd M k)) * 2 ^ c)) hx hb dX0_cellsAt_16 (wb_shl _ (by omega)) ?_
    exact r_lret hx hb hr hlocks hc dX0_cellsAt_17 ⟨by rw [← bm_sh (c := c), Nat.shiftLeft_eq]; simp only [ac, alo, if_pos hq_1], rfl⟩
set_option maxRecDepth 100000 in
set_option maxHeartbeats 4000000 in
theorem c_X0_cellsOfBox (l : Launch) (D : va_G) (g : Nat → ClassId) (lv : Nat → Bool) (a : Nat → Nat) (R : RS) (M : MS) (k : Nat) (hk : k < 6) (hkr : KR lv a R k) (hks : KS R M k) (hkv : KV R M k) (hI : Inv M) (hkm : k < mnk M) (i : Nat) (hi : i < kb M k) : cL l D g lv a yX0_cellsOfBox wsX0_cellsOfBox ({ frames := 1, cells := 0, slots := 0, locals := 22 } : Room) [.ref (a (10 + 3 * k)), .int (nI (i))] R (fun r R' => r = lN (bx M k i) ∧ R' = R) 0 0 := by
  refine c_body (cc := cX0_cellsOfBox) (maxL := 2) (ret := (some .long)) (by decide) rfl (Nat.le_of_ble_eq_true rfl) ?_
  intro pr en st mi bl me co ls B hl
  obtain ⟨hx, hb, hr, hml, hown, hts, hlocks, hnm, hK, hZ, hc, hA⟩ := B
  have hl : lv_has ls 2 [(0, .ref (a (10 + 3 * k))), (1, .int (nI (i)))] := hl
  have hinX0 : ∀ w ∈ u_ws RX0 TX0 11, w ∈ wsX0_cellsOfBox := (fun _ h => List.mem_cons_of_mem _ (List.mem_append_left _ (List.mem_append_right _ h)))
  have hf_9 := hts (.fieldLink RX0 9 "PalletLayers$Kind" "corners" "[I") (by decide +kernel)
  have hf_15 := hts (.fieldLink RX0 15 "PalletLayers$Kind" "ways" "[I") (by decide +kernel)
  have hf_18 := hts (.fieldLink RX0 18 "PalletLayers$Kind" "boxes" "I") (by decide +kernel)
  have hk9 := iv_k hI hkm
  have hi9 := iv_i hI hkm hi
  refine lv_iload_n hx hb dX0_cellsOfBox_0 rfl (lv_at hl 1 rfl) ?_
  refine lv_iconst (v := nI (0)) hx hb dX0_cellsOfBox_1 (by decide) ?_
  refine lv_aload_n hx hb dX0_cellsOfBox_2 rfl (lv_at hl 0 rfl) ?_
  refine r_get (C := RX0) (T := TX0) (N := 11) (v := .int (nI (kb M k))) hx hb hts hown hK.1 hc (hkr.1) (sh_K (by omega)) rfl rfl hinX0 9 (by decide) hf_18 (fun _ h9 => h9) (congrArg Value.int hkv.1) dX0_cellsOfBox_3 ?_
  refine lv_iconst (v := nI (1)) hx hb dX0_cellsOfBox_6 (by decide) ?_
  refine lv_isub hx hb dX0_cellsOfBox_7 ?_
  refine r_calli hc hA (va_runSN (As := [.int (nI (i)), .int (nI (0)), .int (nI (kb M k) - nI 1)]) (rest := []) ⟨hx, hb, hml, hown, hts⟩ (c_X3_isOutside l D g lv a R (nI (i)) (nI (0)) (nI (kb M k) - nI 1) _) ⟨va_cnB 3 hts gX0_cellsOfBox_X3_isOutside_n52 rfl rfl rfl hK.2.1.1 (hts (.initialized RX3) (by decide +kernel)) (by decide +kernel) ⟨Nat.le_of_ble_eq_true rfl, Nat.le_of_ble_eq_true rfl⟩, hts (.static yX3_isOutside) (by decide +kernel), trivial⟩ (r_preS hK hZ hc hA) rfl rfl hl.1 rfl (lv_room (Nat.le_of_ble_eq_true rfl)) dX0_cellsOfBox_8 ⟨Nat.le_of_ble_eq_true rfl, Nat.le_of_ble_eq_true rfl⟩) (fun r R' H locs hp hc => ?_)
  obtain ⟨hRe, ⟨hw8, rfl⟩ | ⟨hw8, rfl⟩⟩ := hp
  · rw [hRe] at hc
    refine lv_if_eq (tgt := 18) hx hb dX0_cellsOfBox_11 (by decide) (fun hq_3 => ?_) (fun hq_3 => absurd hq_3 (by decide))
    refine lv_aload_n hx hb dX0_cellsOfBox_18 rfl (lv_at hl 0 rfl) ?_
    refine lv_aload_n hx hb dX0_cellsOfBox_19 rfl (lv_at hl 0 rfl) ?_
    refine r_get (C := RX0) (T := TX0) (N := 11) (v := .ref (a (11 + 3 * k))) hx hb hts hown hK.1 hc (hkr.1) (sh_K (by omega)) rfl rfl hinX0 7 (by decide) hf_9 (fun _ h9 => h9) (congrArg va_rf hkr.2.2.2.1) dX0_cellsOfBox_20 ?_
    refine lv_iload_n hx hb dX0_cellsOfBox_23 rfl (lv_at hl 1 rfl) ?_
    refine r_iald (v := nI (kc M k i)) hx hb hK.1 hc (hkr.2.1) (sh_Kc (by omega)) (by decide) (by omega) dX0_cellsOfBox_24 (hkv.2.2 _ (by omega)).1 ?_
    refine lv_aload_n hx hb dX0_cellsOfBox_25 rfl (lv_at hl 0 rfl) ?_
    refine r_get (C := RX0) (T := TX0) (N := 11) (v := .ref (a (12 + 3 * k))) hx hb hts hown hK.1 hc (hkr.1) (sh_K (by omega)) rfl rfl hinX0 8 (by decide) hf_15 (fun _ h9 => h9) (congrArg va_rf hkr.2.2.2.2) dX0_cellsOfBox_26 ?_
    refine lv_iload_n hx hb dX0_cellsOfBox_29 rfl (lv_at hl 1 rfl) ?_
    refine r_iald (v := nI (ky M k i)) hx hb hK.1 hc (hkr.2.2.1) (sh_Kw (by omega)) (by decide) (by omega) dX0_cellsOfBox_30 (hkv.2.2 _ (by omega)).2 ?_
    refine r_calll hc hA (va_runV (As := [.int (nI (kc M k i)), .int (nI (ky M k i))]) (rest := []) ⟨hx, hb, hml, hown, hts⟩ (c_X0_cellsAt l D g lv a R M k hk hkr hks (kc M k i) (ky M k i) (by omega) (by omega) _) (cwV 2 hts gX0_cellsOfBox_X0_cellsAt rfl rfl rfl (by decide +kernel) ⟨Nat.le_of_ble_eq_true rfl, Nat.le_of_ble_eq_true rfl⟩) (r_preV hK hZ hc hA (hkr.1) (sh_K (by omega)) rfl) rfl rfl hl.1 rfl (lv_room (Nat.le_of_ble_eq_true rfl)) dX0_cellsOfBox_31 ⟨Nat.le_of_ble_eq_true rfl, Nat.le_of_ble_eq_true rfl⟩) (fun r R' H locs hp hc => ?_)
    obtain ⟨hre, hRe⟩ := hp
    rw [hRe] at hc
    rw [hre]
    exact r_lret hx hb hr hlocks hc dX0_cellsOfBox_34 ⟨rfl, rfl⟩
  · rw [hRe] at hc
    exact absurd ((in_iff (by omega)).mpr ((isN_nI (by omega)).mpr hi)) hw8
set_option maxRecDepth 100000 in
set_option maxHeartbeats 4000000 in
theorem c_X0_cellsOfFirst (l : Launch) (D : va_G) (g : Nat → ClassId) (lv : Nat → Bool) (a : Nat → Nat) (R : RS) (M : MS) (k : Nat) (hk : k < 6) (hkr : KR lv a R k) (hks : KS R M k) (hkv : KV R M k) (hI : Inv M) (hkm : k < mnk M) (n : Nat) (hn : n ≤ kb M k) : cL l D g lv a yX0_cellsOfFirst wsX0_cellsOfFirst ({ frames := 2, cells := 0, slots := 0, locals := 43 } : Room) [.ref (a (10 + 3 * k)), .int (nI (n))] R (fun r R' => r = lN (cov M k n) ∧ R' = R) 0 0 := by
  refine c_body (cc := cX0_cellsOfFirst) (maxL := 5) (ret := (some .long)) (by decide) rfl (Nat.le_of_ble_eq_true rfl) ?_
  intro pr en st mi bl me co ls B hl
  obtain ⟨hx, hb, hr, hml, hown, hts, hlocks, hnm, hK, hZ, hc, hA⟩ := B
  have hl : lv_has ls 5 [(0, .ref (a (10 + 3 * k))), (1, .int (nI (n)))] := hl
  have hk9 := iv_k hI hkm
  refine lv_lconst (v := lN 0) hx hb dX0_cellsOfFirst_0 (by decide) ?_
  refine lv_lstore_n (lv' := [(2, .long (lN (0))), (0, .ref (a (10 + 3 * k))), (1, .int (nI (n)))]) hx hb dX0_cellsOfFirst_1 rfl hl (by decide) rfl (fun ls hl => ?_)
  refine lv_iconst (v := nI (0)) hx hb dX0_cellsOfFirst_2 (by decide) ?_
  refine lv_istore (lv' := [(4, .int (nI (0))), (2, .long (lN (0))), (0, .ref (a (10 + 3 * k))), (1, .int (nI (n)))]) hx hb dX0_cellsOfFirst_3 hl (by decide) rfl (fun ls hl => ?_)
  have loop5 : ∀ (fuel5 : Nat) (i : Nat) (H : Heap) (locs : List Loc) (ls : Array Slot), n - i < fuel5 → (i ≤ n) → rc D g (rA lv a st.heap.size) st.heap lv a R H locs → lv_has ls 5 [(0, .ref (a (10 + 3 * k))), (1, .int (nI (n))), (2, .long (lN (cov M k i))), (4, .int (nI (i)))] → W pr l en ({ frames := 2, cells := 0, slots := 0, locals := 43 } : Room) st mi ([.ref (a (10 + 3 * k)), .int (nI (n))] : List Value).toArray bl me co H locs 0 0 (MQ bl (va_Ql (fun r R' => r = lN (cov M k n) ∧ R' = R) (cB D g lv a) (rA lv a st.heap.size)) ([.ref (a (10 + 3 * k)), .int (nI (n))] : List Value).toArray st 0 0 (rA lv a st.heap.size)) (F0 mi 5 ls []) := by
    intro fuel5
    induction fuel5 with
    | zero => intro i H locs ls hmu; exact absurd hmu (Nat.not_lt_zero _)
    | succ fuel5 ih5 =>
      intro i H locs ls hmu5 hi hc hl
      refine lv_iload hx hb dX0_cellsOfFirst_5 (lv_at hl 3 rfl) ?_
      refine lv_iload_n hx hb dX0_cellsOfFirst_7 rfl (lv_at hl 1 rfl) ?_
      refine lv_icmp_ge (tgt := 26) hx hb dX0_cellsOfFirst_8 (by decide) (fun hq_1 => ?_) (fun hq_1 => ?_)
      · have hq_1 : n ≤ i := (nI_leI (a := n) (b := i) (by omega) (by omega)).mp hq_1
        refine lv_lload_n hx hb dX0_cellsOfFirst_26 rfl (lv_at hl 2 rfl) ?_
        exact r_lret hx hb hr hlocks hc dX0_cellsOfFirst_27 ⟨by rw [show i = n by omega], rfl⟩
      · have hq_1 : ¬ (n ≤ i) := fun z => hq_1 ((nI_leI (a := n) (b := i) (by omega) (by omega)).mpr z)
        refine lv_lload_n hx hb dX0_cellsOfFirst_11 rfl (lv_at hl 2 rfl) ?_
        refine lv_aload_n hx hb dX0_cellsOfFirst_12 rfl (lv_at hl 0 rfl) ?_
        refine lv_iload hx hb dX0_cellsOfFirst_13 (lv_at hl 3 rfl) ?_
        refine r_calll hc hA (va_runV (As := [.int (nI (i))]) (rest := [.long (lN (cov M k i))]) ⟨hx, hb, hml, hown, hts⟩ (c_X0_cellsOfBox l D g lv a R M k hk hkr hks hkv hI hkm i (by omega) _) (cwV 1 hts gX0_cellsOfFirst_X0_cellsOfBox rfl rfl rfl (by decide +kernel) ⟨Nat.le_of_ble_eq_true rfl, Nat.le_of_ble_eq_true rfl⟩) (r_preV hK hZ hc hA (hkr.1) (sh_K (by omega)) rfl) rfl rfl hl.1 rfl (lv_room (Nat.le_of_ble_eq_true rfl)) dX0_cellsOfFirst_15 ⟨Nat.le_of_ble_eq_true rfl, Nat.le_of_ble_eq_true rfl⟩) (fun r R' H locs hp hc => ?_)
        obtain ⟨hre, hRe⟩ := hp
        rw [hRe] at hc
        rw [hre]
        refine nv_lor hx hb dX0_cellsOfFirst_18 (Nat.lt_of_lt_of_le (cov_lt hI hkm i (by omega)) (by decide)) (Nat.lt_of_lt_of_le (bx_lt hI hkm (by omega)) (by decide)) ?_
        refine lv_lstore_n (lv' := [(2, .long (lN ((cov M k i) ||| (bx M k i)))), (0, .ref (a (10 + 3 * k))), (1, .int (nI (n))), (4, .int (nI (i)))]) hx hb dX0_cellsOfFirst_19 rfl hl (by decide) rfl (fun ls hl => ?_)
        refine lv_iinc (v := nI (i + 1)) (lv' := [(4, .int (nI (i + 1))), (2, .long (lN ((cov M k i) ||| (bx M k i)))), (0, .ref (a (10 + 3 * k))), (1, .int (nI (n)))]) hx hb dX0_cellsOfFirst_20 hl (k := 3) rfl (nI_inc _ 1) (by decide) rfl (fun ls hl => ?_)
        refine lv_goto (tgt := 5) hx hb dX0_cellsOfFirst_23 (by decide) ?_
        exact ih5 (i + 1) _ _ ls (by omega) (by omega) hc (lv_sub hl [2, 3, 1, 0] rfl)
  exact loop5 (n + 1) 0 _ _ ls (by omega) (Nat.zero_le _) hc (lv_sub hl [2, 3, 1, 0] rfl)
set_option maxRecDepth 100000 in
set_option maxHeartbeats 4000000 in
theorem c_X0_keepPattern (l : Launch) (D : va_G) (g : Nat → ClassId) (lv : Nat → Bool) (a : Nat → Nat) (R : RS) (k : Nat) (hk : k < 6) (hkr : KR lv a R k) (hsr : SR lv a R) (n : Nat) (hn : n ≤ 36) : cV l D g lv a yX0_keepPattern wsX0_keepPattern ({ frames := 1, cells := 0, slots := 0, locals := 60 } : Room) [.ref (a (10 + 3 * k)), .ref (a (2)), .ref (a (3)), .int (nI (n))] R (fun R' => KP k n R R' n) 0 0 := by
  refine c_body (cc := cX0_keepPattern) (maxL := 5) (ret := none) (by decide) rfl (Nat.le_of_ble_eq_true rfl) ?_
  intro pr en st mi bl me co ls B hl
  obtain ⟨hx, hb, hr, hml, hown, hts, hlocks, hnm, hK, hZ, hc, hA⟩ := B
  have hl : lv_has ls 5 [(0, .ref (a (10 + 3 * k))), (1, .ref (a (2))), (2, .ref (a (3))), (3, .int (nI (n)))] := hl
  have hinX0 : ∀ w ∈ u_ws RX0 TX0 11, w ∈ wsX0_keepPattern := (fun _ h => List.mem_cons_of_mem _ (List.mem_append_left _ (List.mem_append_right _ h)))
  have hf_9 := hts (.fieldLink RX0 9 "PalletLayers$Kind" "corners" "[I") (by decide +kernel)
  have hf_15 := hts (.fieldLink RX0 15 "PalletLayers$Kind" "ways" "[I") (by decide +kernel)
  have hf_18 := hts (.fieldLink RX0 18 "PalletLayers$Kind" "boxes" "I") (by decide +kernel)
  refine lv_aload_n hx hb dX0_keepPattern_0 rfl (lv_at hl 0 rfl) ?_
  refine lv_iload_n hx hb dX0_keepPattern_1 rfl (lv_at hl 3 rfl) ?_
  refine lv_bipush (v := nI (36)) hx hb dX0_keepPattern_2 (by decide) ?_
  refine va_mmin hx hb (hml.trans hl.1.symm) hown (hts (.methodLink RX0 64 Lib.Math.min.name) (by decide +kernel)) (hts (.static Lib.Math.min.name) (by decide +kernel)) (hts (.initialized "java/lang/Math") (by decide +kernel)) (hts (.code Lib.Math.min.name Lib.Math.min.code 2 (some .int)) (by decide +kernel)) (Nat.le_of_ble_eq_true rfl) (Nat.le_of_ble_eq_true rfl) (Nat.le_of_ble_eq_true rfl) (Nat.le_of_ble_eq_true rfl) dX0_keepPattern_4 ?_
  rw [min_36 hn]
  refine r_put (C := RX0) (T := TX0) (N := 11) (R' := sfi R (10 + 3 * k) 9 (nI (n))) hx hb hts hown hK.1 hc (hkr.1) (sh_K (by omega)) rfl rfl hinX0 tyX0 tyX0_ok nmX0 9 (by decide) hf_18 (fun _ h9 => h9) rfl (tyX0_ok 9 (by decide)) rfl rfl dX0_keepPattern_7 (fds_sfi (by decide) (by decide)) (fun _ h9 => ct_sfi h9) (fun H locs hc => ?_)
  refine lv_iconst (v := nI (0)) hx hb dX0_keepPattern_10 (by decide) ?_
  refine lv_istore (lv' := [(4, .int (nI (0))), (0, .ref (a (10 + 3 * k))), (1, .ref (a (2))), (2, .ref (a (3))), (3, .int (nI (n)))]) hx hb dX0_keepPattern_11 hl (by decide) rfl (fun ls hl => ?_)
  have loop13 : ∀ (fuel13 : Nat) (i : Nat) (R1 : RS) (H : Heap) (locs : List Loc) (ls : Array Slot), n - i < fuel13 → (i ≤ n) → (KP k n R R1 i) → rc D g (rA lv a st.heap.size) st.heap lv a R1 H locs → lv_has ls 5 [(0, .ref (a (10 + 3 * k))), (1, .ref (a (2))), (2, .ref (a (3))), (3, .int (nI (n))), (4, .int (nI (i)))] → W pr l en ({ frames := 1, cells := 0, slots := 0, locals := 60 } : Room) st mi ([.ref (a (10 + 3 * k)), .ref (a (2)), .ref (a (3)), .int (nI (n))] : List Value).toArray bl me co H locs 0 0 (MQ bl (va_Qv (fun R' => KP k n R R' n) (cB D g lv a) (rA lv a st.heap.size)) ([.ref (a (10 + 3 * k)), .ref (a (2)), .ref (a (3)), .int (nI (n))] : List Value).toArray st 0 0 (rA lv a st.heap.size)) (F0 mi 13 ls []) := by
    intro fuel13
    induction fuel13 with
    | zero => intro i R1 H locs ls hmu; exact absurd hmu (Nat.not_lt_zero _)
    | succ fuel13 ih13 =>
      intro i R1 H locs ls hmu13 hi hkp hc hl
      have hkr := hkr.out hkp.2.2.1
      have hsr := hsr.out hkp.2.2.1
      refine lv_iload hx hb dX0_keepPattern_13 (lv_at hl 4 rfl) ?_
      refine lv_aload_n hx hb dX0_keepPattern_15 rfl (lv_at hl 0 rfl) ?_
      refine r_get (C := RX0) (T := TX0) (N := 11) (v := .int (nI (n))) hx hb hts hown hK.1 hc (hkr.1) (sh_K (by omega)) rfl rfl hinX0 9 (by decide) hf_18 (fun _ h9 => h9) (congrArg Value.int ((hkp.1 _ _).trans (if_pos ⟨rfl, rfl⟩))) dX0_keepPattern_16 ?_
      refine lv_icmp_ge (tgt := 50) hx hb dX0_keepPattern_19 (by decide) (fun hq_1 => ?_) (fun hq_1 => ?_)
      · have hq_1 : n ≤ i := (nI_leI (a := n) (b := i) (by omega) (by omega)).mp hq_1
        exact r_vret hx hb hr hlocks hc dX0_keepPattern_50 (by rw [show i = n by omega] at hkp; exact hkp)
      · have hq_1 : ¬ (n ≤ i) := fun z => hq_1 ((nI_leI (a := n) (b := i) (by omega) (by omega)).mpr z)
        refine lv_aload_n hx hb dX0_keepPattern_22 rfl (lv_at hl 0 rfl) ?_
        refine r_get (C := RX0) (T := TX0) (N := 11) (v := .ref (a (11 + 3 * k))) hx hb hts hown hK.1 hc (hkr.1) (sh_K (by omega)) rfl rfl hinX0 7 (by decide) hf_9 (fun _ h9 => h9) (congrArg va_rf hkr.2.2.2.1) dX0_keepPattern_23 ?_
        refine lv_iload hx hb dX0_keepPattern_26 (lv_at hl 4 rfl) ?_
        refine lv_aload_n hx hb dX0_keepPattern_28 rfl (lv_at hl 1 rfl) ?_
        refine lv_iload hx hb dX0_keepPattern_29 (lv_at hl 4 rfl) ?_
        refine r_iald (v := ai R 2 i) hx hb hK.1 hc (hsr.2.1) (rfl) (by decide) (by omega) dX0_keepPattern_31 (hkp.2.2.2.2.2.2 _ _ (by omega) (by omega)) ?_
        refine r_iast hx hb hK.1 hc (hkr.2.1) (sh_Kc (by omega)) (by decide) (by omega) dX0_keepPattern_32 (fun H locs hc => ?_)
        refine lv_aload_n hx hb dX0_keepPattern_33 rfl (lv_at hl 0 rfl) ?_
        refine r_get (C := RX0) (T := TX0) (N := 11) (v := .ref (a (12 + 3 * k))) hx hb hts hown hK.1 hc (hkr.1) (sh_K (by omega)) rfl rfl hinX0 8 (by decide) hf_15 (fun _ h9 => h9) (congrArg va_rf hkr.2.2.2.2) dX0_keepPattern_34 ?_
        refine lv_iload hx hb dX0_keepPattern_37 (lv_at hl 4 rfl) ?_
        refine lv_aload_n hx hb dX0_keepPattern_39 rfl (lv_at hl 2 rfl) ?_
        refine lv_iload hx hb dX0_keepPattern_40 (lv_at hl 4 rfl) ?_
        refine r_iald (v := ai R 3 i) hx hb hK.1 hc (hsr.2.2.1) (rfl) (by decide) (by omega) dX0_keepPattern_42 ((up2_n (by omega)).trans (hkp.2.2.2.2.2.2 _ _ (by omega) (by omega))) ?_
        refine r_iast hx hb hK.1 hc (hkr.2.2.1) (sh_Kw (by omega)) (by decide) (by omega) dX0_keepPattern_43 (fun H locs hc => ?_)
        refine lv_iinc (v := nI (i + 1)) (lv' := [(4, .int (nI (i + 1))), (0, .ref (a (10 + 3 * k))), (1, .ref (a (2))), (2, .ref (a (3))), (3, .int (nI (n)))]) hx hb dX0_keepPattern_44 hl (k := 4) rfl (nI_inc _ 1) (by decide) rfl (fun ls hl => ?_)
        refine lv_goto (tgt := 13) hx hb dX0_keepPattern_47 (by decide) ?_
        exact ih13 (i + 1) (sai (sai R1 (11 + 3 * k) i (ai R 2 i)) (12 + 3 * k) i (ai R 3 i)) _ _ ls (by omega) (by omega) (KP_1 hkp hk) hc (lv_sub hl [1, 2, 3, 4, 0] rfl)
  exact loop13 (n + 1) 0 (sfi R (10 + 3 * k) 9 (nI (n))) _ _ ls (by omega) (Nat.zero_le _) KP_0 hc (lv_sub hl [1, 2, 3, 4, 0] rfl)
