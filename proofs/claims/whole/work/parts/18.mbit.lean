set_option maxRecDepth 100000 in
set_option maxHeartbeats 4000000 in
theorem c_J13_bitCount_95d88 (l : Launch) (D : va_G) (g : Nat → ClassId) (lv : Nat → Bool) (a : Nat → Nat) (R : RS) (n : Nat) (hn : n < 2 ^ 64) : cI l D g lv a yJ13_bitCount_95d88 wsJ13_bitCount_95d88 ({ frames := 0, cells := 0, slots := 0, locals := 0 } : Room) [.long (lN (n))] R (fun r R' => r = nI (pc n) ∧ R' = R) 0 0 := by
  refine c_body (cc := cJ13_bitCount_95d88) (maxL := 2) (ret := (some .int)) (by decide) rfl (Nat.le_of_ble_eq_true rfl) ?_
  intro pr en st mi bl me co ls B hl
  obtain ⟨hx, hb, hr, hml, hown, hts, hlocks, hnm, hK, hZ, hc, hA⟩ := B
  have hl : lv_has ls 2 [(0, .long (lN (n)))] := hl
  have hq0 := bc_123 hn rfl rfl
  refine lv_lload_n hx hb dJ13_bitCount_95d88_0 rfl (lv_at hl 0 rfl) ?_
  refine lv_lload_n hx hb dJ13_bitCount_95d88_1 rfl (lv_at hl 0 rfl) ?_
  refine lv_iconst (v := nI (1)) hx hb dJ13_bitCount_95d88_2 (by decide) ?_
  refine lv_lushr (v := lN (n / 2 ^ 1)) hx hb dJ13_bitCount_95d88_3 (wb_shr (by omega) (by omega)) ?_
  refine lv_ldc2 (v := lN 6148914691236517205) hx hb hown (hts (.constantLong RJ13 314 (6148914691236517205)) (by decide +kernel)) dJ13_bitCount_95d88_4 ?_
  refine nv_land hx hb dJ13_bitCount_95d88_7 (Nat.lt_of_le_of_lt (Nat.div_le_self _ _) hn) (by decide) ?_
  refine nv_lsub hx hb dJ13_bitCount_95d88_8 hq0.1 ?_
  refine lv_lstore_n (lv' := [(0, .long (lN (n - ((n / 2 ^ 1) &&& 6148914691236517205))))]) hx hb dJ13_bitCount_95d88_9 rfl hl (by decide) rfl (fun ls hl => ?_)
  obtain ⟨x1, hx1⟩ : ∃ z, z = n - ((n / 2 ^ 1) &&& 6148914691236517205) := ⟨_, rfl⟩
  rw [← hx1] at hl
  have hb1 := bc_123 hn hx1 rfl
  refine lv_lload_n hx hb dJ13_bitCount_95d88_10 rfl (lv_at hl 0 rfl) ?_
  refine lv_ldc2 (v := lN 3689348814741910323) hx hb hown (hts (.constantLong RJ13 316 (3689348814741910323)) (by decide +kernel)) dJ13_bitCount_95d88_11 ?_
  refine nv_land hx hb dJ13_bitCount_95d88_14 hb1.2.1 (by decide) ?_
  refine lv_lload_n hx hb dJ13_bitCount_95d88_15 rfl (lv_at hl 0 rfl) ?_
  refine lv_iconst (v := nI (2)) hx hb dJ13_bitCount_95d88_16 (by decide) ?_
  refine lv_lushr (v := lN (x1 / 2 ^ 2)) hx hb dJ13_bitCount_95d88_17 (wb_shr hb1.2.1 (by omega)) ?_
  refine lv_ldc2 (v := lN 3689348814741910323) hx hb hown (hts (.constantLong RJ13 316 (3689348814741910323)) (by decide +kernel)) dJ13_bitCount_95d88_18 ?_
  refine nv_land hx hb dJ13_bitCount_95d88_21 (Nat.lt_of_le_of_lt (Nat.div_le_self _ _) hb1.2.1) (by decide) ?_
  refine nv_ladd hx hb dJ13_bitCount_95d88_22 ?_
  refine lv_lstore_n (lv' := [(0, .long (lN ((x1 &&& 3689348814741910323) + ((x1 / 2 ^ 2) &&& 3689348814741910323))))]) hx hb dJ13_bitCount_95d88_23 rfl hl (by decide) rfl (fun ls hl => ?_)
  obtain ⟨x2, hx2⟩ : ∃ z, z = (x1 &&& 3689348814741910323) + ((x1 / 2 ^ 2) &&& 3689348814741910323) := ⟨_, rfl⟩
  rw [← hx2] at hl
  have hb1 := bc_123 hn hx1 hx2
  refine lv_lload_n hx hb dJ13_bitCount_95d88_24 rfl (lv_at hl 0 rfl) ?_
  refine lv_lload_n hx hb dJ13_bitCount_95d88_25 rfl (lv_at hl 0 rfl) ?_
  refine lv_iconst (v := nI (4)) hx hb dJ13_bitCount_95d88_26 (by decide) ?_
  refine lv_lushr (v := lN (x2 / 2 ^ 4)) hx hb dJ13_bitCount_95d88_27 (wb_shr (by omega) (by omega)) ?_
  refine nv_ladd hx hb dJ13_bitCount_95d88_28 ?_
  refine lv_ldc2 (v := lN 1085102592571150095) hx hb hown (hts (.constantLong RJ13 318 (1085102592571150095)) (by decide +kernel)) dJ13_bitCount_95d88_29 ?_
  refine nv_land hx hb dJ13_bitCount_95d88_32 (by omega) (by decide) ?_
  refine lv_lstore_n (lv' := [(0, .long (lN ((x2 + (x2 / 2 ^ 4)) &&& 1085102592571150095)))]) hx hb dJ13_bitCount_95d88_33 rfl hl (by decide) rfl (fun ls hl => ?_)
  obtain ⟨x3, hx3⟩ : ∃ z, z = (x2 + (x2 / 2 ^ 4)) &&& 1085102592571150095 := ⟨_, rfl⟩
  rw [← hx3] at hl
  rw [show 2 ^ 4 = 16 by decide, hb1.2.2.2] at hx3
  have hb2 := bc_456 (n := n) rfl rfl rfl
  rw [← hx3] at hb2
  refine lv_lload_n hx hb dJ13_bitCount_95d88_34 rfl (lv_at hl 0 rfl) ?_
  refine lv_lload_n hx hb dJ13_bitCount_95d88_35 rfl (lv_at hl 0 rfl) ?_
  refine lv_bipush (v := nI (8)) hx hb dJ13_bitCount_95d88_36 (by decide) ?_
  refine lv_lushr (v := lN (x3 / 2 ^ 8)) hx hb dJ13_bitCount_95d88_38 (wb_shr (by omega) (by omega)) ?_
  refine nv_ladd hx hb dJ13_bitCount_95d88_39 ?_
  refine lv_lstore_n (lv' := [(0, .long (lN (x3 + (x3 / 2 ^ 8))))]) hx hb dJ13_bitCount_95d88_40 rfl hl (by decide) rfl (fun ls hl => ?_)
  obtain ⟨x4, hx4⟩ : ∃ z, z = x3 + (x3 / 2 ^ 8) := ⟨_, rfl⟩
  rw [← hx4] at hl
  rw [show 2 ^ 8 = 256 by decide] at hx4
  have hb3 := bc_456 (n := n) (x4 := x4) (by rw [← hx3]; exact hx4) rfl rfl
  refine lv_lload_n hx hb dJ13_bitCount_95d88_41 rfl (lv_at hl 0 rfl) ?_
  refine lv_lload_n hx hb dJ13_bitCount_95d88_42 rfl (lv_at hl 0 rfl) ?_
  refine lv_bipush (v := nI (16)) hx hb dJ13_bitCount_95d88_43 (by decide) ?_
  refine lv_lushr (v := lN (x4 / 2 ^ 16)) hx hb dJ13_bitCount_95d88_45 (wb_shr (by omega) (by omega)) ?_
  refine nv_ladd hx hb dJ13_bitCount_95d88_46 ?_
  refine lv_lstore_n (lv' := [(0, .long (lN (x4 + (x4 / 2 ^ 16))))]) hx hb dJ13_bitCount_95d88_47 rfl hl (by decide) rfl (fun ls hl => ?_)
  obtain ⟨x5, hx5⟩ : ∃ z, z = x4 + (x4 / 2 ^ 16) := ⟨_, rfl⟩
  rw [← hx5] at hl
  rw [show 2 ^ 16 = 65536 by decide] at hx5
  have hb4 := bc_456 (n := n) (x4 := x4) (by rw [← hx3]; exact hx4) hx5 rfl
  refine lv_lload_n hx hb dJ13_bitCount_95d88_48 rfl (lv_at hl 0 rfl) ?_
  refine lv_lload_n hx hb dJ13_bitCount_95d88_49 rfl (lv_at hl 0 rfl) ?_
  refine lv_bipush (v := nI (32)) hx hb dJ13_bitCount_95d88_50 (by decide) ?_
  refine lv_lushr (v := lN (x5 / 2 ^ 32)) hx hb dJ13_bitCount_95d88_52 (wb_shr (by omega) (by omega)) ?_
  refine nv_ladd hx hb dJ13_bitCount_95d88_53 ?_
  refine lv_lstore_n (lv' := [(0, .long (lN (x5 + (x5 / 2 ^ 32))))]) hx hb dJ13_bitCount_95d88_54 rfl hl (by decide) rfl (fun ls hl => ?_)
  obtain ⟨x6, hx6⟩ : ∃ z, z = x5 + (x5 / 2 ^ 32) := ⟨_, rfl⟩
  rw [← hx6] at hl
  rw [show 2 ^ 32 = 4294967296 by decide] at hx6
  have hb5 := bc_456 (n := n) (x4 := x4) (by rw [← hx3]; exact hx4) hx5 hx6
  refine lv_lload_n hx hb dJ13_bitCount_95d88_55 rfl (lv_at hl 0 rfl) ?_
  refine nv_l2i hx hb dJ13_bitCount_95d88_56 ?_
  refine lv_bipush (v := nI (127)) hx hb dJ13_bitCount_95d88_57 (by decide) ?_
  refine lv_iand hx hb dJ13_bitCount_95d88_59 ?_
  rw [and127]
  exact r_iret hx hb hr hlocks hc dJ13_bitCount_95d88_60 ⟨by rw [← hb5.2.2.2.2], rfl⟩
set_option maxRecDepth 100000 in
set_option maxHeartbeats 4000000 in
theorem c_X4_count (l : Launch) (D : va_G) (g : Nat → ClassId) (lv : Nat → Bool) (a : Nat → Nat) (R : RS) (n : Nat) (hn : n < 2 ^ 62) : cI l D g lv a yX4_count wsX4_count ({ frames := 0, cells := 0, slots := 0, locals := 0 } : Room) [.long (lN (n))] R (fun r R' => r = nI (pc n) ∧ R' = R) 0 0 := by
  refine c_body (cc := cX4_count) (maxL := 5) (ret := (some .int)) (by decide) rfl (Nat.le_of_ble_eq_true rfl) ?_
  intro pr en st mi bl me co ls B hl
  obtain ⟨hx, hb, hr, hml, hown, hts, hlocks, hnm, hK, hZ, hc, hA⟩ := B
  have hl : lv_has ls 5 [(0, .long (lN (n)))] := hl
  refine lv_iconst (v := nI (0)) hx hb dX4_count_0 (by decide) ?_
  refine lv_istore_n (lv' := [(2, .int (nI (0))), (0, .long (lN (n)))]) hx hb dX4_count_1 rfl hl (by decide) rfl (fun ls hl => ?_)
  refine lv_lload_n hx hb dX4_count_2 rfl (lv_at hl 1 rfl) ?_
  refine lv_lstore_n (lv' := [(3, .long (lN (n))), (2, .int (nI (0))), (0, .long (lN (n)))]) hx hb dX4_count_3 rfl hl (by decide) rfl (fun ls hl => ?_)
  have loop4 : ∀ (fuel4 : Nat) (x : Nat) (q : Nat) (H : Heap) (locs : List Loc) (ls : Array Slot), x < fuel4 → (x ≤ n) → (q + pc x = pc n) → rc D g (rA lv a st.heap.size) st.heap lv a R H locs → lv_has ls 5 [(0, .long (lN (n))), (2, .int (nI (q))), (3, .long (lN (x)))] → W pr l en ({ frames := 0, cells := 0, slots := 0, locals := 0 } : Room) st mi ([.long (lN (n))] : List Value).toArray bl me co H locs 0 0 (MQ bl (va_Qi (fun r R' => r = nI (pc n) ∧ R' = R) (cB D g lv a) (rA lv a st.heap.size)) ([.long (lN (n))] : List Value).toArray st 0 0 (rA lv a st.heap.size)) (F0 mi 4 ls []) := by
    intro fuel4
    induction fuel4 with
    | zero => intro x q H locs ls hmu; exact absurd hmu (Nat.not_lt_zero _)
    | succ fuel4 ih4 =>
      intro x q H locs ls hmu4 hxn hq hc hl
      refine lv_lload_n hx hb dX4_count_4 rfl (lv_at hl 2 rfl) ?_
      refine lv_lconst (v := lN 0) hx hb dX4_count_5 (by decide) ?_
      refine W.lcmp hx hb dX4_count_6 ?_
      refine lv_if_eq (tgt := 22) hx hb dX4_count_7 (by decide) (fun hq_1 => ?_) (fun hq_1 => ?_)
      · have hq_1 : x = 0 := (pk_lEQ (by omega) (by omega)).mp (lg_0.mp hq_1)
        have hx0 : x = 0 := hq_1
        refine lv_iload_n hx hb dX4_count_22 rfl (lv_at hl 1 rfl) ?_
        exact r_iret hx hb hr hlocks hc dX4_count_23 ⟨by rw [← hq, hx0, pc_0, Nat.add_zero], rfl⟩
      · have hq_1 : ¬ (x = 0) := fun z => hq_1 (lg_0.mpr ((pk_lEQ (by omega) (by omega)).mpr z))
        have hne : ¬ x = 0 := hq_1
        refine lv_iinc (v := nI (q + 1)) (lv' := [(2, .int (nI (q + 1))), (0, .long (lN (n))), (3, .long (lN (x)))]) hx hb dX4_count_10 hl (k := 1) rfl (nI_inc _ 1) (by decide) rfl (fun ls hl => ?_)
        refine lv_lload_n hx hb dX4_count_13 rfl (lv_at hl 2 rfl) ?_
        refine lv_lload_n hx hb dX4_count_14 rfl (lv_at hl 2 rfl) ?_
        refine lv_lconst (v := lN 1) hx hb dX4_count_15 (by decide) ?_
        refine nv_lsub hx hb dX4_count_16 (by omega) ?_
        refine nv_land hx hb dX4_count_17 (by omega) (by omega) ?_
        refine lv_lstore_n (lv' := [(3, .long (lN (x &&& (x - 1)))), (2, .int (nI (q + 1))), (0, .long (lN (n)))]) hx hb dX4_count_18 rfl hl (by decide) rfl (fun ls hl => ?_)
        refine lv_goto (tgt := 4) hx hb dX4_count_19 (by decide) ?_
        exact ih4 (x &&& (x - 1)) (q + 1) _ _ ls (by have := low_lt hne; omega) (Nat.le_trans Nat.and_le_left hxn) (by have := pc_low (x := x) (by omega) hne; omega) hc (lv_sub hl [2, 1, 0] rfl)
  exact loop4 (n + 1) n 0 _ _ ls (by omega) (Nat.le_refl _) (Nat.zero_add _) hc (lv_sub hl [2, 1, 0] rfl)
set_option maxRecDepth 100000 in
set_option maxHeartbeats 4000000 in
theorem c_X4_areaOf (l : Launch) (D : va_G) (g : Nat → ClassId) (lv : Nat → Bool) (a : Nat → Nat) (R : RS) (M : MS) (hmr : PMr R a lv) (hM : PK R M) (hI : Inv M) (k : Nat) (hk : k < mnk M) : cI l D g lv a yX4_areaOf wsX4_areaOf ({ frames := 0, cells := 0, slots := 0, locals := 0 } : Room) [.ref (a (100)), .int (nI (k))] R (fun r R' => r = nI (kw M k * kd M k) ∧ R' = R) 0 0 := by
  refine c_body (cc := cX4_areaOf) (maxL := 2) (ret := (some .int)) (by decide) rfl (Nat.le_of_ble_eq_true rfl) ?_
  intro pr en st mi bl me co ls B hl
  obtain ⟨hx, hb, hr, hml, hown, hts, hlocks, hnm, hK, hZ, hc, hA⟩ := B
  have hl : lv_has ls 2 [(0, .ref (a (100))), (1, .int (nI (k)))] := hl
  have hinX4 : ∀ w ∈ u_ws RX4 TX4 33, w ∈ wsX4_areaOf := (fun _ h => List.mem_cons_of_mem _ (List.mem_append_left _ (List.mem_append_right _ h)))
  have hf_7 := hts (.fieldLink RX4 7 "PalletLayersModel" "wide" "[I") (by decide +kernel)
  have hf_13 := hts (.fieldLink RX4 13 "PalletLayersModel" "deep" "[I") (by decide +kernel)
  have hlv := hmr.1
  have hb9 := iv_b hI
  refine lv_aload_n hx hb dX4_areaOf_0 rfl (lv_at hl 0 rfl) ?_
  refine r_get (C := RX4) (T := TX4) (N := 33) (v := .ref (a (106))) hx hb hts hown hK.1 hc (hlv _ rfl) (rfl) rfl rfl hinX4 6 (by decide) hf_7 (fun _ h9 => h9) (congrArg va_rf (hmr.2 6 rfl)) dX4_areaOf_1 ?_
  refine lv_iload_n hx hb dX4_areaOf_4 rfl (lv_at hl 1 rfl) ?_
  refine r_iald (v := nI (kw M k)) hx hb hK.1 hc (hlv _ rfl) (rfl) (by decide) (by omega) dX4_areaOf_5 ((hM.2.2.2.2 _ (by omega)).1) ?_
  refine lv_aload_n hx hb dX4_areaOf_6 rfl (lv_at hl 0 rfl) ?_
  refine r_get (C := RX4) (T := TX4) (N := 33) (v := .ref (a (107))) hx hb hts hown hK.1 hc (hlv _ rfl) (rfl) rfl rfl hinX4 7 (by decide) hf_13 (fun _ h9 => h9) (congrArg va_rf (hmr.2 7 rfl)) dX4_areaOf_7 ?_
  refine lv_iload_n hx hb dX4_areaOf_10 rfl (lv_at hl 1 rfl) ?_
  refine r_iald (v := nI (kd M k)) hx hb hK.1 hc (hlv _ rfl) (rfl) (by decide) (by omega) dX4_areaOf_11 ((hM.2.2.2.2 _ (by omega)).2.1) ?_
  refine nv_imul hx hb dX4_areaOf_12 ?_
  exact r_iret hx hb hr hlocks hc dX4_areaOf_13 ⟨rfl, rfl⟩
set_option maxRecDepth 100000 in
set_option maxHeartbeats 4000000 in
theorem c_X4_cellsOf (l : Launch) (D : va_G) (g : Nat → ClassId) (lv : Nat → Bool) (a : Nat → Nat) (R : RS) (M : MS) (hmr : PMr R a lv) (hM : PK R M) (hI : Inv M) (k c y : Nat) (hk : k < mnk M) (hcc : c ≤ 36) (hy : y < 2 ^ 31) : cL l D g lv a yX4_cellsOf wsX4_cellsOf ({ frames := 0, cells := 0, slots := 0, locals := 0 } : Room) [.ref (a (100)), .int (nI (k)), .int (nI (c)), .int (nI (y))] R (fun r R' => r = lN (cel M k c y) ∧ R' = R) 0 0 := by
  refine c_body (cc := cX4_cellsOf) (maxL := 13) (ret := (some .long)) (by decide) rfl (Nat.le_of_ble_eq_true rfl) ?_
  intro pr en st mi bl me co ls B hl
  obtain ⟨hx, hb, hr, hml, hown, hts, hlocks, hnm, hK, hZ, hc, hA⟩ := B
  have hl : lv_has ls 13 [(0, .ref (a (100))), (1, .int (nI (k))), (2, .int (nI (c))), (3, .int (nI (y)))] := hl
  have hinX4 : ∀ w ∈ u_ws RX4 TX4 33, w ∈ wsX4_cellsOf := (fun _ h => List.mem_cons_of_mem _ (List.mem_append_left _ (List.mem_append_right _ h)))
  have hf_7 := hts (.fieldLink RX4 7 "PalletLayersModel" "wide" "[I") (by decide +kernel)
  have hf_13 := hts (.fieldLink RX4 13 "PalletLayersModel" "deep" "[I") (by decide +kernel)
  have hf_80 := hts (.fieldLink RX4 80 "PalletLayersModel" "width" "I") (by decide +kernel)
  have hf_83 := hts (.fieldLink RX4 83 "PalletLayersModel" "depth" "I") (by decide +kernel)
  have hlv := hmr.1
  have hb9 := iv_b hI
  have hk9 := iv_k hI hk
  have hac9 := ac_b (y := y) hk9
  have hmd := md_b (c := c) ⟨hb9.1, hb9.2.1⟩ hcc
  have hy31 : y < 2 ^ 31 := hy
  refine lv_iload_n hx hb dX4_cellsOf_0 rfl (lv_at hl 3 rfl) ?_
  refine lv_if_ne (tgt := 13) hx hb dX4_cellsOf_1 (by decide) (fun hq_1 => ?_) (fun hq_1 => ?_)
  · have hq_1 : ¬ (y = 0) := fun z => hq_1 ((nI_eq (a := y) (b := 0) (by omega) (by omega)).mpr z)
    have hy0 : ¬ y = 0 := hq_1
    refine lv_aload_n hx hb dX4_cellsOf_13 rfl (lv_at hl 0 rfl) ?_
    refine r_get (C := RX4) (T := TX4) (N := 33) (v := .ref (a (107))) hx hb hts hown hK.1 hc (hlv _ rfl) (rfl) rfl rfl hinX4 7 (by decide) hf_13 (fun _ h9 => h9) (congrArg va_rf (hmr.2 7 rfl)) dX4_cellsOf_14 ?_
    refine lv_iload_n hx hb dX4_cellsOf_17 rfl (lv_at hl 1 rfl) ?_
    refine r_iald (v := nI (kd M k)) hx hb hK.1 hc (hlv _ rfl) (rfl) (by decide) (by omega) dX4_cellsOf_18 ((hM.2.2.2.2 _ (by omega)).2.1) ?_
    refine lv_istore (lv' := [(4, .int (nI (kd M k))), (0, .ref (a (100))), (1, .int (nI (k))), (2, .int (nI (c))), (3, .int (nI (y)))]) hx hb dX4_cellsOf_19 hl (by decide) rfl (fun ls hl => ?_)
    refine lv_iload_n hx hb dX4_cellsOf_21 rfl (lv_at hl 4 rfl) ?_
    refine lv_if_ne (tgt := 34) hx hb dX4_cellsOf_22 (by decide) (fun hq_2 => ?_) (fun hq_2 => absurd ((nI_eq (a := y) (b := 0) (by omega) (by omega)).mp hq_2) hy0)
    refine lv_aload_n hx hb dX4_cellsOf_34 rfl (lv_at hl 1 rfl) ?_
    refine r_get (C := RX4) (T := TX4) (N := 33) (v := .ref (a (106))) hx hb hts hown hK.1 hc (hlv _ rfl) (rfl) rfl rfl hinX4 6 (by decide) hf_7 (fun _ h9 => h9) (congrArg va_rf (hmr.2 6 rfl)) dX4_cellsOf_35 ?_
    refine lv_iload_n hx hb dX4_cellsOf_38 rfl (lv_at hl 2 rfl) ?_
    refine r_iald (v := nI (kw M k)) hx hb hK.1 hc (hlv _ rfl) (rfl) (by decide) (by omega) dX4_cellsOf_39 ((hM.2.2.2.2 _ (by omega)).1) ?_
    refine lv_istore (lv' := [(5, .int (nI (kw M k))), (4, .int (nI (kd M k))), (0, .ref (a (100))), (1, .int (nI (k))), (2, .int (nI (c))), (3, .int (nI (y)))]) hx hb dX4_cellsOf_40 hl (by decide) rfl (fun ls hl => ?_)
    have hac : kd M k = ac M k y := by simp only [ac, if_neg hy0]
    have hal : kw M k = alo M k y := by simp only [alo, if_neg hy0]
    rw [hac, hal] at hl
    refine lv_iload_n hx hb dX4_cellsOf_42 rfl (lv_at hl 4 rfl) ?_
    refine lv_aload_n hx hb dX4_cellsOf_43 rfl (lv_at hl 2 rfl) ?_
    refine r_get (C := RX4) (T := TX4) (N := 33) (v := .int (nI (mW M))) hx hb hts hown hK.1 hc (hlv _ rfl) (rfl) rfl rfl hinX4 0 (by decide) hf_80 (fun _ h9 => h9) (congrArg Value.int hM.1) dX4_cellsOf_44 ?_
    refine nv_irem hx hb dX4_cellsOf_47 (by omega) (by omega) (by omega) ?_
    refine lv_istore (lv' := [(6, .int (nI (c % (mW M)))), (5, .int (nI (alo M k y))), (4, .int (nI (ac M k y))), (0, .ref (a (100))), (1, .int (nI (k))), (2, .int (nI (c))), (3, .int (nI (y)))]) hx hb dX4_cellsOf_48 hl (by decide) rfl (fun ls hl => ?_)
    refine lv_iload_n hx hb dX4_cellsOf_50 rfl (lv_at hl 5 rfl) ?_
    refine lv_aload_n hx hb dX4_cellsOf_51 rfl (lv_at hl 3 rfl) ?_
    refine r_get (C := RX4) (T := TX4) (N := 33) (v := .int (nI (mW M))) hx hb hts hown hK.1 hc (hlv _ rfl) (rfl) rfl rfl hinX4 0 (by decide) hf_80 (fun _ h9 => h9) (congrArg Value.int hM.1) dX4_cellsOf_52 ?_
    refine nv_idiv hx hb dX4_cellsOf_55 (by omega) (by omega) (by omega) ?_
    refine lv_istore (lv' := [(7, .int (nI (c / (mW M)))), (6, .int (nI (c % (mW M)))), (5, .int (nI (alo M k y))), (4, .int (nI (ac M k y))), (0, .ref (a (100))), (1, .int (nI (k))), (2, .int (nI (c))), (3, .int (nI (y)))]) hx hb dX4_cellsOf_56 hl (by decide) rfl (fun ls hl => ?_)
    refine lv_iload hx hb dX4_cellsOf_58 (lv_at hl 1 rfl) ?_
    refine lv_iload hx hb dX4_cellsOf_60 (lv_at hl 3 rfl) ?_
    refine nv_iadd hx hb dX4_cellsOf_62 ?_
    refine lv_aload_n hx hb dX4_cellsOf_63 rfl (lv_at hl 4 rfl) ?_
    refine r_get (C := RX4) (T := TX4) (N := 33) (v := .int (nI (mW M))) hx hb hts hown hK.1 hc (hlv _ rfl) (rfl) rfl rfl hinX4 0 (by decide) hf_80 (fun _ h9 => h9) (congrArg Value.int hM.1) dX4_cellsOf_64 ?_
    refine lv_icmp_gt (tgt := 82) hx hb dX4_cellsOf_67 (by decide) (fun hq_3 => ?_) (fun hq_3 => ?_)
    · have hq_3 : (mW M) < ((c % (mW M)) + (ac M k y)) := (nI_ltI (a := (mW M)) (b := ((c % (mW M)) + (ac M k y))) (by omega) (by omega)).mp hq_3
      refine lv_lconst (v := lN 0) hx hb dX4_cellsOf_82 (by decide) ?_
      exact r_lret hx hb hr hlocks hc dX4_cellsOf_83 ⟨by rw [cel_f (by omega)], rfl⟩
    · have hq_3 : ¬ ((mW M) < ((c % (mW M)) + (ac M k y))) := fun z => hq_3 ((nI_ltI (a := (mW M)) (b := ((c % (mW M)) + (ac M k y))) (by omega) (by omega)).mpr z)
      refine lv_iload hx hb dX4_cellsOf_70 (lv_at hl 0 rfl) ?_
      refine lv_iload hx hb dX4_cellsOf_72 (lv_at hl 2 rfl) ?_
      refine nv_iadd hx hb dX4_cellsOf_74 ?_
      refine lv_aload_n hx hb dX4_cellsOf_75 rfl (lv_at hl 4 rfl) ?_
      refine r_get (C := RX4) (T := TX4) (N := 33) (v := .int (nI (mD M))) hx hb hts hown hK.1 hc (hlv _ rfl) (rfl) rfl rfl hinX4 1 (by decide) hf_83 (fun _ h9 => h9) (congrArg Value.int hM.2.1) dX4_cellsOf_76 ?_
      refine lv_icmp_le (tgt := 84) hx hb dX4_cellsOf_79 (by decide) (fun hq_4 => ?_) (fun hq_4 => ?_)
      · have hq_4 : ((c / (mW M)) + (alo M k y)) ≤ (mD M) := (nI_leI (a := ((c / (mW M)) + (alo M k y))) (b := (mD M)) (by omega) (by omega)).mp hq_4
        have hfx : c % mW M + ac M k y ≤ mW M := by omega
        have hfy : c / mW M + alo M k y ≤ mD M := by omega
        refine lv_lconst (v := lN 1) hx hb dX4_cellsOf_84 (by decide) ?_
        refine lv_iload hx hb dX4_cellsOf_85 (lv_at hl 3 rfl) ?_
        refine lv_lshl (v := lN (1 * 2 ^ (ac M k y))) hx hb dX4_cellsOf_87 (wb_shl _ (by omega)) ?_
        refine lv_lconst (v := lN 1) hx hb dX4_cellsOf_88 (by decide) ?_
        refine nv_lsub hx hb dX4_cellsOf_89 (by rw [Nat.one_mul]; exact Nat.two_pow_pos _) ?_
        refine lv_iload hx hb dX4_cellsOf_90 (lv_at hl 1 rfl) ?_
        refine lv_lshl (v := lN (((1 * 2 ^ (ac M k y)) - 1) * 2 ^ (c % (mW M)))) hx hb dX4_cellsOf_92 (wb_shl _ (by omega)) ?_
        refine lv_lstore (lv' := [(8, .long (lN (((1 * 2 ^ (ac M k y)) - 1) * 2 ^ (c % (mW M))))), (7, .int (nI (c / (mW M)))), (6, .int (nI (c % (mW M)))), (5, .int (nI (alo M k y))), (4, .int (nI (ac M k y))), (0, .ref (a (100))), (1, .int (nI (k))), (2, .int (nI (c))), (3, .int (nI (y)))]) hx hb dX4_cellsOf_93 hl (by decide) rfl (fun ls hl => ?_)
        refine lv_lconst (v := lN 0) hx hb dX4_cellsOf_95 (by decide) ?_
        refine lv_lstore (lv' := [(10, .long (lN (0))), (8, .long (lN (((1 * 2 ^ (ac M k y)) - 1) * 2 ^ (c % (mW M))))), (7, .int (nI (c / (mW M)))), (6, .int (nI (c % (mW M)))), (5, .int (nI (alo M k y))), (4, .int (nI (ac M k y))), (0, .ref (a (100))), (1, .int (nI (k))), (2, .int (nI (c))), (3, .int (nI (y)))]) hx hb dX4_cellsOf_96 hl (by decide) rfl (fun ls hl => ?_)
        refine lv_iload hx hb dX4_cellsOf_98 (lv_at hl 2 rfl) ?_
        refine lv_istore (lv' := [(12, .int (nI (c / (mW M)))), (10, .long (lN (0))), (8, .long (lN (((1 * 2 ^ (ac M k y)) - 1) * 2 ^ (c % (mW M))))), (7, .int (nI (c / (mW M)))), (6, .int (nI (c % (mW M)))), (5, .int (nI (alo M k y))), (4, .int (nI (ac M k y))), (0, .ref (a (100))), (1, .int (nI (k))), (2, .int (nI (c))), (3, .int (nI (y)))]) hx hb dX4_cellsOf_100 hl (by decide) rfl (fun ls hl => ?_)
        have loop102 : ∀ (fuel102 : Nat) (i : Nat) (H : Heap) (locs : List Loc) (ls : Array Slot), alo M k y - i < fuel102 → (i ≤ alo M k y) → rc D g (rA lv a st.heap.size) st.heap lv a R H locs → lv_has ls 13 [(0, .ref (a (100))), (5, .int (nI (alo M k y))), (7, .int (nI (c / mW M))), (8, .long (lN ((1 * 2 ^ (ac M k y) - 1) * 2 ^ (c % mW M)))), (10, .long (lN (bm (mW M) c (ac M k y) i))), (12, .int (nI (c / mW M + i)))] → W pr l en ({ frames := 0, cells := 0, slots := 0, locals := 0 } : Room) st mi ([.ref (a (100)), .int (nI (k)), .int (nI (c)), .int (nI (y))] : List Value).toArray bl me co H locs 0 0 (MQ bl (va_Ql (fun r R' => r = lN (cel M k c y) ∧ R' = R) (cB D g lv a) (rA lv a st.heap.size)) ([.ref (a (100)), .int (nI (k)), .int (nI (c)), .int (nI (y))] : List Value).toArray st 0 0 (rA lv a st.heap.size)) (F0 mi 102 ls []) := by
          intro fuel102
          induction fuel102 with
          | zero => intro i H locs ls hmu; exact absurd hmu (Nat.not_lt_zero _)
          | succ fuel102 ih102 =>
            intro i H locs ls hmu102 hi hc hl
            refine lv_iload hx hb dX4_cellsOf_102 (lv_at hl 5 rfl) ?_
            refine lv_iload hx hb dX4_cellsOf_104 (lv_at hl 2 rfl) ?_
            refine lv_iload hx hb dX4_cellsOf_106 (lv_at hl 1 rfl) ?_
            refine nv_iadd hx hb dX4_cellsOf_108 ?_
            refine lv_icmp_ge (tgt := 133) hx hb dX4_cellsOf_109 (by decide) (fun hq_5 => ?_) (fun hq_5 => ?_)
            · have hq_5 : ((c / mW M) + (alo M k y)) ≤ (c / mW M + i) := (nI_leI (a := ((c / mW M) + (alo M k y))) (b := (c / mW M + i)) (by omega) (by omega)).mp hq_5
              refine lv_lload hx hb dX4_cellsOf_133 (lv_at hl 4 rfl) ?_
              exact r_lret hx hb hr hlocks hc dX4_cellsOf_135 ⟨by rw [cel_t hfx hfy, show i = alo M k y by omega], rfl⟩
            · have hq_5 : ¬ (((c / mW M) + (alo M k y)) ≤ (c / mW M + i)) := fun z => hq_5 ((nI_leI (a := ((c / mW M) + (alo M k y))) (b := (c / mW M + i)) (by omega) (by omega)).mpr z)
              refine lv_lload hx hb dX4_cellsOf_112 (lv_at hl 4 rfl) ?_
              refine lv_lload hx hb dX4_cellsOf_114 (lv_at hl 3 rfl) ?_
              refine lv_aload_n hx hb dX4_cellsOf_116 rfl (lv_at hl 0 rfl) ?_
              refine r_get (C := RX4) (T := TX4) (N := 33) (v := .int (nI (mW M))) hx hb hts hown hK.1 hc (hlv _ rfl) (rfl) rfl rfl hinX4 0 (by decide) hf_80 (fun _ h9 => h9) (congrArg Value.int hM.1) dX4_cellsOf_117 ?_
              refine lv_iload hx hb dX4_cellsOf_120 (lv_at hl 5 rfl) ?_
              refine nv_imul hx hb dX4_cellsOf_122 ?_
              refine lv_lshl (v := lN (((1 * 2 ^ (ac M k y) - 1) * 2 ^ (c % mW M)) * 2 ^ ((mW M) * (c / mW M + i)))) hx hb dX4_cellsOf_123 (wb_shl _ (Nat.lt_of_le_of_lt (Nat.mul_le_mul hb9.2.1 (show c / mW M + i ≤ 6 by omega)) (by decide))) ?_
              refine nv_lor hx hb dX4_cellsOf_124 (Nat.lt_of_lt_of_le (bm_lt hfx i (show c / mW M + i ≤ mD M by omega)) (Nat.le_trans (p36 (ce_b hb9).2) (by decide))) (by rw [Nat.one_mul, bm_row]; exact Nat.lt_of_lt_of_le sl_lt (Nat.le_trans (Nat.pow_le_pow_right (by decide) (Nat.le_trans (bm_top hfx (show c / mW M + (i + 1) ≤ mD M by omega)) (ce_b hb9).2)) (by decide))) ?_
              refine lv_lstore (lv' := [(10, .long (lN ((bm (mW M) c (ac M k y) i) ||| (((1 * 2 ^ (ac M k y) - 1) * 2 ^ (c % mW M)) * 2 ^ ((mW M) * (c / mW M + i)))))), (0, .ref (a (100))), (5, .int (nI (alo M k y))), (7, .int (nI (c / mW M))), (8, .long (lN ((1 * 2 ^ (ac M k y) - 1) * 2 ^ (c % mW M)))), (12, .int (nI (c / mW M + i)))]) hx hb dX4_cellsOf_125 hl (by decide) rfl (fun ls hl => ?_)
              refine lv_iinc (v := nI (c / mW M + i + 1)) (lv' := [(12, .int (nI (c / mW M + i + 1))), (10, .long (lN ((bm (mW M) c (ac M k y) i) ||| (((1 * 2 ^ (ac M k y) - 1) * 2 ^ (c % mW M)) * 2 ^ ((mW M) * (c / mW M + i)))))), (0, .ref (a (100))), (5, .int (nI (alo M k y))), (7, .int (nI (c / mW M))), (8, .long (lN ((1 * 2 ^ (ac M k y) - 1) * 2 ^ (c % mW M))))]) hx hb dX4_cellsOf_127 hl (k := 5) rfl (nI_inc _ 1) (by decide) rfl (fun ls hl => ?_)
              refine lv_goto (tgt := 102) hx hb dX4_cellsOf_130 (by decide) ?_
              rw [show (bm (mW M) c (ac M k y) i) ||| (((1 * 2 ^ (ac M k y) - 1) * 2 ^ (c % mW M)) * 2 ^ ((mW M) * (c / mW M + i))) = bm (mW M) c (ac M k y) (i + 1) by rw [Nat.one_mul, bm_row]; rfl] at hl
              exact ih102 (i + 1) _ _ ls (by omega) (by omega) hc (lv_sub hl [2, 3, 4, 5, 1, 0] rfl)
        exact loop102 (alo M k y + 1) 0 _ _ ls (by omega) (Nat.zero_le _) hc (lv_sub hl [7, 5, 3, 2, 1, 0] rfl)
      · have hq_4 : ¬ (((c / (mW M)) + (alo M k y)) ≤ (mD M)) := fun z => hq_4 ((nI_leI (a := ((c / (mW M)) + (alo M k y))) (b := (mD M)) (by omega) (by omega)).mpr z)
        refine lv_lconst (v := lN 0) hx hb dX4_cellsOf_82 (by decide) ?_
        exact r_lret hx hb hr hlocks hc dX4_cellsOf_83 ⟨by rw [cel_f (by omega)], rfl⟩
  · have hq_1 : y = 0 := (nI_eq (a := y) (b := 0) (by omega) (by omega)).mp hq_1
    have hy0 : y = 0 := hq_1
    refine lv_aload_n hx hb dX4_cellsOf_4 rfl (lv_at hl 0 rfl) ?_
    refine r_get (C := RX4) (T := TX4) (N := 33) (v := .ref (a (106))) hx hb hts hown hK.1 hc (hlv _ rfl) (rfl) rfl rfl hinX4 6 (by decide) hf_7 (fun _ h9 => h9) (congrArg va_rf (hmr.2 6 rfl)) dX4_cellsOf_5 ?_
    refine lv_iload_n hx hb dX4_cellsOf_8 rfl (lv_at hl 1 rfl) ?_
    refine r_iald (v := nI (kw M k)) hx hb hK.1 hc (hlv _ rfl) (rfl) (by decide) (by omega) dX4_cellsOf_9 ((hM.2.2.2.2 _ (by omega)).1) ?_
    refine lv_goto (tgt := 19) hx hb dX4_cellsOf_10 (by decide) ?_
    refine lv_istore (lv' := [(4, .int (nI (kw M k))), (0, .ref (a (100))), (1, .int (nI (k))), (2, .int (nI (c))), (3, .int (nI (y)))]) hx hb dX4_cellsOf_19 hl (by decide) rfl (fun ls hl => ?_)
    refine lv_iload_n hx hb dX4_cellsOf_21 rfl (lv_at hl 4 rfl) ?_
    refine lv_if_ne (tgt := 34) hx hb dX4_cellsOf_22 (by decide) (fun hq_6 => absurd ((nI_eq (a := y) (b := 0) (by omega) (by omega)).mpr hy0) hq_6) (fun hq_6 => ?_)
    refine lv_aload_n hx hb dX4_cellsOf_25 rfl (lv_at hl 1 rfl) ?_
    refine r_get (C := RX4) (T := TX4) (N := 33) (v := .ref (a (107))) hx hb hts hown hK.1 hc (hlv _ rfl) (rfl) rfl rfl hinX4 7 (by decide) hf_13 (fun _ h9 => h9) (congrArg va_rf (hmr.2 7 rfl)) dX4_cellsOf_26 ?_
    refine lv_iload_n hx hb dX4_cellsOf_29 rfl (lv_at hl 2 rfl) ?_
    refine r_iald (v := nI (kd M k)) hx hb hK.1 hc (hlv _ rfl) (rfl) (by decide) (by omega) dX4_cellsOf_30 ((hM.2.2.2.2 _ (by omega)).2.1) ?_
    refine lv_goto (tgt := 40) hx hb dX4_cellsOf_31 (by decide) ?_
    refine lv_istore (lv' := [(5, .int (nI (kd M k))), (4, .int (nI (kw M k))), (0, .ref (a (100))), (1, .int (nI (k))), (2, .int (nI (c))), (3, .int (nI (y)))]) hx hb dX4_cellsOf_40 hl (by decide) rfl (fun ls hl => ?_)
    have hac : kw M k = ac M k y := by simp only [ac, if_pos hy0]
    have hal : kd M k = alo M k y := by simp only [alo, if_pos hy0]
    rw [hac, hal] at hl
    refine lv_iload_n hx hb dX4_cellsOf_42 rfl (lv_at hl 4 rfl) ?_
    refine lv_aload_n hx hb dX4_cellsOf_43 rfl (lv_at hl 2 rfl) ?_
    refine r_get (C := RX4) (T := TX4) (N := 33) (v := .int (nI (mW M))) hx hb hts hown hK.1 hc (hlv _ rfl) (rfl) rfl rfl hinX4 0 (by decide) hf_80 (fun _ h9 => h9) (congrArg Value.int hM.1) dX4_cellsOf_44 ?_
    refine nv_irem hx hb dX4_cellsOf_47 (by omega) (by omega) (by omega) ?_
    refine lv_istore (lv' := [(6, .int (nI (c % (mW M)))), (5, .int (nI (alo M k y))), (4, .int (nI (ac M k y))), (0, .ref (a (100))), (1, .int (nI (k))), (2, .int (nI (c))), (3, .int (nI (y)))]) hx hb dX4_cellsOf_48 hl (by decide) rfl (fun ls hl => ?_)
    refine lv_iload_n hx hb dX4_cellsOf_50 rfl (lv_at hl 5 rfl) ?_
    refine lv_aload_n hx hb dX4_cellsOf_51 rfl (lv_at hl 3 rfl) ?_
    refine r_get (C := RX4) (T := TX4) (N := 33) (v := .int (nI (mW M))) hx hb hts hown hK.1 hc (hlv _ rfl) (rfl) rfl rfl hinX4 0 (by decide) hf_80 (fun _ h9 => h9) (congrArg Value.int hM.1) dX4_cellsOf_52 ?_
    refine nv_idiv hx hb dX4_cellsOf_55 (by omega) (by omega) (by omega) ?_
    refine lv_istore (lv' := [(7, .int (nI (c / (mW M)))), (6, .int (nI (c % (mW M)))), (5, .int (nI (alo M k y))), (4, .int (nI (ac M k y))), (0, .ref (a (100))), (1, .int (nI (k))), (2, .int (nI (c))), (3, .int (nI (y)))]) hx hb dX4_cellsOf_56 hl (by decide) rfl (fun ls hl => ?_)
    refine lv_iload hx hb dX4_cellsOf_58 (lv_at hl 1 rfl) ?_
    refine lv_iload hx hb dX4_cellsOf_60 (lv_at hl 3 rfl) ?_
    refine nv_iadd hx hb dX4_cellsOf_62 ?_
    refine lv_aload_n hx hb dX4_cellsOf_63 rfl (lv_at hl 4 rfl) ?_
    refine r_get (C := RX4) (T := TX4) (N := 33) (v := .int (nI (mW M))) hx hb hts hown hK.1 hc (hlv _ rfl) (rfl) rfl rfl hinX4 0 (by decide) hf_80 (fun _ h9 => h9) (congrArg Value.int hM.1) dX4_cellsOf_64 ?_
    refine lv_icmp_gt (tgt := 82) hx hb dX4_cellsOf_67 (by decide) (fun hq_7 => ?_) (fun hq_7 => ?_)
    · have hq_7 : (mW M) < ((c % (mW M)) + (ac M k y)) := (nI_ltI (a := (mW M)) (b := ((c % (mW M)) + (ac M k y))) (by omega) (by omega)).mp hq_7
      refine lv_lconst (v := lN 0) hx hb dX4_cellsOf_82 (by decide) ?_
      exact r_lret hx hb hr hlocks hc dX4_cellsOf_83 ⟨by rw [cel_f (by omega)], rfl⟩
    · have hq_7 : ¬ ((mW M) < ((c % (mW M)) + (ac M k y))) := fun z => hq_7 ((nI_ltI (a := (mW M)) (b := ((c % (mW M)) + (ac M k y))) (by omega) (by omega)).mpr z)
      refine lv_iload hx hb dX4_cellsOf_70 (lv_at hl 0 rfl) ?_
      refine lv_iload hx hb dX4_cellsOf_72 (lv_at hl 2 rfl) ?_
      refine nv_iadd hx hb dX4_cellsOf_74 ?_
      refine lv_aload_n hx hb dX4_cellsOf_75 rfl (lv_at hl 4 rfl) ?_
      refine r_get (C := RX4) (T := TX4) (N := 33) (v := .int (nI (mD M))) hx hb hts hown hK.1 hc (hlv _ rfl) (rfl) rfl rfl hinX4 1 (by decide) hf_83 (fun _ h9 => h9) (congrArg Value.int hM.2.1) dX4_cellsOf_76 ?_
      refine lv_icmp_le (tgt := 84) hx hb dX4_cellsOf_79 (by decide) (fun hq_8 => ?_) (fun hq_8 => ?_)
      · have hq_8 : ((c / (mW M)) + (alo M k y)) ≤ (mD M) := (nI_leI (a := ((c / (mW M)) + (alo M k y))) (b := (mD M)) (by omega) (by omega)).mp hq_8
        have hfx : c % mW M + ac M k y ≤ mW M := by omega
        have hfy : c / mW M + alo M k y ≤ mD M := by omega
        refine lv_lconst (v := lN 1) hx hb dX4_cellsOf_84 (by decide) ?_
        refine lv_iload hx hb dX4_cellsOf_85 (lv_at hl 3 rfl) ?_
        refine lv_lshl (v := lN (1 * 2 ^ (ac M k y))) hx hb dX4_cellsOf_87 (wb_shl _ (by omega)) ?_
        refine lv_lconst (v := lN 1) hx hb dX4_cellsOf_88 (by decide) ?_
        refine nv_lsub hx hb dX4_cellsOf_89 (by rw [Nat.one_mul]; exact Nat.two_pow_pos _) ?_
        refine lv_iload hx hb dX4_cellsOf_90 (lv_at hl 1 rfl) ?_
        refine lv_lshl (v := lN (((1 * 2 ^ (ac M k y)) - 1) * 2 ^ (c % (mW M)))) hx hb dX4_cellsOf_92 (wb_shl _ (by omega)) ?_
        refine lv_lstore (lv' := [(8, .long (lN (((1 * 2 ^ (ac M k y)) - 1) * 2 ^ (c % (mW M))))), (7, .int (nI (c / (mW M)))), (6, .int (nI (c % (mW M)))), (5, .int (nI (alo M k y))), (4, .int (nI (ac M k y))), (0, .ref (a (100))), (1, .int (nI (k))), (2, .int (nI (c))), (3, .int (nI (y)))]) hx hb dX4_cellsOf_93 hl (by decide) rfl (fun ls hl => ?_)
        refine lv_lconst (v := lN 0) hx hb dX4_cellsOf_95 (by decide) ?_
        refine lv_lstore (lv' := [(10, .long (lN (0))), (8, .long (lN (((1 * 2 ^ (ac M k y)) - 1) * 2 ^ (c % (mW M))))), (7, .int (nI (c / (mW M)))), (6, .int (nI (c % (mW M)))), (5, .int (nI (alo M k y))), (4, .int (nI (ac M k y))), (0, .ref (a (100))), (1, .int (nI (k))), (2, .int (nI (c))), (3, .int (nI (y)))]) hx hb dX4_cellsOf_96 hl (by decide) rfl (fun ls hl => ?_)
        refine lv_iload hx hb dX4_cellsOf_98 (lv_at hl 2 rfl) ?_
        refine lv_istore (lv' := [(12, .int (nI (c / (mW M)))), (10, .long (lN (0))), (8, .long (lN (((1 * 2 ^ (ac M k y)) - 1) * 2 ^ (c % (mW M))))), (7, .int (nI (c / (mW M)))), (6, .int (nI (c % (mW M)))), (5, .int (nI (alo M k y))), (4, .int (nI (ac M k y))), (0, .ref (a (100))), (1, .int (nI (k))), (2, .int (nI (c))), (3, .int (nI (y)))]) hx hb dX4_cellsOf_100 hl (by decide) rfl (fun ls hl => ?_)
        have loop102 : ∀ (fuel102 : Nat) (i : Nat) (H : Heap) (locs : List Loc) (ls : Array Slot), alo M k y - i < fuel102 → (i ≤ alo M k y) → rc D g (rA lv a st.heap.size) st.heap lv a R H locs → lv_has ls 13 [(0, .ref (a (100))), (5, .int (nI (alo M k y))), (7, .int (nI (c / mW M))), (8, .long (lN ((1 * 2 ^ (ac M k y) - 1) * 2 ^ (c % mW M)))), (10, .long (lN (bm (mW M) c (ac M k y) i))), (12, .int (nI (c / mW M + i)))] → W pr l en ({ frames := 0, cells := 0, slots := 0, locals := 0 } : Room) st mi ([.ref (a (100)), .int (nI (k)), .int (nI (c)), .int (nI (y))] : List Value).toArray bl me co H locs 0 0 (MQ bl (va_Ql (fun r R' => r = lN (cel M k c y) ∧ R' = R) (cB D g lv a) (rA lv a st.heap.size)) ([.ref (a (100)), .int (nI (k)), .int (nI (c)), .int (nI (y))] : List Value).toArray st 0 0 (rA lv a st.heap.size)) (F0 mi 102 ls []) := by
          intro fuel102
          induction fuel102 with
          | zero => intro i H locs ls hmu; exact absurd hmu (Nat.not_lt_zero _)
          | succ fuel102 ih102 =>
            intro i H locs ls hmu102 hi hc hl
            refine lv_iload hx hb dX4_cellsOf_102 (lv_at hl 5 rfl) ?_
            refine lv_iload hx hb dX4_cellsOf_104 (lv_at hl 2 rfl) ?_
            refine lv_iload hx hb dX4_cellsOf_106 (lv_at hl 1 rfl) ?_
            refine nv_iadd hx hb dX4_cellsOf_108 ?_
            refine lv_icmp_ge (tgt := 133) hx hb dX4_cellsOf_109 (by decide) (fun hq_9 => ?_) (fun hq_9 => ?_)
            · have hq_9 : ((c / mW M) + (alo M k y)) ≤ (c / mW M + i) := (nI_leI (a := ((c / mW M) + (alo M k y))) (b := (c / mW M + i)) (by omega) (by omega)).mp hq_9
              refine lv_lload hx hb dX4_cellsOf_133 (lv_at hl 4 rfl) ?_
              exact r_lret hx hb hr hlocks hc dX4_cellsOf_135 ⟨by rw [cel_t hfx hfy, show i = alo M k y by omega], rfl⟩
            · have hq_9 : ¬ (((c / mW M) + (alo M k y)) ≤ (c / mW M + i)) := fun z => hq_9 ((nI_leI (a := ((c / mW M) + (alo M k y))) (b := (c / mW M + i)) (by omega) (by omega)).mpr z)
              refine lv_lload hx hb dX4_cellsOf_112 (lv_at hl 4 rfl) ?_
              refine lv_lload hx hb dX4_cellsOf_114 (lv_at hl 3 rfl) ?_
              refine lv_aload_n hx hb dX4_cellsOf_116 rfl (lv_at hl 0 rfl) ?_
              refine r_get (C := RX4) (T := TX4) (N := 33) (v := .int (nI (mW M))) hx hb hts hown hK.1 hc (hlv _ rfl) (rfl) rfl rfl hinX4 0 (by decide) hf_80 (fun _ h9 => h9) (congrArg Value.int hM.1) dX4_cellsOf_117 ?_
              refine lv_iload hx hb dX4_cellsOf_120 (lv_at hl 5 rfl) ?_
              refine nv_imul hx hb dX4_cellsOf_122 ?_
              refine lv_lshl (v := lN (((1 * 2 ^ (ac M k y) - 1) * 2 ^ (c % mW M)) * 2 ^ ((mW M) * (c / mW M + i)))) hx hb dX4_cellsOf_123 (wb_shl _ (Nat.lt_of_le_of_lt (Nat.mul_le_mul hb9.2.1 (show c / mW M + i ≤ 6 by omega)) (by decide))) ?_
              refine nv_lor hx hb dX4_cellsOf_124 (Nat.lt_of_lt_of_le (bm_lt hfx i (show c / mW M + i ≤ mD M by omega)) (Nat.le_trans (p36 (ce_b hb9).2) (by decide))) (by rw [Nat.one_mul, bm_row]; exact Nat.lt_of_lt_of_le sl_lt (Nat.le_trans (Nat.pow_le_pow_right (by decide) (Nat.le_trans (bm_top hfx (show c / mW M + (i + 1) ≤ mD M by omega)) (ce_b hb9).2)) (by decide))) ?_
              refine lv_lstore (lv' := [(10, .long (lN ((bm (mW M) c (ac M k y) i) ||| (((1 * 2 ^ (ac M k y) - 1) * 2 ^ (c % mW M)) * 2 ^ ((mW M) * (c / mW M + i)))))), (0, .ref (a (100))), (5, .int (nI (alo M k y))), (7, .int (nI (c / mW M))), (8, .long (lN ((1 * 2 ^ (ac M k y) - 1) * 2 ^ (c % mW M)))), (12, .int (nI (c / mW M + i)))]) hx hb dX4_cellsOf_125 hl (by decide) rfl (fun ls hl => ?_)
              refine lv_iinc (v := nI (c / mW M + i + 1)) (lv' := [(12, .int (nI (c / mW M + i + 1))), (10, .long (lN ((bm (mW M) c (ac M k y) i) ||| (((1 * 2 ^ (ac M k y) - 1) * 2 ^ (c % mW M)) * 2 ^ ((mW M) * (c / mW M + i)))))), (0, .ref (a (100))), (5, .int (nI (alo M k y))), (7, .int (nI (c / mW M))), (8, .long (lN ((1 * 2 ^ (ac M k y) - 1) * 2 ^ (c % mW M))))]) hx hb dX4_cellsOf_127 hl (k := 5) rfl (nI_inc _ 1) (by decide) rfl (fun ls hl => ?_)
              refine lv_goto (tgt := 102) hx hb dX4_cellsOf_130 (by decide) ?_
              rw [show (bm (mW M) c (ac M k y) i) ||| (((1 * 2 ^ (ac M k y) - 1) * 2 ^ (c % mW M)) * 2 ^ ((mW M) * (c / mW M + i))) = bm (mW M) c (ac M k y) (i + 1) by rw [Nat.one_mul, bm_row]; rfl] at hl
              exact ih102 (i + 1) _ _ ls (by omega) (by omega) hc (lv_sub hl [2, 3, 4, 5, 1, 0] rfl)
        exact loop102 (alo M k y + 1) 0 _ _ ls (by omega) (Nat.zero_le _) hc (lv_sub hl [7, 5, 3, 2, 1, 0] rfl)
      · have hq_8 : ¬ (((c / (mW M)) + (alo M k y)) ≤ (mD M)) := fun z => hq_8 ((nI_leI (a := ((c / (mW M)) + (alo M k y))) (b := (mD M)) (by omega) (by omega)).mpr z)
        refine lv_lconst (v := lN 0) hx hb dX4_cellsOf_82 (by decide) ?_
        exact r_lret hx hb hr hlocks hc dX4_cellsOf_83 ⟨by rw [cel_f (by omega)], rfl⟩
set_option maxRecDepth 100000 in
set_option maxHeartbeats 4000000 in
theorem c_X4_firstCell (l : Launch) (D : va_G) (g : Nat → ClassId) (lv : Nat → Bool) (a : Nat → Nat) (R : RS) (M : MS) (hmr : PMr R a lv) (hM : PK R M) (hI : Inv M) (T F : Nat) (hT : fl R 100 29 = lN T) (hF : fl R 100 30 = lN F) (hT6 : T < 68719476736) (hF6 : F < 68719476736) : cI l D g lv a yX4_firstCell wsX4_firstCell ({ frames := 0, cells := 0, slots := 0, locals := 0 } : Room) [.ref (a (100))] R (fun r R' => r = nI (fo (mW M * mD M) (T ||| F)) ∧ R' = R) 0 0 := by
  refine c_body (cc := cX4_firstCell) (maxL := 2) (ret := (some .int)) (by decide) rfl (Nat.le_of_ble_eq_true rfl) ?_
  intro pr en st mi bl me co ls B hl
  obtain ⟨hx, hb, hr, hml, hown, hts, hlocks, hnm, hK, hZ, hc, hA⟩ := B
  have hl : lv_has ls 2 [(0, .ref (a (100)))] := hl
  have hinX4 : ∀ w ∈ u_ws RX4 TX4 33, w ∈ wsX4_firstCell := (fun _ h => List.mem_cons_of_mem _ (List.mem_append_right _ h))
  have hf_86 := hts (.fieldLink RX4 86 "PalletLayersModel" "cells" "I") (by decide +kernel)
  have hf_102 := hts (.fieldLink RX4 102 "PalletLayersModel" "taken" "J") (by decide +kernel)
  have hf_106 := hts (.fieldLink RX4 106 "PalletLayersModel" "left" "J") (by decide +kernel)
  have hlv := hmr.1
  have hb9 := iv_b hI
  have hce := ce_b hb9
  have hor : T ||| F < 68719476736 := Nat.or_lt_two_pow (n := 36) hT6 hF6
  refine lv_iconst (v := nI (0)) hx hb dX4_firstCell_0 (by decide) ?_
  refine lv_istore_n (lv' := [(1, .int (nI (0))), (0, .ref (a (100)))]) hx hb dX4_firstCell_1 rfl hl (by decide) rfl (fun ls hl => ?_)
  have loop2 : ∀ (fuel2 : Nat) (i : Nat) (H : Heap) (locs : List Loc) (ls : Array Slot), mW M * mD M - i < fuel2 → (i ≤ mW M * mD M) → (∀ j, j < i → (T ||| F).testBit j = true) → rc D g (rA lv a st.heap.size) st.heap lv a R H locs → lv_has ls 2 [(0, .ref (a (100))), (1, .int (nI (i)))] → W pr l en ({ frames := 0, cells := 0, slots := 0, locals := 0 } : Room) st mi ([.ref (a (100))] : List Value).toArray bl me co H locs 0 0 (MQ bl (va_Qi (fun r R' => r = nI (fo (mW M * mD M) (T ||| F)) ∧ R' = R) (cB D g lv a) (rA lv a st.heap.size)) ([.ref (a (100))] : List Value).toArray st 0 0 (rA lv a st.heap.size)) (F0 mi 2 ls []) := by
    intro fuel2
    induction fuel2 with
    | zero => intro i H locs ls hmu; exact absurd hmu (Nat.not_lt_zero _)
    | succ fuel2 ih2 =>
      intro i H locs ls hmu2 hi hcl hc hl
      refine lv_iload_n hx hb dX4_firstCell_2 rfl (lv_at hl 1 rfl) ?_
      refine lv_aload_n hx hb dX4_firstCell_3 rfl (lv_at hl 0 rfl) ?_
      refine r_get (C := RX4) (T := TX4) (N := 33) (v := .int (nI (mW M * mD M))) hx hb hts hown hK.1 hc (hlv _ rfl) (rfl) rfl rfl hinX4 2 (by decide) hf_86 (fun _ h9 => h9) (congrArg Value.int hM.2.2.1) dX4_firstCell_4 ?_
      refine lv_icmp_ge (tgt := 34) hx hb dX4_firstCell_7 (by decide) (fun hq_1 => ?_) (fun hq_1 => ?_)
      · have hq_1 : (mW M * mD M) ≤ i := (nI_leI (a := (mW M * mD M)) (b := i) (by omega) (by omega)).mp hq_1
        refine lv_iload_n hx hb dX4_firstCell_34 rfl (lv_at hl 1 rfl) ?_
        exact r_iret hx hb hr hlocks hc dX4_firstCell_35 ⟨by rw [fo_1 hi hcl (by omega)], rfl⟩
      · have hq_1 : ¬ ((mW M * mD M) ≤ i) := fun z => hq_1 ((nI_leI (a := (mW M * mD M)) (b := i) (by omega) (by omega)).mpr z)
        refine lv_aload_n hx hb dX4_firstCell_10 rfl (lv_at hl 0 rfl) ?_
        refine r_get (C := RX4) (T := TX4) (N := 33) (v := .long (lN (T))) hx hb hts hown hK.1 hc (hlv _ rfl) (rfl) rfl rfl hinX4 29 (by decide) hf_102 (fun _ h9 => h9) (congrArg Value.long hT) dX4_firstCell_11 ?_
        refine lv_aload_n hx hb dX4_firstCell_14 rfl (lv_at hl 0 rfl) ?_
        refine r_get (C := RX4) (T := TX4) (N := 33) (v := .long (lN (F))) hx hb hts hown hK.1 hc (hlv _ rfl) (rfl) rfl rfl hinX4 30 (by decide) hf_106 (fun _ h9 => h9) (congrArg Value.long hF) dX4_firstCell_15 ?_
        refine nv_lor hx hb dX4_firstCell_18 (by omega) (by omega) ?_
        refine lv_iload_n hx hb dX4_firstCell_19 rfl (lv_at hl 1 rfl) ?_
        refine lv_lshr (v := lN ((T ||| F) / 2 ^ i)) hx hb dX4_firstCell_20 (n_shr (by omega) (by omega)) ?_
        refine lv_lconst (v := lN 1) hx hb dX4_firstCell_21 (by decide) ?_
        refine nv_land hx hb dX4_firstCell_22 (Nat.lt_of_le_of_lt (Nat.div_le_self _ _) (by omega)) (by decide) ?_
        refine lv_lconst (v := lN 1) hx hb dX4_firstCell_23 (by decide) ?_
        refine W.lcmp hx hb dX4_firstCell_24 ?_
        refine lv_if_ne (tgt := 34) hx hb dX4_firstCell_25 (by decide) (fun hq_2 => ?_) (fun hq_2 => ?_)
        · have hq_2 : ¬ ((((T ||| F) / 2 ^ i) &&& 1) = 1) := fun z => hq_2 (lg_0.mpr ((pk_lEQ (by have h9 : (T ||| F) / 2 ^ i &&& 1 ≤ 1 := Nat.and_le_right; omega) (by have h9 : (T ||| F) / 2 ^ i &&& 1 ≤ 1 := Nat.and_le_right; omega)).mpr z))
          have hbt : ¬ (T ||| F).testBit i = true := fun z => hq_2 (by rw [Nat.and_one_is_mod]; exact tb_div.mpr z)
          refine lv_iload_n hx hb dX4_firstCell_34 rfl (lv_at hl 1 rfl) ?_
          exact r_iret hx hb hr hlocks hc dX4_firstCell_35 ⟨by rw [fo_2 (by omega) hcl hbt], rfl⟩
        · have hq_2 : (((T ||| F) / 2 ^ i) &&& 1) = 1 := (pk_lEQ (by have h9 : (T ||| F) / 2 ^ i &&& 1 ≤ 1 := Nat.and_le_right; omega) (by have h9 : (T ||| F) / 2 ^ i &&& 1 ≤ 1 := Nat.and_le_right; omega)).mp (lg_0.mp hq_2)
          have hbt : (T ||| F).testBit i = true := tb_div.mp (by rw [← Nat.and_one_is_mod]; exact hq_2)
          refine lv_iinc (v := nI (i + 1)) (lv' := [(1, .int (nI (i + 1))), (0, .ref (a (100)))]) hx hb dX4_firstCell_28 hl (k := 1) rfl (nI_inc _ 1) (by decide) rfl (fun ls hl => ?_)
          refine lv_goto (tgt := 2) hx hb dX4_firstCell_31 (by decide) ?_
          exact ih2 (i + 1) _ _ ls (by omega) (by omega) (fun j hj => if h : j < i then hcl j h else by rw [show j = i by omega]; exact hbt) hc (lv_sub hl [1, 0] rfl)
  exact loop2 (mW M * mD M + 1) 0 _ _ ls (by omega) (Nat.zero_le _) (fun j hj => absurd hj (Nat.not_lt_zero _)) hc (lv_sub hl [1, 0] rfl)
set_option maxRecDepth 100000 in
set_option maxHeartbeats 4000000 in
theorem c_X4_canTry (l : Launch) (D : va_G) (g : Nat → ClassId) (lv : Nat → Bool) (a : Nat → Nat) (R : RS) (M : MS) (hmr : PMr R a lv) (hM : PK R M) (hI : Inv M) (k c y : Nat) (hk : k < mnk M) (hcc : c ≤ 36) (hy : y ≤ 1) (T : Nat) (hT : fl R 100 29 = lN T) (hT6 : T < 68719476736) : cI l D g lv a yX4_canTry wsX4_canTry ({ frames := 1, cells := 0, slots := 0, locals := 32 } : Room) [.ref (a (100)), .int (nI (k)), .int (nI (c)), .int (nI (y + 1))] R (fun r R' => R' = R ∧ (hkey M k c (y + 1) T ∧ r = nI 1 ∨ ¬ hkey M k c (y + 1) T ∧ r = nI 0)) 0 0 := by
  refine c_body (cc := cX4_canTry) (maxL := 6) (ret := (some .boolean)) (by decide) rfl (Nat.le_of_ble_eq_true rfl) ?_
  intro pr en st mi bl me co ls B hl
  obtain ⟨hx, hb, hr, hml, hown, hts, hlocks, hnm, hK, hZ, hc, hA⟩ := B
  have hl : lv_has ls 6 [(0, .ref (a (100))), (1, .int (nI (k))), (2, .int (nI (c))), (3, .int (nI (y + 1)))] := hl
  have hinX4 : ∀ w ∈ u_ws RX4 TX4 33, w ∈ wsX4_canTry := (fun _ h => List.mem_cons_of_mem _ (List.mem_append_left _ (List.mem_append_right _ h)))
  have hf_7 := hts (.fieldLink RX4 7 "PalletLayersModel" "wide" "[I") (by decide +kernel)
  have hf_13 := hts (.fieldLink RX4 13 "PalletLayersModel" "deep" "[I") (by decide +kernel)
  have hf_102 := hts (.fieldLink RX4 102 "PalletLayersModel" "taken" "J") (by decide +kernel)
  have hlv := hmr.1
  have hb9 := iv_b hI
  have hce := ce_b hb9
  have hk9 := iv_k hI hk
  have hcl : cel M k c y < 68719476736 := Nat.lt_of_lt_of_le cel_lt (p36 hce.2)
  refine lv_iload_n hx hb dX4_canTry_0 rfl (lv_at hl 3 rfl) ?_
  refine lv_iconst (v := nI (3)) hx hb dX4_canTry_1 (by decide) ?_
  refine lv_icmp_ne (tgt := 7) hx hb dX4_canTry_2 (by decide) (fun hq_1 => ?_) (fun hq_1 => absurd ((nI_eq (a := y + 1) (b := 3) (by omega) (by omega)).mp hq_1) (by omega))
  refine lv_iload_n hx hb dX4_canTry_7 rfl (lv_at hl 3 rfl) ?_
  refine lv_iconst (v := nI (2)) hx hb dX4_canTry_8 (by decide) ?_
  refine lv_icmp_ne (tgt := 29) hx hb dX4_canTry_9 (by decide) (fun hq_2 => ?_) (fun hq_2 => ?_)
  · have hq_2 : ¬ ((y + 1) = 2) := fun z => hq_2 ((nI_eq (a := (y + 1)) (b := 2) (by omega) (by omega)).mpr z)
    have hy2 : ¬ y + 1 = 2 := hq_2
    have hsq : True := trivial
    refine lv_aload_n hx hb dX4_canTry_29 rfl (lv_at hl 0 rfl) ?_
    refine lv_iload_n hx hb dX4_canTry_30 rfl (lv_at hl 1 rfl) ?_
    refine lv_iload_n hx hb dX4_canTry_31 rfl (lv_at hl 2 rfl) ?_
    refine lv_iload_n hx hb dX4_canTry_32 rfl (lv_at hl 3 rfl) ?_
    refine lv_iconst (v := nI (1)) hx hb dX4_canTry_33 (by decide) ?_
    refine nv_isub hx hb dX4_canTry_34 (by omega) ?_
    rw [Nat.add_sub_cancel]
    refine r_calll hc hA (va_runV (As := [.int (nI (k)), .int (nI (c)), .int (nI (y))]) (rest := []) ⟨hx, hb, hml, hown, hts⟩ (c_X4_cellsOf l D g lv a R M hmr hM hI k c y hk hcc (by omega) _) (cwV 3 hts gX4_canTry_X4_cellsOf rfl rfl rfl (by decide +kernel) ⟨Nat.le_of_ble_eq_true rfl, Nat.le_of_ble_eq_true rfl⟩) (r_preV hK hZ hc hA (hlv _ rfl) (rfl) rfl) rfl rfl hl.1 rfl (lv_room (Nat.le_of_ble_eq_true rfl)) dX4_canTry_35 ⟨Nat.le_of_ble_eq_true rfl, Nat.le_of_ble_eq_true rfl⟩) (fun r R' H locs hp hc => ?_)
    obtain ⟨hre, hRe⟩ := hp
    rw [hRe] at hc
    rw [hre]
    refine lv_lstore (lv' := [(4, .long (lN (cel M k c y))), (0, .ref (a (100))), (1, .int (nI (k))), (2, .int (nI (c))), (3, .int (nI (y + 1)))]) hx hb dX4_canTry_38 hl (by decide) rfl (fun ls hl => ?_)
    refine lv_lload hx hb dX4_canTry_40 (lv_at hl 0 rfl) ?_
    refine lv_lconst (v := lN 0) hx hb dX4_canTry_42 (by decide) ?_
    refine W.lcmp hx hb dX4_canTry_43 ?_
    refine lv_if_eq (tgt := 63) hx hb dX4_canTry_44 (by decide) (fun hq_5 => ?_) (fun hq_5 => ?_)
    · have hq_5 : (cel M k c y) = 0 := (pk_lEQ (by omega) (by omega)).mp (lg_0.mp hq_5)
      have hz : cel M k c y = 0 := hq_5
      refine lv_iconst (v := nI (0)) hx hb dX4_canTry_63 (by decide) ?_
      exact r_zret hx hb hr hlocks hc dX4_canTry_64 (by decide) ⟨rfl, Or.inr ⟨fun h => by rcases h with h | h; omega; rw [Nat.add_sub_cancel] at h; exact h.2.1 hz, rfl⟩⟩
    · have hq_5 : ¬ ((cel M k c y) = 0) := fun z => hq_5 (lg_0.mpr ((pk_lEQ (by omega) (by omega)).mpr z))
      have hz : ¬ cel M k c y = 0 := hq_5
      refine lv_lload hx hb dX4_canTry_47 (lv_at hl 0 rfl) ?_
      refine lv_aload_n hx hb dX4_canTry_49 rfl (lv_at hl 1 rfl) ?_
      refine r_get (C := RX4) (T := TX4) (N := 33) (v := .long (lN (T))) hx hb hts hown hK.1 hc (hlv _ rfl) (rfl) rfl rfl hinX4 29 (by decide) hf_102 (fun _ h9 => h9) (congrArg Value.long hT) dX4_canTry_50 ?_
      refine nv_land hx hb dX4_canTry_53 (by omega) (by omega) ?_
      refine lv_lconst (v := lN 0) hx hb dX4_canTry_54 (by decide) ?_
      refine W.lcmp hx hb dX4_canTry_55 ?_
      refine lv_if_ne (tgt := 63) hx hb dX4_canTry_56 (by decide) (fun hq_6 => ?_) (fun hq_6 => ?_)
      · have hq_6 : ¬ (((cel M k c y) &&& T) = 0) := fun z => hq_6 (lg_0.mpr ((pk_lEQ (by have h9 : cel M k c y &&& T ≤ cel M k c y := Nat.and_le_left; omega) (by have h9 : cel M k c y &&& T ≤ cel M k c y := Nat.and_le_left; omega)).mpr z))
        have hzt : ¬ cel M k c y &&& T = 0 := hq_6
        refine lv_iconst (v := nI (0)) hx hb dX4_canTry_63 (by decide) ?_
        exact r_zret hx hb hr hlocks hc dX4_canTry_64 (by decide) ⟨rfl, Or.inr ⟨fun h => by rcases h with h | h; omega; rw [Nat.add_sub_cancel] at h; exact hzt h.2.2, rfl⟩⟩
      · have hq_6 : ((cel M k c y) &&& T) = 0 := (pk_lEQ (by have h9 : cel M k c y &&& T ≤ cel M k c y := Nat.and_le_left; omega) (by have h9 : cel M k c y &&& T ≤ cel M k c y := Nat.and_le_left; omega)).mp (lg_0.mp hq_6)
        have hzt : cel M k c y &&& T = 0 := hq_6
        refine lv_iconst (v := nI (1)) hx hb dX4_canTry_59 (by decide) ?_
        refine lv_goto (tgt := 64) hx hb dX4_canTry_60 (by decide) ?_
        exact r_zret hx hb hr hlocks hc dX4_canTry_64 (by decide) ⟨rfl, Or.inl ⟨Or.inr ⟨by omega, by rw [Nat.add_sub_cancel]; exact hz, by rw [Nat.add_sub_cancel]; exact hzt⟩, rfl⟩⟩
  · have hq_2 : (y + 1) = 2 := (nI_eq (a := (y + 1)) (b := 2) (by omega) (by omega)).mp hq_2
    have hy2 : y + 1 = 2 := hq_2
    refine lv_aload_n hx hb dX4_canTry_12 rfl (lv_at hl 0 rfl) ?_
    refine r_get (C := RX4) (T := TX4) (N := 33) (v := .ref (a (106))) hx hb hts hown hK.1 hc (hlv _ rfl) (rfl) rfl rfl hinX4 6 (by decide) hf_7 (fun _ h9 => h9) (congrArg va_rf (hmr.2 6 rfl)) dX4_canTry_13 ?_
    refine lv_iload_n hx hb dX4_canTry_16 rfl (lv_at hl 1 rfl) ?_
    refine r_iald (v := nI (kw M k)) hx hb hK.1 hc (hlv _ rfl) (rfl) (by decide) (by omega) dX4_canTry_17 ((hM.2.2.2.2 _ (by omega)).1) ?_
    refine lv_aload_n hx hb dX4_canTry_18 rfl (lv_at hl 0 rfl) ?_
    refine r_get (C := RX4) (T := TX4) (N := 33) (v := .ref (a (107))) hx hb hts hown hK.1 hc (hlv _ rfl) (rfl) rfl rfl hinX4 7 (by decide) hf_13 (fun _ h9 => h9) (congrArg va_rf (hmr.2 7 rfl)) dX4_canTry_19 ?_
    refine lv_iload_n hx hb dX4_canTry_22 rfl (lv_at hl 1 rfl) ?_
    refine r_iald (v := nI (kd M k)) hx hb hK.1 hc (hlv _ rfl) (rfl) (by decide) (by omega) dX4_canTry_23 ((hM.2.2.2.2 _ (by omega)).2.1) ?_
    refine lv_icmp_ne (tgt := 29) hx hb dX4_canTry_24 (by decide) (fun hq_7 => ?_) (fun hq_7 => ?_)
    · have hq_7 : ¬ ((kw M k) = (kd M k)) := fun z => hq_7 ((nI_eq (a := (kw M k)) (b := (kd M k)) (by omega) (by omega)).mpr z)
      have hsq : ¬ kw M k = kd M k := hq_7
      refine lv_aload_n hx hb dX4_canTry_29 rfl (lv_at hl 0 rfl) ?_
      refine lv_iload_n hx hb dX4_canTry_30 rfl (lv_at hl 1 rfl) ?_
      refine lv_iload_n hx hb dX4_canTry_31 rfl (lv_at hl 2 rfl) ?_
      refine lv_iload_n hx hb dX4_canTry_32 rfl (lv_at hl 3 rfl) ?_
      refine lv_iconst (v := nI (1)) hx hb dX4_canTry_33 (by decide) ?_
      refine nv_isub hx hb dX4_canTry_34 (by omega) ?_
      rw [Nat.add_sub_cancel]
      refine r_calll hc hA (va_runV (As := [.int (nI (k)), .int (nI (c)), .int (nI (y))]) (rest := []) ⟨hx, hb, hml, hown, hts⟩ (c_X4_cellsOf l D g lv a R M hmr hM hI k c y hk hcc (by omega) _) (cwV 3 hts gX4_canTry_X4_cellsOf rfl rfl rfl (by decide +kernel) ⟨Nat.le_of_ble_eq_true rfl, Nat.le_of_ble_eq_true rfl⟩) (r_preV hK hZ hc hA (hlv _ rfl) (rfl) rfl) rfl rfl hl.1 rfl (lv_room (Nat.le_of_ble_eq_true rfl)) dX4_canTry_35 ⟨Nat.le_of_ble_eq_true rfl, Nat.le_of_ble_eq_true rfl⟩) (fun r R' H locs hp hc => ?_)
      obtain ⟨hre, hRe⟩ := hp
      rw [hRe] at hc
      rw [hre]
      refine lv_lstore (lv' := [(4, .long (lN (cel M k c y))), (0, .ref (a (100))), (1, .int (nI (k))), (2, .int (nI (c))), (3, .int (nI (y + 1)))]) hx hb dX4_canTry_38 hl (by decide) rfl (fun ls hl => ?_)
      refine lv_lload hx hb dX4_canTry_40 (lv_at hl 0 rfl) ?_
      refine lv_lconst (v := lN 0) hx hb dX4_canTry_42 (by decide) ?_
      refine W.lcmp hx hb dX4_canTry_43 ?_
      refine lv_if_eq (tgt := 63) hx hb dX4_canTry_44 (by decide) (fun hq_10 => ?_) (fun hq_10 => ?_)
      · have hq_10 : (cel M k c y) = 0 := (pk_lEQ (by omega) (by omega)).mp (lg_0.mp hq_10)
        have hz : cel M k c y = 0 := hq_10
        refine lv_iconst (v := nI (0)) hx hb dX4_canTry_63 (by decide) ?_
        exact r_zret hx hb hr hlocks hc dX4_canTry_64 (by decide) ⟨rfl, Or.inr ⟨fun h => by rcases h with h | h; omega; rw [Nat.add_sub_cancel] at h; exact h.2.1 hz, rfl⟩⟩
      · have hq_10 : ¬ ((cel M k c y) = 0) := fun z => hq_10 (lg_0.mpr ((pk_lEQ (by omega) (by omega)).mpr z))
        have hz : ¬ cel M k c y = 0 := hq_10
        refine lv_lload hx hb dX4_canTry_47 (lv_at hl 0 rfl) ?_
        refine lv_aload_n hx hb dX4_canTry_49 rfl (lv_at hl 1 rfl) ?_
        refine r_get (C := RX4) (T := TX4) (N := 33) (v := .long (lN (T))) hx hb hts hown hK.1 hc (hlv _ rfl) (rfl) rfl rfl hinX4 29 (by decide) hf_102 (fun _ h9 => h9) (congrArg Value.long hT) dX4_canTry_50 ?_
        refine nv_land hx hb dX4_canTry_53 (by omega) (by omega) ?_
        refine lv_lconst (v := lN 0) hx hb dX4_canTry_54 (by decide) ?_
        refine W.lcmp hx hb dX4_canTry_55 ?_
        refine lv_if_ne (tgt := 63) hx hb dX4_canTry_56 (by decide) (fun hq_11 => ?_) (fun hq_11 => ?_)
        · have hq_11 : ¬ (((cel M k c y) &&& T) = 0) := fun z => hq_11 (lg_0.mpr ((pk_lEQ (by have h9 : cel M k c y &&& T ≤ cel M k c y := Nat.and_le_left; omega) (by have h9 : cel M k c y &&& T ≤ cel M k c y := Nat.and_le_left; omega)).mpr z))
          have hzt : ¬ cel M k c y &&& T = 0 := hq_11
          refine lv_iconst (v := nI (0)) hx hb dX4_canTry_63 (by decide) ?_
          exact r_zret hx hb hr hlocks hc dX4_canTry_64 (by decide) ⟨rfl, Or.inr ⟨fun h => by rcases h with h | h; omega; rw [Nat.add_sub_cancel] at h; exact hzt h.2.2, rfl⟩⟩
        · have hq_11 : ((cel M k c y) &&& T) = 0 := (pk_lEQ (by have h9 : cel M k c y &&& T ≤ cel M k c y := Nat.and_le_left; omega) (by have h9 : cel M k c y &&& T ≤ cel M k c y := Nat.and_le_left; omega)).mp (lg_0.mp hq_11)
          have hzt : cel M k c y &&& T = 0 := hq_11
          refine lv_iconst (v := nI (1)) hx hb dX4_canTry_59 (by decide) ?_
          refine lv_goto (tgt := 64) hx hb dX4_canTry_60 (by decide) ?_
          exact r_zret hx hb hr hlocks hc dX4_canTry_64 (by decide) ⟨rfl, Or.inl ⟨Or.inr ⟨by omega, by rw [Nat.add_sub_cancel]; exact hz, by rw [Nat.add_sub_cancel]; exact hzt⟩, rfl⟩⟩
    · have hq_7 : (kw M k) = (kd M k) := (nI_eq (a := (kw M k)) (b := (kd M k)) (by omega) (by omega)).mp hq_7
      have hsq : kw M k = kd M k := hq_7
      refine lv_iconst (v := nI (0)) hx hb dX4_canTry_27 (by decide) ?_
      exact r_zret hx hb hr hlocks hc dX4_canTry_28 (by decide) ⟨rfl, Or.inr ⟨fun h => by rcases h with h | h; omega; exact h.1 ⟨hy2, hsq⟩, rfl⟩⟩
set_option maxRecDepth 100000 in
set_option maxHeartbeats 4000000 in
theorem c_X4_tries (l : Launch) (D : va_G) (g : Nat → ClassId) (lv : Nat → Bool) (a : Nat → Nat) (R : RS) (M : MS) (hmr : PMr R a lv) (hM : PK R M) (hI : Inv M) (k c y n : Nat) (hk : k < mnk M) (hcc : c ≤ 36) (hy : y ≤ 1) (T : Nat) (hT : fl R 100 29 = lN T) (hT6 : T < 68719476736) (hN : fi R 100 31 = nI n) (hn : n < 36) : cV l D g lv a yX4_tries wsX4_tries ({ frames := 1, cells := 0, slots := 0, locals := 32 } : Room) [.ref (a (100)), .int (nI (k)), .int (nI (c)), .int (nI (y + 1))] R (fun R' => R' = sfi (sai (sai (sfl R 100 29 (lN (T ||| cel M k c y))) 127 n (nI c)) 128 n (nI y)) 100 31 (nI (n + 1))) 0 0 := by
  refine c_body (cc := cX4_tries) (maxL := 4) (ret := none) (by decide) rfl (Nat.le_of_ble_eq_true rfl) ?_
  intro pr en st mi bl me co ls B hl
  obtain ⟨hx, hb, hr, hml, hown, hts, hlocks, hnm, hK, hZ, hc, hA⟩ := B
  have hl : lv_has ls 4 [(0, .ref (a (100))), (1, .int (nI (k))), (2, .int (nI (c))), (3, .int (nI (y + 1)))] := hl
  have hinX4 : ∀ w ∈ u_ws RX4 TX4 33, w ∈ wsX4_tries := (fun _ h => List.mem_cons_of_mem _ (List.mem_append_left _ (List.mem_append_right _ h)))
  have hf_70 := hts (.fieldLink RX4 70 "PalletLayersModel" "corners" "[I") (by decide +kernel)
  have hf_73 := hts (.fieldLink RX4 73 "PalletLayersModel" "ways" "[I") (by decide +kernel)
  have hf_102 := hts (.fieldLink RX4 102 "PalletLayersModel" "taken" "J") (by decide +kernel)
  have hf_112 := hts (.fieldLink RX4 112 "PalletLayersModel" "placed" "I") (by decide +kernel)
  have hlv := hmr.1
  have hb9 := iv_b hI
  have hce := ce_b hb9
  have hk9 := iv_k hI hk
  have hcl : cel M k c y < 68719476736 := Nat.lt_of_lt_of_le cel_lt (p36 hce.2)
  refine lv_iload_n hx hb dX4_tries_0 rfl (lv_at hl 3 rfl) ?_
  refine lv_iconst (v := nI (3)) hx hb dX4_tries_1 (by decide) ?_
  refine lv_icmp_ne (tgt := 20) hx hb dX4_tries_2 (by decide) (fun hq_1 => ?_) (fun hq_1 => absurd ((nI_eq (a := y + 1) (b := 3) (by omega) (by omega)).mp hq_1) (by omega))
  refine lv_aload_n hx hb dX4_tries_20 rfl (lv_at hl 0 rfl) ?_
  refine lv_dup hx hb dX4_tries_21 rfl ?_
  refine r_get (C := RX4) (T := TX4) (N := 33) (v := .long (lN (T))) hx hb hts hown hK.1 hc (hlv _ rfl) (rfl) rfl rfl hinX4 29 (by decide) hf_102 (fun _ h9 => h9) (congrArg Value.long hT) dX4_tries_22 ?_
  refine lv_aload_n hx hb dX4_tries_25 rfl (lv_at hl 0 rfl) ?_
  refine lv_iload_n hx hb dX4_tries_26 rfl (lv_at hl 1 rfl) ?_
  refine lv_iload_n hx hb dX4_tries_27 rfl (lv_at hl 2 rfl) ?_
  refine lv_iload_n hx hb dX4_tries_28 rfl (lv_at hl 3 rfl) ?_
  refine lv_iconst (v := nI (1)) hx hb dX4_tries_29 (by decide) ?_
  refine nv_isub hx hb dX4_tries_30 (by omega) ?_
  rw [Nat.add_sub_cancel]
  refine r_calll hc hA (va_runV (As := [.int (nI (k)), .int (nI (c)), .int (nI (y))]) (rest := [.long (lN (T)), .ref (a (100))]) ⟨hx, hb, hml, hown, hts⟩ (c_X4_cellsOf l D g lv a R M hmr hM hI k c y hk hcc (by omega) _) (cwV 3 hts gX4_tries_X4_cellsOf rfl rfl rfl (by decide +kernel) ⟨Nat.le_of_ble_eq_true rfl, Nat.le_of_ble_eq_true rfl⟩) (r_preV hK hZ hc hA (hlv _ rfl) (rfl) rfl) rfl rfl hl.1 rfl (lv_room (Nat.le_of_ble_eq_true rfl)) dX4_tries_31 ⟨Nat.le_of_ble_eq_true rfl, Nat.le_of_ble_eq_true rfl⟩) (fun r R' H locs hp hc => ?_)
  obtain ⟨hre, hRe⟩ := hp
  rw [hRe] at hc
  rw [hre]
  refine nv_lor hx hb dX4_tries_34 (by omega) (by omega) ?_
  refine r_put (C := RX4) (T := TX4) (N := 33) (R' := sfl R 100 29 (lN (T ||| (cel M k c y)))) hx hb hts hown hK.1 hc (hlv _ rfl) (rfl) rfl rfl hinX4 tyX4 tyX4_ok nmX4 29 (by decide) hf_102 (fun _ h9 => h9) rfl (tyX4_ok 29 (by decide)) rfl rfl dX4_tries_35 (fds_sfl (by decide) (by decide)) (fun _ h9 => ct_sfl h9) (fun H locs hc => ?_)
  refine lv_aload_n hx hb dX4_tries_38 rfl (lv_at hl 0 rfl) ?_
  refine r_get (C := RX4) (T := TX4) (N := 33) (v := .ref (a (127))) hx hb hts hown hK.1 hc (hlv _ rfl) (rfl) rfl rfl hinX4 27 (by decide) hf_70 (fun _ h9 => h9) (congrArg va_rf (hmr.2 27 rfl)) dX4_tries_39 ?_
  refine lv_aload_n hx hb dX4_tries_42 rfl (lv_at hl 0 rfl) ?_
  refine r_get (C := RX4) (T := TX4) (N := 33) (v := .int (nI (n))) hx hb hts hown hK.1 hc (hlv _ rfl) (rfl) rfl rfl hinX4 31 (by decide) hf_112 (fun _ h9 => h9) (congrArg Value.int hN) dX4_tries_43 ?_
  refine lv_iload_n hx hb dX4_tries_46 rfl (lv_at hl 2 rfl) ?_
  refine r_iast hx hb hK.1 hc (hlv _ rfl) (rfl) (by decide) (by omega) dX4_tries_47 (fun H locs hc => ?_)
  refine lv_aload_n hx hb dX4_tries_48 rfl (lv_at hl 0 rfl) ?_
  refine r_get (C := RX4) (T := TX4) (N := 33) (v := .ref (a (128))) hx hb hts hown hK.1 hc (hlv _ rfl) (rfl) rfl rfl hinX4 28 (by decide) hf_73 (fun _ h9 => h9) (congrArg va_rf (hmr.2 28 rfl)) dX4_tries_49 ?_
  refine lv_aload_n hx hb dX4_tries_52 rfl (lv_at hl 0 rfl) ?_
  refine r_get (C := RX4) (T := TX4) (N := 33) (v := .int (nI (n))) hx hb hts hown hK.1 hc (hlv _ rfl) (rfl) rfl rfl hinX4 31 (by decide) hf_112 (fun _ h9 => h9) (congrArg Value.int hN) dX4_tries_53 ?_
  refine lv_iload_n hx hb dX4_tries_56 rfl (lv_at hl 3 rfl) ?_
  refine lv_iconst (v := nI (1)) hx hb dX4_tries_57 (by decide) ?_
  refine nv_isub hx hb dX4_tries_58 (by omega) ?_
  rw [Nat.add_sub_cancel]
  refine r_iast hx hb hK.1 hc (hlv _ rfl) (rfl) (by decide) (by omega) dX4_tries_59 (fun H locs hc => ?_)
  refine lv_aload_n hx hb dX4_tries_60 rfl (lv_at hl 0 rfl) ?_
  refine lv_dup hx hb dX4_tries_61 rfl ?_
  refine r_get (C := RX4) (T := TX4) (N := 33) (v := .int (nI (n))) hx hb hts hown hK.1 hc (hlv _ rfl) (rfl) rfl rfl hinX4 31 (by decide) hf_112 (fun _ h9 => h9) (congrArg Value.int hN) dX4_tries_62 ?_
  refine lv_iconst (v := nI (1)) hx hb dX4_tries_65 (by decide) ?_
  refine nv_iadd hx hb dX4_tries_66 ?_
  refine r_put (C := RX4) (T := TX4) (N := 33) (R' := sfi (sai (sai (sfl R 100 29 (lN (T ||| (cel M k c y)))) 127 n (nI (c))) 128 n (nI (y))) 100 31 (nI (n + 1))) hx hb hts hown hK.1 hc (hlv _ rfl) (rfl) rfl rfl hinX4 tyX4 tyX4_ok nmX4 31 (by decide) hf_112 (fun _ h9 => h9) rfl (tyX4_ok 31 (by decide)) rfl rfl dX4_tries_67 (fds_sfi (by decide) (by decide)) (fun _ h9 => ct_sfi h9) (fun H locs hc => ?_)
  exact r_vret hx hb hr hlocks hc dX4_tries_70 rfl
set_option maxRecDepth 100000 in
set_option maxHeartbeats 4000000 in
theorem c_X4_tries_3 (l : Launch) (D : va_G) (g : Nat → ClassId) (lv : Nat → Bool) (a : Nat → Nat) (R : RS) (M : MS) (hmr : PMr R a lv) (hM : PK R M) (hI : Inv M) (k c : Nat) (hcc : c ≤ 36) (F : Nat) (hF : fl R 100 30 = lN F) (hF6 : F < 68719476736) : cV l D g lv a yX4_tries wsX4_tries ({ frames := 0, cells := 0, slots := 0, locals := 0 } : Room) [.ref (a (100)), .int (nI (k)), .int (nI (c)), .int (nI (3))] R (fun R' => R' = sfl R 100 30 (lN (F ||| 2 ^ c))) 0 0 := by
  refine c_body (cc := cX4_tries) (maxL := 4) (ret := none) (by decide) rfl (Nat.le_of_ble_eq_true rfl) ?_
  intro pr en st mi bl me co ls B hl
  obtain ⟨hx, hb, hr, hml, hown, hts, hlocks, hnm, hK, hZ, hc, hA⟩ := B
  have hl : lv_has ls 4 [(0, .ref (a (100))), (1, .int (nI (k))), (2, .int (nI (c))), (3, .int (nI (3)))] := hl
  have hinX4 : ∀ w ∈ u_ws RX4 TX4 33, w ∈ wsX4_tries := (fun _ h => List.mem_cons_of_mem _ (List.mem_append_left _ (List.mem_append_right _ h)))
  have hf_106 := hts (.fieldLink RX4 106 "PalletLayersModel" "left" "J") (by decide +kernel)
  have hlv := hmr.1
  have hb9 := iv_b hI
  refine lv_iload_n hx hb dX4_tries_0 rfl (lv_at hl 3 rfl) ?_
  refine lv_iconst (v := nI (3)) hx hb dX4_tries_1 (by decide) ?_
  refine lv_icmp_ne (tgt := 20) hx hb dX4_tries_2 (by decide) (fun hq_1 => absurd hq_1 (by decide)) (fun hq_1 => ?_)
  refine lv_aload_n hx hb dX4_tries_5 rfl (lv_at hl 0 rfl) ?_
  refine lv_dup hx hb dX4_tries_6 rfl ?_
  refine r_get (C := RX4) (T := TX4) (N := 33) (v := .long (lN (F))) hx hb hts hown hK.1 hc (hlv _ rfl) (rfl) rfl rfl hinX4 30 (by decide) hf_106 (fun _ h9 => h9) (congrArg Value.long hF) dX4_tries_7 ?_
  refine lv_lconst (v := lN 1) hx hb dX4_tries_10 (by decide) ?_
  refine lv_iload_n hx hb dX4_tries_11 rfl (lv_at hl 2 rfl) ?_
  refine lv_lshl (v := lN (1 * 2 ^ c)) hx hb dX4_tries_12 (wb_shl _ (by omega)) ?_
  refine nv_lor hx hb dX4_tries_13 (by omega) (by rw [Nat.one_mul]; exact Nat.lt_of_le_of_lt (p36 hcc) (by decide)) ?_
  refine r_put (C := RX4) (T := TX4) (N := 33) (R' := sfl R 100 30 (lN (F ||| (1 * 2 ^ c)))) hx hb hts hown hK.1 hc (hlv _ rfl) (rfl) rfl rfl hinX4 tyX4 tyX4_ok nmX4 30 (by decide) hf_106 (fun _ h9 => h9) rfl (tyX4_ok 30 (by decide)) rfl rfl dX4_tries_14 (fds_sfl (by decide) (by decide)) (fun _ h9 => ct_sfl h9) (fun H locs hc => ?_)
  refine lv_goto (tgt := 70) hx hb dX4_tries_17 (by decide) ?_
  exact r_vret hx hb hr hlocks hc dX4_tries_70 (by rw [Nat.one_mul])
set_option maxRecDepth 100000 in
set_option maxHeartbeats 4000000 in
theorem c_X4_undo (l : Launch) (D : va_G) (g : Nat → ClassId) (lv : Nat → Bool) (a : Nat → Nat) (R : RS) (M : MS) (hmr : PMr R a lv) (hM : PK R M) (hI : Inv M) (k c y n : Nat) (hk : k < mnk M) (hcc : c ≤ 36) (hy : y ≤ 1) (T : Nat) (hT : fl R 100 29 = lN (T ||| cel M k c y)) (hT6 : T < 68719476736) (hd : T &&& cel M k c y = 0) (hN : fi R 100 31 = nI (n + 1)) : cV l D g lv a yX4_undo wsX4_undo ({ frames := 1, cells := 0, slots := 0, locals := 32 } : Room) [.ref (a (100)), .int (nI (k)), .int (nI (c)), .int (nI (y + 1))] R (fun R' => R' = sfl (sfi R 100 31 (nI n)) 100 29 (lN T)) 0 0 := by
  refine c_body (cc := cX4_undo) (maxL := 4) (ret := none) (by decide) rfl (Nat.le_of_ble_eq_true rfl) ?_
  intro pr en st mi bl me co ls B hl
  obtain ⟨hx, hb, hr, hml, hown, hts, hlocks, hnm, hK, hZ, hc, hA⟩ := B
  have hl : lv_has ls 4 [(0, .ref (a (100))), (1, .int (nI (k))), (2, .int (nI (c))), (3, .int (nI (y + 1)))] := hl
  have hinX4 : ∀ w ∈ u_ws RX4 TX4 33, w ∈ wsX4_undo := (fun _ h => List.mem_cons_of_mem _ (List.mem_append_left _ (List.mem_append_right _ h)))
  have hf_102 := hts (.fieldLink RX4 102 "PalletLayersModel" "taken" "J") (by decide +kernel)
  have hf_112 := hts (.fieldLink RX4 112 "PalletLayersModel" "placed" "I") (by decide +kernel)
  have hlv := hmr.1
  have hb9 := iv_b hI
  have hce := ce_b hb9
  have hk9 := iv_k hI hk
  have hcl : cel M k c y < 68719476736 := Nat.lt_of_lt_of_le cel_lt (p36 hce.2)
  refine lv_iload_n hx hb dX4_undo_0 rfl (lv_at hl 3 rfl) ?_
  refine lv_iconst (v := nI (1)) hx hb dX4_undo_1 (by decide) ?_
  refine lv_icmp_eq (tgt := 10) hx hb dX4_undo_2 (by decide) (fun hq_1 => ?_) (fun hq_1 => ?_)
  · have hq_1 : (y + 1) = 1 := (nI_eq (a := (y + 1)) (b := 1) (by omega) (by omega)).mp hq_1
    refine lv_aload_n hx hb dX4_undo_10 rfl (lv_at hl 0 rfl) ?_
    refine lv_dup hx hb dX4_undo_11 rfl ?_
    refine r_get (C := RX4) (T := TX4) (N := 33) (v := .int (nI (n + 1))) hx hb hts hown hK.1 hc (hlv _ rfl) (rfl) rfl rfl hinX4 31 (by decide) hf_112 (fun _ h9 => h9) (congrArg Value.int hN) dX4_undo_12 ?_
    refine lv_iconst (v := nI (1)) hx hb dX4_undo_15 (by decide) ?_
    refine nv_isub hx hb dX4_undo_16 (by omega) ?_
    rw [Nat.add_sub_cancel]
    refine r_put (C := RX4) (T := TX4) (N := 33) (R' := sfi R 100 31 (nI (n))) hx hb hts hown hK.1 hc (hlv _ rfl) (rfl) rfl rfl hinX4 tyX4 tyX4_ok nmX4 31 (by decide) hf_112 (fun _ h9 => h9) rfl (tyX4_ok 31 (by decide)) rfl rfl dX4_undo_17 (fds_sfi (by decide) (by decide)) (fun _ h9 => ct_sfi h9) (fun H locs hc => ?_)
    refine lv_aload_n hx hb dX4_undo_20 rfl (lv_at hl 0 rfl) ?_
    refine lv_dup hx hb dX4_undo_21 rfl ?_
    refine r_get (C := RX4) (T := TX4) (N := 33) (v := .long (lN (T ||| cel M k c y))) hx hb hts hown hK.1 hc (hlv _ rfl) (rfl) rfl rfl hinX4 29 (by decide) hf_102 (fun _ h9 => h9) (congrArg Value.long hT) dX4_undo_22 ?_
    refine lv_aload_n hx hb dX4_undo_25 rfl (lv_at hl 0 rfl) ?_
    refine lv_iload_n hx hb dX4_undo_26 rfl (lv_at hl 1 rfl) ?_
    refine lv_iload_n hx hb dX4_undo_27 rfl (lv_at hl 2 rfl) ?_
    refine lv_iload_n hx hb dX4_undo_28 rfl (lv_at hl 3 rfl) ?_
    refine lv_iconst (v := nI (1)) hx hb dX4_undo_29 (by decide) ?_
    refine nv_isub hx hb dX4_undo_30 (by omega) ?_
    rw [Nat.add_sub_cancel]
    refine r_calll hc hA (va_runV (As := [.int (nI (k)), .int (nI (c)), .int (nI (y))]) (rest := [.long (lN (T ||| cel M k c y)), .ref (a (100))]) ⟨hx, hb, hml, hown, hts⟩ (c_X4_cellsOf l D g lv a (sfi R 100 31 (nI (n))) M hmr hM hI k c y hk hcc (by omega) _) (cwV 3 hts gX4_undo_X4_cellsOf rfl rfl rfl (by decide +kernel) ⟨Nat.le_of_ble_eq_true rfl, Nat.le_of_ble_eq_true rfl⟩) (r_preV hK hZ hc hA (hlv _ rfl) (rfl) rfl) rfl rfl hl.1 rfl (lv_room (Nat.le_of_ble_eq_true rfl)) dX4_undo_31 ⟨Nat.le_of_ble_eq_true rfl, Nat.le_of_ble_eq_true rfl⟩) (fun r R' H locs hp hc => ?_)
    obtain ⟨hre, hRe⟩ := hp
    rw [hRe] at hc
    rw [hre]
    refine lv_ldc2 (v := (-1)) hx hb hown (hts (.constantLong RX4 126 (-1)) (by decide +kernel)) dX4_undo_34 ?_
    refine lv_lxor hx hb dX4_undo_37 ?_
    refine lv_land hx hb dX4_undo_38 ?_
    rw [and_not (by omega) (by omega) hd]
    refine r_put (C := RX4) (T := TX4) (N := 33) (R' := sfl (sfi R 100 31 (nI (n))) 100 29 (lN (T))) hx hb hts hown hK.1 hc (hlv _ rfl) (rfl) rfl rfl hinX4 tyX4 tyX4_ok nmX4 29 (by decide) hf_102 (fun _ h9 => h9) rfl (tyX4_ok 29 (by decide)) rfl rfl dX4_undo_39 (fds_sfl (by decide) (by decide)) (fun _ h9 => ct_sfl h9) (fun H locs hc => ?_)
    refine lv_goto (tgt := 66) hx hb dX4_undo_42 (by decide) ?_
    exact r_vret hx hb hr hlocks hc dX4_undo_66 rfl
  · have hq_1 : ¬ ((y + 1) = 1) := fun z => hq_1 ((nI_eq (a := (y + 1)) (b := 1) (by omega) (by omega)).mpr z)
    refine lv_iload_n hx hb dX4_undo_5 rfl (lv_at hl 3 rfl) ?_
    refine lv_iconst (v := nI (2)) hx hb dX4_undo_6 (by decide) ?_
    refine lv_icmp_ne (tgt := 45) hx hb dX4_undo_7 (by decide) (fun hq_4 => ?_) (fun hq_4 => ?_)
    · have hq_4 : ¬ ((y + 1) = 2) := fun z => hq_4 ((nI_eq (a := (y + 1)) (b := 2) (by omega) (by omega)).mpr z)
      exact absurd hq_4 (by omega)
      --end
    · have hq_4 : (y + 1) = 2 := (nI_eq (a := (y + 1)) (b := 2) (by omega) (by omega)).mp hq_4
      refine lv_aload_n hx hb dX4_undo_10 rfl (lv_at hl 0 rfl) ?_
      refine lv_dup hx hb dX4_undo_11 rfl ?_
      refine r_get (C := RX4) (T := TX4) (N := 33) (v := .int (nI (n + 1))) hx hb hts hown hK.1 hc (hlv _ rfl) (rfl) rfl rfl hinX4 31 (by decide) hf_112 (fun _ h9 => h9) (congrArg Value.int hN) dX4_undo_12 ?_
      refine lv_iconst (v := nI (1)) hx hb dX4_undo_15 (by decide) ?_
      refine nv_isub hx hb dX4_undo_16 (by omega) ?_
      rw [Nat.add_sub_cancel]
      refine r_put (C := RX4) (T := TX4) (N := 33) (R' := sfi R 100 31 (nI (n))) hx hb hts hown hK.1 hc (hlv _ rfl) (rfl) rfl rfl hinX4 tyX4 tyX4_ok nmX4 31 (by decide) hf_112 (fun _ h9 => h9) rfl (tyX4_ok 31 (by decide)) rfl rfl dX4_undo_17 (fds_sfi (by decide) (by decide)) (fun _ h9 => ct_sfi h9) (fun H locs hc => ?_)
      refine lv_aload_n hx hb dX4_undo_20 rfl (lv_at hl 0 rfl) ?_
      refine lv_dup hx hb dX4_undo_21 rfl ?_
      refine r_get (C := RX4) (T := TX4) (N := 33) (v := .long (lN (T ||| cel M k c y))) hx hb hts hown hK.1 hc (hlv _ rfl) (rfl) rfl rfl hinX4 29 (by decide) hf_102 (fun _ h9 => h9) (congrArg Value.long hT) dX4_undo_22 ?_
      refine lv_aload_n hx hb dX4_undo_25 rfl (lv_at hl 0 rfl) ?_
      refine lv_iload_n hx hb dX4_undo_26 rfl (lv_at hl 1 rfl) ?_
      refine lv_iload_n hx hb dX4_undo_27 rfl (lv_at hl 2 rfl) ?_
      refine lv_iload_n hx hb dX4_undo_28 rfl (lv_at hl 3 rfl) ?_
      refine lv_iconst (v := nI (1)) hx hb dX4_undo_29 (by decide) ?_
      refine nv_isub hx hb dX4_undo_30 (by omega) ?_
      rw [Nat.add_sub_cancel]
      refine r_calll hc hA (va_runV (As := [.int (nI (k)), .int (nI (c)), .int (nI (y))]) (rest := [.long (lN (T ||| cel M k c y)), .ref (a (100))]) ⟨hx, hb, hml, hown, hts⟩ (c_X4_cellsOf l D g lv a (sfi R 100 31 (nI (n))) M hmr hM hI k c y hk hcc (by omega) _) (cwV 3 hts gX4_undo_X4_cellsOf rfl rfl rfl (by decide +kernel) ⟨Nat.le_of_ble_eq_true rfl, Nat.le_of_ble_eq_true rfl⟩) (r_preV hK hZ hc hA (hlv _ rfl) (rfl) rfl) rfl rfl hl.1 rfl (lv_room (Nat.le_of_ble_eq_true rfl)) dX4_undo_31 ⟨Nat.le_of_ble_eq_true rfl, Nat.le_of_ble_eq_true rfl⟩) (fun r R' H locs hp hc => ?_)
      obtain ⟨hre, hRe⟩ := hp
      rw [hRe] at hc
      rw [hre]
      refine lv_ldc2 (v := (-1)) hx hb hown (hts (.constantLong RX4 126 (-1)) (by decide +kernel)) dX4_undo_34 ?_
      refine lv_lxor hx hb dX4_undo_37 ?_
      refine lv_land hx hb dX4_undo_38 ?_
      rw [and_not (by omega) (by omega) hd]
      refine r_put (C := RX4) (T := TX4) (N := 33) (R' := sfl (sfi R 100 31 (nI (n))) 100 29 (lN (T))) hx hb hts hown hK.1 hc (hlv _ rfl) (rfl) rfl rfl hinX4 tyX4 tyX4_ok nmX4 29 (by decide) hf_102 (fun _ h9 => h9) rfl (tyX4_ok 29 (by decide)) rfl rfl dX4_undo_39 (fds_sfl (by decide) (by decide)) (fun _ h9 => ct_sfl h9) (fun H locs hc => ?_)
      refine lv_goto (tgt := 66) hx hb dX4_undo_42 (by decide) ?_
      exact r_vret hx hb hr hlocks hc dX4_undo_66 rfl
set_option maxRecDepth 100000 in
set_option maxHeartbeats 4000000 in
theorem c_X4_undo_3 (l : Launch) (D : va_G) (g : Nat → ClassId) (lv : Nat → Bool) (a : Nat → Nat) (R : RS) (M : MS) (hmr : PMr R a lv) (hM : PK R M) (hI : Inv M) (k c : Nat) (hcc : c ≤ 36) (F : Nat) (hF : fl R 100 30 = lN (F ||| 2 ^ c)) (hF6 : F < 68719476736) (hd : F &&& 2 ^ c = 0) : cV l D g lv a yX4_undo wsX4_undo ({ frames := 0, cells := 0, slots := 0, locals := 0 } : Room) [.ref (a (100)), .int (nI (k)), .int (nI (c)), .int (nI (3))] R (fun R' => R' = sfl R 100 30 (lN F)) 0 0 := by
  refine c_body (cc := cX4_undo) (maxL := 4) (ret := none) (by decide) rfl (Nat.le_of_ble_eq_true rfl) ?_
  intro pr en st mi bl me co ls B hl
  obtain ⟨hx, hb, hr, hml, hown, hts, hlocks, hnm, hK, hZ, hc, hA⟩ := B
  have hl : lv_has ls 4 [(0, .ref (a (100))), (1, .int (nI (k))), (2, .int (nI (c))), (3, .int (nI (3)))] := hl
  have hinX4 : ∀ w ∈ u_ws RX4 TX4 33, w ∈ wsX4_undo := (fun _ h => List.mem_cons_of_mem _ (List.mem_append_left _ (List.mem_append_right _ h)))
  have hf_106 := hts (.fieldLink RX4 106 "PalletLayersModel" "left" "J") (by decide +kernel)
  have hlv := hmr.1
  have hb9 := iv_b hI
  refine lv_iload_n hx hb dX4_undo_0 rfl (lv_at hl 3 rfl) ?_
  refine lv_iconst (v := nI (1)) hx hb dX4_undo_1 (by decide) ?_
  refine lv_icmp_eq (tgt := 10) hx hb dX4_undo_2 (by decide) (fun hq_1 => absurd hq_1 (by decide)) (fun hq_1 => ?_)
  refine lv_iload_n hx hb dX4_undo_5 rfl (lv_at hl 3 rfl) ?_
  refine lv_iconst (v := nI (2)) hx hb dX4_undo_6 (by decide) ?_
  refine lv_icmp_ne (tgt := 45) hx hb dX4_undo_7 (by decide) (fun hq_2 => ?_) (fun hq_2 => absurd hq_2 (by decide))
  refine lv_iload_n hx hb dX4_undo_45 rfl (lv_at hl 3 rfl) ?_
  refine lv_iconst (v := nI (3)) hx hb dX4_undo_46 (by decide) ?_
  refine lv_icmp_ne (tgt := 66) hx hb dX4_undo_47 (by decide) (fun hq_3 => absurd hq_3 (by decide)) (fun hq_3 => ?_)
  refine lv_aload_n hx hb dX4_undo_50 rfl (lv_at hl 0 rfl) ?_
  refine lv_dup hx hb dX4_undo_51 rfl ?_
  refine r_get (C := RX4) (T := TX4) (N := 33) (v := .long (lN (F ||| 2 ^ c))) hx hb hts hown hK.1 hc (hlv _ rfl) (rfl) rfl rfl hinX4 30 (by decide) hf_106 (fun _ h9 => h9) (congrArg Value.long hF) dX4_undo_52 ?_
  refine lv_lconst (v := lN 1) hx hb dX4_undo_55 (by decide) ?_
  refine lv_iload_n hx hb dX4_undo_56 rfl (lv_at hl 2 rfl) ?_
  refine lv_lshl (v := lN (1 * 2 ^ c)) hx hb dX4_undo_57 (wb_shl _ (by omega)) ?_
  refine lv_ldc2 (v := (-1)) hx hb hown (hts (.constantLong RX4 126 (-1)) (by decide +kernel)) dX4_undo_58 ?_
  refine lv_lxor hx hb dX4_undo_61 ?_
  refine lv_land hx hb dX4_undo_62 ?_
  rw [Nat.one_mul, and_not (by omega) (Nat.lt_of_le_of_lt (p36 hcc) (by decide)) hd]
  refine r_put (C := RX4) (T := TX4) (N := 33) (R' := sfl R 100 30 (lN (F))) hx hb hts hown hK.1 hc (hlv _ rfl) (rfl) rfl rfl hinX4 tyX4 tyX4_ok nmX4 30 (by decide) hf_106 (fun _ h9 => h9) rfl (tyX4_ok 30 (by decide)) rfl rfl dX4_undo_63 (fds_sfl (by decide) (by decide)) (fun _ h9 => ct_sfl h9) (fun H locs hc => ?_)
  exact r_vret hx hb hr hlocks hc dX4_undo_66 rfl
set_option maxRecDepth 100000 in
set_option maxHeartbeats 4000000 in
theorem c_X4_undo_0 (l : Launch) (D : va_G) (g : Nat → ClassId) (lv : Nat → Bool) (a : Nat → Nat) (R : RS) (M : MS) (hmr : PMr R a lv) (hM : PK R M) (hI : Inv M) (k c : Nat) : cV l D g lv a yX4_undo wsX4_undo ({ frames := 0, cells := 0, slots := 0, locals := 0 } : Room) [.ref (a (100)), .int (nI (k)), .int (nI (c)), .int (nI (0))] R (fun R' => R' = R) 0 0 := by
  refine c_body (cc := cX4_undo) (maxL := 4) (ret := none) (by decide) rfl (Nat.le_of_ble_eq_true rfl) ?_
  intro pr en st mi bl me co ls B hl
  obtain ⟨hx, hb, hr, hml, hown, hts, hlocks, hnm, hK, hZ, hc, hA⟩ := B
  have hl : lv_has ls 4 [(0, .ref (a (100))), (1, .int (nI (k))), (2, .int (nI (c))), (3, .int (nI (0)))] := hl
  have hlv := hmr.1
  have hb9 := iv_b hI
  refine lv_iload_n hx hb dX4_undo_0 rfl (lv_at hl 3 rfl) ?_
  refine lv_iconst (v := nI (1)) hx hb dX4_undo_1 (by decide) ?_
  refine lv_icmp_eq (tgt := 10) hx hb dX4_undo_2 (by decide) (fun hq_1 => absurd hq_1 (by decide)) (fun hq_1 => ?_)
  refine lv_iload_n hx hb dX4_undo_5 rfl (lv_at hl 3 rfl) ?_
  refine lv_iconst (v := nI (2)) hx hb dX4_undo_6 (by decide) ?_
  refine lv_icmp_ne (tgt := 45) hx hb dX4_undo_7 (by decide) (fun hq_2 => ?_) (fun hq_2 => absurd hq_2 (by decide))
  refine lv_iload_n hx hb dX4_undo_45 rfl (lv_at hl 3 rfl) ?_
  refine lv_iconst (v := nI (3)) hx hb dX4_undo_46 (by decide) ?_
  refine lv_icmp_ne (tgt := 66) hx hb dX4_undo_47 (by decide) (fun hq_3 => ?_) (fun hq_3 => absurd hq_3 (by decide))
  exact r_vret hx hb hr hlocks hc dX4_undo_66 rfl
set_option maxRecDepth 100000 in
set_option maxHeartbeats 4000000 in
theorem c_X4_canBeBetter (l : Launch) (D : va_G) (g : Nat → ClassId) (lv : Nat → Bool) (a : Nat → Nat) (R : RS) (M : MS) (hmr : PMr R a lv) (hM : PK R M) (hI : Inv M) (k n b : Nat) (hk : k < mnk M) (T F : Nat) (hT : fl R 100 29 = lN T) (hF : fl R 100 30 = lN F) (hT6 : T < 68719476736) (hF6 : F < 68719476736) (hN : fi R 100 31 = nI n) (hn : n ≤ 36) (hB : fi R 100 32 = stI b) (hb6 : b ≤ 37) (hxx : T ||| F < 2 ^ (mW M * mD M)) : cI l D g lv a yX4_canBeBetter wsX4_canBeBetter ({ frames := 1, cells := 0, slots := 0, locals := 24 } : Room) [.ref (a (100)), .int (nI (k))] R (fun r R' => R' = R ∧ (b < n + (mW M * mD M - pc (T ||| F)) / (kw M k * kd M k) + 1 ∧ r = nI 1 ∨ ¬ (b < n + (mW M * mD M - pc (T ||| F)) / (kw M k * kd M k) + 1) ∧ r = nI 0)) 0 0 := by
  refine c_body (cc := cX4_canBeBetter) (maxL := 2) (ret := (some .boolean)) (by decide) rfl (Nat.le_of_ble_eq_true rfl) ?_
  intro pr en st mi bl me co ls B hl
  obtain ⟨hx, hb, hr, hml, hown, hts, hlocks, hnm, hK, hZ, hc, hA⟩ := B
  have hl : lv_has ls 2 [(0, .ref (a (100))), (1, .int (nI (k)))] := hl
  have hinX4 : ∀ w ∈ u_ws RX4 TX4 33, w ∈ wsX4_canBeBetter := (fun _ h => List.mem_cons_of_mem _ (List.mem_append_left _ (List.mem_append_right _ h)))
  have hf_86 := hts (.fieldLink RX4 86 "PalletLayersModel" "cells" "I") (by decide +kernel)
  have hf_102 := hts (.fieldLink RX4 102 "PalletLayersModel" "taken" "J") (by decide +kernel)
  have hf_106 := hts (.fieldLink RX4 106 "PalletLayersModel" "left" "J") (by decide +kernel)
  have hf_109 := hts (.fieldLink RX4 109 "PalletLayersModel" "most" "I") (by decide +kernel)
  have hf_112 := hts (.fieldLink RX4 112 "PalletLayersModel" "placed" "I") (by decide +kernel)
  have hlv := hmr.1
  have hb9 := iv_b hI
  have hce := ce_b hb9
  have hk9 := iv_k hI hk
  have har := ar_b hk9
  have hor : T ||| F < 68719476736 := Nat.or_lt_two_pow (n := 36) hT6 hF6
  have hpl := pc_le hxx
  have hdv : (mW M * mD M - pc (T ||| F)) / (kw M k * kd M k) ≤ 36 := Nat.le_trans (Nat.div_le_self _ _) (by omega)
  refine lv_aload_n hx hb dX4_canBeBetter_0 rfl (lv_at hl 0 rfl) ?_
  refine r_get (C := RX4) (T := TX4) (N := 33) (v := .int (stI b)) hx hb hts hown hK.1 hc (hlv _ rfl) (rfl) rfl rfl hinX4 32 (by decide) hf_109 (fun _ h9 => h9) (congrArg Value.int hB) dX4_canBeBetter_1 ?_
  refine lv_iconst (v := (-1)) hx hb dX4_canBeBetter_4 (by decide) ?_
  refine lv_icmp_eq (tgt := 43) hx hb dX4_canBeBetter_5 (by decide) (fun hq_1 => ?_) (fun hq_1 => ?_)
  · have hb0 : b = 0 := stI_00 (by omega) hq_1
    refine lv_iconst (v := nI (1)) hx hb dX4_canBeBetter_43 (by decide) ?_
    refine lv_goto (tgt := 48) hx hb dX4_canBeBetter_44 (by decide) ?_
    exact r_zret hx hb hr hlocks hc dX4_canBeBetter_48 (by decide) ⟨rfl, Or.inl ⟨by generalize (mW M * mD M - pc (T ||| F)) / (kw M k * kd M k) = q9 at *; omega, rfl⟩⟩
  · have hb0 : ¬ b = 0 := fun z => hq_1 (by rw [z]; rfl)
    refine lv_aload_n hx hb dX4_canBeBetter_8 rfl (lv_at hl 0 rfl) ?_
    refine r_get (C := RX4) (T := TX4) (N := 33) (v := .int (nI (n))) hx hb hts hown hK.1 hc (hlv _ rfl) (rfl) rfl rfl hinX4 31 (by decide) hf_112 (fun _ h9 => h9) (congrArg Value.int hN) dX4_canBeBetter_9 ?_
    refine lv_aload_n hx hb dX4_canBeBetter_12 rfl (lv_at hl 0 rfl) ?_
    refine r_get (C := RX4) (T := TX4) (N := 33) (v := .int (nI (mW M * mD M))) hx hb hts hown hK.1 hc (hlv _ rfl) (rfl) rfl rfl hinX4 2 (by decide) hf_86 (fun _ h9 => h9) (congrArg Value.int hM.2.2.1) dX4_canBeBetter_13 ?_
    refine lv_aload_n hx hb dX4_canBeBetter_16 rfl (lv_at hl 0 rfl) ?_
    refine r_get (C := RX4) (T := TX4) (N := 33) (v := .long (lN (T))) hx hb hts hown hK.1 hc (hlv _ rfl) (rfl) rfl rfl hinX4 29 (by decide) hf_102 (fun _ h9 => h9) (congrArg Value.long hT) dX4_canBeBetter_17 ?_
    refine lv_aload_n hx hb dX4_canBeBetter_20 rfl (lv_at hl 0 rfl) ?_
    refine r_get (C := RX4) (T := TX4) (N := 33) (v := .long (lN (F))) hx hb hts hown hK.1 hc (hlv _ rfl) (rfl) rfl rfl hinX4 30 (by decide) hf_106 (fun _ h9 => h9) (congrArg Value.long hF) dX4_canBeBetter_21 ?_
    refine nv_lor hx hb dX4_canBeBetter_24 (by omega) (by omega) ?_
    refine r_calli hc hA (va_runS (As := [.long (lN (T ||| F))]) (rest := [.int (nI (mW M * mD M)), .int (nI (n))]) ⟨hx, hb, hml, hown, hts⟩ (c_X4_count l D g lv a R (T ||| F) (by omega) _) (va_cwS 1 hts gX4_canBeBetter_X4_count rfl rfl rfl (by decide +kernel) ⟨Nat.le_of_ble_eq_true rfl, Nat.le_of_ble_eq_true rfl⟩) (r_preS hK hZ hc hA) rfl rfl hl.1 rfl (lv_room (Nat.le_of_ble_eq_true rfl)) dX4_canBeBetter_25 ⟨Nat.le_of_ble_eq_true rfl, Nat.le_of_ble_eq_true rfl⟩) (fun r R' H locs hp hc => ?_)
    obtain ⟨hre, hRe⟩ := hp
    rw [hRe] at hc
    rw [hre]
    refine nv_isub hx hb dX4_canBeBetter_28 (by omega) ?_
    refine lv_aload_n hx hb dX4_canBeBetter_29 rfl (lv_at hl 0 rfl) ?_
    refine lv_iload_n hx hb dX4_canBeBetter_30 rfl (lv_at hl 1 rfl) ?_
    refine r_calli hc hA (va_runV (As := [.int (nI (k))]) (rest := [.int (nI ((mW M * mD M) - (pc (T ||| F)))), .int (nI (n))]) ⟨hx, hb, hml, hown, hts⟩ (c_X4_areaOf l D g lv a R M hmr hM hI k hk _) (cwV 1 hts gX4_canBeBetter_X4_areaOf rfl rfl rfl (by decide +kernel) ⟨Nat.le_of_ble_eq_true rfl, Nat.le_of_ble_eq_true rfl⟩) (r_preV hK hZ hc hA (hlv _ rfl) (rfl) rfl) rfl rfl hl.1 rfl (lv_room (Nat.le_of_ble_eq_true rfl)) dX4_canBeBetter_31 ⟨Nat.le_of_ble_eq_true rfl, Nat.le_of_ble_eq_true rfl⟩) (fun r R' H locs hp hc => ?_)
    obtain ⟨hre, hRe⟩ := hp
    rw [hRe] at hc
    rw [hre]
    refine nv_idiv hx hb dX4_canBeBetter_34 har.1 (by omega) (by omega) ?_
    refine nv_iadd hx hb dX4_canBeBetter_35 ?_
    refine lv_aload_n hx hb dX4_canBeBetter_36 rfl (lv_at hl 0 rfl) ?_
    refine r_get (C := RX4) (T := TX4) (N := 33) (v := .int (stI b)) hx hb hts hown hK.1 hc (hlv _ rfl) (rfl) rfl rfl hinX4 32 (by decide) hf_109 (fun _ h9 => h9) (congrArg Value.int hB) dX4_canBeBetter_37 ?_
    refine lv_icmp_le (tgt := 47) hx hb dX4_canBeBetter_40 (by decide) (fun hq_6 => ?_) (fun hq_6 => ?_)
    · rw [stI_p hb0] at hq_6
      have hq_6 := (nI_leI (by omega) (by omega)).mp hq_6
      refine lv_iconst (v := nI (0)) hx hb dX4_canBeBetter_47 (by decide) ?_
      exact r_zret hx hb hr hlocks hc dX4_canBeBetter_48 (by decide) ⟨rfl, Or.inr ⟨by generalize (mW M * mD M - pc (T ||| F)) / (kw M k * kd M k) = q9 at *; omega, rfl⟩⟩
    · rw [stI_p hb0] at hq_6
      have hq_6 : ¬ (n + (mW M * mD M - pc (T ||| F)) / (kw M k * kd M k) ≤ b - 1) := fun z => hq_6 ((nI_leI (by omega) (by omega)).mpr z)
      refine lv_iconst (v := nI (1)) hx hb dX4_canBeBetter_43 (by decide) ?_
      refine lv_goto (tgt := 48) hx hb dX4_canBeBetter_44 (by decide) ?_
      exact r_zret hx hb hr hlocks hc dX4_canBeBetter_48 (by decide) ⟨rfl, Or.inl ⟨by generalize (mW M * mD M - pc (T ||| F)) / (kw M k * kd M k) = q9 at *; omega, rfl⟩⟩
set_option maxRecDepth 100000 in
set_option maxHeartbeats 4000000 in
theorem c_X4_keepBest (l : Launch) (D : va_G) (g : Nat → ClassId) (lv : Nat → Bool) (a : Nat → Nat) (R : RS) (M : MS) (hmr : PMr R a lv) (hM : PK R M) (hI : Inv M) (k n : Nat) (hk : k < mnk M) (hN : fi R 100 31 = nI n) (hn : n ≤ 36) (cn wn : Nat → Nat) (hcn : ∀ i, i < n → ai R 127 i = nI (cn i) ∧ ai R 128 i = nI (wn i) ∧ cn i ≤ 36 ∧ wn i ≤ 1) : cV l D g lv a yX4_keepBest wsX4_keepBest ({ frames := 1, cells := 0, slots := 0, locals := 32 } : Room) [.ref (a (100)), .int (nI (k))] R (fun R' => R' = kbS M k n cn wn R n) 0 0 := by
  refine c_body (cc := cX4_keepBest) (maxL := 3) (ret := none) (by decide) rfl (Nat.le_of_ble_eq_true rfl) ?_
  intro pr en st mi bl me co ls B hl
  obtain ⟨hx, hb, hr, hml, hown, hts, hlocks, hnm, hK, hZ, hc, hA⟩ := B
  have hl : lv_has ls 3 [(0, .ref (a (100))), (1, .int (nI (k)))] := hl
  have hinX4 : ∀ w ∈ u_ws RX4 TX4 33, w ∈ wsX4_keepBest := (fun _ h => List.mem_cons_of_mem _ (List.mem_append_left _ (List.mem_append_right _ h)))
  have hf_22 := hts (.fieldLink RX4 22 "PalletLayersModel" "boxes" "[I") (by decide +kernel)
  have hf_29 := hts (.fieldLink RX4 29 "PalletLayersModel" "box" "[J") (by decide +kernel)
  have hf_33 := hts (.fieldLink RX4 33 "PalletLayersModel" "corner" "[I") (by decide +kernel)
  have hf_36 := hts (.fieldLink RX4 36 "PalletLayersModel" "way" "[I") (by decide +kernel)
  have hf_70 := hts (.fieldLink RX4 70 "PalletLayersModel" "corners" "[I") (by decide +kernel)
  have hf_73 := hts (.fieldLink RX4 73 "PalletLayersModel" "ways" "[I") (by decide +kernel)
  have hf_109 := hts (.fieldLink RX4 109 "PalletLayersModel" "most" "I") (by decide +kernel)
  have hf_112 := hts (.fieldLink RX4 112 "PalletLayersModel" "placed" "I") (by decide +kernel)
  have hlv := hmr.1
  have hb9 := iv_b hI
  refine lv_aload_n hx hb dX4_keepBest_0 rfl (lv_at hl 0 rfl) ?_
  refine lv_aload_n hx hb dX4_keepBest_1 rfl (lv_at hl 0 rfl) ?_
  refine r_get (C := RX4) (T := TX4) (N := 33) (v := .int (nI (n))) hx hb hts hown hK.1 hc (hlv _ rfl) (rfl) rfl rfl hinX4 31 (by decide) hf_112 (fun _ h9 => h9) (congrArg Value.int hN) dX4_keepBest_2 ?_
  refine r_put (C := RX4) (T := TX4) (N := 33) (R' := sfi R 100 32 (nI (n))) hx hb hts hown hK.1 hc (hlv _ rfl) (rfl) rfl rfl hinX4 tyX4 tyX4_ok nmX4 32 (by decide) hf_109 (fun _ h9 => h9) rfl (tyX4_ok 32 (by decide)) rfl rfl dX4_keepBest_5 (fds_sfi (by decide) (by decide)) (fun _ h9 => ct_sfi h9) (fun H locs hc => ?_)
  refine lv_aload_n hx hb dX4_keepBest_8 rfl (lv_at hl 0 rfl) ?_
  refine r_get (C := RX4) (T := TX4) (N := 33) (v := .ref (a (110))) hx hb hts hown hK.1 hc (hlv _ rfl) (rfl) rfl rfl hinX4 10 (by decide) hf_22 (fun _ h9 => h9) (congrArg va_rf (hmr.2 10 rfl)) dX4_keepBest_9 ?_
  refine lv_iload_n hx hb dX4_keepBest_12 rfl (lv_at hl 1 rfl) ?_
  refine lv_aload_n hx hb dX4_keepBest_13 rfl (lv_at hl 0 rfl) ?_
  refine r_get (C := RX4) (T := TX4) (N := 33) (v := .int (nI (n))) hx hb hts hown hK.1 hc (hlv _ rfl) (rfl) rfl rfl hinX4 31 (by decide) hf_112 (fun _ h9 => h9) (congrArg Value.int hN) dX4_keepBest_14 ?_
  refine r_iast hx hb hK.1 hc (hlv _ rfl) (rfl) (by decide) (by omega) dX4_keepBest_17 (fun H locs hc => ?_)
  refine lv_iconst (v := nI (0)) hx hb dX4_keepBest_18 (by decide) ?_
  refine lv_istore_n (lv' := [(2, .int (nI (0))), (0, .ref (a (100))), (1, .int (nI (k)))]) hx hb dX4_keepBest_19 rfl hl (by decide) rfl (fun ls hl => ?_)
  have loop20 : ∀ (fuel20 : Nat) (i : Nat) (H : Heap) (locs : List Loc) (ls : Array Slot), n - i < fuel20 → (i ≤ n) → rc D g (rA lv a st.heap.size) st.heap lv a (kbS M k n cn wn R i) H locs → lv_has ls 3 [(0, .ref (a (100))), (1, .int (nI (k))), (2, .int (nI (i)))] → W pr l en ({ frames := 1, cells := 0, slots := 0, locals := 32 } : Room) st mi ([.ref (a (100)), .int (nI (k))] : List Value).toArray bl me co H locs 0 0 (MQ bl (va_Qv (fun R' => R' = kbS M k n cn wn R n) (cB D g lv a) (rA lv a st.heap.size)) ([.ref (a (100)), .int (nI (k))] : List Value).toArray st 0 0 (rA lv a st.heap.size)) (F0 mi 20 ls []) := by
    intro fuel20
    induction fuel20 with
    | zero => intro i H locs ls hmu; exact absurd hmu (Nat.not_lt_zero _)
    | succ fuel20 ih20 =>
      intro i H locs ls hmu20 hi hc hl
      have hNi : fi (kbS M k n cn wn R i) 100 31 = nI n := hN
      have hMi : PK (kbS M k n cn wn R i) M := pk_kbS hM
      have hmri : PMr (kbS M k n cn wn R i) a lv := hmr
      refine lv_iload_n hx hb dX4_keepBest_20 rfl (lv_at hl 2 rfl) ?_
      refine lv_aload_n hx hb dX4_keepBest_21 rfl (lv_at hl 0 rfl) ?_
      refine r_get (C := RX4) (T := TX4) (N := 33) (v := .int (nI (n))) hx hb hts hown hK.1 hc (hlv _ rfl) (rfl) rfl rfl hinX4 31 (by decide) hf_112 (fun _ h9 => h9) (congrArg Value.int hN) dX4_keepBest_22 ?_
      refine lv_icmp_ge (tgt := 96) hx hb dX4_keepBest_25 (by decide) (fun hq_1 => ?_) (fun hq_1 => ?_)
      · have hq_1 : n ≤ i := (nI_leI (a := n) (b := i) (by omega) (by omega)).mp hq_1
        exact r_vret hx hb hr hlocks hc dX4_keepBest_96 (by rw [show i = n by omega])
      · have hq_1 : ¬ (n ≤ i) := fun z => hq_1 ((nI_leI (a := n) (b := i) (by omega) (by omega)).mpr z)
        refine lv_aload_n hx hb dX4_keepBest_28 rfl (lv_at hl 0 rfl) ?_
        refine r_get (C := RX4) (T := TX4) (N := 33) (v := .ref (a (113))) hx hb hts hown hK.1 hc (hlv _ rfl) (rfl) rfl rfl hinX4 13 (by decide) hf_33 (fun _ h9 => h9) (congrArg va_rf (hmr.2 13 rfl)) dX4_keepBest_29 ?_
        refine lv_bipush (v := nI (36)) hx hb dX4_keepBest_32 (by decide) ?_
        refine lv_iload_n hx hb dX4_keepBest_34 rfl (lv_at hl 1 rfl) ?_
        refine nv_imul hx hb dX4_keepBest_35 ?_
        refine lv_iload_n hx hb dX4_keepBest_36 rfl (lv_at hl 2 rfl) ?_
        refine nv_iadd hx hb dX4_keepBest_37 ?_
        refine lv_aload_n hx hb dX4_keepBest_38 rfl (lv_at hl 0 rfl) ?_
        refine r_get (C := RX4) (T := TX4) (N := 33) (v := .ref (a (127))) hx hb hts hown hK.1 hc (hlv _ rfl) (rfl) rfl rfl hinX4 27 (by decide) hf_70 (fun _ h9 => h9) (congrArg va_rf (hmr.2 27 rfl)) dX4_keepBest_39 ?_
        refine lv_iload_n hx hb dX4_keepBest_42 rfl (lv_at hl 2 rfl) ?_
        refine r_iald (v := nI (cn i)) hx hb hK.1 hc (hlv _ rfl) (rfl) (by decide) (by omega) dX4_keepBest_43 (show ai (kbS M k n cn wn R i) 127 i = _ by rw [kbS_sc (by decide)]; exact (hcn i (by omega)).1) ?_
        refine r_iast hx hb hK.1 hc (hlv _ rfl) (rfl) (by decide) (by omega) dX4_keepBest_44 (fun H locs hc => ?_)
        refine lv_aload_n hx hb dX4_keepBest_45 rfl (lv_at hl 0 rfl) ?_
        refine r_get (C := RX4) (T := TX4) (N := 33) (v := .ref (a (114))) hx hb hts hown hK.1 hc (hlv _ rfl) (rfl) rfl rfl hinX4 14 (by decide) hf_36 (fun _ h9 => h9) (congrArg va_rf (hmr.2 14 rfl)) dX4_keepBest_46 ?_
        refine lv_bipush (v := nI (36)) hx hb dX4_keepBest_49 (by decide) ?_
        refine lv_iload_n hx hb dX4_keepBest_51 rfl (lv_at hl 1 rfl) ?_
        refine nv_imul hx hb dX4_keepBest_52 ?_
        refine lv_iload_n hx hb dX4_keepBest_53 rfl (lv_at hl 2 rfl) ?_
        refine nv_iadd hx hb dX4_keepBest_54 ?_
        refine lv_aload_n hx hb dX4_keepBest_55 rfl (lv_at hl 0 rfl) ?_
        refine r_get (C := RX4) (T := TX4) (N := 33) (v := .ref (a (128))) hx hb hts hown hK.1 hc (hlv _ rfl) (rfl) rfl rfl hinX4 28 (by decide) hf_73 (fun _ h9 => h9) (congrArg va_rf (hmr.2 28 rfl)) dX4_keepBest_56 ?_
        refine lv_iload_n hx hb dX4_keepBest_59 rfl (lv_at hl 2 rfl) ?_
        refine r_iald (v := nI (wn i)) hx hb hK.1 hc (hlv _ rfl) (rfl) (by decide) (by omega) dX4_keepBest_60 (show ai (kbS M k n cn wn R i) 128 i = _ by rw [kbS_sc (by decide)]; exact (hcn i (by omega)).2.1) ?_
        refine r_iast hx hb hK.1 hc (hlv _ rfl) (rfl) (by decide) (by omega) dX4_keepBest_61 (fun H locs hc => ?_)
        refine lv_aload_n hx hb dX4_keepBest_62 rfl (lv_at hl 0 rfl) ?_
        refine r_get (C := RX4) (T := TX4) (N := 33) (v := .ref (a (112))) hx hb hts hown hK.1 hc (hlv _ rfl) (rfl) rfl rfl hinX4 12 (by decide) hf_29 (fun _ h9 => h9) (congrArg va_rf (hmr.2 12 rfl)) dX4_keepBest_63 ?_
        refine lv_bipush (v := nI (36)) hx hb dX4_keepBest_66 (by decide) ?_
        refine lv_iload_n hx hb dX4_keepBest_68 rfl (lv_at hl 1 rfl) ?_
        refine nv_imul hx hb dX4_keepBest_69 ?_
        refine lv_iload_n hx hb dX4_keepBest_70 rfl (lv_at hl 2 rfl) ?_
        refine nv_iadd hx hb dX4_keepBest_71 ?_
        refine lv_aload_n hx hb dX4_keepBest_72 rfl (lv_at hl 0 rfl) ?_
        refine lv_iload_n hx hb dX4_keepBest_73 rfl (lv_at hl 1 rfl) ?_
        refine lv_aload_n hx hb dX4_keepBest_74 rfl (lv_at hl 0 rfl) ?_
        refine r_get (C := RX4) (T := TX4) (N := 33) (v := .ref (a (127))) hx hb hts hown hK.1 hc (hlv _ rfl) (rfl) rfl rfl hinX4 27 (by decide) hf_70 (fun _ h9 => h9) (congrArg va_rf (hmr.2 27 rfl)) dX4_keepBest_75 ?_
        refine lv_iload_n hx hb dX4_keepBest_78 rfl (lv_at hl 2 rfl) ?_
        refine r_iald (v := nI (cn i)) hx hb hK.1 hc (hlv _ rfl) (rfl) (by decide) (by omega) dX4_keepBest_79 (show ai (kbS M k n cn wn R i) 127 i = _ by rw [kbS_sc (by decide)]; exact (hcn i (by omega)).1) ?_
        refine lv_aload_n hx hb dX4_keepBest_80 rfl (lv_at hl 0 rfl) ?_
        refine r_get (C := RX4) (T := TX4) (N := 33) (v := .ref (a (128))) hx hb hts hown hK.1 hc (hlv _ rfl) (rfl) rfl rfl hinX4 28 (by decide) hf_73 (fun _ h9 => h9) (congrArg va_rf (hmr.2 28 rfl)) dX4_keepBest_81 ?_
        refine lv_iload_n hx hb dX4_keepBest_84 rfl (lv_at hl 2 rfl) ?_
        refine r_iald (v := nI (wn i)) hx hb hK.1 hc (hlv _ rfl) (rfl) (by decide) (by omega) dX4_keepBest_85 (show ai (kbS M k n cn wn R i) 128 i = _ by rw [kbS_sc (by decide)]; exact (hcn i (by omega)).2.1) ?_
        refine r_calll hc hA (va_runV (As := [.int (nI (k)), .int (nI (cn i)), .int (nI (wn i))]) (rest := [.int (nI ((36 * k) + i)), .ref (a (112))]) ⟨hx, hb, hml, hown, hts⟩ (c_X4_cellsOf l D g lv a (sai (sai (kbS M k n cn wn R i) 113 ((36 * k) + i) (nI (cn i))) 114 ((36 * k) + i) (nI (wn i))) M hmri (pk_up hMi) hI k (cn i) (wn i) hk (hcn i (by omega)).2.2.1 (by have := (hcn i (by omega)).2.2.2; omega) _) (cwV 3 hts gX4_keepBest_X4_cellsOf rfl rfl rfl (by decide +kernel) ⟨Nat.le_of_ble_eq_true rfl, Nat.le_of_ble_eq_true rfl⟩) (r_preV hK hZ hc hA (hlv _ rfl) (rfl) rfl) rfl rfl hl.1 rfl (lv_room (Nat.le_of_ble_eq_true rfl)) dX4_keepBest_86 ⟨Nat.le_of_ble_eq_true rfl, Nat.le_of_ble_eq_true rfl⟩) (fun r R' H locs hp hc => ?_)
        obtain ⟨hre, hRe⟩ := hp
        rw [hRe] at hc
        rw [hre]
        refine r_last hx hb hK.1 hc (hlv _ rfl) (rfl) (by decide) (by omega) dX4_keepBest_89 (fun H locs hc => ?_)
        refine lv_iinc (v := nI (i + 1)) (lv' := [(2, .int (nI (i + 1))), (0, .ref (a (100))), (1, .int (nI (k)))]) hx hb dX4_keepBest_90 hl (k := 2) rfl (nI_inc _ 1) (by decide) rfl (fun ls hl => ?_)
        refine lv_goto (tgt := 20) hx hb dX4_keepBest_93 (by decide) ?_
        rw [kbS_1] at hc
        exact ih20 (i + 1) _ _ ls (by omega) (by omega) hc (lv_sub hl [1, 2, 0] rfl)
  rw [kbS_0 (M := M) (cn := cn) (wn := wn)] at hc
  exact loop20 (n + 1) 0 _ _ ls (by omega) (Nat.zero_le _) hc (lv_sub hl [1, 2, 0] rfl)
