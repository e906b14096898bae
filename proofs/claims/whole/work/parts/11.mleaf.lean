set_option maxRecDepth 100000 in
set_option maxHeartbeats 4000000 in
/-- within(x, a, b) -/
theorem c_X4_within (l : Launch) (D : va_G) (g : Nat → ClassId) (lv : Nat → Bool) (a : Nat → Nat) (R : RS) (x y z : Int32) : cI l D g lv a yX4_within wsX4_within ({ frames := 0, cells := 0, slots := 0, locals := 0 } : Room) [.int (x), .int (y), .int (z)] R (fun r R' => R' = R ∧ ((y ≤ x ∧ x ≤ z) ∧ r = nI 1 ∨ ¬ (y ≤ x ∧ x ≤ z) ∧ r = nI 0)) 0 0 := by
  refine c_body (cc := cX4_within) (maxL := 3) (ret := (some .boolean)) (by decide) rfl (Nat.le_of_ble_eq_true rfl) ?_
  intro pr en st mi bl me co ls B hl
  obtain ⟨hx, hb, hr, hml, hown, hts, hlocks, hnm, hK, hZ, hc, hA⟩ := B
  have hl : lv_has ls 3 [(0, .int (x)), (1, .int (y)), (2, .int (z))] := hl
  refine lv_iload_n hx hb dX4_within_0 rfl (lv_at hl 0 rfl) ?_
  refine lv_iload_n hx hb dX4_within_1 rfl (lv_at hl 1 rfl) ?_
  refine lv_icmp_lt (tgt := 14) hx hb dX4_within_2 (by decide) (fun hq_1 => ?_) (fun hq_1 => ?_)
  · skip
    refine lv_iconst (v := nI (0)) hx hb dX4_within_14 (by decide) ?_
    exact r_zret hx hb hr hlocks hc dX4_within_15 (by decide) ⟨rfl, Or.inr ⟨by intro h; first | exact absurd hq_1 (Int32.not_lt.mpr h.1) | exact absurd hq_2 (Int32.not_lt.mpr h.2), rfl⟩⟩
  · skip
    refine lv_iload_n hx hb dX4_within_5 rfl (lv_at hl 0 rfl) ?_
    refine lv_iload_n hx hb dX4_within_6 rfl (lv_at hl 2 rfl) ?_
    refine lv_icmp_gt (tgt := 14) hx hb dX4_within_7 (by decide) (fun hq_2 => ?_) (fun hq_2 => ?_)
    · skip
      refine lv_iconst (v := nI (0)) hx hb dX4_within_14 (by decide) ?_
      exact r_zret hx hb hr hlocks hc dX4_within_15 (by decide) ⟨rfl, Or.inr ⟨by intro h; first | exact absurd hq_1 (Int32.not_lt.mpr h.1) | exact absurd hq_2 (Int32.not_lt.mpr h.2), rfl⟩⟩
    · skip
      refine lv_iconst (v := nI (1)) hx hb dX4_within_10 (by decide) ?_
      refine lv_goto (tgt := 15) hx hb dX4_within_11 (by decide) ?_
      exact r_zret hx hb hr hlocks hc dX4_within_15 (by decide) ⟨rfl, Or.inl ⟨⟨Int32.not_lt.mp hq_1, Int32.not_lt.mp hq_2⟩, rfl⟩⟩
set_option maxRecDepth 100000 in
set_option maxHeartbeats 4000000 in
theorem c_X4_held (l : Launch) (D : va_G) (g : Nat → ClassId) (lv : Nat → Bool) (a : Nat → Nat) (R : RS) (x : Int32) : cI l D g lv a yX4_held wsX4_held ({ frames := 0, cells := 0, slots := 0, locals := 0 } : Room) [.int (x)] R (fun r R' => R' = R ∧ r = nI (hld x)) 0 0 := by
  refine c_body (cc := cX4_held) (maxL := 1) (ret := (some .int)) (by decide) rfl (Nat.le_of_ble_eq_true rfl) ?_
  intro pr en st mi bl me co ls B hl
  obtain ⟨hx, hb, hr, hml, hown, hts, hlocks, hnm, hK, hZ, hc, hA⟩ := B
  have hl : lv_has ls 1 [(0, .int (x))] := hl
  refine lv_iload_n hx hb dX4_held_0 rfl (lv_at hl 0 rfl) ?_
  refine lv_iconst (v := nI (1)) hx hb dX4_held_1 (by decide) ?_
  refine lv_icmp_ge (tgt := 9) hx hb dX4_held_2 (by decide) (fun hq_1 => ?_) (fun hq_1 => ?_)
  · skip
    refine lv_iload_n hx hb dX4_held_9 rfl (lv_at hl 0 rfl) ?_
    refine lv_bipush (v := nI (6)) hx hb dX4_held_10 (by decide) ?_
    refine lv_icmp_le (tgt := 20) hx hb dX4_held_12 (by decide) (fun hq_2 => ?_) (fun hq_2 => ?_)
    · skip
      refine lv_iload_n hx hb dX4_held_20 rfl (lv_at hl 0 rfl) ?_
      exact r_iret hx hb hr hlocks hc dX4_held_21 ⟨rfl, hld_c hq_1 hq_2⟩
    · skip
      refine lv_bipush (v := nI (6)) hx hb dX4_held_15 (by decide) ?_
      refine lv_goto (tgt := 21) hx hb dX4_held_17 (by decide) ?_
      exact r_iret hx hb hr hlocks hc dX4_held_21 ⟨rfl, hld_b hq_1 hq_2⟩
  · skip
    refine lv_iconst (v := nI (1)) hx hb dX4_held_5 (by decide) ?_
    refine lv_goto (tgt := 21) hx hb dX4_held_6 (by decide) ?_
    exact r_iret hx hb hr hlocks hc dX4_held_21 ⟨rfl, hld_a hq_1⟩
set_option maxRecDepth 100000 in
set_option maxHeartbeats 4000000 in
theorem c_X4_isKind (l : Launch) (D : va_G) (g : Nat → ClassId) (lv : Nat → Bool) (a : Nat → Nat) (R : RS) (M : MS) (hmr : PMr R a lv) (hM : PM R M) (hI : Inv M) (x : Int32) : cI l D g lv a yX4_isKind wsX4_isKind ({ frames := 1, cells := 0, slots := 0, locals := 22 } : Room) [.ref (a (100)), .int (x)] R (fun r R' => R' = R ∧ (isN x (mnk M) ∧ r = nI 1 ∨ ¬ isN x (mnk M) ∧ r = nI 0)) 0 0 := by
  refine c_body (cc := cX4_isKind) (maxL := 2) (ret := (some .boolean)) (by decide) rfl (Nat.le_of_ble_eq_true rfl) ?_
  intro pr en st mi bl me co ls B hl
  obtain ⟨hx, hb, hr, hml, hown, hts, hlocks, hnm, hK, hZ, hc, hA⟩ := B
  have hl : lv_has ls 2 [(0, .ref (a (100))), (1, .int (x))] := hl
  have hinX4 : ∀ w ∈ u_ws RX4 TX4 33, w ∈ wsX4_isKind := (fun _ h => List.mem_cons_of_mem _ (List.mem_append_right _ h))
  have hf_92 := hts (.fieldLink RX4 92 "PalletLayersModel" "kinds" "I") (by decide +kernel)
  have hlv := hmr.1
  have hb9 := iv_b hI
  refine lv_iload_n hx hb dX4_isKind_0 rfl (lv_at hl 1 rfl) ?_
  refine lv_iconst (v := nI (0)) hx hb dX4_isKind_1 (by decide) ?_
  refine lv_aload_n hx hb dX4_isKind_2 rfl (lv_at hl 0 rfl) ?_
  refine r_get (C := RX4) (T := TX4) (N := 33) (v := .int (nI (mnk M))) hx hb hts hown hK.1 hc (hlv _ rfl) (rfl) rfl rfl hinX4 3 (by decide) hf_92 (fun _ h9 => h9) (congrArg Value.int hM.1.2.2.2.1) dX4_isKind_3 ?_
  refine lv_iconst (v := nI (1)) hx hb dX4_isKind_6 (by decide) ?_
  refine lv_isub hx hb dX4_isKind_7 ?_
  refine r_calli hc hA (va_runS (As := [.int (x), .int (nI (0)), .int (nI (mnk M) - nI 1)]) (rest := []) ⟨hx, hb, hml, hown, hts⟩ (c_X4_within l D g lv a R x (nI (0)) (nI (mnk M) - nI 1) _) (va_cwS 3 hts gX4_isKind_X4_within rfl rfl rfl (by decide +kernel) ⟨Nat.le_of_ble_eq_true rfl, Nat.le_of_ble_eq_true rfl⟩) (r_preS hK hZ hc hA) rfl rfl hl.1 rfl (lv_room (Nat.le_of_ble_eq_true rfl)) dX4_isKind_8 ⟨Nat.le_of_ble_eq_true rfl, Nat.le_of_ble_eq_true rfl⟩) (fun r R' H locs hp hc => ?_)
  obtain ⟨hRe, ⟨hw, rfl⟩ | ⟨hw, rfl⟩⟩ := hp
  · rw [hRe] at hc
    exact r_zret hx hb hr hlocks hc dX4_isKind_11 (by decide) ⟨rfl, Or.inl ⟨(in_iff (by omega)).mp hw, rfl⟩⟩
  · rw [hRe] at hc
    exact r_zret hx hb hr hlocks hc dX4_isKind_11 (by decide) ⟨rfl, Or.inr ⟨fun h => hw ((in_iff (by omega)).mpr h), rfl⟩⟩
set_option maxRecDepth 100000 in
set_option maxHeartbeats 4000000 in
theorem c_X4_isPallet (l : Launch) (D : va_G) (g : Nat → ClassId) (lv : Nat → Bool) (a : Nat → Nat) (R : RS) (M : MS) (hmr : PMr R a lv) (hM : PM R M) (hI : Inv M) (x : Int32) : cI l D g lv a yX4_isPallet wsX4_isPallet ({ frames := 1, cells := 0, slots := 0, locals := 22 } : Room) [.ref (a (100)), .int (x)] R (fun r R' => R' = R ∧ (isN x (mnp M) ∧ r = nI 1 ∨ ¬ isN x (mnp M) ∧ r = nI 0)) 0 0 := by
  refine c_body (cc := cX4_isPallet) (maxL := 2) (ret := (some .boolean)) (by decide) rfl (Nat.le_of_ble_eq_true rfl) ?_
  intro pr en st mi bl me co ls B hl
  obtain ⟨hx, hb, hr, hml, hown, hts, hlocks, hnm, hK, hZ, hc, hA⟩ := B
  have hl : lv_has ls 2 [(0, .ref (a (100))), (1, .int (x))] := hl
  have hinX4 : ∀ w ∈ u_ws RX4 TX4 33, w ∈ wsX4_isPallet := (fun _ h => List.mem_cons_of_mem _ (List.mem_append_right _ h))
  have hf_99 := hts (.fieldLink RX4 99 "PalletLayersModel" "pallets" "I") (by decide +kernel)
  have hlv := hmr.1
  have hb9 := iv_b hI
  refine lv_iload_n hx hb dX4_isPallet_0 rfl (lv_at hl 1 rfl) ?_
  refine lv_iconst (v := nI (0)) hx hb dX4_isPallet_1 (by decide) ?_
  refine lv_aload_n hx hb dX4_isPallet_2 rfl (lv_at hl 0 rfl) ?_
  refine r_get (C := RX4) (T := TX4) (N := 33) (v := .int (nI (mnp M))) hx hb hts hown hK.1 hc (hlv _ rfl) (rfl) rfl rfl hinX4 4 (by decide) hf_99 (fun _ h9 => h9) (congrArg Value.int hM.1.2.2.2.2.1) dX4_isPallet_3 ?_
  refine lv_iconst (v := nI (1)) hx hb dX4_isPallet_6 (by decide) ?_
  refine lv_isub hx hb dX4_isPallet_7 ?_
  refine r_calli hc hA (va_runS (As := [.int (x), .int (nI (0)), .int (nI (mnp M) - nI 1)]) (rest := []) ⟨hx, hb, hml, hown, hts⟩ (c_X4_within l D g lv a R x (nI (0)) (nI (mnp M) - nI 1) _) (va_cwS 3 hts gX4_isPallet_X4_within rfl rfl rfl (by decide +kernel) ⟨Nat.le_of_ble_eq_true rfl, Nat.le_of_ble_eq_true rfl⟩) (r_preS hK hZ hc hA) rfl rfl hl.1 rfl (lv_room (Nat.le_of_ble_eq_true rfl)) dX4_isPallet_8 ⟨Nat.le_of_ble_eq_true rfl, Nat.le_of_ble_eq_true rfl⟩) (fun r R' H locs hp hc => ?_)
  obtain ⟨hRe, ⟨hw, rfl⟩ | ⟨hw, rfl⟩⟩ := hp
  · rw [hRe] at hc
    exact r_zret hx hb hr hlocks hc dX4_isPallet_11 (by decide) ⟨rfl, Or.inl ⟨(in_iff (by omega)).mp hw, rfl⟩⟩
  · rw [hRe] at hc
    exact r_zret hx hb hr hlocks hc dX4_isPallet_11 (by decide) ⟨rfl, Or.inr ⟨fun h => hw ((in_iff (by omega)).mpr h), rfl⟩⟩
set_option maxRecDepth 100000 in
set_option maxHeartbeats 4000000 in
theorem c_X4_thrown (l : Launch) (D : va_G) (g : Nat → ClassId) (lv : Nat → Bool) (a : Nat → Nat) (R : RS) (M : MS) (hmr : PMr R a lv) (hM : PM R M) (hI : Inv M)  : cI l D g lv a yX4_thrown wsX4_thrown ({ frames := 0, cells := 0, slots := 0, locals := 0 } : Room) [.ref (a (100))] R (fun r R' => r = fi R 100 5 ∧ R' = R) 0 0 := by
  refine c_body (cc := cX4_thrown) (maxL := 1) (ret := (some .int)) (by decide) rfl (Nat.le_of_ble_eq_true rfl) ?_
  intro pr en st mi bl me co ls B hl
  obtain ⟨hx, hb, hr, hml, hown, hts, hlocks, hnm, hK, hZ, hc, hA⟩ := B
  have hl : lv_has ls 1 [(0, .ref (a (100)))] := hl
  have hinX4 : ∀ w ∈ u_ws RX4 TX4 33, w ∈ wsX4_thrown := (fun _ h => List.mem_cons_of_mem _ (List.mem_append_right _ h))
  have hf_89 := hts (.fieldLink RX4 89 "PalletLayersModel" "thrown" "I") (by decide +kernel)
  have hlv := hmr.1
  have hb9 := iv_b hI
  refine lv_aload_n hx hb dX4_thrown_0 rfl (lv_at hl 0 rfl) ?_
  refine r_get (C := RX4) (T := TX4) (N := 33) (v := .int (fi R 100 5)) hx hb hts hown hK.1 hc (hlv _ rfl) (rfl) rfl rfl hinX4 5 (by decide) hf_89 (fun _ h9 => h9) rfl dX4_thrown_1 ?_
  exact r_iret hx hb hr hlocks hc dX4_thrown_4 ⟨rfl, rfl⟩
set_option maxRecDepth 100000 in
set_option maxHeartbeats 4000000 in
theorem c_X4_heightOf (l : Launch) (D : va_G) (g : Nat → ClassId) (lv : Nat → Bool) (a : Nat → Nat) (R : RS) (M : MS) (hmr : PMr R a lv) (hM : PM R M) (hI : Inv M) (p n : Nat) (hp : p < mnp M) (hn : n ≤ pn M p) : cI l D g lv a yX4_heightOf wsX4_heightOf ({ frames := 0, cells := 0, slots := 0, locals := 0 } : Room) [.ref (a (100)), .int (nI (p)), .int (nI (n))] R (fun r R' => r = nI (hS M p n) ∧ R' = R) 0 0 := by
  refine c_body (cc := cX4_heightOf) (maxL := 5) (ret := (some .int)) (by decide) rfl (Nat.le_of_ble_eq_true rfl) ?_
  intro pr en st mi bl me co ls B hl
  obtain ⟨hx, hb, hr, hml, hown, hts, hlocks, hnm, hK, hZ, hc, hA⟩ := B
  have hl : lv_has ls 5 [(0, .ref (a (100))), (1, .int (nI (p))), (2, .int (nI (n)))] := hl
  have hinX4 : ∀ w ∈ u_ws RX4 TX4 33, w ∈ wsX4_heightOf := (fun _ h => List.mem_cons_of_mem _ (List.mem_append_left _ (List.mem_append_right _ h)))
  have hf_16 := hts (.fieldLink RX4 16 "PalletLayersModel" "high" "[I") (by decide +kernel)
  have hf_52 := hts (.fieldLink RX4 52 "PalletLayersModel" "layerKind" "[I") (by decide +kernel)
  have hlv := hmr.1
  have hb9 := iv_b hI
  have hp9 := iv_p hI hp
  refine lv_iconst (v := nI (0)) hx hb dX4_heightOf_0 (by decide) ?_
  refine lv_istore_n (lv' := [(3, .int (nI (0))), (0, .ref (a (100))), (1, .int (nI (p))), (2, .int (nI (n)))]) hx hb dX4_heightOf_1 rfl hl (by decide) rfl (fun ls hl => ?_)
  refine lv_iconst (v := nI (0)) hx hb dX4_heightOf_2 (by decide) ?_
  refine lv_istore (lv' := [(4, .int (nI (0))), (3, .int (nI (0))), (0, .ref (a (100))), (1, .int (nI (p))), (2, .int (nI (n)))]) hx hb dX4_heightOf_3 hl (by decide) rfl (fun ls hl => ?_)
  have loop5 : ∀ (fuel5 : Nat) (i : Nat) (H : Heap) (locs : List Loc) (ls : Array Slot), n - i < fuel5 → (i ≤ n) → rc D g (rA lv a st.heap.size) st.heap lv a R H locs → lv_has ls 5 [(0, .ref (a (100))), (1, .int (nI (p))), (2, .int (nI (n))), (3, .int (nI (hS M p i))), (4, .int (nI (i)))] → W pr l en ({ frames := 0, cells := 0, slots := 0, locals := 0 } : Room) st mi ([.ref (a (100)), .int (nI (p)), .int (nI (n))] : List Value).toArray bl me co H locs 0 0 (MQ bl (va_Qi (fun r R' => r = nI (hS M p n) ∧ R' = R) (cB D g lv a) (rA lv a st.heap.size)) ([.ref (a (100)), .int (nI (p)), .int (nI (n))] : List Value).toArray st 0 0 (rA lv a st.heap.size)) (F0 mi 5 ls []) := by
    intro fuel5
    induction fuel5 with
    | zero => intro i H locs ls hmu; exact absurd hmu (Nat.not_lt_zero _)
    | succ fuel5 ih5 =>
      intro i H locs ls hmu5 hi hc hl
      refine lv_iload hx hb dX4_heightOf_5 (lv_at hl 4 rfl) ?_
      refine lv_iload_n hx hb dX4_heightOf_7 rfl (lv_at hl 2 rfl) ?_
      refine lv_icmp_ge (tgt := 37) hx hb dX4_heightOf_8 (by decide) (fun hq_1 => ?_) (fun hq_1 => ?_)
      · have hq_1 : n ≤ i := (nI_leI (a := n) (b := i) (by omega) (by omega)).mp hq_1
        refine lv_iload_n hx hb dX4_heightOf_37 rfl (lv_at hl 3 rfl) ?_
        exact r_iret hx hb hr hlocks hc dX4_heightOf_38 ⟨by rw [show i = n by omega], rfl⟩
      · have hq_1 : ¬ (n ≤ i) := fun z => hq_1 ((nI_leI (a := n) (b := i) (by omega) (by omega)).mpr z)
        have hlk := iv_l hI hp (show i < pn M p by omega)
        refine lv_iload_n hx hb dX4_heightOf_11 rfl (lv_at hl 3 rfl) ?_
        refine lv_aload_n hx hb dX4_heightOf_12 rfl (lv_at hl 0 rfl) ?_
        refine r_get (C := RX4) (T := TX4) (N := 33) (v := .ref (a (108))) hx hb hts hown hK.1 hc (hlv _ rfl) (rfl) rfl rfl hinX4 8 (by decide) hf_16 (fun _ h9 => h9) (congrArg va_rf (hmr.2 8 rfl)) dX4_heightOf_13 ?_
        refine lv_aload_n hx hb dX4_heightOf_16 rfl (lv_at hl 0 rfl) ?_
        refine r_get (C := RX4) (T := TX4) (N := 33) (v := .ref (a (119))) hx hb hts hown hK.1 hc (hlv _ rfl) (rfl) rfl rfl hinX4 19 (by decide) hf_52 (fun _ h9 => h9) (congrArg va_rf (hmr.2 19 rfl)) dX4_heightOf_17 ?_
        refine lv_bipush (v := nI (10)) hx hb dX4_heightOf_20 (by decide) ?_
        refine lv_iload_n hx hb dX4_heightOf_22 rfl (lv_at hl 1 rfl) ?_
        refine nv_imul hx hb dX4_heightOf_23 ?_
        refine lv_iload hx hb dX4_heightOf_24 (lv_at hl 4 rfl) ?_
        refine nv_iadd hx hb dX4_heightOf_26 ?_
        refine r_iald (v := nI (lk M p i)) hx hb hK.1 hc (hlv _ rfl) (rfl) (by decide) (by omega) dX4_heightOf_27 ((hM.2.2.2.2.2.1 _ (by omega) _ (by omega)).1) ?_
        refine r_iald (v := nI (kh M (lk M p i))) hx hb hK.1 hc (hlv _ rfl) (rfl) (by decide) (by omega) dX4_heightOf_28 ((hM.2.1 _ (by omega)).2.2.1) ?_
        refine nv_iadd hx hb dX4_heightOf_29 ?_
        refine lv_istore_n (lv' := [(3, .int (nI ((hS M p i) + (kh M (lk M p i))))), (0, .ref (a (100))), (1, .int (nI (p))), (2, .int (nI (n))), (4, .int (nI (i)))]) hx hb dX4_heightOf_30 rfl hl (by decide) rfl (fun ls hl => ?_)
        refine lv_iinc (v := nI (i + 1)) (lv' := [(4, .int (nI (i + 1))), (3, .int (nI ((hS M p i) + (kh M (lk M p i))))), (0, .ref (a (100))), (1, .int (nI (p))), (2, .int (nI (n)))]) hx hb dX4_heightOf_31 hl (k := 4) rfl (nI_inc _ 1) (by decide) rfl (fun ls hl => ?_)
        refine lv_goto (tgt := 5) hx hb dX4_heightOf_34 (by decide) ?_
        exact ih5 (i + 1) _ _ ls (by omega) (by omega) hc (lv_sub hl [2, 3, 4, 1, 0] rfl)
  exact loop5 (n + 1) 0 _ _ ls (by omega) (Nat.zero_le _) hc (lv_sub hl [2, 3, 4, 1, 0] rfl)
set_option maxRecDepth 100000 in
set_option maxHeartbeats 4000000 in
theorem c_X4_weightOf (l : Launch) (D : va_G) (g : Nat → ClassId) (lv : Nat → Bool) (a : Nat → Nat) (R : RS) (M : MS) (hmr : PMr R a lv) (hM : PM R M) (hI : Inv M) (p : Nat) (hp : p < mnp M) : cI l D g lv a yX4_weightOf wsX4_weightOf ({ frames := 0, cells := 0, slots := 0, locals := 0 } : Room) [.ref (a (100)), .int (nI (p))] R (fun r R' => r = nI (wS M p (pn M p)) ∧ R' = R) 0 0 := by
  refine c_body (cc := cX4_weightOf) (maxL := 4) (ret := (some .int)) (by decide) rfl (Nat.le_of_ble_eq_true rfl) ?_
  intro pr en st mi bl me co ls B hl
  obtain ⟨hx, hb, hr, hml, hown, hts, hlocks, hnm, hK, hZ, hc, hA⟩ := B
  have hl : lv_has ls 4 [(0, .ref (a (100))), (1, .int (nI (p)))] := hl
  have hinX4 : ∀ w ∈ u_ws RX4 TX4 33, w ∈ wsX4_weightOf := (fun _ h => List.mem_cons_of_mem _ (List.mem_append_left _ (List.mem_append_right _ h)))
  have hf_19 := hts (.fieldLink RX4 19 "PalletLayersModel" "heavy" "[I") (by decide +kernel)
  have hf_49 := hts (.fieldLink RX4 49 "PalletLayersModel" "layers" "[I") (by decide +kernel)
  have hf_52 := hts (.fieldLink RX4 52 "PalletLayersModel" "layerKind" "[I") (by decide +kernel)
  have hf_55 := hts (.fieldLink RX4 55 "PalletLayersModel" "layerBoxes" "[I") (by decide +kernel)
  have hlv := hmr.1
  have hb9 := iv_b hI
  have hp9 := iv_p hI hp
  refine lv_iconst (v := nI (0)) hx hb dX4_weightOf_0 (by decide) ?_
  refine lv_istore_n (lv' := [(2, .int (nI (0))), (0, .ref (a (100))), (1, .int (nI (p)))]) hx hb dX4_weightOf_1 rfl hl (by decide) rfl (fun ls hl => ?_)
  refine lv_iconst (v := nI (0)) hx hb dX4_weightOf_2 (by decide) ?_
  refine lv_istore_n (lv' := [(3, .int (nI (0))), (2, .int (nI (0))), (0, .ref (a (100))), (1, .int (nI (p)))]) hx hb dX4_weightOf_3 rfl hl (by decide) rfl (fun ls hl => ?_)
  have loop4 : ∀ (fuel4 : Nat) (i : Nat) (H : Heap) (locs : List Loc) (ls : Array Slot), pn M p - i < fuel4 → (i ≤ pn M p) → rc D g (rA lv a st.heap.size) st.heap lv a R H locs → lv_has ls 4 [(0, .ref (a (100))), (1, .int (nI (p))), (2, .int (nI (wS M p i))), (3, .int (nI (i)))] → W pr l en ({ frames := 0, cells := 0, slots := 0, locals := 0 } : Room) st mi ([.ref (a (100)), .int (nI (p))] : List Value).toArray bl me co H locs 0 0 (MQ bl (va_Qi (fun r R' => r = nI (wS M p (pn M p)) ∧ R' = R) (cB D g lv a) (rA lv a st.heap.size)) ([.ref (a (100)), .int (nI (p))] : List Value).toArray st 0 0 (rA lv a st.heap.size)) (F0 mi 4 ls []) := by
    intro fuel4
    induction fuel4 with
    | zero => intro i H locs ls hmu; exact absurd hmu (Nat.not_lt_zero _)
    | succ fuel4 ih4 =>
      intro i H locs ls hmu4 hi hc hl
      refine lv_iload_n hx hb dX4_weightOf_4 rfl (lv_at hl 3 rfl) ?_
      refine lv_aload_n hx hb dX4_weightOf_5 rfl (lv_at hl 0 rfl) ?_
      refine r_get (C := RX4) (T := TX4) (N := 33) (v := .ref (a (118))) hx hb hts hown hK.1 hc (hlv _ rfl) (rfl) rfl rfl hinX4 18 (by decide) hf_49 (fun _ h9 => h9) (congrArg va_rf (hmr.2 18 rfl)) dX4_weightOf_6 ?_
      refine lv_iload_n hx hb dX4_weightOf_9 rfl (lv_at hl 1 rfl) ?_
      refine r_iald (v := nI (pn M p)) hx hb hK.1 hc (hlv _ rfl) (rfl) (by decide) (by omega) dX4_weightOf_10 ((hM.2.2.2.2.1 _ (by omega)).1) ?_
      refine lv_icmp_ge (tgt := 51) hx hb dX4_weightOf_11 (by decide) (fun hq_1 => ?_) (fun hq_1 => ?_)
      · have hq_1 : (pn M p) ≤ i := (nI_leI (a := (pn M p)) (b := i) (by omega) (by omega)).mp hq_1
        refine lv_iload_n hx hb dX4_weightOf_51 rfl (lv_at hl 2 rfl) ?_
        exact r_iret hx hb hr hlocks hc dX4_weightOf_52 ⟨by rw [show i = pn M p by omega], rfl⟩
      · have hq_1 : ¬ ((pn M p) ≤ i) := fun z => hq_1 ((nI_leI (a := (pn M p)) (b := i) (by omega) (by omega)).mpr z)
        have hlk := iv_l hI hp (show i < pn M p by omega)
        refine lv_iload_n hx hb dX4_weightOf_14 rfl (lv_at hl 2 rfl) ?_
        refine lv_aload_n hx hb dX4_weightOf_15 rfl (lv_at hl 0 rfl) ?_
        refine r_get (C := RX4) (T := TX4) (N := 33) (v := .ref (a (109))) hx hb hts hown hK.1 hc (hlv _ rfl) (rfl) rfl rfl hinX4 9 (by decide) hf_19 (fun _ h9 => h9) (congrArg va_rf (hmr.2 9 rfl)) dX4_weightOf_16 ?_
        refine lv_aload_n hx hb dX4_weightOf_19 rfl (lv_at hl 0 rfl) ?_
        refine r_get (C := RX4) (T := TX4) (N := 33) (v := .ref (a (119))) hx hb hts hown hK.1 hc (hlv _ rfl) (rfl) rfl rfl hinX4 19 (by decide) hf_52 (fun _ h9 => h9) (congrArg va_rf (hmr.2 19 rfl)) dX4_weightOf_20 ?_
        refine lv_bipush (v := nI (10)) hx hb dX4_weightOf_23 (by decide) ?_
        refine lv_iload_n hx hb dX4_weightOf_25 rfl (lv_at hl 1 rfl) ?_
        refine nv_imul hx hb dX4_weightOf_26 ?_
        refine lv_iload_n hx hb dX4_weightOf_27 rfl (lv_at hl 3 rfl) ?_
        refine nv_iadd hx hb dX4_weightOf_28 ?_
        refine r_iald (v := nI (lk M p i)) hx hb hK.1 hc (hlv _ rfl) (rfl) (by decide) (by omega) dX4_weightOf_29 ((hM.2.2.2.2.2.1 _ (by omega) _ (by omega)).1) ?_
        refine r_iald (v := nI (kq M (lk M p i))) hx hb hK.1 hc (hlv _ rfl) (rfl) (by decide) (by omega) dX4_weightOf_30 ((hM.2.1 _ (by omega)).2.2.2.1) ?_
        refine lv_aload_n hx hb dX4_weightOf_31 rfl (lv_at hl 0 rfl) ?_
        refine r_get (C := RX4) (T := TX4) (N := 33) (v := .ref (a (120))) hx hb hts hown hK.1 hc (hlv _ rfl) (rfl) rfl rfl hinX4 20 (by decide) hf_55 (fun _ h9 => h9) (congrArg va_rf (hmr.2 20 rfl)) dX4_weightOf_32 ?_
        refine lv_bipush (v := nI (10)) hx hb dX4_weightOf_35 (by decide) ?_
        refine lv_iload_n hx hb dX4_weightOf_37 rfl (lv_at hl 1 rfl) ?_
        refine nv_imul hx hb dX4_weightOf_38 ?_
        refine lv_iload_n hx hb dX4_weightOf_39 rfl (lv_at hl 3 rfl) ?_
        refine nv_iadd hx hb dX4_weightOf_40 ?_
        refine r_iald (v := nI (lb M p i)) hx hb hK.1 hc (hlv _ rfl) (rfl) (by decide) (by omega) dX4_weightOf_41 ((hM.2.2.2.2.2.1 _ (by omega) _ (by omega)).2) ?_
        refine nv_imul hx hb dX4_weightOf_42 ?_
        refine nv_iadd hx hb dX4_weightOf_43 ?_
        refine lv_istore_n (lv' := [(2, .int (nI ((wS M p i) + ((kq M (lk M p i)) * (lb M p i))))), (0, .ref (a (100))), (1, .int (nI (p))), (3, .int (nI (i)))]) hx hb dX4_weightOf_44 rfl hl (by decide) rfl (fun ls hl => ?_)
        refine lv_iinc (v := nI (i + 1)) (lv' := [(3, .int (nI (i + 1))), (2, .int (nI ((wS M p i) + ((kq M (lk M p i)) * (lb M p i))))), (0, .ref (a (100))), (1, .int (nI (p)))]) hx hb dX4_weightOf_45 hl (k := 3) rfl (nI_inc _ 1) (by decide) rfl (fun ls hl => ?_)
        refine lv_goto (tgt := 4) hx hb dX4_weightOf_48 (by decide) ?_
        exact ih4 (i + 1) _ _ ls (by omega) (by omega) hc (lv_sub hl [2, 3, 1, 0] rfl)
  exact loop4 (pn M p + 1) 0 _ _ ls (by omega) (Nat.zero_le _) hc (lv_sub hl [2, 3, 1, 0] rfl)
set_option maxRecDepth 100000 in
set_option maxHeartbeats 4000000 in
theorem c_X4_boxesOn (l : Launch) (D : va_G) (g : Nat → ClassId) (lv : Nat → Bool) (a : Nat → Nat) (R : RS) (M : MS) (hmr : PMr R a lv) (hM : PM R M) (hI : Inv M) (p : Nat) (hp : p < mnp M) : cI l D g lv a yX4_boxesOn wsX4_boxesOn ({ frames := 0, cells := 0, slots := 0, locals := 0 } : Room) [.ref (a (100)), .int (nI (p))] R (fun r R' => r = nI (bS M p (pn M p)) ∧ R' = R) 0 0 := by
  refine c_body (cc := cX4_boxesOn) (maxL := 4) (ret := (some .int)) (by decide) rfl (Nat.le_of_ble_eq_true rfl) ?_
  intro pr en st mi bl me co ls B hl
  obtain ⟨hx, hb, hr, hml, hown, hts, hlocks, hnm, hK, hZ, hc, hA⟩ := B
  have hl : lv_has ls 4 [(0, .ref (a (100))), (1, .int (nI (p)))] := hl
  have hinX4 : ∀ w ∈ u_ws RX4 TX4 33, w ∈ wsX4_boxesOn := (fun _ h => List.mem_cons_of_mem _ (List.mem_append_left _ (List.mem_append_right _ h)))
  have hf_49 := hts (.fieldLink RX4 49 "PalletLayersModel" "layers" "[I") (by decide +kernel)
  have hf_55 := hts (.fieldLink RX4 55 "PalletLayersModel" "layerBoxes" "[I") (by decide +kernel)
  have hlv := hmr.1
  have hb9 := iv_b hI
  have hp9 := iv_p hI hp
  refine lv_iconst (v := nI (0)) hx hb dX4_boxesOn_0 (by decide) ?_
  refine lv_istore_n (lv' := [(2, .int (nI (0))), (0, .ref (a (100))), (1, .int (nI (p)))]) hx hb dX4_boxesOn_1 rfl hl (by decide) rfl (fun ls hl => ?_)
  refine lv_iconst (v := nI (0)) hx hb dX4_boxesOn_2 (by decide) ?_
  refine lv_istore_n (lv' := [(3, .int (nI (0))), (2, .int (nI (0))), (0, .ref (a (100))), (1, .int (nI (p)))]) hx hb dX4_boxesOn_3 rfl hl (by decide) rfl (fun ls hl => ?_)
  have loop4 : ∀ (fuel4 : Nat) (i : Nat) (H : Heap) (locs : List Loc) (ls : Array Slot), pn M p - i < fuel4 → (i ≤ pn M p) → rc D g (rA lv a st.heap.size) st.heap lv a R H locs → lv_has ls 4 [(0, .ref (a (100))), (1, .int (nI (p))), (2, .int (nI (bS M p i))), (3, .int (nI (i)))] → W pr l en ({ frames := 0, cells := 0, slots := 0, locals := 0 } : Room) st mi ([.ref (a (100)), .int (nI (p))] : List Value).toArray bl me co H locs 0 0 (MQ bl (va_Qi (fun r R' => r = nI (bS M p (pn M p)) ∧ R' = R) (cB D g lv a) (rA lv a st.heap.size)) ([.ref (a (100)), .int (nI (p))] : List Value).toArray st 0 0 (rA lv a st.heap.size)) (F0 mi 4 ls []) := by
    intro fuel4
    induction fuel4 with
    | zero => intro i H locs ls hmu; exact absurd hmu (Nat.not_lt_zero _)
    | succ fuel4 ih4 =>
      intro i H locs ls hmu4 hi hc hl
      refine lv_iload_n hx hb dX4_boxesOn_4 rfl (lv_at hl 3 rfl) ?_
      refine lv_aload_n hx hb dX4_boxesOn_5 rfl (lv_at hl 0 rfl) ?_
      refine r_get (C := RX4) (T := TX4) (N := 33) (v := .ref (a (118))) hx hb hts hown hK.1 hc (hlv _ rfl) (rfl) rfl rfl hinX4 18 (by decide) hf_49 (fun _ h9 => h9) (congrArg va_rf (hmr.2 18 rfl)) dX4_boxesOn_6 ?_
      refine lv_iload_n hx hb dX4_boxesOn_9 rfl (lv_at hl 1 rfl) ?_
      refine r_iald (v := nI (pn M p)) hx hb hK.1 hc (hlv _ rfl) (rfl) (by decide) (by omega) dX4_boxesOn_10 ((hM.2.2.2.2.1 _ (by omega)).1) ?_
      refine lv_icmp_ge (tgt := 34) hx hb dX4_boxesOn_11 (by decide) (fun hq_1 => ?_) (fun hq_1 => ?_)
      · have hq_1 : (pn M p) ≤ i := (nI_leI (a := (pn M p)) (b := i) (by omega) (by omega)).mp hq_1
        refine lv_iload_n hx hb dX4_boxesOn_34 rfl (lv_at hl 2 rfl) ?_
        exact r_iret hx hb hr hlocks hc dX4_boxesOn_35 ⟨by rw [show i = pn M p by omega], rfl⟩
      · have hq_1 : ¬ ((pn M p) ≤ i) := fun z => hq_1 ((nI_leI (a := (pn M p)) (b := i) (by omega) (by omega)).mpr z)
        refine lv_iload_n hx hb dX4_boxesOn_14 rfl (lv_at hl 2 rfl) ?_
        refine lv_aload_n hx hb dX4_boxesOn_15 rfl (lv_at hl 0 rfl) ?_
        refine r_get (C := RX4) (T := TX4) (N := 33) (v := .ref (a (120))) hx hb hts hown hK.1 hc (hlv _ rfl) (rfl) rfl rfl hinX4 20 (by decide) hf_55 (fun _ h9 => h9) (congrArg va_rf (hmr.2 20 rfl)) dX4_boxesOn_16 ?_
        refine lv_bipush (v := nI (10)) hx hb dX4_boxesOn_19 (by decide) ?_
        refine lv_iload_n hx hb dX4_boxesOn_21 rfl (lv_at hl 1 rfl) ?_
        refine nv_imul hx hb dX4_boxesOn_22 ?_
        refine lv_iload_n hx hb dX4_boxesOn_23 rfl (lv_at hl 3 rfl) ?_
        refine nv_iadd hx hb dX4_boxesOn_24 ?_
        refine r_iald (v := nI (lb M p i)) hx hb hK.1 hc (hlv _ rfl) (rfl) (by decide) (by omega) dX4_boxesOn_25 ((hM.2.2.2.2.2.1 _ (by omega) _ (by omega)).2) ?_
        refine nv_iadd hx hb dX4_boxesOn_26 ?_
        refine lv_istore_n (lv' := [(2, .int (nI ((bS M p i) + (lb M p i)))), (0, .ref (a (100))), (1, .int (nI (p))), (3, .int (nI (i)))]) hx hb dX4_boxesOn_27 rfl hl (by decide) rfl (fun ls hl => ?_)
        refine lv_iinc (v := nI (i + 1)) (lv' := [(3, .int (nI (i + 1))), (2, .int (nI ((bS M p i) + (lb M p i)))), (0, .ref (a (100))), (1, .int (nI (p)))]) hx hb dX4_boxesOn_28 hl (k := 3) rfl (nI_inc _ 1) (by decide) rfl (fun ls hl => ?_)
        refine lv_goto (tgt := 4) hx hb dX4_boxesOn_31 (by decide) ?_
        exact ih4 (i + 1) _ _ ls (by omega) (by omega) hc (lv_sub hl [2, 3, 1, 0] rfl)
  exact loop4 (pn M p + 1) 0 _ _ ls (by omega) (Nat.zero_le _) hc (lv_sub hl [2, 3, 1, 0] rfl)
