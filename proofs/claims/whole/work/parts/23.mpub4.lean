set_option maxRecDepth 100000 in
set_option maxHeartbeats 4000000 in
theorem c_X4_supportOf (l : Launch) (D : va_G) (g : Nat → ClassId) (lv : Nat → Bool) (a : Nat → Nat) (R : RS) (M : MS) (hmr : PMr R a lv) (hM : PM R M) (hI : Inv M) (k i p l9 : Nat) (hk : k < mnk M) (hi : i < kb M k) (hp : p < mnp M) (hl9 : l9 ≤ pn M p) : cI l D g lv a yX4_supportOf wsX4_supportOf ({ frames := 1, cells := 0, slots := 0, locals := 24 } : Room) [.ref (a (100)), .int (nI (k)), .int (nI (i)), .int (nI (p)), .int (nI l9 - nI 1)] R (fun r R' => r = nI (spt M k i p l9) ∧ R' = R) 0 0 := by
  refine c_body (cc := cX4_supportOf) (maxL := 8) (ret := (some .int)) (by decide) rfl (Nat.le_of_ble_eq_true rfl) ?_
  intro pr en st mi bl me co ls B hl
  obtain ⟨hx, hb, hr, hml, hown, hts, hlocks, hnm, hK, hZ, hc, hA⟩ := B
  have hl : lv_has ls 8 [(0, .ref (a (100))), (1, .int (nI (k))), (2, .int (nI (i))), (3, .int (nI (p))), (4, .int (nI l9 - nI 1))] := hl
  have hinX4 : ∀ w ∈ u_ws RX4 TX4 33, w ∈ wsX4_supportOf := (fun _ h => List.mem_cons_of_mem _ (List.mem_append_left _ (List.mem_append_right _ h)))
  have hf_29 := hts (.fieldLink RX4 29 "PalletLayersModel" "box" "[J") (by decide +kernel)
  have hf_52 := hts (.fieldLink RX4 52 "PalletLayersModel" "layerKind" "[I") (by decide +kernel)
  have hf_55 := hts (.fieldLink RX4 55 "PalletLayersModel" "layerBoxes" "[I") (by decide +kernel)
  have hlv := hmr.1
  have hb9 := iv_b hI
  have hp9 := iv_p hI hp
  have hk9 := iv_k hI hk
  have hbi := bx_lt hI hk hi
  refine lv_iload hx hb dX4_supportOf_0 (lv_at hl 4 rfl) ?_
  refine lv_if_ge (tgt := 11) hx hb dX4_supportOf_2 (by decide) (fun hq_1 => ?_) (fun hq_1 => ?_)
  · have hqs := hq_1
    have hl0 : 0 < l9 := (sub1_ge (by omega)).mp hqs
    rw [pk_sub (show 1 ≤ l9 by omega)] at hl
    have hq9 := iv_l hI hp (show l9 - 1 < pn M p by omega)
    have hk8 := iv_k hI hq9.1
    refine lv_iconst (v := nI (0)) hx hb dX4_supportOf_11 (by decide) ?_
    refine lv_istore (lv' := [(5, .int (nI (0))), (0, .ref (a (100))), (1, .int (nI (k))), (2, .int (nI (i))), (3, .int (nI (p))), (4, .int (nI (l9 - 1)))]) hx hb dX4_supportOf_12 hl (by decide) rfl (fun ls hl => ?_)
    refine lv_aload_n hx hb dX4_supportOf_14 rfl (lv_at hl 1 rfl) ?_
    refine r_get (C := RX4) (T := TX4) (N := 33) (v := .ref (a (119))) hx hb hts hown hK.1 hc (hlv _ rfl) (rfl) rfl rfl hinX4 19 (by decide) hf_52 (fun _ h9 => h9) (congrArg va_rf (hmr.2 19 rfl)) dX4_supportOf_15 ?_
    refine lv_bipush (v := nI (10)) hx hb dX4_supportOf_18 (by decide) ?_
    refine lv_iload_n hx hb dX4_supportOf_20 rfl (lv_at hl 4 rfl) ?_
    refine nv_imul hx hb dX4_supportOf_21 ?_
    refine lv_iload hx hb dX4_supportOf_22 (lv_at hl 5 rfl) ?_
    refine nv_iadd hx hb dX4_supportOf_24 ?_
    refine r_iald (v := nI (lk M p (l9 - 1))) hx hb hK.1 hc (hlv _ rfl) (rfl) (by decide) (by omega) dX4_supportOf_25 ((hM.2.2.2.2.2.1 _ (by omega) _ (by omega)).1) ?_
    refine lv_istore (lv' := [(6, .int (nI (lk M p (l9 - 1)))), (5, .int (nI (0))), (0, .ref (a (100))), (1, .int (nI (k))), (2, .int (nI (i))), (3, .int (nI (p))), (4, .int (nI (l9 - 1)))]) hx hb dX4_supportOf_26 hl (by decide) rfl (fun ls hl => ?_)
    refine lv_iconst (v := nI (0)) hx hb dX4_supportOf_28 (by decide) ?_
    refine lv_istore (lv' := [(7, .int (nI (0))), (6, .int (nI (lk M p (l9 - 1)))), (5, .int (nI (0))), (0, .ref (a (100))), (1, .int (nI (k))), (2, .int (nI (i))), (3, .int (nI (p))), (4, .int (nI (l9 - 1)))]) hx hb dX4_supportOf_29 hl (by decide) rfl (fun ls hl => ?_)
    have loop31 : ∀ (fuel31 : Nat) (j : Nat) (H : Heap) (locs : List Loc) (ls : Array Slot), lb M p (l9 - 1) - j < fuel31 → (j ≤ lb M p (l9 - 1)) → rc D g (rA lv a st.heap.size) st.heap lv a R H locs → lv_has ls 8 [(0, .ref (a (100))), (1, .int (nI (k))), (2, .int (nI (i))), (3, .int (nI (p))), (4, .int (nI (l9 - 1))), (5, .int (nI (spS M k i p (l9 - 1) j))), (6, .int (nI (lk M p (l9 - 1)))), (7, .int (nI (j)))] → W pr l en ({ frames := 1, cells := 0, slots := 0, locals := 24 } : Room) st mi ([.ref (a (100)), .int (nI (k)), .int (nI (i)), .int (nI (p)), .int (nI l9 - nI 1)] : List Value).toArray bl me co H locs 0 0 (MQ bl (va_Qi (fun r R' => r = nI (spt M k i p l9) ∧ R' = R) (cB D g lv a) (rA lv a st.heap.size)) ([.ref (a (100)), .int (nI (k)), .int (nI (i)), .int (nI (p)), .int (nI l9 - nI 1)] : List Value).toArray st 0 0 (rA lv a st.heap.size)) (F0 mi 31 ls []) := by
      intro fuel31
      induction fuel31 with
      | zero => intro j H locs ls hmu; exact absurd hmu (Nat.not_lt_zero _)
      | succ fuel31 ih31 =>
        intro j H locs ls hmu31 hj hc hl
        refine lv_iload hx hb dX4_supportOf_31 (lv_at hl 7 rfl) ?_
        refine lv_aload_n hx hb dX4_supportOf_33 rfl (lv_at hl 0 rfl) ?_
        refine r_get (C := RX4) (T := TX4) (N := 33) (v := .ref (a (120))) hx hb hts hown hK.1 hc (hlv _ rfl) (rfl) rfl rfl hinX4 20 (by decide) hf_55 (fun _ h9 => h9) (congrArg va_rf (hmr.2 20 rfl)) dX4_supportOf_34 ?_
        refine lv_bipush (v := nI (10)) hx hb dX4_supportOf_37 (by decide) ?_
        refine lv_iload_n hx hb dX4_supportOf_39 rfl (lv_at hl 3 rfl) ?_
        refine nv_imul hx hb dX4_supportOf_40 ?_
        refine lv_iload hx hb dX4_supportOf_41 (lv_at hl 4 rfl) ?_
        refine nv_iadd hx hb dX4_supportOf_43 ?_
        refine r_iald (v := nI (lb M p (l9 - 1))) hx hb hK.1 hc (hlv _ rfl) (rfl) (by decide) (by omega) dX4_supportOf_44 ((hM.2.2.2.2.2.1 _ (by omega) _ (by omega)).2) ?_
        refine lv_icmp_ge (tgt := 87) hx hb dX4_supportOf_45 (by decide) (fun hq_2 => ?_) (fun hq_2 => ?_)
        · have hq_2 : (lb M p (l9 - 1)) ≤ j := (nI_leI (a := (lb M p (l9 - 1))) (b := j) (by omega) (by omega)).mp hq_2
          refine lv_iload hx hb dX4_supportOf_87 (lv_at hl 5 rfl) ?_
          exact r_iret hx hb hr hlocks hc dX4_supportOf_89 ⟨by rw [spt, if_neg (by omega), show j = lb M p (l9 - 1) by omega], rfl⟩
        · have hq_2 : ¬ ((lb M p (l9 - 1)) ≤ j) := fun z => hq_2 ((nI_leI (a := (lb M p (l9 - 1))) (b := j) (by omega) (by omega)).mpr z)
          have hbj := bx_lt hI hq9.1 (show j < kb M (lk M p (l9 - 1)) by omega)
          refine lv_iload hx hb dX4_supportOf_48 (lv_at hl 5 rfl) ?_
          refine lv_aload_n hx hb dX4_supportOf_50 rfl (lv_at hl 0 rfl) ?_
          refine r_get (C := RX4) (T := TX4) (N := 33) (v := .ref (a (112))) hx hb hts hown hK.1 hc (hlv _ rfl) (rfl) rfl rfl hinX4 12 (by decide) hf_29 (fun _ h9 => h9) (congrArg va_rf (hmr.2 12 rfl)) dX4_supportOf_51 ?_
          refine lv_bipush (v := nI (36)) hx hb dX4_supportOf_54 (by decide) ?_
          refine lv_iload_n hx hb dX4_supportOf_56 rfl (lv_at hl 1 rfl) ?_
          refine nv_imul hx hb dX4_supportOf_57 ?_
          refine lv_iload_n hx hb dX4_supportOf_58 rfl (lv_at hl 2 rfl) ?_
          refine nv_iadd hx hb dX4_supportOf_59 ?_
          refine r_lald (v := lN (bx M k i)) hx hb hK.1 hc (hlv _ rfl) (rfl) (by decide) (by omega) dX4_supportOf_60 ((hM.2.2.2.1 _ hk _ hi).2.2) ?_
          refine lv_aload_n hx hb dX4_supportOf_61 rfl (lv_at hl 0 rfl) ?_
          refine r_get (C := RX4) (T := TX4) (N := 33) (v := .ref (a (112))) hx hb hts hown hK.1 hc (hlv _ rfl) (rfl) rfl rfl hinX4 12 (by decide) hf_29 (fun _ h9 => h9) (congrArg va_rf (hmr.2 12 rfl)) dX4_supportOf_62 ?_
          refine lv_bipush (v := nI (36)) hx hb dX4_supportOf_65 (by decide) ?_
          refine lv_iload hx hb dX4_supportOf_67 (lv_at hl 6 rfl) ?_
          refine nv_imul hx hb dX4_supportOf_69 ?_
          refine lv_iload hx hb dX4_supportOf_70 (lv_at hl 7 rfl) ?_
          refine nv_iadd hx hb dX4_supportOf_72 ?_
          refine r_lald (v := lN (bx M (lk M p (l9 - 1)) j)) hx hb hK.1 hc (hlv _ rfl) (rfl) (by decide) (by omega) dX4_supportOf_73 ((hM.2.2.2.1 _ hq9.1 _ (by omega)).2.2) ?_
          refine nv_land hx hb dX4_supportOf_74 (by omega) (by omega) ?_
          refine r_calli hc hA (va_runS (As := [.long (lN ((bx M k i) &&& (bx M (lk M p (l9 - 1)) j)))]) (rest := [.int (nI (spS M k i p (l9 - 1) j))]) ⟨hx, hb, hml, hown, hts⟩ (c_X4_count l D g lv a R (bx M k i &&& bx M (lk M p (l9 - 1)) j) (Nat.lt_of_le_of_lt Nat.and_le_left (by omega)) _) (va_cwS 1 hts gX4_supportOf_X4_count rfl rfl rfl (by decide +kernel) ⟨Nat.le_of_ble_eq_true rfl, Nat.le_of_ble_eq_true rfl⟩) (r_preS hK hZ hc hA) rfl rfl hl.1 rfl (lv_room (Nat.le_of_ble_eq_true rfl)) dX4_supportOf_75 ⟨Nat.le_of_ble_eq_true rfl, Nat.le_of_ble_eq_true rfl⟩) (fun r R' H locs hp hc => ?_)
          obtain ⟨hre, hRe⟩ := hp
          rw [hRe] at hc
          rw [hre]
          refine nv_iadd hx hb dX4_supportOf_78 ?_
          refine lv_istore (lv' := [(5, .int (nI ((spS M k i p (l9 - 1) j) + (pc (bx M k i &&& bx M (lk M p (l9 - 1)) j))))), (0, .ref (a (100))), (1, .int (nI (k))), (2, .int (nI (i))), (3, .int (nI (p))), (4, .int (nI (l9 - 1))), (6, .int (nI (lk M p (l9 - 1)))), (7, .int (nI (j)))]) hx hb dX4_supportOf_79 hl (by decide) rfl (fun ls hl => ?_)
          refine lv_iinc (v := nI (j + 1)) (lv' := [(7, .int (nI (j + 1))), (5, .int (nI ((spS M k i p (l9 - 1) j) + (pc (bx M k i &&& bx M (lk M p (l9 - 1)) j))))), (0, .ref (a (100))), (1, .int (nI (k))), (2, .int (nI (i))), (3, .int (nI (p))), (4, .int (nI (l9 - 1))), (6, .int (nI (lk M p (l9 - 1))))]) hx hb dX4_supportOf_81 hl (k := 7) rfl (nI_inc _ 1) (by decide) rfl (fun ls hl => ?_)
          refine lv_goto (tgt := 31) hx hb dX4_supportOf_84 (by decide) ?_
          exact ih31 (j + 1) _ _ ls (by omega) (by omega) hc (lv_sub hl [2, 3, 4, 5, 6, 1, 7, 0] rfl)
    exact loop31 (lb M p (l9 - 1) + 1) 0 _ _ ls (by omega) (Nat.zero_le _) hc (lv_sub hl [3, 4, 5, 6, 7, 2, 1, 0] rfl)
  · have hqs : ¬ 0 < l9 := fun z => hq_1 ((sub1_ge (by omega)).mpr z)
    refine lv_aload_n hx hb dX4_supportOf_5 rfl (lv_at hl 0 rfl) ?_
    refine lv_iload_n hx hb dX4_supportOf_6 rfl (lv_at hl 1 rfl) ?_
    refine r_calli hc hA (va_runV (As := [.int (nI (k))]) (rest := []) ⟨hx, hb, hml, hown, hts⟩ (c_X4_areaOf l D g lv a R M hmr (pk_of hM) hI k hk _) (cwV 1 hts gX4_supportOf_X4_areaOf rfl rfl rfl (by decide +kernel) ⟨Nat.le_of_ble_eq_true rfl, Nat.le_of_ble_eq_true rfl⟩) (r_preV hK hZ hc hA (hlv _ rfl) (rfl) rfl) rfl rfl hl.1 rfl (lv_room (Nat.le_of_ble_eq_true rfl)) dX4_supportOf_7 ⟨Nat.le_of_ble_eq_true rfl, Nat.le_of_ble_eq_true rfl⟩) (fun r R' H locs hp hc => ?_)
    obtain ⟨hre, hRe⟩ := hp
    rw [hRe] at hc
    rw [hre]
    exact r_iret hx hb hr hlocks hc dX4_supportOf_10 ⟨by rw [spt, if_pos (by omega)], rfl⟩
set_option maxRecDepth 100000 in
set_option maxHeartbeats 4000000 in
theorem c_X4_reason (l : Launch) (D : va_G) (g : Nat → ClassId) (lv : Nat → Bool) (a : Nat → Nat) (R : RS) (M : MS) (hmr : PMr R a lv) (hM : PM R M) (hI : Inv M) (p k n : Nat) (hp : p < mnp M) (hk : k < mnk M) (hn : n ≤ 600) : cI l D g lv a yX4_reason wsX4_reason ({ frames := 2, cells := 0, slots := 0, locals := 51 } : Room) [.ref (a (100)), .int (nI (p)), .int (nI (k)), .int (nI (n))] R (fun r R' => r = rsn M p k n ∧ R' = R) 0 0 := by
  refine c_body (cc := cX4_reason) (maxL := 5) (ret := (some .int)) (by decide) rfl (Nat.le_of_ble_eq_true rfl) ?_
  intro pr en st mi bl me co ls B hl
  obtain ⟨hx, hb, hr, hml, hown, hts, hlocks, hnm, hK, hZ, hc, hA⟩ := B
  have hl : lv_has ls 5 [(0, .ref (a (100))), (1, .int (nI (p))), (2, .int (nI (k))), (3, .int (nI (n)))] := hl
  have hinX4 : ∀ w ∈ u_ws RX4 TX4 33, w ∈ wsX4_reason := (fun _ h => List.mem_cons_of_mem _ (List.mem_append_left _ (List.mem_append_right _ h)))
  have hf_16 := hts (.fieldLink RX4 16 "PalletLayersModel" "high" "[I") (by decide +kernel)
  have hf_19 := hts (.fieldLink RX4 19 "PalletLayersModel" "heavy" "[I") (by decide +kernel)
  have hf_22 := hts (.fieldLink RX4 22 "PalletLayersModel" "boxes" "[I") (by decide +kernel)
  have hf_39 := hts (.fieldLink RX4 39 "PalletLayersModel" "share" "I") (by decide +kernel)
  have hf_43 := hts (.fieldLink RX4 43 "PalletLayersModel" "door" "I") (by decide +kernel)
  have hf_46 := hts (.fieldLink RX4 46 "PalletLayersModel" "load" "I") (by decide +kernel)
  have hf_49 := hts (.fieldLink RX4 49 "PalletLayersModel" "layers" "[I") (by decide +kernel)
  have hlv := hmr.1
  have hb9 := iv_b hI
  have hp9 := iv_p hI hp
  have hk9 := iv_k hI hk
  have har := ar_b hk9
  have hhs := hS_le hI hp _ (Nat.le_refl _)
  have hws := wS_le hI hp _ (Nat.le_refl _)
  refine lv_iload_n hx hb dX4_reason_0 rfl (lv_at hl 3 rfl) ?_
  refine lv_aload_n hx hb dX4_reason_1 rfl (lv_at hl 0 rfl) ?_
  refine r_get (C := RX4) (T := TX4) (N := 33) (v := .ref (a (110))) hx hb hts hown hK.1 hc (hlv _ rfl) (rfl) rfl rfl hinX4 10 (by decide) hf_22 (fun _ h9 => h9) (congrArg va_rf (hmr.2 10 rfl)) dX4_reason_2 ?_
  refine lv_iload_n hx hb dX4_reason_5 rfl (lv_at hl 2 rfl) ?_
  refine r_iald (v := nI (kb M k)) hx hb hK.1 hc (hlv _ rfl) (rfl) (by decide) (by omega) dX4_reason_6 ((hM.2.1 _ (by omega)).2.2.2.2.1) ?_
  refine lv_icmp_le (tgt := 12) hx hb dX4_reason_7 (by decide) (fun hq_1 => ?_) (fun hq_1 => ?_)
  · have hq_1 : n ≤ (kb M k) := (nI_leI (a := n) (b := (kb M k)) (by omega) (by omega)).mp hq_1
    have hkn : ¬ kb M k < n := by omega
    refine lv_iconst (v := nI (0)) hx hb dX4_reason_12 (by decide) ?_
    refine lv_istore (lv' := [(4, .int (nI (0))), (0, .ref (a (100))), (1, .int (nI (p))), (2, .int (nI (k))), (3, .int (nI (n)))]) hx hb dX4_reason_13 hl (by decide) rfl (fun ls hl => ?_)
    have loop15 : ∀ (fuel15 : Nat) (i : Nat) (H : Heap) (locs : List Loc) (ls : Array Slot), n - i < fuel15 → (i ≤ n) → (sAll M p k i = true) → rc D g (rA lv a st.heap.size) st.heap lv a R H locs → lv_has ls 5 [(0, .ref (a (100))), (1, .int (nI (p))), (2, .int (nI (k))), (3, .int (nI (n))), (4, .int (nI (i)))] → W pr l en ({ frames := 2, cells := 0, slots := 0, locals := 51 } : Room) st mi ([.ref (a (100)), .int (nI (p)), .int (nI (k)), .int (nI (n))] : List Value).toArray bl me co H locs 0 0 (MQ bl (va_Qi (fun r R' => r = rsn M p k n ∧ R' = R) (cB D g lv a) (rA lv a st.heap.size)) ([.ref (a (100)), .int (nI (p)), .int (nI (k)), .int (nI (n))] : List Value).toArray st 0 0 (rA lv a st.heap.size)) (F0 mi 15 ls []) := by
      intro fuel15
      induction fuel15 with
      | zero => intro i H locs ls hmu; exact absurd hmu (Nat.not_lt_zero _)
      | succ fuel15 ih15 =>
        intro i H locs ls hmu15 hi hsa hc hl
        refine lv_iload hx hb dX4_reason_15 (lv_at hl 4 rfl) ?_
        refine lv_iload_n hx hb dX4_reason_17 rfl (lv_at hl 3 rfl) ?_
        refine lv_icmp_ge (tgt := 62) hx hb dX4_reason_18 (by decide) (fun hq_2 => ?_) (fun hq_2 => ?_)
        · have hq_2 : n ≤ i := (nI_leI (a := n) (b := i) (by omega) (by omega)).mp hq_2
          have hsa9 : ¬ sAll M p k n = false := by rw [← show i = n by omega, hsa]; decide
          refine lv_aload_n hx hb dX4_reason_62 rfl (lv_at hl 0 rfl) ?_
          refine lv_iload_n hx hb dX4_reason_63 rfl (lv_at hl 1 rfl) ?_
          refine lv_aload_n hx hb dX4_reason_64 rfl (lv_at hl 0 rfl) ?_
          refine r_get (C := RX4) (T := TX4) (N := 33) (v := .ref (a (118))) hx hb hts hown hK.1 hc (hlv _ rfl) (rfl) rfl rfl hinX4 18 (by decide) hf_49 (fun _ h9 => h9) (congrArg va_rf (hmr.2 18 rfl)) dX4_reason_65 ?_
          refine lv_iload_n hx hb dX4_reason_68 rfl (lv_at hl 1 rfl) ?_
          refine r_iald (v := nI (pn M p)) hx hb hK.1 hc (hlv _ rfl) (rfl) (by decide) (by omega) dX4_reason_69 ((hM.2.2.2.2.1 _ (by omega)).1) ?_
          refine r_calli hc hA (va_runV (As := [.int (nI (p)), .int (nI (pn M p))]) (rest := []) ⟨hx, hb, hml, hown, hts⟩ (c_X4_heightOf l D g lv a R M hmr hM hI p (pn M p) hp (Nat.le_refl _) _) (cwV 2 hts gX4_reason_X4_heightOf rfl rfl rfl (by decide +kernel) ⟨Nat.le_of_ble_eq_true rfl, Nat.le_of_ble_eq_true rfl⟩) (r_preV hK hZ hc hA (hlv _ rfl) (rfl) rfl) rfl rfl hl.1 rfl (lv_room (Nat.le_of_ble_eq_true rfl)) dX4_reason_70 ⟨Nat.le_of_ble_eq_true rfl, Nat.le_of_ble_eq_true rfl⟩) (fun r R' H locs hp hc => ?_)
          obtain ⟨hre, hRe⟩ := hp
          rw [hRe] at hc
          rw [hre]
          refine lv_aload_n hx hb dX4_reason_73 rfl (lv_at hl 0 rfl) ?_
          refine r_get (C := RX4) (T := TX4) (N := 33) (v := .ref (a (108))) hx hb hts hown hK.1 hc (hlv _ rfl) (rfl) rfl rfl hinX4 8 (by decide) hf_16 (fun _ h9 => h9) (congrArg va_rf (hmr.2 8 rfl)) dX4_reason_74 ?_
          refine lv_iload_n hx hb dX4_reason_77 rfl (lv_at hl 2 rfl) ?_
          refine r_iald (v := nI (kh M k)) hx hb hK.1 hc (hlv _ rfl) (rfl) (by decide) (by omega) dX4_reason_78 ((hM.2.1 _ (by omega)).2.2.1) ?_
          refine nv_iadd hx hb dX4_reason_79 ?_
          refine lv_aload_n hx hb dX4_reason_80 rfl (lv_at hl 0 rfl) ?_
          refine r_get (C := RX4) (T := TX4) (N := 33) (v := .int (nI (mdo M))) hx hb hts hown hK.1 hc (hlv _ rfl) (rfl) rfl rfl hinX4 16 (by decide) hf_43 (fun _ h9 => h9) (congrArg Value.int hM.1.2.2.2.2.2.2.1) dX4_reason_81 ?_
          refine lv_icmp_le (tgt := 90) hx hb dX4_reason_84 (by decide) (fun hq_5 => ?_) (fun hq_5 => ?_)
          · have hq_5 : ((hS M p (pn M p)) + (kh M k)) ≤ (mdo M) := (nI_leI (a := ((hS M p (pn M p)) + (kh M k))) (b := (mdo M)) (by omega) (by omega)).mp hq_5
            have hdr : ¬ mdo M < hS M p (pn M p) + kh M k := by omega
            refine lv_aload_n hx hb dX4_reason_90 rfl (lv_at hl 0 rfl) ?_
            refine lv_iload_n hx hb dX4_reason_91 rfl (lv_at hl 1 rfl) ?_
            refine r_calli hc hA (va_runV (As := [.int (nI (p))]) (rest := []) ⟨hx, hb, hml, hown, hts⟩ (c_X4_weightOf l D g lv a R M hmr hM hI p hp _) (cwV 1 hts gX4_reason_X4_weightOf rfl rfl rfl (by decide +kernel) ⟨Nat.le_of_ble_eq_true rfl, Nat.le_of_ble_eq_true rfl⟩) (r_preV hK hZ hc hA (hlv _ rfl) (rfl) rfl) rfl rfl hl.1 rfl (lv_room (Nat.le_of_ble_eq_true rfl)) dX4_reason_92 ⟨Nat.le_of_ble_eq_true rfl, Nat.le_of_ble_eq_true rfl⟩) (fun r R' H locs hp hc => ?_)
            obtain ⟨hre, hRe⟩ := hp
            rw [hRe] at hc
            rw [hre]
            refine lv_iload_n hx hb dX4_reason_95 rfl (lv_at hl 3 rfl) ?_
            refine lv_aload_n hx hb dX4_reason_96 rfl (lv_at hl 0 rfl) ?_
            refine r_get (C := RX4) (T := TX4) (N := 33) (v := .ref (a (109))) hx hb hts hown hK.1 hc (hlv _ rfl) (rfl) rfl rfl hinX4 9 (by decide) hf_19 (fun _ h9 => h9) (congrArg va_rf (hmr.2 9 rfl)) dX4_reason_97 ?_
            refine lv_iload_n hx hb dX4_reason_100 rfl (lv_at hl 2 rfl) ?_
            refine r_iald (v := nI (kq M k)) hx hb hK.1 hc (hlv _ rfl) (rfl) (by decide) (by omega) dX4_reason_101 ((hM.2.1 _ (by omega)).2.2.2.1) ?_
            refine nv_imul hx hb dX4_reason_102 ?_
            refine nv_iadd hx hb dX4_reason_103 ?_
            refine lv_aload_n hx hb dX4_reason_104 rfl (lv_at hl 0 rfl) ?_
            refine r_get (C := RX4) (T := TX4) (N := 33) (v := .int (nI (mlo M))) hx hb hts hown hK.1 hc (hlv _ rfl) (rfl) rfl rfl hinX4 17 (by decide) hf_46 (fun _ h9 => h9) (congrArg Value.int hM.1.2.2.2.2.2.2.2.1) dX4_reason_105 ?_
            refine lv_icmp_le (tgt := 116) hx hb dX4_reason_108 (by decide) (fun hq_8 => ?_) (fun hq_8 => ?_)
            · have hq_8 : ((wS M p (pn M p)) + (n * (kq M k))) ≤ (mlo M) := (nI_leI (a := ((wS M p (pn M p)) + (n * (kq M k)))) (b := (mlo M)) (by have h9 : n * kq M k ≤ 600 * 100 := Nat.mul_le_mul hn hk9.2.2.2.2.2.2.1; omega) (by have h9 : n * kq M k ≤ 600 * 100 := Nat.mul_le_mul hn hk9.2.2.2.2.2.2.1; omega)).mp hq_8
              have hld : ¬ mlo M < wS M p (pn M p) + n * kq M k := by omega
              refine lv_iconst (v := nI (0)) hx hb dX4_reason_116 (by decide) ?_
              exact r_iret hx hb hr hlocks hc dX4_reason_117 ⟨by rw [rsn, if_neg hkn, if_neg hsa9, if_neg hdr, if_neg hld], rfl⟩
            · have hq_8 : ¬ (((wS M p (pn M p)) + (n * (kq M k))) ≤ (mlo M)) := fun z => hq_8 ((nI_leI (a := ((wS M p (pn M p)) + (n * (kq M k)))) (b := (mlo M)) (by have h9 : n * kq M k ≤ 600 * 100 := Nat.mul_le_mul hn hk9.2.2.2.2.2.2.1; omega) (by have h9 : n * kq M k ≤ 600 * 100 := Nat.mul_le_mul hn hk9.2.2.2.2.2.2.1; omega)).mpr z)
              have hld : mlo M < wS M p (pn M p) + n * kq M k := by omega
              refine lv_bipush (v := (-4)) hx hb dX4_reason_111 (by decide) ?_
              refine lv_goto (tgt := 117) hx hb dX4_reason_113 (by decide) ?_
              exact r_iret hx hb hr hlocks hc dX4_reason_117 ⟨by rw [rsn, if_neg hkn, if_neg hsa9, if_neg hdr, if_pos hld], rfl⟩
          · have hq_5 : ¬ (((hS M p (pn M p)) + (kh M k)) ≤ (mdo M)) := fun z => hq_5 ((nI_leI (a := ((hS M p (pn M p)) + (kh M k))) (b := (mdo M)) (by omega) (by omega)).mpr z)
            have hdr : mdo M < hS M p (pn M p) + kh M k := by omega
            refine lv_bipush (v := (-3)) hx hb dX4_reason_87 (by decide) ?_
            exact r_iret hx hb hr hlocks hc dX4_reason_89 ⟨by rw [rsn, if_neg hkn, if_neg hsa9, if_pos hdr], rfl⟩
        · have hq_2 : ¬ (n ≤ i) := fun z => hq_2 ((nI_leI (a := n) (b := i) (by omega) (by omega)).mpr z)
          refine lv_bipush (v := nI (100)) hx hb dX4_reason_21 (by decide) ?_
          refine lv_aload_n hx hb dX4_reason_23 rfl (lv_at hl 0 rfl) ?_
          refine lv_iload_n hx hb dX4_reason_24 rfl (lv_at hl 2 rfl) ?_
          refine lv_iload hx hb dX4_reason_25 (lv_at hl 4 rfl) ?_
          refine lv_iload_n hx hb dX4_reason_27 rfl (lv_at hl 1 rfl) ?_
          refine lv_aload_n hx hb dX4_reason_28 rfl (lv_at hl 0 rfl) ?_
          refine r_get (C := RX4) (T := TX4) (N := 33) (v := .ref (a (118))) hx hb hts hown hK.1 hc (hlv _ rfl) (rfl) rfl rfl hinX4 18 (by decide) hf_49 (fun _ h9 => h9) (congrArg va_rf (hmr.2 18 rfl)) dX4_reason_29 ?_
          refine lv_iload_n hx hb dX4_reason_32 rfl (lv_at hl 1 rfl) ?_
          refine r_iald (v := nI (pn M p)) hx hb hK.1 hc (hlv _ rfl) (rfl) (by decide) (by omega) dX4_reason_33 ((hM.2.2.2.2.1 _ (by omega)).1) ?_
          refine lv_iconst (v := nI (1)) hx hb dX4_reason_34 (by decide) ?_
          refine lv_isub hx hb dX4_reason_35 ?_
          refine r_calli hc hA (va_runV (As := [.int (nI (k)), .int (nI (i)), .int (nI (p)), .int (nI (pn M p) - nI 1)]) (rest := [.int (nI (100))]) ⟨hx, hb, hml, hown, hts⟩ (c_X4_supportOf l D g lv a R M hmr hM hI k i p (pn M p) hk (by omega) hp (Nat.le_refl _) _) (cwV 4 hts gX4_reason_X4_supportOf rfl rfl rfl (by decide +kernel) ⟨Nat.le_of_ble_eq_true rfl, Nat.le_of_ble_eq_true rfl⟩) (r_preV hK hZ hc hA (hlv _ rfl) (rfl) rfl) rfl rfl hl.1 rfl (lv_room (Nat.le_of_ble_eq_true rfl)) dX4_reason_36 ⟨Nat.le_of_ble_eq_true rfl, Nat.le_of_ble_eq_true rfl⟩) (fun r R' H locs hp hc => ?_)
          obtain ⟨hre, hRe⟩ := hp
          rw [hRe] at hc
          rw [hre]
          have hsl := spt_le (i := i) hI hk hp (Nat.le_refl _)
          refine nv_imul hx hb dX4_reason_39 ?_
          refine lv_aload_n hx hb dX4_reason_40 rfl (lv_at hl 0 rfl) ?_
          refine r_get (C := RX4) (T := TX4) (N := 33) (v := .int (nI (msh M))) hx hb hts hown hK.1 hc (hlv _ rfl) (rfl) rfl rfl hinX4 15 (by decide) hf_39 (fun _ h9 => h9) (congrArg Value.int hM.1.2.2.2.2.2.1) dX4_reason_41 ?_
          refine lv_aload_n hx hb dX4_reason_44 rfl (lv_at hl 0 rfl) ?_
          refine lv_iload_n hx hb dX4_reason_45 rfl (lv_at hl 2 rfl) ?_
          refine r_calli hc hA (va_runV (As := [.int (nI (k))]) (rest := [.int (nI (msh M)), .int (nI (100 * (spt M k i p (pn M p))))]) ⟨hx, hb, hml, hown, hts⟩ (c_X4_areaOf l D g lv a R M hmr (pk_of hM) hI k hk _) (cwV 1 hts gX4_reason_X4_areaOf rfl rfl rfl (by decide +kernel) ⟨Nat.le_of_ble_eq_true rfl, Nat.le_of_ble_eq_true rfl⟩) (r_preV hK hZ hc hA (hlv _ rfl) (rfl) rfl) rfl rfl hl.1 rfl (lv_room (Nat.le_of_ble_eq_true rfl)) dX4_reason_46 ⟨Nat.le_of_ble_eq_true rfl, Nat.le_of_ble_eq_true rfl⟩) (fun r R' H locs hp hc => ?_)
          obtain ⟨hre, hRe⟩ := hp
          rw [hRe] at hc
          rw [hre]
          refine nv_imul hx hb dX4_reason_49 ?_
          refine lv_icmp_ge (tgt := 56) hx hb dX4_reason_50 (by decide) (fun hq_13 => ?_) (fun hq_13 => ?_)
          · have hq_13 : ((msh M) * (kw M k * kd M k)) ≤ (100 * (spt M k i p (pn M p))) := (nI_leI (a := ((msh M) * (kw M k * kd M k))) (b := (100 * (spt M k i p (pn M p)))) (by have h9 : msh M * (kw M k * kd M k) ≤ 100 * 36 := Nat.mul_le_mul hb9.2.2.2.2.2.2.2.1 har.2; omega) (by have h9 : msh M * (kw M k * kd M k) ≤ 100 * 36 := Nat.mul_le_mul hb9.2.2.2.2.2.2.2.1 har.2; omega)).mp hq_13
            have hsp : msh M * (kw M k * kd M k) ≤ 100 * spt M k i p (pn M p) := hq_13
            refine lv_iinc (v := nI (i + 1)) (lv' := [(4, .int (nI (i + 1))), (0, .ref (a (100))), (1, .int (nI (p))), (2, .int (nI (k))), (3, .int (nI (n)))]) hx hb dX4_reason_56 hl (k := 4) rfl (nI_inc _ 1) (by decide) rfl (fun ls hl => ?_)
            refine lv_goto (tgt := 15) hx hb dX4_reason_59 (by decide) ?_
            exact ih15 (i + 1) _ _ ls (by omega) (by omega) (by simp only [sAll, hsa, Bool.true_and]; exact decide_eq_true hsp) hc (lv_sub hl [1, 2, 3, 4, 0] rfl)
          · have hq_13 : ¬ (((msh M) * (kw M k * kd M k)) ≤ (100 * (spt M k i p (pn M p)))) := fun z => hq_13 ((nI_leI (a := ((msh M) * (kw M k * kd M k))) (b := (100 * (spt M k i p (pn M p)))) (by have h9 : msh M * (kw M k * kd M k) ≤ 100 * 36 := Nat.mul_le_mul hb9.2.2.2.2.2.2.2.1 har.2; omega) (by have h9 : msh M * (kw M k * kd M k) ≤ 100 * 36 := Nat.mul_le_mul hb9.2.2.2.2.2.2.2.1 har.2; omega)).mpr z)
            have hsp : ¬ msh M * (kw M k * kd M k) ≤ 100 * spt M k i p (pn M p) := hq_13
            refine lv_bipush (v := (-2)) hx hb dX4_reason_53 (by decide) ?_
            exact r_iret hx hb hr hlocks hc dX4_reason_55 ⟨by rw [rsn, if_neg hkn, if_pos (sAll_mono (i := i + 1) (by omega) (by simp only [sAll, decide_eq_false hsp, Bool.and_false]))], rfl⟩
    exact loop15 (n + 1) 0 _ _ ls (by omega) (Nat.zero_le _) rfl hc (lv_sub hl [1, 2, 3, 4, 0] rfl)
  · have hq_1 : ¬ (n ≤ (kb M k)) := fun z => hq_1 ((nI_leI (a := n) (b := (kb M k)) (by omega) (by omega)).mpr z)
    have hkn : kb M k < n := by omega
    refine lv_iconst (v := (-1)) hx hb dX4_reason_10 (by decide) ?_
    exact r_iret hx hb hr hlocks hc dX4_reason_11 ⟨by rw [rsn, if_pos hkn], rfl⟩
set_option maxRecDepth 100000 in
set_option maxHeartbeats 4000000 in
theorem c_X4_put (l : Launch) (D : va_G) (g : Nat → ClassId) (lv : Nat → Bool) (a : Nat → Nat) (R : RS) (M : MS) (hmr : PMr R a lv) (hM : PM R M) (hI : Inv M) (x y z : Int32) : cI l D g lv a yX4_put wsX4_put ({ frames := 3, cells := 0, slots := 0, locals := 75 } : Room) [.ref (a (100)), .int (x), .int (y), .int (z)] R (QM R (oPut M x y z)) 0 0 := by
  refine c_body (cc := cX4_put) (maxL := 5) (ret := (some .int)) (by decide) rfl (Nat.le_of_ble_eq_true rfl) ?_
  intro pr en st mi bl me co ls B hl
  obtain ⟨hx, hb, hr, hml, hown, hts, hlocks, hnm, hK, hZ, hc, hA⟩ := B
  have hl : lv_has ls 5 [(0, .ref (a (100))), (1, .int (x)), (2, .int (y)), (3, .int (z))] := hl
  have hinX4 : ∀ w ∈ u_ws RX4 TX4 33, w ∈ wsX4_put := (fun _ h => List.mem_cons_of_mem _ (List.mem_append_left _ (List.mem_append_right _ h)))
  have hf_49 := hts (.fieldLink RX4 49 "PalletLayersModel" "layers" "[I") (by decide +kernel)
  have hf_58 := hts (.fieldLink RX4 58 "PalletLayersModel" "stop" "[I") (by decide +kernel)
  have hf_89 := hts (.fieldLink RX4 89 "PalletLayersModel" "thrown" "I") (by decide +kernel)
  have hlv := hmr.1
  have hb9 := iv_b hI
  refine lv_aload_n hx hb dX4_put_0 rfl (lv_at hl 0 rfl) ?_
  refine lv_aload_n hx hb dX4_put_1 rfl (lv_at hl 0 rfl) ?_
  refine lv_iload_n hx hb dX4_put_2 rfl (lv_at hl 1 rfl) ?_
  refine r_calli hc hA (va_runV (As := [.int (x)]) (rest := [.ref (a (100))]) ⟨hx, hb, hml, hown, hts⟩ (c_X4_isPallet l D g lv a R M hmr hM hI x _) (cwV 1 hts gX4_put_X4_isPallet rfl rfl rfl (by decide +kernel) ⟨Nat.le_of_ble_eq_true rfl, Nat.le_of_ble_eq_true rfl⟩) (r_preV hK hZ hc hA (hlv _ rfl) (rfl) rfl) rfl rfl hl.1 rfl (lv_room (Nat.le_of_ble_eq_true rfl)) dX4_put_3 ⟨Nat.le_of_ble_eq_true rfl, Nat.le_of_ble_eq_true rfl⟩) (fun r R' H locs hp hc => ?_)
  obtain ⟨hRe, ⟨hw3, rfl⟩ | ⟨hw3, rfl⟩⟩ := hp
  · rw [hRe] at hc
    obtain ⟨p, hp, hp9, rfl⟩ := isN_ex hw3
    refine lv_if_eq (tgt := 17) hx hb dX4_put_6 (by decide) (fun hq_3 => absurd hq_3 (by decide)) (fun hq_3 => ?_)
    refine lv_aload_n hx hb dX4_put_9 rfl (lv_at hl 0 rfl) ?_
    refine lv_iload_n hx hb dX4_put_10 rfl (lv_at hl 2 rfl) ?_
    refine r_calli hc hA (va_runV (As := [.int (y)]) (rest := [.ref (a (100))]) ⟨hx, hb, hml, hown, hts⟩ (c_X4_isKind l D g lv a R M hmr hM hI y _) (cwV 1 hts gX4_put_X4_isKind rfl rfl rfl (by decide +kernel) ⟨Nat.le_of_ble_eq_true rfl, Nat.le_of_ble_eq_true rfl⟩) (r_preV hK hZ hc hA (hlv _ rfl) (rfl) rfl) rfl rfl hl.1 rfl (lv_room (Nat.le_of_ble_eq_true rfl)) dX4_put_11 ⟨Nat.le_of_ble_eq_true rfl, Nat.le_of_ble_eq_true rfl⟩) (fun r R' H locs hp hc => ?_)
    obtain ⟨hRe, ⟨hw11, rfl⟩ | ⟨hw11, rfl⟩⟩ := hp
    · rw [hRe] at hc
      obtain ⟨k, hk, hk9, rfl⟩ := isN_ex hw11
      refine lv_if_ne (tgt := 21) hx hb dX4_put_14 (by decide) (fun hq_6 => ?_) (fun hq_6 => absurd hq_6 (by decide))
      refine lv_iload_n hx hb dX4_put_21 rfl (lv_at hl 3 rfl) ?_
      refine lv_iconst (v := nI (1)) hx hb dX4_put_22 (by decide) ?_
      refine lv_bipush (v := nI (100)) hx hb dX4_put_23 (by decide) ?_
      refine r_calli hc hA (va_runS (As := [.int (z), .int (nI (1)), .int (nI (100))]) (rest := [.ref (a (100))]) ⟨hx, hb, hml, hown, hts⟩ (c_X4_within l D g lv a R z (nI (1)) (nI (100)) _) (va_cwS 3 hts gX4_put_X4_within rfl rfl rfl (by decide +kernel) ⟨Nat.le_of_ble_eq_true rfl, Nat.le_of_ble_eq_true rfl⟩) (r_preS hK hZ hc hA) rfl rfl hl.1 rfl (lv_room (Nat.le_of_ble_eq_true rfl)) dX4_put_25 ⟨Nat.le_of_ble_eq_true rfl, Nat.le_of_ble_eq_true rfl⟩) (fun r R' H locs hp hc => ?_)
      obtain ⟨hRe, ⟨hw25, rfl⟩ | ⟨hw25, rfl⟩⟩ := hp
      · rw [hRe] at hc
        rw [w_iff (by decide) (by decide)] at hw25
        refine lv_if_ne (tgt := 35) hx hb dX4_put_28 (by decide) (fun hq_9 => ?_) (fun hq_9 => absurd hq_9 (by decide))
        have hp8 := iv_p hI hp
        refine lv_aload_n hx hb dX4_put_35 rfl (lv_at hl 0 rfl) ?_
        refine r_get (C := RX4) (T := TX4) (N := 33) (v := .ref (a (121))) hx hb hts hown hK.1 hc (hlv _ rfl) (rfl) rfl rfl hinX4 21 (by decide) hf_58 (fun _ h9 => h9) (congrArg va_rf (hmr.2 21 rfl)) dX4_put_36 ?_
        refine lv_iload_n hx hb dX4_put_39 rfl (lv_at hl 1 rfl) ?_
        refine r_iald (v := stI (ps M p)) hx hb hK.1 hc (hlv _ rfl) (rfl) (by decide) (by omega) dX4_put_40 ((hM.2.2.2.2.1 _ (by omega)).2) ?_
        refine lv_iconst (v := (-1)) hx hb dX4_put_41 (by decide) ?_
        refine lv_icmp_eq (tgt := 49) hx hb dX4_put_42 (by decide) (fun hq_10 => ?_) (fun hq_10 => ?_)
        · have hs : ps M p = 0 := stI_0 (by omega) hq_10
          refine lv_aload_n hx hb dX4_put_49 rfl (lv_at hl 0 rfl) ?_
          refine r_get (C := RX4) (T := TX4) (N := 33) (v := .ref (a (118))) hx hb hts hown hK.1 hc (hlv _ rfl) (rfl) rfl rfl hinX4 18 (by decide) hf_49 (fun _ h9 => h9) (congrArg va_rf (hmr.2 18 rfl)) dX4_put_50 ?_
          refine lv_iload_n hx hb dX4_put_53 rfl (lv_at hl 1 rfl) ?_
          refine r_iald (v := nI (pn M p)) hx hb hK.1 hc (hlv _ rfl) (rfl) (by decide) (by omega) dX4_put_54 ((hM.2.2.2.2.1 _ (by omega)).1) ?_
          refine lv_bipush (v := nI (10)) hx hb dX4_put_55 (by decide) ?_
          refine lv_icmp_ne (tgt := 64) hx hb dX4_put_57 (by decide) (fun hq_11 => ?_) (fun hq_11 => ?_)
          · have hq_11 : ¬ ((pn M p) = 10) := fun z => hq_11 ((nI_eq (a := (pn M p)) (b := 10) (by omega) (by omega)).mpr z)
            have hn10 : ¬ pn M p = 10 := hq_11
            refine lv_iconst (v := nI (0)) hx hb dX4_put_64 (by decide) ?_
            refine r_put (C := RX4) (T := TX4) (N := 33) (R' := sfi R 100 5 (nI (0))) hx hb hts hown hK.1 hc (hlv _ rfl) (rfl) rfl rfl hinX4 tyX4 tyX4_ok nmX4 5 (by decide) hf_89 (fun _ h9 => h9) rfl (tyX4_ok 5 (by decide)) rfl rfl dX4_put_65 (fds_sfi (by decide) (by decide)) (fun _ h9 => ct_sfi h9) (fun H locs hc => ?_)
            refine lv_aload_n hx hb dX4_put_68 rfl (lv_at hl 0 rfl) ?_
            refine r_get (C := RX4) (T := TX4) (N := 33) (v := .int (nI (0))) hx hb hts hown hK.1 hc (hlv _ rfl) (rfl) rfl rfl hinX4 5 (by decide) hf_89 (fun _ h9 => h9) rfl dX4_put_69 ?_
            refine lv_if_eq (tgt := 77) hx hb dX4_put_72 (by decide) (fun hq_12 => ?_) (fun hq_12 => absurd hq_12 (by decide))
            obtain ⟨v, hv0, hv1, hv2, rfl⟩ := isR_ex hw25
            refine lv_aload_n hx hb dX4_put_77 rfl (lv_at hl 0 rfl) ?_
            refine lv_iload_n hx hb dX4_put_78 rfl (lv_at hl 1 rfl) ?_
            refine lv_iload_n hx hb dX4_put_79 rfl (lv_at hl 2 rfl) ?_
            refine lv_iload_n hx hb dX4_put_80 rfl (lv_at hl 3 rfl) ?_
            refine r_calli hc hA (va_runV (As := [.int (nI (p)), .int (nI (k)), .int (nI (v))]) (rest := []) ⟨hx, hb, hml, hown, hts⟩ (c_X4_reason l D g lv a (sfi R 100 5 (nI (0))) M hmr (pm_th hM) hI p k v hp hk (by omega) _) (cwV 3 hts gX4_put_X4_reason rfl rfl rfl (by decide +kernel) ⟨Nat.le_of_ble_eq_true rfl, Nat.le_of_ble_eq_true rfl⟩) (r_preV hK hZ hc hA (hlv _ rfl) (rfl) rfl) rfl rfl hl.1 rfl (lv_room (Nat.le_of_ble_eq_true rfl)) dX4_put_81 ⟨Nat.le_of_ble_eq_true rfl, Nat.le_of_ble_eq_true rfl⟩) (fun r R' H locs hp hc => ?_)
            obtain ⟨hre, hRe⟩ := hp
            rw [hRe] at hc
            rw [hre]
            refine lv_istore (lv' := [(4, .int (rsn M p k v)), (0, .ref (a (100))), (1, .int (nI (p))), (2, .int (nI (k))), (3, .int (nI (v)))]) hx hb dX4_put_84 hl (by decide) rfl (fun ls hl => ?_)
            refine lv_iload hx hb dX4_put_86 (lv_at hl 0 rfl) ?_
            refine lv_if_eq (tgt := 94) hx hb dX4_put_88 (by decide) (fun hq_15 => ?_) (fun hq_15 => ?_)
            · have hrs : rsn M p k v = nI 0 := hq_15
              refine lv_aload_n hx hb dX4_put_94 rfl (lv_at hl 1 rfl) ?_
              refine lv_iload_n hx hb dX4_put_95 rfl (lv_at hl 2 rfl) ?_
              refine lv_iload_n hx hb dX4_put_96 rfl (lv_at hl 3 rfl) ?_
              refine lv_iload_n hx hb dX4_put_97 rfl (lv_at hl 4 rfl) ?_
              refine r_callv hc hA (va_runV (As := [.int (nI (p)), .int (nI (k)), .int (nI (v))]) (rest := []) ⟨hx, hb, hml, hown, hts⟩ (c_X4_add l D g lv a (sfi R 100 5 (nI (0))) M hmr (pm_th hM) hI p k v hp (by omega) _) (cwV 3 hts gX4_put_X4_add rfl rfl rfl (by decide +kernel) ⟨Nat.le_of_ble_eq_true rfl, Nat.le_of_ble_eq_true rfl⟩) (r_preV hK hZ hc hA (hlv _ rfl) (rfl) rfl) rfl rfl hl.1 rfl (lv_room (Nat.le_of_ble_eq_true rfl)) dX4_put_98 ⟨Nat.le_of_ble_eq_true rfl, Nat.le_of_ble_eq_true rfl⟩) (fun R' H locs hp hc => ?_)
              obtain ⟨hpm, hpo, hpt⟩ := hp
              refine lv_aload_n hx hb dX4_put_101 rfl (lv_at hl 1 rfl) ?_
              refine r_get (C := RX4) (T := TX4) (N := 33) (v := .ref (a (118))) hx hb hts hown hK.1 hc (hlv _ rfl) (rfl) rfl rfl hinX4 18 (by decide) hf_49 (fun _ h9 => h9) (congrArg va_rf ((hpo.2 18).trans (hmr.2 18 rfl))) dX4_put_102 ?_
              refine lv_iload_n hx hb dX4_put_105 rfl (lv_at hl 2 rfl) ?_
              refine r_iald (v := nI (pn M p + 1)) hx hb hK.1 hc (hlv _ rfl) (rfl) (by decide) (by omega) dX4_put_106 ((hpm.2.2.2.2.1 _ hp).1.trans (by simp [nAdd, mup])) ?_
              exact r_iret hx hb hr hlocks hc dX4_put_107 (by
      have hq9 : oPut M (nI p) (nI k) (nI v) = (0, nI (pn M p + 1), nAdd M p k v) := by rw [oPut, if_pos ⟨hw3, hw11⟩, if_pos hw25, tN_nI hp9, tN_nI hk9, tN_nI hv2, if_pos hs, if_neg hn10, if_pos hrs]
      unfold QM; rw [hq9]
      exact ⟨rfl, hpt, hpm, ((outM.r _).sfi (by decide)).trans hpo⟩)
            · have hrs : ¬ rsn M p k v = nI 0 := hq_15
              refine lv_iload hx hb dX4_put_91 (lv_at hl 0 rfl) ?_
              exact r_iret hx hb hr hlocks hc dX4_put_93 (by
      have hq9 : oPut M (nI p) (nI k) (nI v) = (0, rsn M p k v, M) := by rw [oPut, if_pos ⟨hw3, hw11⟩, if_pos hw25, tN_nI hp9, tN_nI hk9, tN_nI hv2, if_pos hs, if_neg hn10, if_neg hrs]
      unfold QM; rw [hq9]
      exact ⟨rfl, rfl, pm_th hM, ((outM.r _).sfi (by decide))⟩)
          · have hq_11 : (pn M p) = 10 := (nI_eq (a := (pn M p)) (b := 10) (by omega) (by omega)).mp hq_11
            have hn10 : pn M p = 10 := hq_11
            refine lv_iconst (v := nI (4)) hx hb dX4_put_60 (by decide) ?_
            refine lv_goto (tgt := 65) hx hb dX4_put_61 (by decide) ?_
            refine r_put (C := RX4) (T := TX4) (N := 33) (R' := sfi R 100 5 (nI (4))) hx hb hts hown hK.1 hc (hlv _ rfl) (rfl) rfl rfl hinX4 tyX4 tyX4_ok nmX4 5 (by decide) hf_89 (fun _ h9 => h9) rfl (tyX4_ok 5 (by decide)) rfl rfl dX4_put_65 (fds_sfi (by decide) (by decide)) (fun _ h9 => ct_sfi h9) (fun H locs hc => ?_)
            refine lv_aload_n hx hb dX4_put_68 rfl (lv_at hl 0 rfl) ?_
            refine r_get (C := RX4) (T := TX4) (N := 33) (v := .int (nI (4))) hx hb hts hown hK.1 hc (hlv _ rfl) (rfl) rfl rfl hinX4 5 (by decide) hf_89 (fun _ h9 => h9) rfl dX4_put_69 ?_
            refine lv_if_eq (tgt := 77) hx hb dX4_put_72 (by decide) (fun hq_18 => absurd hq_18 (by decide)) (fun hq_18 => ?_)
            refine lv_iconst (v := nI (0)) hx hb dX4_put_75 (by decide) ?_
            exact r_iret hx hb hr hlocks hc dX4_put_76 (by
      have hq9 : oPut M (nI p) (nI k) z = (4, nI 0, M) := by rw [oPut, if_pos ⟨hw3, hw11⟩, if_pos hw25, tN_nI hp9, if_pos hs, if_pos hn10]
      unfold QM; rw [hq9]
      exact ⟨rfl, rfl, pm_th hM, ((outM.r _).sfi (by decide))⟩)
        · have hs : ¬ ps M p = 0 := fun z => hq_10 (by rw [z]; rfl)
          refine lv_iconst (v := nI (3)) hx hb dX4_put_45 (by decide) ?_
          refine lv_goto (tgt := 65) hx hb dX4_put_46 (by decide) ?_
          refine r_put (C := RX4) (T := TX4) (N := 33) (R' := sfi R 100 5 (nI (3))) hx hb hts hown hK.1 hc (hlv _ rfl) (rfl) rfl rfl hinX4 tyX4 tyX4_ok nmX4 5 (by decide) hf_89 (fun _ h9 => h9) rfl (tyX4_ok 5 (by decide)) rfl rfl dX4_put_65 (fds_sfi (by decide) (by decide)) (fun _ h9 => ct_sfi h9) (fun H locs hc => ?_)
          refine lv_aload_n hx hb dX4_put_68 rfl (lv_at hl 0 rfl) ?_
          refine r_get (C := RX4) (T := TX4) (N := 33) (v := .int (nI (3))) hx hb hts hown hK.1 hc (hlv _ rfl) (rfl) rfl rfl hinX4 5 (by decide) hf_89 (fun _ h9 => h9) rfl dX4_put_69 ?_
          refine lv_if_eq (tgt := 77) hx hb dX4_put_72 (by decide) (fun hq_19 => absurd hq_19 (by decide)) (fun hq_19 => ?_)
          refine lv_iconst (v := nI (0)) hx hb dX4_put_75 (by decide) ?_
          exact r_iret hx hb hr hlocks hc dX4_put_76 (by
      have hq9 : oPut M (nI p) (nI k) z = (3, nI 0, M) := by rw [oPut, if_pos ⟨hw3, hw11⟩, if_pos hw25, tN_nI hp9, if_neg hs]
      unfold QM; rw [hq9]
      exact ⟨rfl, rfl, pm_th hM, ((outM.r _).sfi (by decide))⟩)
      · rw [hRe] at hc
        rw [w_iff (by decide) (by decide)] at hw25
        refine lv_if_ne (tgt := 35) hx hb dX4_put_28 (by decide) (fun hq_20 => absurd hq_20 (by decide)) (fun hq_20 => ?_)
        refine lv_iconst (v := nI (2)) hx hb dX4_put_31 (by decide) ?_
        refine lv_goto (tgt := 65) hx hb dX4_put_32 (by decide) ?_
        refine r_put (C := RX4) (T := TX4) (N := 33) (R' := sfi R 100 5 (nI (2))) hx hb hts hown hK.1 hc (hlv _ rfl) (rfl) rfl rfl hinX4 tyX4 tyX4_ok nmX4 5 (by decide) hf_89 (fun _ h9 => h9) rfl (tyX4_ok 5 (by decide)) rfl rfl dX4_put_65 (fds_sfi (by decide) (by decide)) (fun _ h9 => ct_sfi h9) (fun H locs hc => ?_)
        refine lv_aload_n hx hb dX4_put_68 rfl (lv_at hl 0 rfl) ?_
        refine r_get (C := RX4) (T := TX4) (N := 33) (v := .int (nI (2))) hx hb hts hown hK.1 hc (hlv _ rfl) (rfl) rfl rfl hinX4 5 (by decide) hf_89 (fun _ h9 => h9) rfl dX4_put_69 ?_
        refine lv_if_eq (tgt := 77) hx hb dX4_put_72 (by decide) (fun hq_21 => absurd hq_21 (by decide)) (fun hq_21 => ?_)
        refine lv_iconst (v := nI (0)) hx hb dX4_put_75 (by decide) ?_
        exact r_iret hx hb hr hlocks hc dX4_put_76 (by
      have hq9 : oPut M (nI p) (nI k) z = (2, nI 0, M) := by rw [oPut, if_pos ⟨hw3, hw11⟩, if_neg hw25]
      unfold QM; rw [hq9]
      exact ⟨rfl, rfl, pm_th hM, ((outM.r _).sfi (by decide))⟩)
    · rw [hRe] at hc
      refine lv_if_ne (tgt := 21) hx hb dX4_put_14 (by decide) (fun hq_22 => absurd hq_22 (by decide)) (fun hq_22 => ?_)
      refine lv_iconst (v := nI (1)) hx hb dX4_put_17 (by decide) ?_
      refine lv_goto (tgt := 65) hx hb dX4_put_18 (by decide) ?_
      refine r_put (C := RX4) (T := TX4) (N := 33) (R' := sfi R 100 5 (nI (1))) hx hb hts hown hK.1 hc (hlv _ rfl) (rfl) rfl rfl hinX4 tyX4 tyX4_ok nmX4 5 (by decide) hf_89 (fun _ h9 => h9) rfl (tyX4_ok 5 (by decide)) rfl rfl dX4_put_65 (fds_sfi (by decide) (by decide)) (fun _ h9 => ct_sfi h9) (fun H locs hc => ?_)
      refine lv_aload_n hx hb dX4_put_68 rfl (lv_at hl 0 rfl) ?_
      refine r_get (C := RX4) (T := TX4) (N := 33) (v := .int (nI (1))) hx hb hts hown hK.1 hc (hlv _ rfl) (rfl) rfl rfl hinX4 5 (by decide) hf_89 (fun _ h9 => h9) rfl dX4_put_69 ?_
      refine lv_if_eq (tgt := 77) hx hb dX4_put_72 (by decide) (fun hq_23 => absurd hq_23 (by decide)) (fun hq_23 => ?_)
      refine lv_iconst (v := nI (0)) hx hb dX4_put_75 (by decide) ?_
      exact r_iret hx hb hr hlocks hc dX4_put_76 (by
      have hq9 : oPut M (nI p) y z = (1, nI 0, M) := by rw [oPut, if_neg (fun h => hw11 h.2)]
      unfold QM; rw [hq9]
      exact ⟨rfl, rfl, pm_th hM, ((outM.r _).sfi (by decide))⟩)
  · rw [hRe] at hc
    refine lv_if_eq (tgt := 17) hx hb dX4_put_6 (by decide) (fun hq_24 => ?_) (fun hq_24 => absurd hq_24 (by decide))
    refine lv_iconst (v := nI (1)) hx hb dX4_put_17 (by decide) ?_
    refine lv_goto (tgt := 65) hx hb dX4_put_18 (by decide) ?_
    refine r_put (C := RX4) (T := TX4) (N := 33) (R' := sfi R 100 5 (nI (1))) hx hb hts hown hK.1 hc (hlv _ rfl) (rfl) rfl rfl hinX4 tyX4 tyX4_ok nmX4 5 (by decide) hf_89 (fun _ h9 => h9) rfl (tyX4_ok 5 (by decide)) rfl rfl dX4_put_65 (fds_sfi (by decide) (by decide)) (fun _ h9 => ct_sfi h9) (fun H locs hc => ?_)
    refine lv_aload_n hx hb dX4_put_68 rfl (lv_at hl 0 rfl) ?_
    refine r_get (C := RX4) (T := TX4) (N := 33) (v := .int (nI (1))) hx hb hts hown hK.1 hc (hlv _ rfl) (rfl) rfl rfl hinX4 5 (by decide) hf_89 (fun _ h9 => h9) rfl dX4_put_69 ?_
    refine lv_if_eq (tgt := 77) hx hb dX4_put_72 (by decide) (fun hq_25 => absurd hq_25 (by decide)) (fun hq_25 => ?_)
    refine lv_iconst (v := nI (0)) hx hb dX4_put_75 (by decide) ?_
    exact r_iret hx hb hr hlocks hc dX4_put_76 (by
      have hq9 : oPut M x y z = (1, nI 0, M) := by rw [oPut, if_neg (fun h => hw3 h.1)]
      unfold QM; rw [hq9]
      exact ⟨rfl, rfl, pm_th hM, ((outM.r _).sfi (by decide))⟩)
set_option maxRecDepth 100000 in
set_option maxHeartbeats 4000000 in
theorem c_X4_fill (l : Launch) (D : va_G) (g : Nat → ClassId) (lv : Nat → Bool) (a : Nat → Nat) (R : RS) (M : MS) (hmr : PMr R a lv) (hM : PM R M) (hI : Inv M) (x y z : Int32) : cI l D g lv a yX4_fill wsX4_fill ({ frames := 3, cells := 0, slots := 0, locals := 75 } : Room) [.ref (a (100)), .int (x), .int (y), .int (z)] R (QM R (oFill M x y z)) 0 0 := by
  refine c_body (cc := cX4_fill) (maxL := 7) (ret := (some .int)) (by decide) rfl (Nat.le_of_ble_eq_true rfl) ?_
  intro pr en st mi bl me co ls B hl
  obtain ⟨hx, hb, hr, hml, hown, hts, hlocks, hnm, hK, hZ, hc, hA⟩ := B
  have hl : lv_has ls 7 [(0, .ref (a (100))), (1, .int (x)), (2, .int (y)), (3, .int (z))] := hl
  have hinX4 : ∀ w ∈ u_ws RX4 TX4 33, w ∈ wsX4_fill := (fun _ h => List.mem_cons_of_mem _ (List.mem_append_left _ (List.mem_append_right _ h)))
  have hf_22 := hts (.fieldLink RX4 22 "PalletLayersModel" "boxes" "[I") (by decide +kernel)
  have hf_49 := hts (.fieldLink RX4 49 "PalletLayersModel" "layers" "[I") (by decide +kernel)
  have hf_58 := hts (.fieldLink RX4 58 "PalletLayersModel" "stop" "[I") (by decide +kernel)
  have hf_89 := hts (.fieldLink RX4 89 "PalletLayersModel" "thrown" "I") (by decide +kernel)
  have hlv := hmr.1
  have hb9 := iv_b hI
  refine lv_aload_n hx hb dX4_fill_0 rfl (lv_at hl 0 rfl) ?_
  refine lv_aload_n hx hb dX4_fill_1 rfl (lv_at hl 0 rfl) ?_
  refine lv_iload_n hx hb dX4_fill_2 rfl (lv_at hl 1 rfl) ?_
  refine r_calli hc hA (va_runV (As := [.int (x)]) (rest := [.ref (a (100))]) ⟨hx, hb, hml, hown, hts⟩ (c_X4_isPallet l D g lv a R M hmr hM hI x _) (cwV 1 hts gX4_fill_X4_isPallet rfl rfl rfl (by decide +kernel) ⟨Nat.le_of_ble_eq_true rfl, Nat.le_of_ble_eq_true rfl⟩) (r_preV hK hZ hc hA (hlv _ rfl) (rfl) rfl) rfl rfl hl.1 rfl (lv_room (Nat.le_of_ble_eq_true rfl)) dX4_fill_3 ⟨Nat.le_of_ble_eq_true rfl, Nat.le_of_ble_eq_true rfl⟩) (fun r R' H locs hp hc => ?_)
  obtain ⟨hRe, ⟨hw3, rfl⟩ | ⟨hw3, rfl⟩⟩ := hp
  · rw [hRe] at hc
    obtain ⟨p, hp, hp9, rfl⟩ := isN_ex hw3
    refine lv_if_eq (tgt := 17) hx hb dX4_fill_6 (by decide) (fun hq_3 => absurd hq_3 (by decide)) (fun hq_3 => ?_)
    refine lv_aload_n hx hb dX4_fill_9 rfl (lv_at hl 0 rfl) ?_
    refine lv_iload_n hx hb dX4_fill_10 rfl (lv_at hl 2 rfl) ?_
    refine r_calli hc hA (va_runV (As := [.int (y)]) (rest := [.ref (a (100))]) ⟨hx, hb, hml, hown, hts⟩ (c_X4_isKind l D g lv a R M hmr hM hI y _) (cwV 1 hts gX4_fill_X4_isKind rfl rfl rfl (by decide +kernel) ⟨Nat.le_of_ble_eq_true rfl, Nat.le_of_ble_eq_true rfl⟩) (r_preV hK hZ hc hA (hlv _ rfl) (rfl) rfl) rfl rfl hl.1 rfl (lv_room (Nat.le_of_ble_eq_true rfl)) dX4_fill_11 ⟨Nat.le_of_ble_eq_true rfl, Nat.le_of_ble_eq_true rfl⟩) (fun r R' H locs hp hc => ?_)
    obtain ⟨hRe, ⟨hw11, rfl⟩ | ⟨hw11, rfl⟩⟩ := hp
    · rw [hRe] at hc
      obtain ⟨k, hk, hk9, rfl⟩ := isN_ex hw11
      refine lv_if_ne (tgt := 21) hx hb dX4_fill_14 (by decide) (fun hq_6 => ?_) (fun hq_6 => absurd hq_6 (by decide))
      refine lv_iload_n hx hb dX4_fill_21 rfl (lv_at hl 3 rfl) ?_
      refine lv_iconst (v := nI (1)) hx hb dX4_fill_22 (by decide) ?_
      refine lv_sipush (v := nI (600)) hx hb dX4_fill_23 (by decide) ?_
      refine r_calli hc hA (va_runS (As := [.int (z), .int (nI (1)), .int (nI (600))]) (rest := [.ref (a (100))]) ⟨hx, hb, hml, hown, hts⟩ (c_X4_within l D g lv a R z (nI (1)) (nI (600)) _) (va_cwS 3 hts gX4_fill_X4_within rfl rfl rfl (by decide +kernel) ⟨Nat.le_of_ble_eq_true rfl, Nat.le_of_ble_eq_true rfl⟩) (r_preS hK hZ hc hA) rfl rfl hl.1 rfl (lv_room (Nat.le_of_ble_eq_true rfl)) dX4_fill_26 ⟨Nat.le_of_ble_eq_true rfl, Nat.le_of_ble_eq_true rfl⟩) (fun r R' H locs hp hc => ?_)
      obtain ⟨hRe, ⟨hw26, rfl⟩ | ⟨hw26, rfl⟩⟩ := hp
      · rw [hRe] at hc
        rw [w_iff (by decide) (by decide)] at hw26
        refine lv_if_ne (tgt := 36) hx hb dX4_fill_29 (by decide) (fun hq_9 => ?_) (fun hq_9 => absurd hq_9 (by decide))
        have hp8 := iv_p hI hp
        refine lv_aload_n hx hb dX4_fill_36 rfl (lv_at hl 0 rfl) ?_
        refine r_get (C := RX4) (T := TX4) (N := 33) (v := .ref (a (121))) hx hb hts hown hK.1 hc (hlv _ rfl) (rfl) rfl rfl hinX4 21 (by decide) hf_58 (fun _ h9 => h9) (congrArg va_rf (hmr.2 21 rfl)) dX4_fill_37 ?_
        refine lv_iload_n hx hb dX4_fill_40 rfl (lv_at hl 1 rfl) ?_
        refine r_iald (v := stI (ps M p)) hx hb hK.1 hc (hlv _ rfl) (rfl) (by decide) (by omega) dX4_fill_41 ((hM.2.2.2.2.1 _ (by omega)).2) ?_
        refine lv_iconst (v := (-1)) hx hb dX4_fill_42 (by decide) ?_
        refine lv_icmp_eq (tgt := 50) hx hb dX4_fill_43 (by decide) (fun hq_10 => ?_) (fun hq_10 => ?_)
        · have hs : ps M p = 0 := stI_0 (by omega) hq_10
          refine lv_iconst (v := nI (0)) hx hb dX4_fill_50 (by decide) ?_
          refine r_put (C := RX4) (T := TX4) (N := 33) (R' := sfi R 100 5 (nI (0))) hx hb hts hown hK.1 hc (hlv _ rfl) (rfl) rfl rfl hinX4 tyX4 tyX4_ok nmX4 5 (by decide) hf_89 (fun _ h9 => h9) rfl (tyX4_ok 5 (by decide)) rfl rfl dX4_fill_51 (fds_sfi (by decide) (by decide)) (fun _ h9 => ct_sfi h9) (fun H locs hc => ?_)
          refine lv_aload_n hx hb dX4_fill_54 rfl (lv_at hl 0 rfl) ?_
          refine r_get (C := RX4) (T := TX4) (N := 33) (v := .int (nI (0))) hx hb hts hown hK.1 hc (hlv _ rfl) (rfl) rfl rfl hinX4 5 (by decide) hf_89 (fun _ h9 => h9) rfl dX4_fill_55 ?_
          refine lv_if_ne (tgt := 70) hx hb dX4_fill_58 (by decide) (fun hq_11 => absurd hq_11 (by decide)) (fun hq_11 => ?_)
          have hk8 := iv_k hI hk
          refine lv_aload_n hx hb dX4_fill_61 rfl (lv_at hl 0 rfl) ?_
          refine r_get (C := RX4) (T := TX4) (N := 33) (v := .ref (a (110))) hx hb hts hown hK.1 hc (hlv _ rfl) (rfl) rfl rfl hinX4 10 (by decide) hf_22 (fun _ h9 => h9) (congrArg va_rf (hmr.2 10 rfl)) dX4_fill_62 ?_
          refine lv_iload_n hx hb dX4_fill_65 rfl (lv_at hl 2 rfl) ?_
          refine r_iald (v := nI (kb M k)) hx hb hK.1 hc (hlv _ rfl) (rfl) (by decide) (by omega) dX4_fill_66 ((hM.2.1 _ (by omega)).2.2.2.2.1) ?_
          refine lv_if_ne (tgt := 72) hx hb dX4_fill_67 (by decide) (fun hq_12 => ?_) (fun hq_12 => ?_)
          · have hq_12 : ¬ ((kb M k) = 0) := fun z => hq_12 ((nI_eq (a := (kb M k)) (b := 0) (by omega) (by omega)).mpr z)
            have hkb : ¬ kb M k = 0 := hq_12
            obtain ⟨v, hv0, hv1, hv2, rfl⟩ := isR_ex hw26
            refine lv_iload_n hx hb dX4_fill_72 rfl (lv_at hl 3 rfl) ?_
            refine lv_istore (lv' := [(4, .int (nI (v))), (0, .ref (a (100))), (1, .int (nI (p))), (2, .int (nI (k))), (3, .int (nI (v)))]) hx hb dX4_fill_73 hl (by decide) rfl (fun ls hl => ?_)
            refine lv_iconst (v := nI (1)) hx hb dX4_fill_75 (by decide) ?_
            refine lv_istore (lv' := [(5, .int (nI (1))), (4, .int (nI (v))), (0, .ref (a (100))), (1, .int (nI (p))), (2, .int (nI (k))), (3, .int (nI (v)))]) hx hb dX4_fill_76 hl (by decide) rfl (fun ls hl => ?_)
            have loop78 : ∀ (fuel78 : Nat) (r1 : Nat) (mo : Nat) (f1 : Nat) (M1 : MS) (R1 : RS) (H : Heap) (locs : List Loc) (ls : Array Slot), 2 * f1 + mo < fuel78 → (mo ≤ 1) → (r1 ≤ v) → (kb M1 k = kb M k) → (pn M1 p + f1 = 11 + pn M p) → (flM p k 11 v M = flM p k f1 r1 M1) → (Inv M1) → (PM R1 M1) → (PMr R1 a lv) → (fi R1 100 5 = nI 0) → (outM R R1) → (mnp M1 = mnp M) → (mnk M1 = mnk M) → (mo = 1 ∨ ¬ (pn M1 p < 10 ∧ rsn M1 p k (if r1 < kb M1 k then r1 else kb M1 k) = nI 0)) → rc D g (rA lv a st.heap.size) st.heap lv a R1 H locs → lv_has ls 7 [(0, .ref (a (100))), (1, .int (nI (p))), (2, .int (nI (k))), (3, .int (nI (v))), (4, .int (nI (r1))), (5, .int (nI (mo)))] → W pr l en ({ frames := 3, cells := 0, slots := 0, locals := 75 } : Room) st mi ([.ref (a (100)), .int ((nI p)), .int ((nI k)), .int ((nI v))] : List Value).toArray bl me co H locs 0 0 (MQ bl (va_Qi (QM R (oFill M (nI p) (nI k) (nI v))) (cB D g lv a) (rA lv a st.heap.size)) ([.ref (a (100)), .int ((nI p)), .int ((nI k)), .int ((nI v))] : List Value).toArray st 0 0 (rA lv a st.heap.size)) (F0 mi 78 ls []) := by
              intro fuel78
              induction fuel78 with
              | zero => intro r1 mo f1 M1 R1 H locs ls hmu; exact absurd hmu (Nat.not_lt_zero _)
              | succ fuel78 ih78 =>
                intro r1 mo f1 M1 R1 H locs ls hmu78 hmb hrv hke hfp hun hI1 hM1 hmr1 hth hout hnp hnk hmo hc hl
                have hb8 := iv_b hI1
                have hp7 := iv_p hI1 (show p < mnp M1 by rw [hnp]; exact hp)
                have hk7 := iv_k hI1 (show k < mnk M1 by rw [hnk]; exact hk)
                refine lv_iload hx hb dX4_fill_78 (lv_at hl 4 rfl) ?_
                refine lv_if_le (tgt := 164) hx hb dX4_fill_80 (by decide) (fun hq_13 => ?_) (fun hq_13 => ?_)
                · have hq_13 : r1 ≤ 0 := (nI_leI (a := r1) (b := 0) (by omega) (by omega)).mp hq_13
                  refine lv_iload_n hx hb dX4_fill_164 rfl (lv_at hl 3 rfl) ?_
                  refine lv_iload hx hb dX4_fill_165 (lv_at hl 4 rfl) ?_
                  refine nv_isub hx hb dX4_fill_167 (by omega) ?_
                  exact r_iret hx hb hr hlocks hc dX4_fill_168 (by
      have hq9 : oFill M (nI p) (nI k) (nI v) = (0, nI (v - (flM p k 11 v M).1), (flM p k 11 v M).2) := by rw [oFill, if_pos ⟨hw3, hw11⟩, if_pos hw26, tN_nI hp9, tN_nI hk9, tN_nI hv2, if_pos hs, if_neg hkb]
      have hz9 : flM p k f1 r1 M1 = (r1, M1) := fl_0 (by omega)
      rw [hz9] at hun
      unfold QM; rw [hq9, hun]
      exact ⟨rfl, hth, hM1, hout⟩)
                · have hq_13 : ¬ (r1 ≤ 0) := fun z => hq_13 ((nI_leI (a := r1) (b := 0) (by omega) (by omega)).mpr z)
                  refine lv_iload hx hb dX4_fill_83 (lv_at hl 5 rfl) ?_
                  refine lv_if_eq (tgt := 164) hx hb dX4_fill_85 (by decide) (fun hq_14 => ?_) (fun hq_14 => ?_)
                  · have hq_14 : mo = 0 := (nI_eq (a := mo) (b := 0) (by omega) (by omega)).mp hq_14
                    refine lv_iload_n hx hb dX4_fill_164 rfl (lv_at hl 3 rfl) ?_
                    refine lv_iload hx hb dX4_fill_165 (lv_at hl 4 rfl) ?_
                    refine nv_isub hx hb dX4_fill_167 (by omega) ?_
                    exact r_iret hx hb hr hlocks hc dX4_fill_168 (by
      have hq9 : oFill M (nI p) (nI k) (nI v) = (0, nI (v - (flM p k 11 v M).1), (flM p k 11 v M).2) := by rw [oFill, if_pos ⟨hw3, hw11⟩, if_pos hw26, tN_nI hp9, tN_nI hk9, tN_nI hv2, if_pos hs, if_neg hkb]
      have hz9 : flM p k f1 r1 M1 = (r1, M1) := fl_0 (by intro hh; rcases hmo with h | h; omega; exact h hh.2)
      rw [hz9] at hun
      unfold QM; rw [hq9, hun]
      exact ⟨rfl, hth, hM1, hout⟩)
                  · have hq_14 : ¬ (mo = 0) := fun z => hq_14 ((nI_eq (a := mo) (b := 0) (by omega) (by omega)).mpr z)
                    refine lv_iload hx hb dX4_fill_88 (lv_at hl 4 rfl) ?_
                    refine lv_aload_n hx hb dX4_fill_90 rfl (lv_at hl 0 rfl) ?_
                    refine r_get (C := RX4) (T := TX4) (N := 33) (v := .ref (a (110))) hx hb hts hown hK.1 hc (hlv _ rfl) (rfl) rfl rfl hinX4 10 (by decide) hf_22 (fun _ h9 => h9) (congrArg va_rf (hmr1.2 10 rfl)) dX4_fill_91 ?_
                    refine lv_iload_n hx hb dX4_fill_94 rfl (lv_at hl 2 rfl) ?_
                    refine r_iald (v := nI (kb M1 k)) hx hb hK.1 hc (hlv _ rfl) (rfl) (by decide) (by omega) dX4_fill_95 ((hM1.2.1 _ (by omega)).2.2.2.2.1) ?_
                    refine lv_icmp_ge (tgt := 104) hx hb dX4_fill_96 (by decide) (fun hq_15 => ?_) (fun hq_15 => ?_)
                    · have hq_15 : (kb M1 k) ≤ r1 := (nI_leI (a := (kb M1 k)) (b := r1) (by omega) (by omega)).mp hq_15
                      refine lv_aload_n hx hb dX4_fill_104 rfl (lv_at hl 0 rfl) ?_
                      refine r_get (C := RX4) (T := TX4) (N := 33) (v := .ref (a (110))) hx hb hts hown hK.1 hc (hlv _ rfl) (rfl) rfl rfl hinX4 10 (by decide) hf_22 (fun _ h9 => h9) (congrArg va_rf (hmr1.2 10 rfl)) dX4_fill_105 ?_
                      refine lv_iload_n hx hb dX4_fill_108 rfl (lv_at hl 2 rfl) ?_
                      refine r_iald (v := nI (kb M1 k)) hx hb hK.1 hc (hlv _ rfl) (rfl) (by decide) (by omega) dX4_fill_109 ((hM1.2.1 _ (by omega)).2.2.2.2.1) ?_
                      refine lv_istore (lv' := [(6, .int (nI (kb M1 k))), (0, .ref (a (100))), (1, .int (nI (p))), (2, .int (nI (k))), (3, .int (nI (v))), (4, .int (nI (r1))), (5, .int (nI (mo)))]) hx hb dX4_fill_110 hl (by decide) rfl (fun ls hl => ?_)
                      have hpt9 : (if r1 < kb M1 k then r1 else kb M1 k) = kb M1 k := if_neg (by omega)
                      have hl : lv_has ls 7 [(6, .int (nI (if r1 < kb M1 k then r1 else kb M1 k))), (0, .ref (a (100))), (1, .int (nI (p))), (2, .int (nI (k))), (3, .int (nI (v))), (4, .int (nI (r1))), (5, .int (nI (mo)))] := by rw [hpt9]; exact hl
                      have hpb : 1 ≤ (if r1 < kb M1 k then r1 else kb M1 k) ∧ (if r1 < kb M1 k then r1 else kb M1 k) ≤ r1 ∧ (if r1 < kb M1 k then r1 else kb M1 k) ≤ kb M1 k := by rw [hpt9]; omega
                      generalize hpe : (if r1 < kb M1 k then r1 else kb M1 k) = q1 at hl hpb
                      refine lv_aload_n hx hb dX4_fill_112 rfl (lv_at hl 1 rfl) ?_
                      refine r_get (C := RX4) (T := TX4) (N := 33) (v := .ref (a (118))) hx hb hts hown hK.1 hc (hlv _ rfl) (rfl) rfl rfl hinX4 18 (by decide) hf_49 (fun _ h9 => h9) (congrArg va_rf (hmr1.2 18 rfl)) dX4_fill_113 ?_
                      refine lv_iload_n hx hb dX4_fill_116 rfl (lv_at hl 2 rfl) ?_
                      refine r_iald (v := nI (pn M1 p)) hx hb hK.1 hc (hlv _ rfl) (rfl) (by decide) (by omega) dX4_fill_117 ((hM1.2.2.2.2.1 _ (by omega)).1) ?_
                      refine lv_bipush (v := nI (10)) hx hb dX4_fill_118 (by decide) ?_
                      refine lv_icmp_ge (tgt := 138) hx hb dX4_fill_120 (by decide) (fun hq_16 => ?_) (fun hq_16 => ?_)
                      · have hq_16 : 10 ≤ (pn M1 p) := (nI_leI (a := 10) (b := (pn M1 p)) (by omega) (by omega)).mp hq_16
                        refine lv_iconst (v := nI (0)) hx hb dX4_fill_138 (by decide) ?_
                        refine lv_istore (lv' := [(5, .int (nI (0))), (6, .int (nI (q1))), (0, .ref (a (100))), (1, .int (nI (p))), (2, .int (nI (k))), (3, .int (nI (v))), (4, .int (nI (r1)))]) hx hb dX4_fill_139 hl (by decide) rfl (fun ls hl => ?_)
                        refine lv_iload hx hb dX4_fill_141 (lv_at hl 0 rfl) ?_
                        refine lv_if_eq (tgt := 161) hx hb dX4_fill_143 (by decide) (fun hq_17 => ?_) (fun hq_17 => absurd hq_17 (by decide))
                        refine lv_goto (tgt := 78) hx hb dX4_fill_161 (by decide) ?_
                        exact ih78 r1 0 f1 M1 R1 _ _ ls (by omega) (Nat.zero_le _) hrv hke hfp hun hI1 hM1 hmr1 hth hout hnp hnk (Or.inr (by rw [hpe]; intro hh; omega)) hc (lv_sub hl [2, 3, 4, 5, 6, 0] rfl)
                      · have hq_16 : ¬ (10 ≤ (pn M1 p)) := fun z => hq_16 ((nI_leI (a := 10) (b := (pn M1 p)) (by omega) (by omega)).mpr z)
                        refine lv_aload_n hx hb dX4_fill_123 rfl (lv_at hl 1 rfl) ?_
                        refine lv_iload_n hx hb dX4_fill_124 rfl (lv_at hl 2 rfl) ?_
                        refine lv_iload_n hx hb dX4_fill_125 rfl (lv_at hl 3 rfl) ?_
                        refine lv_iload hx hb dX4_fill_126 (lv_at hl 0 rfl) ?_
                        refine r_calli hc hA (va_runV (As := [.int (nI (p)), .int (nI (k)), .int (nI (q1))]) (rest := []) ⟨hx, hb, hml, hown, hts⟩ (c_X4_reason l D g lv a R1 M1 hmr1 hM1 hI1 p k q1 (by rw [hnp]; exact hp) (by rw [hnk]; exact hk) (by omega) _) (cwV 3 hts gX4_fill_X4_reason rfl rfl rfl (by decide +kernel) ⟨Nat.le_of_ble_eq_true rfl, Nat.le_of_ble_eq_true rfl⟩) (r_preV hK hZ hc hA (hlv _ rfl) (rfl) rfl) rfl rfl hl.1 rfl (lv_room (Nat.le_of_ble_eq_true rfl)) dX4_fill_128 ⟨Nat.le_of_ble_eq_true rfl, Nat.le_of_ble_eq_true rfl⟩) (fun r R' H locs hp hc => ?_)
                        obtain ⟨hre, hRe⟩ := hp
                        rw [hRe] at hc
                        rw [hre]
                        refine lv_if_ne (tgt := 138) hx hb dX4_fill_131 (by decide) (fun hq_20 => ?_) (fun hq_20 => ?_)
                        · have hrs : ¬ rsn M1 p k q1 = nI 0 := hq_20
                          refine lv_iconst (v := nI (0)) hx hb dX4_fill_138 (by decide) ?_
                          refine lv_istore (lv' := [(5, .int (nI (0))), (6, .int (nI (q1))), (0, .ref (a (100))), (1, .int (nI (p))), (2, .int (nI (k))), (3, .int (nI (v))), (4, .int (nI (r1)))]) hx hb dX4_fill_139 hl (by decide) rfl (fun ls hl => ?_)
                          refine lv_iload hx hb dX4_fill_141 (lv_at hl 0 rfl) ?_
                          refine lv_if_eq (tgt := 161) hx hb dX4_fill_143 (by decide) (fun hq_21 => ?_) (fun hq_21 => absurd hq_21 (by decide))
                          refine lv_goto (tgt := 78) hx hb dX4_fill_161 (by decide) ?_
                          exact ih78 r1 0 f1 M1 R1 _ _ ls (by omega) (Nat.zero_le _) hrv hke hfp hun hI1 hM1 hmr1 hth hout hnp hnk (Or.inr (by rw [hpe]; intro hh; exact hrs hh.2)) hc (lv_sub hl [2, 3, 4, 5, 6, 0] rfl)
                        · have hrs : rsn M1 p k q1 = nI 0 := hq_20
                          refine lv_iconst (v := nI (1)) hx hb dX4_fill_134 (by decide) ?_
                          refine lv_goto (tgt := 139) hx hb dX4_fill_135 (by decide) ?_
                          refine lv_istore (lv' := [(5, .int (nI (1))), (6, .int (nI (q1))), (0, .ref (a (100))), (1, .int (nI (p))), (2, .int (nI (k))), (3, .int (nI (v))), (4, .int (nI (r1)))]) hx hb dX4_fill_139 hl (by decide) rfl (fun ls hl => ?_)
                          refine lv_iload hx hb dX4_fill_141 (lv_at hl 0 rfl) ?_
                          refine lv_if_eq (tgt := 161) hx hb dX4_fill_143 (by decide) (fun hq_22 => absurd hq_22 (by decide)) (fun hq_22 => ?_)
                          refine lv_aload_n hx hb dX4_fill_146 rfl (lv_at hl 2 rfl) ?_
                          refine lv_iload_n hx hb dX4_fill_147 rfl (lv_at hl 3 rfl) ?_
                          refine lv_iload_n hx hb dX4_fill_148 rfl (lv_at hl 4 rfl) ?_
                          refine lv_iload hx hb dX4_fill_149 (lv_at hl 1 rfl) ?_
                          refine r_callv hc hA (va_runV (As := [.int (nI (p)), .int (nI (k)), .int (nI (q1))]) (rest := []) ⟨hx, hb, hml, hown, hts⟩ (c_X4_add l D g lv a R1 M1 hmr1 hM1 hI1 p k q1 (by rw [hnp]; exact hp) (by omega) _) (cwV 3 hts gX4_fill_X4_add rfl rfl rfl (by decide +kernel) ⟨Nat.le_of_ble_eq_true rfl, Nat.le_of_ble_eq_true rfl⟩) (r_preV hK hZ hc hA (hlv _ rfl) (rfl) rfl) rfl rfl hl.1 rfl (lv_room (Nat.le_of_ble_eq_true rfl)) dX4_fill_151 ⟨Nat.le_of_ble_eq_true rfl, Nat.le_of_ble_eq_true rfl⟩) (fun R' H locs hp hc => ?_)
                          obtain ⟨hpm, hpo, hpt⟩ := hp
                          refine lv_iload hx hb dX4_fill_154 (lv_at hl 6 rfl) ?_
                          refine lv_iload hx hb dX4_fill_156 (lv_at hl 1 rfl) ?_
                          refine nv_isub hx hb dX4_fill_158 (by omega) ?_
                          refine lv_istore (lv' := [(4, .int (nI (r1 - q1))), (5, .int (nI (1))), (6, .int (nI (q1))), (0, .ref (a (100))), (1, .int (nI (p))), (2, .int (nI (k))), (3, .int (nI (v)))]) hx hb dX4_fill_159 hl (by decide) rfl (fun ls hl => ?_)
                          refine lv_goto (tgt := 78) hx hb dX4_fill_161 (by decide) ?_
                          exact ih78 (r1 - q1) 1 (f1 - 1) (nAdd M1 p k q1) R' _ _ ls (by omega) (Nat.le_refl _) (by omega) hke (by show nAdd M1 p k q1 20 p 0 + (f1 - 1) = 11 + pn M p; rw [show nAdd M1 p k q1 20 p 0 = pn M1 p + 1 by simp [nAdd, mup]]; omega) (by rw [hun, show f1 = f1 - 1 + 1 by omega, fl_1 (by rw [hpe]; exact ⟨by omega, by omega, hrs⟩), hpe, Nat.add_sub_cancel]) (iv_add hI1 (by rw [hnp]; exact hp) (by rw [hnk]; exact hk) (by omega) hpb.1 hpb.2.2) hpm ⟨hmr1.1, fun q hq => (hpo.2 q).trans (hmr1.2 q hq)⟩ (hpt.trans hth) (hout.trans hpo) hnp hnk (Or.inl rfl) hc (lv_sub hl [3, 4, 5, 6, 0, 1] rfl)
                    · have hq_15 : ¬ ((kb M1 k) ≤ r1) := fun z => hq_15 ((nI_leI (a := (kb M1 k)) (b := r1) (by omega) (by omega)).mpr z)
                      refine lv_iload hx hb dX4_fill_99 (lv_at hl 4 rfl) ?_
                      refine lv_goto (tgt := 110) hx hb dX4_fill_101 (by decide) ?_
                      refine lv_istore (lv' := [(6, .int (nI (r1))), (0, .ref (a (100))), (1, .int (nI (p))), (2, .int (nI (k))), (3, .int (nI (v))), (4, .int (nI (r1))), (5, .int (nI (mo)))]) hx hb dX4_fill_110 hl (by decide) rfl (fun ls hl => ?_)
                      have hpt9 : (if r1 < kb M1 k then r1 else kb M1 k) = r1 := if_pos (by omega)
                      have hl : lv_has ls 7 [(6, .int (nI (if r1 < kb M1 k then r1 else kb M1 k))), (0, .ref (a (100))), (1, .int (nI (p))), (2, .int (nI (k))), (3, .int (nI (v))), (4, .int (nI (r1))), (5, .int (nI (mo)))] := by rw [hpt9]; exact hl
                      have hpb : 1 ≤ (if r1 < kb M1 k then r1 else kb M1 k) ∧ (if r1 < kb M1 k then r1 else kb M1 k) ≤ r1 ∧ (if r1 < kb M1 k then r1 else kb M1 k) ≤ kb M1 k := by rw [hpt9]; omega
                      generalize hpe : (if r1 < kb M1 k then r1 else kb M1 k) = q1 at hl hpb
                      refine lv_aload_n hx hb dX4_fill_112 rfl (lv_at hl 1 rfl) ?_
                      refine r_get (C := RX4) (T := TX4) (N := 33) (v := .ref (a (118))) hx hb hts hown hK.1 hc (hlv _ rfl) (rfl) rfl rfl hinX4 18 (by decide) hf_49 (fun _ h9 => h9) (congrArg va_rf (hmr1.2 18 rfl)) dX4_fill_113 ?_
                      refine lv_iload_n hx hb dX4_fill_116 rfl (lv_at hl 2 rfl) ?_
                      refine r_iald (v := nI (pn M1 p)) hx hb hK.1 hc (hlv _ rfl) (rfl) (by decide) (by omega) dX4_fill_117 ((hM1.2.2.2.2.1 _ (by omega)).1) ?_
                      refine lv_bipush (v := nI (10)) hx hb dX4_fill_118 (by decide) ?_
                      refine lv_icmp_ge (tgt := 138) hx hb dX4_fill_120 (by decide) (fun hq_25 => ?_) (fun hq_25 => ?_)
                      · have hq_25 : 10 ≤ (pn M1 p) := (nI_leI (a := 10) (b := (pn M1 p)) (by omega) (by omega)).mp hq_25
                        refine lv_iconst (v := nI (0)) hx hb dX4_fill_138 (by decide) ?_
                        refine lv_istore (lv' := [(5, .int (nI (0))), (6, .int (nI (q1))), (0, .ref (a (100))), (1, .int (nI (p))), (2, .int (nI (k))), (3, .int (nI (v))), (4, .int (nI (r1)))]) hx hb dX4_fill_139 hl (by decide) rfl (fun ls hl => ?_)
                        refine lv_iload hx hb dX4_fill_141 (lv_at hl 0 rfl) ?_
                        refine lv_if_eq (tgt := 161) hx hb dX4_fill_143 (by decide) (fun hq_26 => ?_) (fun hq_26 => absurd hq_26 (by decide))
                        refine lv_goto (tgt := 78) hx hb dX4_fill_161 (by decide) ?_
                        exact ih78 r1 0 f1 M1 R1 _ _ ls (by omega) (Nat.zero_le _) hrv hke hfp hun hI1 hM1 hmr1 hth hout hnp hnk (Or.inr (by rw [hpe]; intro hh; omega)) hc (lv_sub hl [2, 3, 4, 5, 6, 0] rfl)
                      · have hq_25 : ¬ (10 ≤ (pn M1 p)) := fun z => hq_25 ((nI_leI (a := 10) (b := (pn M1 p)) (by omega) (by omega)).mpr z)
                        refine lv_aload_n hx hb dX4_fill_123 rfl (lv_at hl 1 rfl) ?_
                        refine lv_iload_n hx hb dX4_fill_124 rfl (lv_at hl 2 rfl) ?_
                        refine lv_iload_n hx hb dX4_fill_125 rfl (lv_at hl 3 rfl) ?_
                        refine lv_iload hx hb dX4_fill_126 (lv_at hl 0 rfl) ?_
                        refine r_calli hc hA (va_runV (As := [.int (nI (p)), .int (nI (k)), .int (nI (q1))]) (rest := []) ⟨hx, hb, hml, hown, hts⟩ (c_X4_reason l D g lv a R1 M1 hmr1 hM1 hI1 p k q1 (by rw [hnp]; exact hp) (by rw [hnk]; exact hk) (by omega) _) (cwV 3 hts gX4_fill_X4_reason rfl rfl rfl (by decide +kernel) ⟨Nat.le_of_ble_eq_true rfl, Nat.le_of_ble_eq_true rfl⟩) (r_preV hK hZ hc hA (hlv _ rfl) (rfl) rfl) rfl rfl hl.1 rfl (lv_room (Nat.le_of_ble_eq_true rfl)) dX4_fill_128 ⟨Nat.le_of_ble_eq_true rfl, Nat.le_of_ble_eq_true rfl⟩) (fun r R' H locs hp hc => ?_)
                        obtain ⟨hre, hRe⟩ := hp
                        rw [hRe] at hc
                        rw [hre]
                        refine lv_if_ne (tgt := 138) hx hb dX4_fill_131 (by decide) (fun hq_29 => ?_) (fun hq_29 => ?_)
                        · have hrs : ¬ rsn M1 p k q1 = nI 0 := hq_29
                          refine lv_iconst (v := nI (0)) hx hb dX4_fill_138 (by decide) ?_
                          refine lv_istore (lv' := [(5, .int (nI (0))), (6, .int (nI (q1))), (0, .ref (a (100))), (1, .int (nI (p))), (2, .int (nI (k))), (3, .int (nI (v))), (4, .int (nI (r1)))]) hx hb dX4_fill_139 hl (by decide) rfl (fun ls hl => ?_)
                          refine lv_iload hx hb dX4_fill_141 (lv_at hl 0 rfl) ?_
                          refine lv_if_eq (tgt := 161) hx hb dX4_fill_143 (by decide) (fun hq_30 => ?_) (fun hq_30 => absurd hq_30 (by decide))
                          refine lv_goto (tgt := 78) hx hb dX4_fill_161 (by decide) ?_
                          exact ih78 r1 0 f1 M1 R1 _ _ ls (by omega) (Nat.zero_le _) hrv hke hfp hun hI1 hM1 hmr1 hth hout hnp hnk (Or.inr (by rw [hpe]; intro hh; exact hrs hh.2)) hc (lv_sub hl [2, 3, 4, 5, 6, 0] rfl)
                        · have hrs : rsn M1 p k q1 = nI 0 := hq_29
                          refine lv_iconst (v := nI (1)) hx hb dX4_fill_134 (by decide) ?_
                          refine lv_goto (tgt := 139) hx hb dX4_fill_135 (by decide) ?_
                          refine lv_istore (lv' := [(5, .int (nI (1))), (6, .int (nI (q1))), (0, .ref (a (100))), (1, .int (nI (p))), (2, .int (nI (k))), (3, .int (nI (v))), (4, .int (nI (r1)))]) hx hb dX4_fill_139 hl (by decide) rfl (fun ls hl => ?_)
                          refine lv_iload hx hb dX4_fill_141 (lv_at hl 0 rfl) ?_
                          refine lv_if_eq (tgt := 161) hx hb dX4_fill_143 (by decide) (fun hq_31 => absurd hq_31 (by decide)) (fun hq_31 => ?_)
                          refine lv_aload_n hx hb dX4_fill_146 rfl (lv_at hl 2 rfl) ?_
                          refine lv_iload_n hx hb dX4_fill_147 rfl (lv_at hl 3 rfl) ?_
                          refine lv_iload_n hx hb dX4_fill_148 rfl (lv_at hl 4 rfl) ?_
                          refine lv_iload hx hb dX4_fill_149 (lv_at hl 1 rfl) ?_
                          refine r_callv hc hA (va_runV (As := [.int (nI (p)), .int (nI (k)), .int (nI (q1))]) (rest := []) ⟨hx, hb, hml, hown, hts⟩ (c_X4_add l D g lv a R1 M1 hmr1 hM1 hI1 p k q1 (by rw [hnp]; exact hp) (by omega) _) (cwV 3 hts gX4_fill_X4_add rfl rfl rfl (by decide +kernel) ⟨Nat.le_of_ble_eq_true rfl, Nat.le_of_ble_eq_true rfl⟩) (r_preV hK hZ hc hA (hlv _ rfl) (rfl) rfl) rfl rfl hl.1 rfl (lv_room (Nat.le_of_ble_eq_true rfl)) dX4_fill_151 ⟨Nat.le_of_ble_eq_true rfl, Nat.le_of_ble_eq_true rfl⟩) (fun R' H locs hp hc => ?_)
                          obtain ⟨hpm, hpo, hpt⟩ := hp
                          refine lv_iload hx hb dX4_fill_154 (lv_at hl 6 rfl) ?_
                          refine lv_iload hx hb dX4_fill_156 (lv_at hl 1 rfl) ?_
                          refine nv_isub hx hb dX4_fill_158 (by omega) ?_
                          refine lv_istore (lv' := [(4, .int (nI (r1 - q1))), (5, .int (nI (1))), (6, .int (nI (q1))), (0, .ref (a (100))), (1, .int (nI (p))), (2, .int (nI (k))), (3, .int (nI (v)))]) hx hb dX4_fill_159 hl (by decide) rfl (fun ls hl => ?_)
                          refine lv_goto (tgt := 78) hx hb dX4_fill_161 (by decide) ?_
                          exact ih78 (r1 - q1) 1 (f1 - 1) (nAdd M1 p k q1) R' _ _ ls (by omega) (Nat.le_refl _) (by omega) hke (by show nAdd M1 p k q1 20 p 0 + (f1 - 1) = 11 + pn M p; rw [show nAdd M1 p k q1 20 p 0 = pn M1 p + 1 by simp [nAdd, mup]]; omega) (by rw [hun, show f1 = f1 - 1 + 1 by omega, fl_1 (by rw [hpe]; exact ⟨by omega, by omega, hrs⟩), hpe, Nat.add_sub_cancel]) (iv_add hI1 (by rw [hnp]; exact hp) (by rw [hnk]; exact hk) (by omega) hpb.1 hpb.2.2) hpm ⟨hmr1.1, fun q hq => (hpo.2 q).trans (hmr1.2 q hq)⟩ (hpt.trans hth) (hout.trans hpo) hnp hnk (Or.inl rfl) hc (lv_sub hl [3, 4, 5, 6, 0, 1] rfl)
            exact loop78 (2 * 11 + 1 + 1) v 1 11 M (sfi R 100 5 (nI (0))) _ _ ls (by omega) (Nat.le_refl _) (Nat.le_refl _) rfl (Nat.add_comm _ _) rfl hI (pm_th hM) hmr rfl ((outM.r _).sfi (by decide)) rfl rfl (Or.inl rfl) hc (lv_sub hl [2, 3, 4, 5, 1, 0] rfl)
          · have hq_12 : (kb M k) = 0 := (nI_eq (a := (kb M k)) (b := 0) (by omega) (by omega)).mp hq_12
            have hkb : kb M k = 0 := hq_12
            refine lv_iconst (v := nI (0)) hx hb dX4_fill_70 (by decide) ?_
            exact r_iret hx hb hr hlocks hc dX4_fill_71 (by
      have hq9 : oFill M (nI p) (nI k) z = (0, nI 0, M) := by rw [oFill, if_pos ⟨hw3, hw11⟩, if_pos hw26, tN_nI hp9, tN_nI hk9, if_pos hs, if_pos hkb]
      unfold QM; rw [hq9]
      exact ⟨rfl, rfl, pm_th hM, ((outM.r _).sfi (by decide))⟩)
        · have hs : ¬ ps M p = 0 := fun z => hq_10 (by rw [z]; rfl)
          refine lv_iconst (v := nI (3)) hx hb dX4_fill_46 (by decide) ?_
          refine lv_goto (tgt := 51) hx hb dX4_fill_47 (by decide) ?_
          refine r_put (C := RX4) (T := TX4) (N := 33) (R' := sfi R 100 5 (nI (3))) hx hb hts hown hK.1 hc (hlv _ rfl) (rfl) rfl rfl hinX4 tyX4 tyX4_ok nmX4 5 (by decide) hf_89 (fun _ h9 => h9) rfl (tyX4_ok 5 (by decide)) rfl rfl dX4_fill_51 (fds_sfi (by decide) (by decide)) (fun _ h9 => ct_sfi h9) (fun H locs hc => ?_)
          refine lv_aload_n hx hb dX4_fill_54 rfl (lv_at hl 0 rfl) ?_
          refine r_get (C := RX4) (T := TX4) (N := 33) (v := .int (nI (3))) hx hb hts hown hK.1 hc (hlv _ rfl) (rfl) rfl rfl hinX4 5 (by decide) hf_89 (fun _ h9 => h9) rfl dX4_fill_55 ?_
          refine lv_if_ne (tgt := 70) hx hb dX4_fill_58 (by decide) (fun hq_34 => ?_) (fun hq_34 => absurd hq_34 (by decide))
          refine lv_iconst (v := nI (0)) hx hb dX4_fill_70 (by decide) ?_
          exact r_iret hx hb hr hlocks hc dX4_fill_71 (by
      have hq9 : oFill M (nI p) (nI k) z = (3, nI 0, M) := by rw [oFill, if_pos ⟨hw3, hw11⟩, if_pos hw26, tN_nI hp9, if_neg hs]
      unfold QM; rw [hq9]
      exact ⟨rfl, rfl, pm_th hM, ((outM.r _).sfi (by decide))⟩)
      · rw [hRe] at hc
        rw [w_iff (by decide) (by decide)] at hw26
        refine lv_if_ne (tgt := 36) hx hb dX4_fill_29 (by decide) (fun hq_35 => absurd hq_35 (by decide)) (fun hq_35 => ?_)
        refine lv_iconst (v := nI (2)) hx hb dX4_fill_32 (by decide) ?_
        refine lv_goto (tgt := 51) hx hb dX4_fill_33 (by decide) ?_
        refine r_put (C := RX4) (T := TX4) (N := 33) (R' := sfi R 100 5 (nI (2))) hx hb hts hown hK.1 hc (hlv _ rfl) (rfl) rfl rfl hinX4 tyX4 tyX4_ok nmX4 5 (by decide) hf_89 (fun _ h9 => h9) rfl (tyX4_ok 5 (by decide)) rfl rfl dX4_fill_51 (fds_sfi (by decide) (by decide)) (fun _ h9 => ct_sfi h9) (fun H locs hc => ?_)
        refine lv_aload_n hx hb dX4_fill_54 rfl (lv_at hl 0 rfl) ?_
        refine r_get (C := RX4) (T := TX4) (N := 33) (v := .int (nI (2))) hx hb hts hown hK.1 hc (hlv _ rfl) (rfl) rfl rfl hinX4 5 (by decide) hf_89 (fun _ h9 => h9) rfl dX4_fill_55 ?_
        refine lv_if_ne (tgt := 70) hx hb dX4_fill_58 (by decide) (fun hq_36 => ?_) (fun hq_36 => absurd hq_36 (by decide))
        refine lv_iconst (v := nI (0)) hx hb dX4_fill_70 (by decide) ?_
        exact r_iret hx hb hr hlocks hc dX4_fill_71 (by
      have hq9 : oFill M (nI p) (nI k) z = (2, nI 0, M) := by rw [oFill, if_pos ⟨hw3, hw11⟩, if_neg hw26]
      unfold QM; rw [hq9]
      exact ⟨rfl, rfl, pm_th hM, ((outM.r _).sfi (by decide))⟩)
    · rw [hRe] at hc
      refine lv_if_ne (tgt := 21) hx hb dX4_fill_14 (by decide) (fun hq_37 => absurd hq_37 (by decide)) (fun hq_37 => ?_)
      refine lv_iconst (v := nI (1)) hx hb dX4_fill_17 (by decide) ?_
      refine lv_goto (tgt := 51) hx hb dX4_fill_18 (by decide) ?_
      refine r_put (C := RX4) (T := TX4) (N := 33) (R' := sfi R 100 5 (nI (1))) hx hb hts hown hK.1 hc (hlv _ rfl) (rfl) rfl rfl hinX4 tyX4 tyX4_ok nmX4 5 (by decide) hf_89 (fun _ h9 => h9) rfl (tyX4_ok 5 (by decide)) rfl rfl dX4_fill_51 (fds_sfi (by decide) (by decide)) (fun _ h9 => ct_sfi h9) (fun H locs hc => ?_)
      refine lv_aload_n hx hb dX4_fill_54 rfl (lv_at hl 0 rfl) ?_
      refine r_get (C := RX4) (T := TX4) (N := 33) (v := .int (nI (1))) hx hb hts hown hK.1 hc (hlv _ rfl) (rfl) rfl rfl hinX4 5 (by decide) hf_89 (fun _ h9 => h9) rfl dX4_fill_55 ?_
      refine lv_if_ne (tgt := 70) hx hb dX4_fill_58 (by decide) (fun hq_38 => ?_) (fun hq_38 => absurd hq_38 (by decide))
      refine lv_iconst (v := nI (0)) hx hb dX4_fill_70 (by decide) ?_
      exact r_iret hx hb hr hlocks hc dX4_fill_71 (by
      have hq9 : oFill M (nI p) y z = (1, nI 0, M) := by rw [oFill, if_neg (fun h => hw11 h.2)]
      unfold QM; rw [hq9]
      exact ⟨rfl, rfl, pm_th hM, ((outM.r _).sfi (by decide))⟩)
  · rw [hRe] at hc
    refine lv_if_eq (tgt := 17) hx hb dX4_fill_6 (by decide) (fun hq_39 => ?_) (fun hq_39 => absurd hq_39 (by decide))
    refine lv_iconst (v := nI (1)) hx hb dX4_fill_17 (by decide) ?_
    refine lv_goto (tgt := 51) hx hb dX4_fill_18 (by decide) ?_
    refine r_put (C := RX4) (T := TX4) (N := 33) (R' := sfi R 100 5 (nI (1))) hx hb hts hown hK.1 hc (hlv _ rfl) (rfl) rfl rfl hinX4 tyX4 tyX4_ok nmX4 5 (by decide) hf_89 (fun _ h9 => h9) rfl (tyX4_ok 5 (by decide)) rfl rfl dX4_fill_51 (fds_sfi (by decide) (by decide)) (fun _ h9 => ct_sfi h9) (fun H locs hc => ?_)
    refine lv_aload_n hx hb dX4_fill_54 rfl (lv_at hl 0 rfl) ?_
    refine r_get (C := RX4) (T := TX4) (N := 33) (v := .int (nI (1))) hx hb hts hown hK.1 hc (hlv _ rfl) (rfl) rfl rfl hinX4 5 (by decide) hf_89 (fun _ h9 => h9) rfl dX4_fill_55 ?_
    refine lv_if_ne (tgt := 70) hx hb dX4_fill_58 (by decide) (fun hq_40 => ?_) (fun hq_40 => absurd hq_40 (by decide))
    refine lv_iconst (v := nI (0)) hx hb dX4_fill_70 (by decide) ?_
    exact r_iret hx hb hr hlocks hc dX4_fill_71 (by
      have hq9 : oFill M x y z = (1, nI 0, M) := by rw [oFill, if_neg (fun h => hw3 h.1)]
      unfold QM; rw [hq9]
      exact ⟨rfl, rfl, pm_th hM, ((outM.r _).sfi (by decide))⟩)
set_option maxRecDepth 100000 in
set_option maxHeartbeats 4000000 in
theorem c_X4_support (l : Launch) (D : va_G) (g : Nat → ClassId) (lv : Nat → Bool) (a : Nat → Nat) (R : RS) (M : MS) (hmr : PMr R a lv) (hM : PM R M) (hI : Inv M) (x y z : Int32) : cI l D g lv a yX4_support wsX4_support ({ frames := 3, cells := 0, slots := 0, locals := 65 } : Room) [.ref (a (100)), .int (x), .int (y), .int (z)] R (QM R (oSupport M x y z)) 0 0 := by
  refine c_body (cc := cX4_support) (maxL := 5) (ret := (some .int)) (by decide) rfl (Nat.le_of_ble_eq_true rfl) ?_
  intro pr en st mi bl me co ls B hl
  obtain ⟨hx, hb, hr, hml, hown, hts, hlocks, hnm, hK, hZ, hc, hA⟩ := B
  have hl : lv_has ls 5 [(0, .ref (a (100))), (1, .int (x)), (2, .int (y)), (3, .int (z))] := hl
  have hinX4 : ∀ w ∈ u_ws RX4 TX4 33, w ∈ wsX4_support := (fun _ h => List.mem_cons_of_mem _ (List.mem_append_left _ (List.mem_append_right _ h)))
  have hf_52 := hts (.fieldLink RX4 52 "PalletLayersModel" "layerKind" "[I") (by decide +kernel)
  have hf_55 := hts (.fieldLink RX4 55 "PalletLayersModel" "layerBoxes" "[I") (by decide +kernel)
  have hf_89 := hts (.fieldLink RX4 89 "PalletLayersModel" "thrown" "I") (by decide +kernel)
  have hlv := hmr.1
  have hb9 := iv_b hI
  refine lv_aload_n hx hb dX4_support_0 rfl (lv_at hl 0 rfl) ?_
  refine lv_aload_n hx hb dX4_support_1 rfl (lv_at hl 0 rfl) ?_
  refine lv_iload_n hx hb dX4_support_2 rfl (lv_at hl 1 rfl) ?_
  refine lv_iload_n hx hb dX4_support_3 rfl (lv_at hl 2 rfl) ?_
  refine r_calli hc hA (va_runV (As := [.int (x), .int (y)]) (rest := [.ref (a (100))]) ⟨hx, hb, hml, hown, hts⟩ (c_X4_isLayer l D g lv a R M hmr hM hI x y _) (cwV 2 hts gX4_support_X4_isLayer rfl rfl rfl (by decide +kernel) ⟨Nat.le_of_ble_eq_true rfl, Nat.le_of_ble_eq_true rfl⟩) (r_preV hK hZ hc hA (hlv _ rfl) (rfl) rfl) rfl rfl hl.1 rfl (lv_room (Nat.le_of_ble_eq_true rfl)) dX4_support_4 ⟨Nat.le_of_ble_eq_true rfl, Nat.le_of_ble_eq_true rfl⟩) (fun r R' H locs hp hc => ?_)
  obtain ⟨hRe, ⟨hw4, rfl⟩ | ⟨hw4, rfl⟩⟩ := hp
  · rw [hRe] at hc
    obtain ⟨j, hj, hj9, rfl⟩ := isN_ex hw4.1
    have hw4b := hw4.2
    rw [tN_nI hj9] at hw4b
    obtain ⟨i, hi, hi9, rfl⟩ := isN_ex hw4b
    refine lv_if_eq (tgt := 35) hx hb dX4_support_7 (by decide) (fun hq_3 => absurd hq_3 (by decide)) (fun hq_3 => ?_)
    have hp9 := iv_p hI hj
    have hl9 := iv_l hI hj hi
    have hk9 := iv_k hI hl9.1
    have har := ar_b hk9
    refine lv_iload_n hx hb dX4_support_10 rfl (lv_at hl 3 rfl) ?_
    refine lv_iconst (v := nI (0)) hx hb dX4_support_11 (by decide) ?_
    refine lv_aload_n hx hb dX4_support_12 rfl (lv_at hl 0 rfl) ?_
    refine r_get (C := RX4) (T := TX4) (N := 33) (v := .ref (a (120))) hx hb hts hown hK.1 hc (hlv _ rfl) (rfl) rfl rfl hinX4 20 (by decide) hf_55 (fun _ h9 => h9) (congrArg va_rf (hmr.2 20 rfl)) dX4_support_13 ?_
    refine lv_bipush (v := nI (10)) hx hb dX4_support_16 (by decide) ?_
    refine lv_iload_n hx hb dX4_support_18 rfl (lv_at hl 1 rfl) ?_
    refine nv_imul hx hb dX4_support_19 ?_
    refine lv_iload_n hx hb dX4_support_20 rfl (lv_at hl 2 rfl) ?_
    refine nv_iadd hx hb dX4_support_21 ?_
    refine r_iald (v := nI (lb M j i)) hx hb hK.1 hc (hlv _ rfl) (rfl) (by decide) (by omega) dX4_support_22 ((hM.2.2.2.2.2.1 _ (by omega) _ (by omega)).2) ?_
    refine lv_iconst (v := nI (1)) hx hb dX4_support_23 (by decide) ?_
    refine lv_isub hx hb dX4_support_24 ?_
    refine r_calli hc hA (va_runS (As := [.int (z), .int (nI (0)), .int (nI (lb M j i) - nI 1)]) (rest := [.ref (a (100))]) ⟨hx, hb, hml, hown, hts⟩ (c_X4_within l D g lv a R z (nI (0)) (nI (lb M j i) - nI 1) _) (va_cwS 3 hts gX4_support_X4_within rfl rfl rfl (by decide +kernel) ⟨Nat.le_of_ble_eq_true rfl, Nat.le_of_ble_eq_true rfl⟩) (r_preS hK hZ hc hA) rfl rfl hl.1 rfl (lv_room (Nat.le_of_ble_eq_true rfl)) dX4_support_25 ⟨Nat.le_of_ble_eq_true rfl, Nat.le_of_ble_eq_true rfl⟩) (fun r R' H locs hp hc => ?_)
    obtain ⟨hRe, ⟨hw25, rfl⟩ | ⟨hw25, rfl⟩⟩ := hp
    · rw [hRe] at hc
      rw [in_iff (by omega)] at hw25
      obtain ⟨q, hq, hq9, rfl⟩ := isN_ex hw25
      refine lv_if_eq (tgt := 35) hx hb dX4_support_28 (by decide) (fun hq_6 => absurd hq_6 (by decide)) (fun hq_6 => ?_)
      refine lv_iconst (v := nI (0)) hx hb dX4_support_31 (by decide) ?_
      refine lv_goto (tgt := 36) hx hb dX4_support_32 (by decide) ?_
      refine r_put (C := RX4) (T := TX4) (N := 33) (R' := sfi R 100 5 (nI (0))) hx hb hts hown hK.1 hc (hlv _ rfl) (rfl) rfl rfl hinX4 tyX4 tyX4_ok nmX4 5 (by decide) hf_89 (fun _ h9 => h9) rfl (tyX4_ok 5 (by decide)) rfl rfl dX4_support_36 (fds_sfi (by decide) (by decide)) (fun _ h9 => ct_sfi h9) (fun H locs hc => ?_)
      refine lv_aload_n hx hb dX4_support_39 rfl (lv_at hl 0 rfl) ?_
      refine r_get (C := RX4) (T := TX4) (N := 33) (v := .int (nI (0))) hx hb hts hown hK.1 hc (hlv _ rfl) (rfl) rfl rfl hinX4 5 (by decide) hf_89 (fun _ h9 => h9) rfl dX4_support_40 ?_
      refine lv_if_eq (tgt := 48) hx hb dX4_support_43 (by decide) (fun hq_7 => ?_) (fun hq_7 => absurd hq_7 (by decide))
      refine lv_aload_n hx hb dX4_support_48 rfl (lv_at hl 0 rfl) ?_
      refine r_get (C := RX4) (T := TX4) (N := 33) (v := .ref (a (119))) hx hb hts hown hK.1 hc (hlv _ rfl) (rfl) rfl rfl hinX4 19 (by decide) hf_52 (fun _ h9 => h9) (congrArg va_rf (hmr.2 19 rfl)) dX4_support_49 ?_
      refine lv_bipush (v := nI (10)) hx hb dX4_support_52 (by decide) ?_
      refine lv_iload_n hx hb dX4_support_54 rfl (lv_at hl 1 rfl) ?_
      refine nv_imul hx hb dX4_support_55 ?_
      refine lv_iload_n hx hb dX4_support_56 rfl (lv_at hl 2 rfl) ?_
      refine nv_iadd hx hb dX4_support_57 ?_
      refine r_iald (v := nI (lk M j i)) hx hb hK.1 hc (hlv _ rfl) (rfl) (by decide) (by omega) dX4_support_58 ((hM.2.2.2.2.2.1 _ (by omega) _ (by omega)).1) ?_
      refine lv_istore (lv' := [(4, .int (nI (lk M j i))), (0, .ref (a (100))), (1, .int (nI (j))), (2, .int (nI (i))), (3, .int (nI (q)))]) hx hb dX4_support_59 hl (by decide) rfl (fun ls hl => ?_)
      refine lv_bipush (v := nI (100)) hx hb dX4_support_61 (by decide) ?_
      refine lv_aload_n hx hb dX4_support_63 rfl (lv_at hl 1 rfl) ?_
      refine lv_iload hx hb dX4_support_64 (lv_at hl 0 rfl) ?_
      refine lv_iload_n hx hb dX4_support_66 rfl (lv_at hl 4 rfl) ?_
      refine lv_iload_n hx hb dX4_support_67 rfl (lv_at hl 2 rfl) ?_
      refine lv_iload_n hx hb dX4_support_68 rfl (lv_at hl 3 rfl) ?_
      refine lv_iconst (v := nI (1)) hx hb dX4_support_69 (by decide) ?_
      refine lv_isub hx hb dX4_support_70 ?_
      refine r_calli hc hA (va_runV (As := [.int (nI (lk M j i)), .int (nI (q)), .int (nI (j)), .int (nI i - nI 1)]) (rest := [.int (nI (100))]) ⟨hx, hb, hml, hown, hts⟩ (c_X4_supportOf l D g lv a (sfi R 100 5 (nI (0))) M hmr (pm_th hM) hI (lk M j i) q j i hl9.1 (by omega) hj (Nat.le_of_lt hi) _) (cwV 4 hts gX4_support_X4_supportOf rfl rfl rfl (by decide +kernel) ⟨Nat.le_of_ble_eq_true rfl, Nat.le_of_ble_eq_true rfl⟩) (r_preV hK hZ hc hA (hlv _ rfl) (rfl) rfl) rfl rfl hl.1 rfl (lv_room (Nat.le_of_ble_eq_true rfl)) dX4_support_71 ⟨Nat.le_of_ble_eq_true rfl, Nat.le_of_ble_eq_true rfl⟩) (fun r R' H locs hp hc => ?_)
      obtain ⟨hre, hRe⟩ := hp
      rw [hRe] at hc
      rw [hre]
      have hsl := spt_le (i := q) hI hl9.1 hj (Nat.le_of_lt hi)
      refine nv_imul hx hb dX4_support_74 ?_
      refine lv_aload_n hx hb dX4_support_75 rfl (lv_at hl 1 rfl) ?_
      refine lv_iload hx hb dX4_support_76 (lv_at hl 0 rfl) ?_
      refine r_calli hc hA (va_runV (As := [.int (nI (lk M j i))]) (rest := [.int (nI (100 * (spt M (lk M j i) q j i)))]) ⟨hx, hb, hml, hown, hts⟩ (c_X4_areaOf l D g lv a (sfi R 100 5 (nI (0))) M hmr (pk_of (pm_th hM)) hI (lk M j i) hl9.1 _) (cwV 1 hts gX4_support_X4_areaOf rfl rfl rfl (by decide +kernel) ⟨Nat.le_of_ble_eq_true rfl, Nat.le_of_ble_eq_true rfl⟩) (r_preV hK hZ hc hA (hlv _ rfl) (rfl) rfl) rfl rfl hl.1 rfl (lv_room (Nat.le_of_ble_eq_true rfl)) dX4_support_78 ⟨Nat.le_of_ble_eq_true rfl, Nat.le_of_ble_eq_true rfl⟩) (fun r R' H locs hp hc => ?_)
      obtain ⟨hre, hRe⟩ := hp
      rw [hRe] at hc
      rw [hre]
      refine nv_idiv hx hb dX4_support_81 har.1 (by omega) (by omega) ?_
      exact r_iret hx hb hr hlocks hc dX4_support_82 (by
      have hq9 : oSupport M (nI j) (nI i) (nI q) = (0, nI ((100 * (spt M (lk M j i) q j i)) / (kw M (lk M j i) * kd M (lk M j i))), M) := by rw [oSupport, if_pos hw4]; simp only [tN_nI hj9, tN_nI hi9, tN_nI hq9, if_pos hw25]
      unfold QM; rw [hq9]
      exact ⟨rfl, rfl, pm_th hM, ((outM.r _).sfi (by decide))⟩)
    · rw [hRe] at hc
      rw [in_iff (by omega)] at hw25
      refine lv_if_eq (tgt := 35) hx hb dX4_support_28 (by decide) (fun hq_12 => ?_) (fun hq_12 => absurd hq_12 (by decide))
      refine lv_iconst (v := nI (1)) hx hb dX4_support_35 (by decide) ?_
      refine r_put (C := RX4) (T := TX4) (N := 33) (R' := sfi R 100 5 (nI (1))) hx hb hts hown hK.1 hc (hlv _ rfl) (rfl) rfl rfl hinX4 tyX4 tyX4_ok nmX4 5 (by decide) hf_89 (fun _ h9 => h9) rfl (tyX4_ok 5 (by decide)) rfl rfl dX4_support_36 (fds_sfi (by decide) (by decide)) (fun _ h9 => ct_sfi h9) (fun H locs hc => ?_)
      refine lv_aload_n hx hb dX4_support_39 rfl (lv_at hl 0 rfl) ?_
      refine r_get (C := RX4) (T := TX4) (N := 33) (v := .int (nI (1))) hx hb hts hown hK.1 hc (hlv _ rfl) (rfl) rfl rfl hinX4 5 (by decide) hf_89 (fun _ h9 => h9) rfl dX4_support_40 ?_
      refine lv_if_eq (tgt := 48) hx hb dX4_support_43 (by decide) (fun hq_13 => absurd hq_13 (by decide)) (fun hq_13 => ?_)
      refine lv_iconst (v := nI (0)) hx hb dX4_support_46 (by decide) ?_
      exact r_iret hx hb hr hlocks hc dX4_support_47 (by
      have hq9 : oSupport M (nI j) (nI i) z = (1, nI 0, M) := by rw [oSupport, if_pos hw4]; simp only [tN_nI hj9, tN_nI hi9, if_neg hw25]
      unfold QM; rw [hq9]
      exact ⟨rfl, rfl, pm_th hM, ((outM.r _).sfi (by decide))⟩)
  · rw [hRe] at hc
    refine lv_if_eq (tgt := 35) hx hb dX4_support_7 (by decide) (fun hq_14 => ?_) (fun hq_14 => absurd hq_14 (by decide))
    refine lv_iconst (v := nI (1)) hx hb dX4_support_35 (by decide) ?_
    refine r_put (C := RX4) (T := TX4) (N := 33) (R' := sfi R 100 5 (nI (1))) hx hb hts hown hK.1 hc (hlv _ rfl) (rfl) rfl rfl hinX4 tyX4 tyX4_ok nmX4 5 (by decide) hf_89 (fun _ h9 => h9) rfl (tyX4_ok 5 (by decide)) rfl rfl dX4_support_36 (fds_sfi (by decide) (by decide)) (fun _ h9 => ct_sfi h9) (fun H locs hc => ?_)
    refine lv_aload_n hx hb dX4_support_39 rfl (lv_at hl 0 rfl) ?_
    refine r_get (C := RX4) (T := TX4) (N := 33) (v := .int (nI (1))) hx hb hts hown hK.1 hc (hlv _ rfl) (rfl) rfl rfl hinX4 5 (by decide) hf_89 (fun _ h9 => h9) rfl dX4_support_40 ?_
    refine lv_if_eq (tgt := 48) hx hb dX4_support_43 (by decide) (fun hq_15 => absurd hq_15 (by decide)) (fun hq_15 => ?_)
    refine lv_iconst (v := nI (0)) hx hb dX4_support_46 (by decide) ?_
    exact r_iret hx hb hr hlocks hc dX4_support_47 (by
      have hq9 : oSupport M x y z = (1, nI 0, M) := by simp only [oSupport, if_neg hw4]
      unfold QM; rw [hq9]
      exact ⟨rfl, rfl, pm_th hM, ((outM.r _).sfi (by decide))⟩)
