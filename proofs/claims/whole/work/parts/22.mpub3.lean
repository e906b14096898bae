set_option maxRecDepth 100000 in
set_option maxHeartbeats 4000000 in
theorem c_X4_truck (l : Launch) (D : va_G) (g : Nat → ClassId) (lv : Nat → Bool) (a : Nat → Nat) (R : RS) (M : MS) (hmr : PMr R a lv) (hM : PM R M) (hI : Inv M) (x y : Int32) : cI l D g lv a yX4_truck wsX4_truck ({ frames := 2, cells := 0, slots := 0, locals := 43 } : Room) [.ref (a (100)), .int (x), .int (y)] R (QM R (oTruck M x y)) 0 0 := by
  refine c_body (cc := cX4_truck) (maxL := 4) (ret := (some .int)) (by decide) rfl (Nat.le_of_ble_eq_true rfl) ?_
  intro pr en st mi bl me co ls B hl
  obtain ⟨hx, hb, hr, hml, hown, hts, hlocks, hnm, hK, hZ, hc, hA⟩ := B
  have hl : lv_has ls 4 [(0, .ref (a (100))), (1, .int (x)), (2, .int (y))] := hl
  have hinX4 : ∀ w ∈ u_ws RX4 TX4 33, w ∈ wsX4_truck := (fun _ h => List.mem_cons_of_mem _ (List.mem_append_left _ (List.mem_append_right _ h)))
  have hf_49 := hts (.fieldLink RX4 49 "PalletLayersModel" "layers" "[I") (by decide +kernel)
  have hf_58 := hts (.fieldLink RX4 58 "PalletLayersModel" "stop" "[I") (by decide +kernel)
  have hf_61 := hts (.fieldLink RX4 61 "PalletLayersModel" "truck" "[I") (by decide +kernel)
  have hf_89 := hts (.fieldLink RX4 89 "PalletLayersModel" "thrown" "I") (by decide +kernel)
  have hf_191 := hts (.fieldLink RX4 191 "PalletLayersModel" "onTruck" "I") (by decide +kernel)
  have hlv := hmr.1
  have hb9 := iv_b hI
  refine lv_aload_n hx hb dX4_truck_0 rfl (lv_at hl 0 rfl) ?_
  refine lv_aload_n hx hb dX4_truck_1 rfl (lv_at hl 0 rfl) ?_
  refine lv_iload_n hx hb dX4_truck_2 rfl (lv_at hl 1 rfl) ?_
  refine r_calli hc hA (va_runV (As := [.int (x)]) (rest := [.ref (a (100))]) ⟨hx, hb, hml, hown, hts⟩ (c_X4_isPallet l D g lv a R M hmr hM hI x _) (cwV 1 hts gX4_truck_X4_isPallet rfl rfl rfl (by decide +kernel) ⟨Nat.le_of_ble_eq_true rfl, Nat.le_of_ble_eq_true rfl⟩) (r_preV hK hZ hc hA (hlv _ rfl) (rfl) rfl) rfl rfl hl.1 rfl (lv_room (Nat.le_of_ble_eq_true rfl)) dX4_truck_3 ⟨Nat.le_of_ble_eq_true rfl, Nat.le_of_ble_eq_true rfl⟩) (fun r R' H locs hp hc => ?_)
  obtain ⟨hRe, ⟨hw3, rfl⟩ | ⟨hw3, rfl⟩⟩ := hp
  · rw [hRe] at hc
    obtain ⟨j, hj, hj9, rfl⟩ := isN_ex hw3
    refine lv_if_ne (tgt := 13) hx hb dX4_truck_6 (by decide) (fun hq_3 => ?_) (fun hq_3 => absurd hq_3 (by decide))
    have hp9 := iv_p hI hj
    refine lv_iload_n hx hb dX4_truck_13 rfl (lv_at hl 2 rfl) ?_
    refine lv_iconst (v := nI (0)) hx hb dX4_truck_14 (by decide) ?_
    refine lv_bipush (v := nI (9)) hx hb dX4_truck_15 (by decide) ?_
    refine r_calli hc hA (va_runS (As := [.int (y), .int (nI (0)), .int (nI (9))]) (rest := [.ref (a (100))]) ⟨hx, hb, hml, hown, hts⟩ (c_X4_within l D g lv a R y (nI (0)) (nI (9)) _) (va_cwS 3 hts gX4_truck_X4_within rfl rfl rfl (by decide +kernel) ⟨Nat.le_of_ble_eq_true rfl, Nat.le_of_ble_eq_true rfl⟩) (r_preS hK hZ hc hA) rfl rfl hl.1 rfl (lv_room (Nat.le_of_ble_eq_true rfl)) dX4_truck_17 ⟨Nat.le_of_ble_eq_true rfl, Nat.le_of_ble_eq_true rfl⟩) (fun r R' H locs hp hc => ?_)
    obtain ⟨hRe, ⟨hw17, rfl⟩ | ⟨hw17, rfl⟩⟩ := hp
    · rw [hRe] at hc
      rw [w_iff (by decide) (by decide)] at hw17
      refine lv_if_ne (tgt := 27) hx hb dX4_truck_20 (by decide) (fun hq_6 => ?_) (fun hq_6 => absurd hq_6 (by decide))
      refine lv_aload_n hx hb dX4_truck_27 rfl (lv_at hl 0 rfl) ?_
      refine r_get (C := RX4) (T := TX4) (N := 33) (v := .ref (a (121))) hx hb hts hown hK.1 hc (hlv _ rfl) (rfl) rfl rfl hinX4 21 (by decide) hf_58 (fun _ h9 => h9) (congrArg va_rf (hmr.2 21 rfl)) dX4_truck_28 ?_
      refine lv_iload_n hx hb dX4_truck_31 rfl (lv_at hl 1 rfl) ?_
      refine r_iald (v := stI (ps M j)) hx hb hK.1 hc (hlv _ rfl) (rfl) (by decide) (by omega) dX4_truck_32 ((hM.2.2.2.2.1 _ (by omega)).2) ?_
      refine lv_iconst (v := (-1)) hx hb dX4_truck_33 (by decide) ?_
      refine lv_icmp_ne (tgt := 46) hx hb dX4_truck_34 (by decide) (fun hq_7 => ?_) (fun hq_7 => ?_)
      · have hs : ¬ ps M j = 0 := fun z => hq_7 (by rw [z]; rfl)
        refine lv_iconst (v := nI (3)) hx hb dX4_truck_46 (by decide) ?_
        refine lv_goto (tgt := 51) hx hb dX4_truck_47 (by decide) ?_
        refine r_put (C := RX4) (T := TX4) (N := 33) (R' := sfi R 100 5 (nI (3))) hx hb hts hown hK.1 hc (hlv _ rfl) (rfl) rfl rfl hinX4 tyX4 tyX4_ok nmX4 5 (by decide) hf_89 (fun _ h9 => h9) rfl (tyX4_ok 5 (by decide)) rfl rfl dX4_truck_51 (fds_sfi (by decide) (by decide)) (fun _ h9 => ct_sfi h9) (fun H locs hc => ?_)
        refine lv_iconst (v := nI (0)) hx hb dX4_truck_54 (by decide) ?_
        refine lv_istore_n (lv' := [(3, .int (nI (0))), (0, .ref (a (100))), (1, .int (nI (j))), (2, .int (y))]) hx hb dX4_truck_55 rfl hl (by decide) rfl (fun ls hl => ?_)
        refine lv_iload_n hx hb dX4_truck_56 rfl (lv_at hl 0 rfl) ?_
        refine lv_aload_n hx hb dX4_truck_57 rfl (lv_at hl 1 rfl) ?_
        refine r_get (C := RX4) (T := TX4) (N := 33) (v := .int (nI (mna M))) hx hb hts hown hK.1 hc (hlv _ rfl) (rfl) rfl rfl hinX4 23 (by decide) hf_191 (fun _ h9 => h9) (congrArg Value.int hM.1.2.2.2.2.2.2.2.2.1) dX4_truck_58 ?_
        refine lv_icmp_ge (tgt := 97) hx hb dX4_truck_61 (by decide) (fun hq_8 => ?_) (fun hq_8 => ?_)
        · have hq_8 : (mna M) ≤ 0 := (nI_leI (a := (mna M)) (b := 0) (by omega) (by omega)).mp hq_8
          skip
          refine lv_aload_n hx hb dX4_truck_97 rfl (lv_at hl 1 rfl) ?_
          refine r_get (C := RX4) (T := TX4) (N := 33) (v := .int (nI (3))) hx hb hts hown hK.1 hc (hlv _ rfl) (rfl) rfl rfl hinX4 5 (by decide) hf_89 (fun _ h9 => h9) rfl dX4_truck_98 ?_
          refine lv_if_eq (tgt := 106) hx hb dX4_truck_101 (by decide) (fun hq_9 => absurd hq_9 (by decide)) (fun hq_9 => ?_)
          refine lv_iconst (v := nI (0)) hx hb dX4_truck_104 (by decide) ?_
          exact r_iret hx hb hr hlocks hc dX4_truck_105 (by
      have hq9 : oTruck M (nI j) y = (3, nI 0, M) := by simp only [oTruck, tN_nI hj9, if_pos hw3, if_pos hw17, if_neg hs]
      unfold QM; rw [hq9]
      exact ⟨rfl, rfl, pm_th hM, ((outM.r _).sfi (by decide))⟩)
        · have hq_8 : ¬ ((mna M) ≤ 0) := fun z => hq_8 ((nI_leI (a := (mna M)) (b := 0) (by omega) (by omega)).mpr z)
          refine lv_aload_n hx hb dX4_truck_64 rfl (lv_at hl 1 rfl) ?_
          refine r_get (C := RX4) (T := TX4) (N := 33) (v := .int (nI (3))) hx hb hts hown hK.1 hc (hlv _ rfl) (rfl) rfl rfl hinX4 5 (by decide) hf_89 (fun _ h9 => h9) rfl dX4_truck_65 ?_
          refine lv_if_ne (tgt := 97) hx hb dX4_truck_68 (by decide) (fun hq_10 => ?_) (fun hq_10 => absurd hq_10 (by decide))
          skip
          refine lv_aload_n hx hb dX4_truck_97 rfl (lv_at hl 1 rfl) ?_
          refine r_get (C := RX4) (T := TX4) (N := 33) (v := .int (nI (3))) hx hb hts hown hK.1 hc (hlv _ rfl) (rfl) rfl rfl hinX4 5 (by decide) hf_89 (fun _ h9 => h9) rfl dX4_truck_98 ?_
          refine lv_if_eq (tgt := 106) hx hb dX4_truck_101 (by decide) (fun hq_11 => absurd hq_11 (by decide)) (fun hq_11 => ?_)
          refine lv_iconst (v := nI (0)) hx hb dX4_truck_104 (by decide) ?_
          exact r_iret hx hb hr hlocks hc dX4_truck_105 (by
      have hq9 : oTruck M (nI j) y = (3, nI 0, M) := by simp only [oTruck, tN_nI hj9, if_pos hw3, if_pos hw17, if_neg hs]
      unfold QM; rw [hq9]
      exact ⟨rfl, rfl, pm_th hM, ((outM.r _).sfi (by decide))⟩)
      · have hs : ps M j = 0 := stI_0 (by omega) hq_7
        refine lv_aload_n hx hb dX4_truck_37 rfl (lv_at hl 0 rfl) ?_
        refine r_get (C := RX4) (T := TX4) (N := 33) (v := .ref (a (118))) hx hb hts hown hK.1 hc (hlv _ rfl) (rfl) rfl rfl hinX4 18 (by decide) hf_49 (fun _ h9 => h9) (congrArg va_rf (hmr.2 18 rfl)) dX4_truck_38 ?_
        refine lv_iload_n hx hb dX4_truck_41 rfl (lv_at hl 1 rfl) ?_
        refine r_iald (v := nI (pn M j)) hx hb hK.1 hc (hlv _ rfl) (rfl) (by decide) (by omega) dX4_truck_42 ((hM.2.2.2.2.1 _ (by omega)).1) ?_
        refine lv_if_ne (tgt := 50) hx hb dX4_truck_43 (by decide) (fun hq_12 => ?_) (fun hq_12 => ?_)
        · have hq_12 : ¬ ((pn M j) = 0) := fun z => hq_12 ((nI_eq (a := (pn M j)) (b := 0) (by omega) (by omega)).mpr z)
          have hn : ¬ pn M j = 0 := hq_12
          obtain ⟨v, hv0, hv1, hv2, rfl⟩ := isR_ex hw17
          refine lv_iconst (v := nI (0)) hx hb dX4_truck_50 (by decide) ?_
          refine r_put (C := RX4) (T := TX4) (N := 33) (R' := sfi R 100 5 (nI (0))) hx hb hts hown hK.1 hc (hlv _ rfl) (rfl) rfl rfl hinX4 tyX4 tyX4_ok nmX4 5 (by decide) hf_89 (fun _ h9 => h9) rfl (tyX4_ok 5 (by decide)) rfl rfl dX4_truck_51 (fds_sfi (by decide) (by decide)) (fun _ h9 => ct_sfi h9) (fun H locs hc => ?_)
          refine lv_iconst (v := nI (0)) hx hb dX4_truck_54 (by decide) ?_
          refine lv_istore_n (lv' := [(3, .int (nI (0))), (0, .ref (a (100))), (1, .int (nI (j))), (2, .int (nI (v)))]) hx hb dX4_truck_55 rfl hl (by decide) rfl (fun ls hl => ?_)
          have loop56 : ∀ (fuel56 : Nat) (i : Nat) (t : Nat) (H : Heap) (locs : List Loc) (ls : Array Slot), mna M - i < fuel56 → (i ≤ mna M) → ((t = 0 ∧ les M v i = false) ∨ (t = 3 ∧ les M v i = true)) → rc D g (rA lv a st.heap.size) st.heap lv a (sfi R 100 5 (nI (t))) H locs → lv_has ls 4 [(0, .ref (a (100))), (1, .int (nI (j))), (2, .int (nI (v))), (3, .int (nI (i)))] → W pr l en ({ frames := 2, cells := 0, slots := 0, locals := 43 } : Room) st mi ([.ref (a (100)), .int ((nI j)), .int ((nI v))] : List Value).toArray bl me co H locs 0 0 (MQ bl (va_Qi (QM R (oTruck M (nI j) (nI v))) (cB D g lv a) (rA lv a st.heap.size)) ([.ref (a (100)), .int ((nI j)), .int ((nI v))] : List Value).toArray st 0 0 (rA lv a st.heap.size)) (F0 mi 56 ls []) := by
            intro fuel56
            induction fuel56 with
            | zero => intro i t H locs ls hmu; exact absurd hmu (Nat.not_lt_zero _)
            | succ fuel56 ih56 =>
              intro i t H locs ls hmu56 hi hinv hc hl
              rcases hinv with ⟨rfl, hls⟩ | ⟨rfl, hls⟩
              · skip
                refine lv_iload_n hx hb dX4_truck_56 rfl (lv_at hl 3 rfl) ?_
                refine lv_aload_n hx hb dX4_truck_57 rfl (lv_at hl 0 rfl) ?_
                refine r_get (C := RX4) (T := TX4) (N := 33) (v := .int (nI (mna M))) hx hb hts hown hK.1 hc (hlv _ rfl) (rfl) rfl rfl hinX4 23 (by decide) hf_191 (fun _ h9 => h9) (congrArg Value.int hM.1.2.2.2.2.2.2.2.2.1) dX4_truck_58 ?_
                refine lv_icmp_ge (tgt := 97) hx hb dX4_truck_61 (by decide) (fun hq_13 => ?_) (fun hq_13 => ?_)
                · have hq_13 : (mna M) ≤ i := (nI_leI (a := (mna M)) (b := i) (by omega) (by omega)).mp hq_13
                  have hls9 : les M v (mna M) = false := by rw [← show i = mna M by omega]; exact hls
                  refine lv_aload_n hx hb dX4_truck_97 rfl (lv_at hl 0 rfl) ?_
                  refine r_get (C := RX4) (T := TX4) (N := 33) (v := .int (nI (0))) hx hb hts hown hK.1 hc (hlv _ rfl) (rfl) rfl rfl hinX4 5 (by decide) hf_89 (fun _ h9 => h9) rfl dX4_truck_98 ?_
                  refine lv_if_eq (tgt := 106) hx hb dX4_truck_101 (by decide) (fun hq_14 => ?_) (fun hq_14 => absurd hq_14 (by decide))
                  have hn8 := na_lt hI hj hs
                  refine lv_aload_n hx hb dX4_truck_106 rfl (lv_at hl 0 rfl) ?_
                  refine r_get (C := RX4) (T := TX4) (N := 33) (v := .ref (a (121))) hx hb hts hown hK.1 hc (hlv _ rfl) (rfl) rfl rfl hinX4 21 (by decide) hf_58 (fun _ h9 => h9) (congrArg va_rf (hmr.2 21 rfl)) dX4_truck_107 ?_
                  refine lv_iload_n hx hb dX4_truck_110 rfl (lv_at hl 1 rfl) ?_
                  refine lv_iload_n hx hb dX4_truck_111 rfl (lv_at hl 2 rfl) ?_
                  refine r_iast hx hb hK.1 hc (hlv _ rfl) (rfl) (by decide) (by omega) dX4_truck_112 (fun H locs hc => ?_)
                  refine lv_aload_n hx hb dX4_truck_113 rfl (lv_at hl 0 rfl) ?_
                  refine r_get (C := RX4) (T := TX4) (N := 33) (v := .ref (a (122))) hx hb hts hown hK.1 hc (hlv _ rfl) (rfl) rfl rfl hinX4 22 (by decide) hf_61 (fun _ h9 => h9) (congrArg va_rf (hmr.2 22 rfl)) dX4_truck_114 ?_
                  refine lv_aload_n hx hb dX4_truck_117 rfl (lv_at hl 0 rfl) ?_
                  refine r_get (C := RX4) (T := TX4) (N := 33) (v := .int (nI (mna M))) hx hb hts hown hK.1 hc (hlv _ rfl) (rfl) rfl rfl hinX4 23 (by decide) hf_191 (fun _ h9 => h9) (congrArg Value.int hM.1.2.2.2.2.2.2.2.2.1) dX4_truck_118 ?_
                  refine lv_iload_n hx hb dX4_truck_121 rfl (lv_at hl 1 rfl) ?_
                  refine r_iast hx hb hK.1 hc (hlv _ rfl) (rfl) (by decide) (by omega) dX4_truck_122 (fun H locs hc => ?_)
                  refine lv_aload_n hx hb dX4_truck_123 rfl (lv_at hl 0 rfl) ?_
                  refine lv_dup hx hb dX4_truck_124 rfl ?_
                  refine r_get (C := RX4) (T := TX4) (N := 33) (v := .int (nI (mna M))) hx hb hts hown hK.1 hc (hlv _ rfl) (rfl) rfl rfl hinX4 23 (by decide) hf_191 (fun _ h9 => h9) (congrArg Value.int hM.1.2.2.2.2.2.2.2.2.1) dX4_truck_125 ?_
                  refine lv_iconst (v := nI (1)) hx hb dX4_truck_128 (by decide) ?_
                  refine nv_iadd hx hb dX4_truck_129 ?_
                  refine r_put (C := RX4) (T := TX4) (N := 33) (R' := sfi (sai (sai (sfi R 100 5 (nI (0))) 121 j (nI (v))) 122 (mna M) (nI (j))) 100 23 (nI ((mna M) + 1))) hx hb hts hown hK.1 hc (hlv _ rfl) (rfl) rfl rfl hinX4 tyX4 tyX4_ok nmX4 23 (by decide) hf_191 (fun _ h9 => h9) rfl (tyX4_ok 23 (by decide)) rfl rfl dX4_truck_130 (fds_sfi (by decide) (by decide)) (fun _ h9 => ct_sfi h9) (fun H locs hc => ?_)
                  refine lv_aload_n hx hb dX4_truck_133 rfl (lv_at hl 0 rfl) ?_
                  refine r_get (C := RX4) (T := TX4) (N := 33) (v := .int (nI ((mna M) + 1))) hx hb hts hown hK.1 hc (hlv _ rfl) (rfl) rfl rfl hinX4 23 (by decide) hf_191 (fun _ h9 => h9) rfl dX4_truck_134 ?_
                  exact r_iret hx hb hr hlocks hc dX4_truck_137 (by
      have hq9 : oTruck M (nI j) (nI v) = (0, nI (mna M + 1), nTruck M j v) := by simp only [oTruck, tN_nI hj9, tN_nI hv2, if_pos hw3, if_pos hw17, if_pos hs, if_neg hn, hls9]; rfl
      unfold QM; rw [hq9]
      exact ⟨rfl, rfl, pm_truck hM, (((((outM.r _).sfi (by decide)).sai (by decide)).sai (by decide)).sfi (by decide))⟩)
                · have hq_13 : ¬ ((mna M) ≤ i) := fun z => hq_13 ((nI_leI (a := (mna M)) (b := i) (by omega) (by omega)).mpr z)
                  refine lv_aload_n hx hb dX4_truck_64 rfl (lv_at hl 0 rfl) ?_
                  refine r_get (C := RX4) (T := TX4) (N := 33) (v := .int (nI (0))) hx hb hts hown hK.1 hc (hlv _ rfl) (rfl) rfl rfl hinX4 5 (by decide) hf_89 (fun _ h9 => h9) rfl dX4_truck_65 ?_
                  refine lv_if_ne (tgt := 97) hx hb dX4_truck_68 (by decide) (fun hq_15 => absurd hq_15 (by decide)) (fun hq_15 => ?_)
                  have ht9 := iv_t hI (show i < mna M by omega)
                  have hq8 := iv_p hI ht9.1
                  refine lv_aload_n hx hb dX4_truck_71 rfl (lv_at hl 0 rfl) ?_
                  refine r_get (C := RX4) (T := TX4) (N := 33) (v := .ref (a (121))) hx hb hts hown hK.1 hc (hlv _ rfl) (rfl) rfl rfl hinX4 21 (by decide) hf_58 (fun _ h9 => h9) (congrArg va_rf (hmr.2 21 rfl)) dX4_truck_72 ?_
                  refine lv_aload_n hx hb dX4_truck_75 rfl (lv_at hl 0 rfl) ?_
                  refine r_get (C := RX4) (T := TX4) (N := 33) (v := .ref (a (122))) hx hb hts hown hK.1 hc (hlv _ rfl) (rfl) rfl rfl hinX4 22 (by decide) hf_61 (fun _ h9 => h9) (congrArg va_rf (hmr.2 22 rfl)) dX4_truck_76 ?_
                  refine lv_iload_n hx hb dX4_truck_79 rfl (lv_at hl 3 rfl) ?_
                  refine r_iald (v := nI (tb M i)) hx hb hK.1 hc (hlv _ rfl) (rfl) (by decide) (by omega) dX4_truck_80 (hM.2.2.2.2.2.2 _ (by omega)) ?_
                  refine r_iald (v := nI (ps M (tb M i) - 1)) hx hb hK.1 hc (hlv _ rfl) (rfl) (by decide) (by omega) dX4_truck_81 ((hM.2.2.2.2.1 _ ht9.1).2.trans (stI_p ht9.2)) ?_
                  refine lv_iload_n hx hb dX4_truck_82 rfl (lv_at hl 2 rfl) ?_
                  refine lv_icmp_ge (tgt := 91) hx hb dX4_truck_83 (by decide) (fun hq_16 => ?_) (fun hq_16 => ?_)
                  · have hq_16 : v ≤ (ps M (tb M i) - 1) := (nI_leI (a := v) (b := (ps M (tb M i) - 1)) (by omega) (by omega)).mp hq_16
                    refine lv_iinc (v := nI (i + 1)) (lv' := [(3, .int (nI (i + 1))), (0, .ref (a (100))), (1, .int (nI (j))), (2, .int (nI (v)))]) hx hb dX4_truck_91 hl (k := 3) rfl (nI_inc _ 1) (by decide) rfl (fun ls hl => ?_)
                    refine lv_goto (tgt := 56) hx hb dX4_truck_94 (by decide) ?_
                    exact ih56 (i + 1) 0 _ _ ls (by omega) (by omega) (Or.inl ⟨rfl, by simp only [les, hls, Bool.false_or]; exact decide_eq_false (by omega)⟩) hc (lv_sub hl [1, 2, 3, 0] rfl)
                  · have hq_16 : ¬ (v ≤ (ps M (tb M i) - 1)) := fun z => hq_16 ((nI_leI (a := v) (b := (ps M (tb M i) - 1)) (by omega) (by omega)).mpr z)
                    refine lv_aload_n hx hb dX4_truck_86 rfl (lv_at hl 0 rfl) ?_
                    refine lv_iconst (v := nI (3)) hx hb dX4_truck_87 (by decide) ?_
                    refine r_put (C := RX4) (T := TX4) (N := 33) (R' := sfi (sfi R 100 5 (nI (0))) 100 5 (nI (3))) hx hb hts hown hK.1 hc (hlv _ rfl) (rfl) rfl rfl hinX4 tyX4 tyX4_ok nmX4 5 (by decide) hf_89 (fun _ h9 => h9) rfl (tyX4_ok 5 (by decide)) rfl rfl dX4_truck_88 (fds_sfi (by decide) (by decide)) (fun _ h9 => ct_sfi h9) (fun H locs hc => ?_)
                    rw [sfi_2] at hc
                    refine lv_iinc (v := nI (i + 1)) (lv' := [(3, .int (nI (i + 1))), (0, .ref (a (100))), (1, .int (nI (j))), (2, .int (nI (v)))]) hx hb dX4_truck_91 hl (k := 3) rfl (nI_inc _ 1) (by decide) rfl (fun ls hl => ?_)
                    refine lv_goto (tgt := 56) hx hb dX4_truck_94 (by decide) ?_
                    exact ih56 (i + 1) 3 _ _ ls (by omega) (by omega) (Or.inr ⟨rfl, by simp only [les]; rw [decide_eq_true (show ps M (tb M i) < v + 1 by omega), Bool.or_true]⟩) hc (lv_sub hl [1, 2, 3, 0] rfl)
              · skip
                refine lv_iload_n hx hb dX4_truck_56 rfl (lv_at hl 3 rfl) ?_
                refine lv_aload_n hx hb dX4_truck_57 rfl (lv_at hl 0 rfl) ?_
                refine r_get (C := RX4) (T := TX4) (N := 33) (v := .int (nI (mna M))) hx hb hts hown hK.1 hc (hlv _ rfl) (rfl) rfl rfl hinX4 23 (by decide) hf_191 (fun _ h9 => h9) (congrArg Value.int hM.1.2.2.2.2.2.2.2.2.1) dX4_truck_58 ?_
                refine lv_icmp_ge (tgt := 97) hx hb dX4_truck_61 (by decide) (fun hq_17 => ?_) (fun hq_17 => ?_)
                · have hq_17 : (mna M) ≤ i := (nI_leI (a := (mna M)) (b := i) (by omega) (by omega)).mp hq_17
                  have hls9 : les M v (mna M) = true := les_mono (by omega) hls
                  refine lv_aload_n hx hb dX4_truck_97 rfl (lv_at hl 0 rfl) ?_
                  refine r_get (C := RX4) (T := TX4) (N := 33) (v := .int (nI (3))) hx hb hts hown hK.1 hc (hlv _ rfl) (rfl) rfl rfl hinX4 5 (by decide) hf_89 (fun _ h9 => h9) rfl dX4_truck_98 ?_
                  refine lv_if_eq (tgt := 106) hx hb dX4_truck_101 (by decide) (fun hq_18 => absurd hq_18 (by decide)) (fun hq_18 => ?_)
                  refine lv_iconst (v := nI (0)) hx hb dX4_truck_104 (by decide) ?_
                  exact r_iret hx hb hr hlocks hc dX4_truck_105 (by
      have hq9 : oTruck M (nI j) (nI v) = (3, nI 0, M) := by simp only [oTruck, tN_nI hj9, tN_nI hv2, if_pos hw3, if_pos hw17, if_pos hs, if_neg hn, if_pos hls9]
      unfold QM; rw [hq9]
      exact ⟨rfl, rfl, pm_th hM, ((outM.r _).sfi (by decide))⟩)
                · have hq_17 : ¬ ((mna M) ≤ i) := fun z => hq_17 ((nI_leI (a := (mna M)) (b := i) (by omega) (by omega)).mpr z)
                  refine lv_aload_n hx hb dX4_truck_64 rfl (lv_at hl 0 rfl) ?_
                  refine r_get (C := RX4) (T := TX4) (N := 33) (v := .int (nI (3))) hx hb hts hown hK.1 hc (hlv _ rfl) (rfl) rfl rfl hinX4 5 (by decide) hf_89 (fun _ h9 => h9) rfl dX4_truck_65 ?_
                  refine lv_if_ne (tgt := 97) hx hb dX4_truck_68 (by decide) (fun hq_19 => ?_) (fun hq_19 => absurd hq_19 (by decide))
                  have hls9 : les M v (mna M) = true := les_mono (by omega) hls
                  refine lv_aload_n hx hb dX4_truck_97 rfl (lv_at hl 0 rfl) ?_
                  refine r_get (C := RX4) (T := TX4) (N := 33) (v := .int (nI (3))) hx hb hts hown hK.1 hc (hlv _ rfl) (rfl) rfl rfl hinX4 5 (by decide) hf_89 (fun _ h9 => h9) rfl dX4_truck_98 ?_
                  refine lv_if_eq (tgt := 106) hx hb dX4_truck_101 (by decide) (fun hq_20 => absurd hq_20 (by decide)) (fun hq_20 => ?_)
                  refine lv_iconst (v := nI (0)) hx hb dX4_truck_104 (by decide) ?_
                  exact r_iret hx hb hr hlocks hc dX4_truck_105 (by
      have hq9 : oTruck M (nI j) (nI v) = (3, nI 0, M) := by simp only [oTruck, tN_nI hj9, tN_nI hv2, if_pos hw3, if_pos hw17, if_pos hs, if_neg hn, if_pos hls9]
      unfold QM; rw [hq9]
      exact ⟨rfl, rfl, pm_th hM, ((outM.r _).sfi (by decide))⟩)
          exact loop56 (mna M + 1) 0 0 _ _ ls (by omega) (Nat.zero_le _) (Or.inl ⟨rfl, rfl⟩) hc (lv_sub hl [1, 2, 3, 0] rfl)
        · have hq_12 : (pn M j) = 0 := (nI_eq (a := (pn M j)) (b := 0) (by omega) (by omega)).mp hq_12
          have hn : pn M j = 0 := hq_12
          refine lv_iconst (v := nI (3)) hx hb dX4_truck_46 (by decide) ?_
          refine lv_goto (tgt := 51) hx hb dX4_truck_47 (by decide) ?_
          refine r_put (C := RX4) (T := TX4) (N := 33) (R' := sfi R 100 5 (nI (3))) hx hb hts hown hK.1 hc (hlv _ rfl) (rfl) rfl rfl hinX4 tyX4 tyX4_ok nmX4 5 (by decide) hf_89 (fun _ h9 => h9) rfl (tyX4_ok 5 (by decide)) rfl rfl dX4_truck_51 (fds_sfi (by decide) (by decide)) (fun _ h9 => ct_sfi h9) (fun H locs hc => ?_)
          refine lv_iconst (v := nI (0)) hx hb dX4_truck_54 (by decide) ?_
          refine lv_istore_n (lv' := [(3, .int (nI (0))), (0, .ref (a (100))), (1, .int (nI (j))), (2, .int (y))]) hx hb dX4_truck_55 rfl hl (by decide) rfl (fun ls hl => ?_)
          refine lv_iload_n hx hb dX4_truck_56 rfl (lv_at hl 0 rfl) ?_
          refine lv_aload_n hx hb dX4_truck_57 rfl (lv_at hl 1 rfl) ?_
          refine r_get (C := RX4) (T := TX4) (N := 33) (v := .int (nI (mna M))) hx hb hts hown hK.1 hc (hlv _ rfl) (rfl) rfl rfl hinX4 23 (by decide) hf_191 (fun _ h9 => h9) (congrArg Value.int hM.1.2.2.2.2.2.2.2.2.1) dX4_truck_58 ?_
          refine lv_icmp_ge (tgt := 97) hx hb dX4_truck_61 (by decide) (fun hq_21 => ?_) (fun hq_21 => ?_)
          · have hq_21 : (mna M) ≤ 0 := (nI_leI (a := (mna M)) (b := 0) (by omega) (by omega)).mp hq_21
            skip
            refine lv_aload_n hx hb dX4_truck_97 rfl (lv_at hl 1 rfl) ?_
            refine r_get (C := RX4) (T := TX4) (N := 33) (v := .int (nI (3))) hx hb hts hown hK.1 hc (hlv _ rfl) (rfl) rfl rfl hinX4 5 (by decide) hf_89 (fun _ h9 => h9) rfl dX4_truck_98 ?_
            refine lv_if_eq (tgt := 106) hx hb dX4_truck_101 (by decide) (fun hq_22 => absurd hq_22 (by decide)) (fun hq_22 => ?_)
            refine lv_iconst (v := nI (0)) hx hb dX4_truck_104 (by decide) ?_
            exact r_iret hx hb hr hlocks hc dX4_truck_105 (by
      have hq9 : oTruck M (nI j) y = (3, nI 0, M) := by simp only [oTruck, tN_nI hj9, if_pos hw3, if_pos hw17, if_pos hs, if_pos hn]
      unfold QM; rw [hq9]
      exact ⟨rfl, rfl, pm_th hM, ((outM.r _).sfi (by decide))⟩)
          · have hq_21 : ¬ ((mna M) ≤ 0) := fun z => hq_21 ((nI_leI (a := (mna M)) (b := 0) (by omega) (by omega)).mpr z)
            refine lv_aload_n hx hb dX4_truck_64 rfl (lv_at hl 1 rfl) ?_
            refine r_get (C := RX4) (T := TX4) (N := 33) (v := .int (nI (3))) hx hb hts hown hK.1 hc (hlv _ rfl) (rfl) rfl rfl hinX4 5 (by decide) hf_89 (fun _ h9 => h9) rfl dX4_truck_65 ?_
            refine lv_if_ne (tgt := 97) hx hb dX4_truck_68 (by decide) (fun hq_23 => ?_) (fun hq_23 => absurd hq_23 (by decide))
            skip
            refine lv_aload_n hx hb dX4_truck_97 rfl (lv_at hl 1 rfl) ?_
            refine r_get (C := RX4) (T := TX4) (N := 33) (v := .int (nI (3))) hx hb hts hown hK.1 hc (hlv _ rfl) (rfl) rfl rfl hinX4 5 (by decide) hf_89 (fun _ h9 => h9) rfl dX4_truck_98 ?_
            refine lv_if_eq (tgt := 106) hx hb dX4_truck_101 (by decide) (fun hq_24 => absurd hq_24 (by decide)) (fun hq_24 => ?_)
            refine lv_iconst (v := nI (0)) hx hb dX4_truck_104 (by decide) ?_
            exact r_iret hx hb hr hlocks hc dX4_truck_105 (by
      have hq9 : oTruck M (nI j) y = (3, nI 0, M) := by simp only [oTruck, tN_nI hj9, if_pos hw3, if_pos hw17, if_pos hs, if_pos hn]
      unfold QM; rw [hq9]
      exact ⟨rfl, rfl, pm_th hM, ((outM.r _).sfi (by decide))⟩)
    · rw [hRe] at hc
      rw [w_iff (by decide) (by decide)] at hw17
      refine lv_if_ne (tgt := 27) hx hb dX4_truck_20 (by decide) (fun hq_25 => absurd hq_25 (by decide)) (fun hq_25 => ?_)
      refine lv_iconst (v := nI (2)) hx hb dX4_truck_23 (by decide) ?_
      refine lv_goto (tgt := 51) hx hb dX4_truck_24 (by decide) ?_
      refine r_put (C := RX4) (T := TX4) (N := 33) (R' := sfi R 100 5 (nI (2))) hx hb hts hown hK.1 hc (hlv _ rfl) (rfl) rfl rfl hinX4 tyX4 tyX4_ok nmX4 5 (by decide) hf_89 (fun _ h9 => h9) rfl (tyX4_ok 5 (by decide)) rfl rfl dX4_truck_51 (fds_sfi (by decide) (by decide)) (fun _ h9 => ct_sfi h9) (fun H locs hc => ?_)
      refine lv_iconst (v := nI (0)) hx hb dX4_truck_54 (by decide) ?_
      refine lv_istore_n (lv' := [(3, .int (nI (0))), (0, .ref (a (100))), (1, .int (nI (j))), (2, .int (y))]) hx hb dX4_truck_55 rfl hl (by decide) rfl (fun ls hl => ?_)
      refine lv_iload_n hx hb dX4_truck_56 rfl (lv_at hl 0 rfl) ?_
      refine lv_aload_n hx hb dX4_truck_57 rfl (lv_at hl 1 rfl) ?_
      refine r_get (C := RX4) (T := TX4) (N := 33) (v := .int (nI (mna M))) hx hb hts hown hK.1 hc (hlv _ rfl) (rfl) rfl rfl hinX4 23 (by decide) hf_191 (fun _ h9 => h9) (congrArg Value.int hM.1.2.2.2.2.2.2.2.2.1) dX4_truck_58 ?_
      refine lv_icmp_ge (tgt := 97) hx hb dX4_truck_61 (by decide) (fun hq_26 => ?_) (fun hq_26 => ?_)
      · have hq_26 : (mna M) ≤ 0 := (nI_leI (a := (mna M)) (b := 0) (by omega) (by omega)).mp hq_26
        skip
        refine lv_aload_n hx hb dX4_truck_97 rfl (lv_at hl 1 rfl) ?_
        refine r_get (C := RX4) (T := TX4) (N := 33) (v := .int (nI (2))) hx hb hts hown hK.1 hc (hlv _ rfl) (rfl) rfl rfl hinX4 5 (by decide) hf_89 (fun _ h9 => h9) rfl dX4_truck_98 ?_
        refine lv_if_eq (tgt := 106) hx hb dX4_truck_101 (by decide) (fun hq_27 => absurd hq_27 (by decide)) (fun hq_27 => ?_)
        refine lv_iconst (v := nI (0)) hx hb dX4_truck_104 (by decide) ?_
        exact r_iret hx hb hr hlocks hc dX4_truck_105 (by
      have hq9 : oTruck M (nI j) y = (2, nI 0, M) := by simp only [oTruck, tN_nI hj9, if_pos hw3, if_neg hw17]
      unfold QM; rw [hq9]
      exact ⟨rfl, rfl, pm_th hM, ((outM.r _).sfi (by decide))⟩)
      · have hq_26 : ¬ ((mna M) ≤ 0) := fun z => hq_26 ((nI_leI (a := (mna M)) (b := 0) (by omega) (by omega)).mpr z)
        refine lv_aload_n hx hb dX4_truck_64 rfl (lv_at hl 1 rfl) ?_
        refine r_get (C := RX4) (T := TX4) (N := 33) (v := .int (nI (2))) hx hb hts hown hK.1 hc (hlv _ rfl) (rfl) rfl rfl hinX4 5 (by decide) hf_89 (fun _ h9 => h9) rfl dX4_truck_65 ?_
        refine lv_if_ne (tgt := 97) hx hb dX4_truck_68 (by decide) (fun hq_28 => ?_) (fun hq_28 => absurd hq_28 (by decide))
        skip
        refine lv_aload_n hx hb dX4_truck_97 rfl (lv_at hl 1 rfl) ?_
        refine r_get (C := RX4) (T := TX4) (N := 33) (v := .int (nI (2))) hx hb hts hown hK.1 hc (hlv _ rfl) (rfl) rfl rfl hinX4 5 (by decide) hf_89 (fun _ h9 => h9) rfl dX4_truck_98 ?_
        refine lv_if_eq (tgt := 106) hx hb dX4_truck_101 (by decide) (fun hq_29 => absurd hq_29 (by decide)) (fun hq_29 => ?_)
        refine lv_iconst (v := nI (0)) hx hb dX4_truck_104 (by decide) ?_
        exact r_iret hx hb hr hlocks hc dX4_truck_105 (by
      have hq9 : oTruck M (nI j) y = (2, nI 0, M) := by simp only [oTruck, tN_nI hj9, if_pos hw3, if_neg hw17]
      unfold QM; rw [hq9]
      exact ⟨rfl, rfl, pm_th hM, ((outM.r _).sfi (by decide))⟩)
  · rw [hRe] at hc
    refine lv_if_ne (tgt := 13) hx hb dX4_truck_6 (by decide) (fun hq_30 => absurd hq_30 (by decide)) (fun hq_30 => ?_)
    refine lv_iconst (v := nI (1)) hx hb dX4_truck_9 (by decide) ?_
    refine lv_goto (tgt := 51) hx hb dX4_truck_10 (by decide) ?_
    refine r_put (C := RX4) (T := TX4) (N := 33) (R' := sfi R 100 5 (nI (1))) hx hb hts hown hK.1 hc (hlv _ rfl) (rfl) rfl rfl hinX4 tyX4 tyX4_ok nmX4 5 (by decide) hf_89 (fun _ h9 => h9) rfl (tyX4_ok 5 (by decide)) rfl rfl dX4_truck_51 (fds_sfi (by decide) (by decide)) (fun _ h9 => ct_sfi h9) (fun H locs hc => ?_)
    refine lv_iconst (v := nI (0)) hx hb dX4_truck_54 (by decide) ?_
    refine lv_istore_n (lv' := [(3, .int (nI (0))), (0, .ref (a (100))), (1, .int (x)), (2, .int (y))]) hx hb dX4_truck_55 rfl hl (by decide) rfl (fun ls hl => ?_)
    refine lv_iload_n hx hb dX4_truck_56 rfl (lv_at hl 0 rfl) ?_
    refine lv_aload_n hx hb dX4_truck_57 rfl (lv_at hl 1 rfl) ?_
    refine r_get (C := RX4) (T := TX4) (N := 33) (v := .int (nI (mna M))) hx hb hts hown hK.1 hc (hlv _ rfl) (rfl) rfl rfl hinX4 23 (by decide) hf_191 (fun _ h9 => h9) (congrArg Value.int hM.1.2.2.2.2.2.2.2.2.1) dX4_truck_58 ?_
    refine lv_icmp_ge (tgt := 97) hx hb dX4_truck_61 (by decide) (fun hq_31 => ?_) (fun hq_31 => ?_)
    · have hq_31 : (mna M) ≤ 0 := (nI_leI (a := (mna M)) (b := 0) (by omega) (by omega)).mp hq_31
      skip
      refine lv_aload_n hx hb dX4_truck_97 rfl (lv_at hl 1 rfl) ?_
      refine r_get (C := RX4) (T := TX4) (N := 33) (v := .int (nI (1))) hx hb hts hown hK.1 hc (hlv _ rfl) (rfl) rfl rfl hinX4 5 (by decide) hf_89 (fun _ h9 => h9) rfl dX4_truck_98 ?_
      refine lv_if_eq (tgt := 106) hx hb dX4_truck_101 (by decide) (fun hq_32 => absurd hq_32 (by decide)) (fun hq_32 => ?_)
      refine lv_iconst (v := nI (0)) hx hb dX4_truck_104 (by decide) ?_
      exact r_iret hx hb hr hlocks hc dX4_truck_105 (by
      have hq9 : oTruck M x y = (1, nI 0, M) := by simp only [oTruck, if_neg hw3]
      unfold QM; rw [hq9]
      exact ⟨rfl, rfl, pm_th hM, ((outM.r _).sfi (by decide))⟩)
    · have hq_31 : ¬ ((mna M) ≤ 0) := fun z => hq_31 ((nI_leI (a := (mna M)) (b := 0) (by omega) (by omega)).mpr z)
      refine lv_aload_n hx hb dX4_truck_64 rfl (lv_at hl 1 rfl) ?_
      refine r_get (C := RX4) (T := TX4) (N := 33) (v := .int (nI (1))) hx hb hts hown hK.1 hc (hlv _ rfl) (rfl) rfl rfl hinX4 5 (by decide) hf_89 (fun _ h9 => h9) rfl dX4_truck_65 ?_
      refine lv_if_ne (tgt := 97) hx hb dX4_truck_68 (by decide) (fun hq_33 => ?_) (fun hq_33 => absurd hq_33 (by decide))
      skip
      refine lv_aload_n hx hb dX4_truck_97 rfl (lv_at hl 1 rfl) ?_
      refine r_get (C := RX4) (T := TX4) (N := 33) (v := .int (nI (1))) hx hb hts hown hK.1 hc (hlv _ rfl) (rfl) rfl rfl hinX4 5 (by decide) hf_89 (fun _ h9 => h9) rfl dX4_truck_98 ?_
      refine lv_if_eq (tgt := 106) hx hb dX4_truck_101 (by decide) (fun hq_34 => absurd hq_34 (by decide)) (fun hq_34 => ?_)
      refine lv_iconst (v := nI (0)) hx hb dX4_truck_104 (by decide) ?_
      exact r_iret hx hb hr hlocks hc dX4_truck_105 (by
      have hq9 : oTruck M x y = (1, nI 0, M) := by simp only [oTruck, if_neg hw3]
      unfold QM; rw [hq9]
      exact ⟨rfl, rfl, pm_th hM, ((outM.r _).sfi (by decide))⟩)
set_option maxRecDepth 100000 in
set_option maxHeartbeats 4000000 in
theorem c_X4_unload (l : Launch) (D : va_G) (g : Nat → ClassId) (lv : Nat → Bool) (a : Nat → Nat) (R : RS) (M : MS) (hmr : PMr R a lv) (hM : PM R M) (hI : Inv M) (x : Int32) : cI l D g lv a yX4_unload wsX4_unload ({ frames := 1, cells := 0, slots := 0, locals := 22 } : Room) [.ref (a (100)), .int (x)] R (QM R (oUnload M x)) 0 0 := by
  refine c_body (cc := cX4_unload) (maxL := 5) (ret := (some .int)) (by decide) rfl (Nat.le_of_ble_eq_true rfl) ?_
  intro pr en st mi bl me co ls B hl
  obtain ⟨hx, hb, hr, hml, hown, hts, hlocks, hnm, hK, hZ, hc, hA⟩ := B
  have hl : lv_has ls 5 [(0, .ref (a (100))), (1, .int (x))] := hl
  have hinX4 : ∀ w ∈ u_ws RX4 TX4 33, w ∈ wsX4_unload := (fun _ h => List.mem_cons_of_mem _ (List.mem_append_left _ (List.mem_append_right _ h)))
  have hf_49 := hts (.fieldLink RX4 49 "PalletLayersModel" "layers" "[I") (by decide +kernel)
  have hf_58 := hts (.fieldLink RX4 58 "PalletLayersModel" "stop" "[I") (by decide +kernel)
  have hf_61 := hts (.fieldLink RX4 61 "PalletLayersModel" "truck" "[I") (by decide +kernel)
  have hf_89 := hts (.fieldLink RX4 89 "PalletLayersModel" "thrown" "I") (by decide +kernel)
  have hf_191 := hts (.fieldLink RX4 191 "PalletLayersModel" "onTruck" "I") (by decide +kernel)
  have hlv := hmr.1
  have hb9 := iv_b hI
  refine lv_aload_n hx hb dX4_unload_0 rfl (lv_at hl 0 rfl) ?_
  refine lv_iload_n hx hb dX4_unload_1 rfl (lv_at hl 1 rfl) ?_
  refine lv_iconst (v := nI (0)) hx hb dX4_unload_2 (by decide) ?_
  refine lv_bipush (v := nI (9)) hx hb dX4_unload_3 (by decide) ?_
  refine r_calli hc hA (va_runS (As := [.int (x), .int (nI (0)), .int (nI (9))]) (rest := [.ref (a (100))]) ⟨hx, hb, hml, hown, hts⟩ (c_X4_within l D g lv a R x (nI (0)) (nI (9)) _) (va_cwS 3 hts gX4_unload_X4_within rfl rfl rfl (by decide +kernel) ⟨Nat.le_of_ble_eq_true rfl, Nat.le_of_ble_eq_true rfl⟩) (r_preS hK hZ hc hA) rfl rfl hl.1 rfl (lv_room (Nat.le_of_ble_eq_true rfl)) dX4_unload_5 ⟨Nat.le_of_ble_eq_true rfl, Nat.le_of_ble_eq_true rfl⟩) (fun r R' H locs hp hc => ?_)
  obtain ⟨hRe, ⟨hw5, rfl⟩ | ⟨hw5, rfl⟩⟩ := hp
  · rw [hRe] at hc
    rw [w_iff (by decide) (by decide)] at hw5
    refine lv_if_ne (tgt := 15) hx hb dX4_unload_8 (by decide) (fun hq_3 => ?_) (fun hq_3 => absurd hq_3 (by decide))
    obtain ⟨v, hv0, hv1, hv2, rfl⟩ := isR_ex hw5
    refine lv_iconst (v := nI (0)) hx hb dX4_unload_15 (by decide) ?_
    refine r_put (C := RX4) (T := TX4) (N := 33) (R' := sfi R 100 5 (nI (0))) hx hb hts hown hK.1 hc (hlv _ rfl) (rfl) rfl rfl hinX4 tyX4 tyX4_ok nmX4 5 (by decide) hf_89 (fun _ h9 => h9) rfl (tyX4_ok 5 (by decide)) rfl rfl dX4_unload_16 (fds_sfi (by decide) (by decide)) (fun _ h9 => ct_sfi h9) (fun H locs hc => ?_)
    refine lv_iconst (v := nI (0)) hx hb dX4_unload_19 (by decide) ?_
    refine lv_istore_n (lv' := [(2, .int (nI (0))), (0, .ref (a (100))), (1, .int (nI (v)))]) hx hb dX4_unload_20 rfl hl (by decide) rfl (fun ls hl => ?_)
    refine lv_iconst (v := nI (0)) hx hb dX4_unload_21 (by decide) ?_
    refine lv_istore_n (lv' := [(3, .int (nI (0))), (2, .int (nI (0))), (0, .ref (a (100))), (1, .int (nI (v)))]) hx hb dX4_unload_22 rfl hl (by decide) rfl (fun ls hl => ?_)
    have loop23 : ∀ (fuel23 : Nat) (i : Nat) (t : Nat) (u : Nat) (H : Heap) (locs : List Loc) (ls : Array Slot), mna M - i < fuel23 → (i ≤ mna M) → ((t = 0 ∧ bar M v i = false) ∨ (t = 2 ∧ bar M v i = true)) → ((u = 0 ∧ sen M v i = false) ∨ (u = 1 ∧ sen M v i = true)) → rc D g (rA lv a st.heap.size) st.heap lv a (sfi R 100 5 (nI (t))) H locs → lv_has ls 5 [(0, .ref (a (100))), (1, .int (nI (v))), (2, .int (nI (u))), (3, .int (nI (i)))] → W pr l en ({ frames := 1, cells := 0, slots := 0, locals := 22 } : Room) st mi ([.ref (a (100)), .int ((nI v))] : List Value).toArray bl me co H locs 0 0 (MQ bl (va_Qi (QM R (oUnload M (nI v))) (cB D g lv a) (rA lv a st.heap.size)) ([.ref (a (100)), .int ((nI v))] : List Value).toArray st 0 0 (rA lv a st.heap.size)) (F0 mi 23 ls []) := by
      intro fuel23
      induction fuel23 with
      | zero => intro i t u H locs ls hmu; exact absurd hmu (Nat.not_lt_zero _)
      | succ fuel23 ih23 =>
        intro i t u H locs ls hmu23 hi hinv hsn hc hl
        rcases hinv with ⟨rfl, hbr⟩ | ⟨rfl, hbr⟩
        · skip
          refine lv_iload_n hx hb dX4_unload_23 rfl (lv_at hl 3 rfl) ?_
          refine lv_aload_n hx hb dX4_unload_24 rfl (lv_at hl 0 rfl) ?_
          refine r_get (C := RX4) (T := TX4) (N := 33) (v := .int (nI (mna M))) hx hb hts hown hK.1 hc (hlv _ rfl) (rfl) rfl rfl hinX4 23 (by decide) hf_191 (fun _ h9 => h9) (congrArg Value.int hM.1.2.2.2.2.2.2.2.2.1) dX4_unload_25 ?_
          refine lv_icmp_ge (tgt := 95) hx hb dX4_unload_28 (by decide) (fun hq_4 => ?_) (fun hq_4 => ?_)
          · have hq_4 : (mna M) ≤ i := (nI_leI (a := (mna M)) (b := i) (by omega) (by omega)).mp hq_4
            have hb7 : bar M v (mna M) = false := by rw [← show i = mna M by omega]; exact hbr
            refine lv_aload_n hx hb dX4_unload_95 rfl (lv_at hl 0 rfl) ?_
            refine r_get (C := RX4) (T := TX4) (N := 33) (v := .int (nI (0))) hx hb hts hown hK.1 hc (hlv _ rfl) (rfl) rfl rfl hinX4 5 (by decide) hf_89 (fun _ h9 => h9) rfl dX4_unload_96 ?_
            refine lv_if_eq (tgt := 104) hx hb dX4_unload_99 (by decide) (fun hq_5 => ?_) (fun hq_5 => absurd hq_5 (by decide))
            refine lv_iconst (v := nI (0)) hx hb dX4_unload_104 (by decide) ?_
            refine lv_istore_n (lv' := [(3, .int (nI (0))), (0, .ref (a (100))), (1, .int (nI (v))), (2, .int (nI (u)))]) hx hb dX4_unload_105 rfl hl (by decide) rfl (fun ls hl => ?_)
            have loop106 : ∀ (fuel106 : Nat) (n : Nat) (f1 : Nat) (M1 : MS) (R1 : RS) (H : Heap) (locs : List Loc) (ls : Array Slot), mna M1 < fuel106 → (mna M1 ≤ f1) → (nUn v 8 M = (n + (nUn v f1 M1).1, (nUn v f1 M1).2)) → (Inv M1) → (PM R1 M1) → (PMr R1 a lv) → (fi R1 100 5 = nI 0) → (outM R R1) → rc D g (rA lv a st.heap.size) st.heap lv a R1 H locs → lv_has ls 5 [(0, .ref (a (100))), (1, .int (nI (v))), (3, .int (nI (n)))] → W pr l en ({ frames := 1, cells := 0, slots := 0, locals := 22 } : Room) st mi ([.ref (a (100)), .int ((nI v))] : List Value).toArray bl me co H locs 0 0 (MQ bl (va_Qi (QM R (oUnload M (nI v))) (cB D g lv a) (rA lv a st.heap.size)) ([.ref (a (100)), .int ((nI v))] : List Value).toArray st 0 0 (rA lv a st.heap.size)) (F0 mi 106 ls []) := by
              intro fuel106
              induction fuel106 with
              | zero => intro n f1 M1 R1 H locs ls hmu; exact absurd hmu (Nat.not_lt_zero _)
              | succ fuel106 ih106 =>
                intro n f1 M1 R1 H locs ls hmu106 hfm hun hI1 hM1 hmr1 hth hout hc hl
                have hb8 := iv_b hI1
                refine lv_aload_n hx hb dX4_unload_106 rfl (lv_at hl 0 rfl) ?_
                refine r_get (C := RX4) (T := TX4) (N := 33) (v := .int (nI (mna M1))) hx hb hts hown hK.1 hc (hlv _ rfl) (rfl) rfl rfl hinX4 23 (by decide) hf_191 (fun _ h9 => h9) (congrArg Value.int hM1.1.2.2.2.2.2.2.2.2.1) dX4_unload_107 ?_
                refine lv_if_le (tgt := 179) hx hb dX4_unload_110 (by decide) (fun hq_6 => ?_) (fun hq_6 => ?_)
                · have hq_6 : (mna M1) ≤ 0 := (nI_leI (a := (mna M1)) (b := 0) (by omega) (by omega)).mp hq_6
                  have hend : ¬ (0 < mna M1 ∧ ps M1 (tb M1 (mna M1 - 1)) = v + 1) := by omega
                  refine lv_iload_n hx hb dX4_unload_179 rfl (lv_at hl 2 rfl) ?_
                  exact r_iret hx hb hr hlocks hc dX4_unload_180 (by
      have hq9 : oUnload M (nI v) = (0, nI (nUn v 8 M).1, (nUn v 8 M).2) := by simp only [oUnload, tN_nI hv2, if_pos hw5, hb7]; rfl
      have hz9 : nUn v f1 M1 = (0, M1) := nUn_0 hfm hend
      rw [hz9] at hun
      unfold QM; rw [hq9, hun]
      exact ⟨rfl, hth, hM1, hout⟩)
                · have hq_6 : ¬ ((mna M1) ≤ 0) := fun z => hq_6 ((nI_leI (a := (mna M1)) (b := 0) (by omega) (by omega)).mpr z)
                  have h08 : 0 < mna M1 := by omega
                  have ht8 := iv_t hI1 (show mna M1 - 1 < mna M1 by omega)
                  have hq8 := iv_p hI1 ht8.1
                  have hb8 := iv_b hI1
                  refine lv_aload_n hx hb dX4_unload_113 rfl (lv_at hl 0 rfl) ?_
                  refine r_get (C := RX4) (T := TX4) (N := 33) (v := .ref (a (121))) hx hb hts hown hK.1 hc (hlv _ rfl) (rfl) rfl rfl hinX4 21 (by decide) hf_58 (fun _ h9 => h9) (congrArg va_rf (hmr1.2 21 rfl)) dX4_unload_114 ?_
                  refine lv_aload_n hx hb dX4_unload_117 rfl (lv_at hl 0 rfl) ?_
                  refine r_get (C := RX4) (T := TX4) (N := 33) (v := .ref (a (122))) hx hb hts hown hK.1 hc (hlv _ rfl) (rfl) rfl rfl hinX4 22 (by decide) hf_61 (fun _ h9 => h9) (congrArg va_rf (hmr1.2 22 rfl)) dX4_unload_118 ?_
                  refine lv_aload_n hx hb dX4_unload_121 rfl (lv_at hl 0 rfl) ?_
                  refine r_get (C := RX4) (T := TX4) (N := 33) (v := .int (nI (mna M1))) hx hb hts hown hK.1 hc (hlv _ rfl) (rfl) rfl rfl hinX4 23 (by decide) hf_191 (fun _ h9 => h9) (congrArg Value.int hM1.1.2.2.2.2.2.2.2.2.1) dX4_unload_122 ?_
                  refine lv_iconst (v := nI (1)) hx hb dX4_unload_125 (by decide) ?_
                  refine nv_isub hx hb dX4_unload_126 (by omega) ?_
                  refine r_iald (v := nI (tb M1 ((mna M1) - 1))) hx hb hK.1 hc (hlv _ rfl) (rfl) (by decide) (by omega) dX4_unload_127 (hM1.2.2.2.2.2.2 _ (by omega)) ?_
                  refine r_iald (v := nI (ps M1 (tb M1 ((mna M1) - 1)) - 1)) hx hb hK.1 hc (hlv _ rfl) (rfl) (by decide) (by omega) dX4_unload_128 ((hM1.2.2.2.2.1 _ ht8.1).2.trans (stI_p ht8.2)) ?_
                  refine lv_iload_n hx hb dX4_unload_129 rfl (lv_at hl 1 rfl) ?_
                  refine lv_icmp_ne (tgt := 179) hx hb dX4_unload_130 (by decide) (fun hq_7 => ?_) (fun hq_7 => ?_)
                  · have hq_7 : ¬ ((ps M1 (tb M1 ((mna M1) - 1)) - 1) = v) := fun z => hq_7 ((nI_eq (a := (ps M1 (tb M1 ((mna M1) - 1)) - 1)) (b := v) (by omega) (by omega)).mpr z)
                    have hend : ¬ (0 < mna M1 ∧ ps M1 (tb M1 (mna M1 - 1)) = v + 1) := by omega
                    refine lv_iload_n hx hb dX4_unload_179 rfl (lv_at hl 2 rfl) ?_
                    exact r_iret hx hb hr hlocks hc dX4_unload_180 (by
      have hq9 : oUnload M (nI v) = (0, nI (nUn v 8 M).1, (nUn v 8 M).2) := by simp only [oUnload, tN_nI hv2, if_pos hw5, hb7]; rfl
      have hz9 : nUn v f1 M1 = (0, M1) := nUn_0 hfm hend
      rw [hz9] at hun
      unfold QM; rw [hq9, hun]
      exact ⟨rfl, hth, hM1, hout⟩)
                  · have hq_7 : (ps M1 (tb M1 ((mna M1) - 1)) - 1) = v := (nI_eq (a := (ps M1 (tb M1 ((mna M1) - 1)) - 1)) (b := v) (by omega) (by omega)).mp hq_7
                    have hps : ps M1 (tb M1 (mna M1 - 1)) = v + 1 := by omega
                    refine lv_aload_n hx hb dX4_unload_133 rfl (lv_at hl 0 rfl) ?_
                    refine lv_dup hx hb dX4_unload_134 rfl ?_
                    refine r_get (C := RX4) (T := TX4) (N := 33) (v := .int (nI (mna M1))) hx hb hts hown hK.1 hc (hlv _ rfl) (rfl) rfl rfl hinX4 23 (by decide) hf_191 (fun _ h9 => h9) (congrArg Value.int hM1.1.2.2.2.2.2.2.2.2.1) dX4_unload_135 ?_
                    refine lv_iconst (v := nI (1)) hx hb dX4_unload_138 (by decide) ?_
                    refine nv_isub hx hb dX4_unload_139 (by omega) ?_
                    refine r_put (C := RX4) (T := TX4) (N := 33) (R' := sfi R1 100 23 (nI ((mna M1) - 1))) hx hb hts hown hK.1 hc (hlv _ rfl) (rfl) rfl rfl hinX4 tyX4 tyX4_ok nmX4 23 (by decide) hf_191 (fun _ h9 => h9) rfl (tyX4_ok 23 (by decide)) rfl rfl dX4_unload_140 (fds_sfi (by decide) (by decide)) (fun _ h9 => ct_sfi h9) (fun H locs hc => ?_)
                    refine lv_aload_n hx hb dX4_unload_143 rfl (lv_at hl 0 rfl) ?_
                    refine r_get (C := RX4) (T := TX4) (N := 33) (v := .ref (a (121))) hx hb hts hown hK.1 hc (hlv _ rfl) (rfl) rfl rfl hinX4 21 (by decide) hf_58 (fun _ h9 => h9) (congrArg va_rf (hmr1.2 21 rfl)) dX4_unload_144 ?_
                    refine lv_aload_n hx hb dX4_unload_147 rfl (lv_at hl 0 rfl) ?_
                    refine r_get (C := RX4) (T := TX4) (N := 33) (v := .ref (a (122))) hx hb hts hown hK.1 hc (hlv _ rfl) (rfl) rfl rfl hinX4 22 (by decide) hf_61 (fun _ h9 => h9) (congrArg va_rf (hmr1.2 22 rfl)) dX4_unload_148 ?_
                    refine lv_aload_n hx hb dX4_unload_151 rfl (lv_at hl 0 rfl) ?_
                    refine r_get (C := RX4) (T := TX4) (N := 33) (v := .int (nI ((mna M1) - 1))) hx hb hts hown hK.1 hc (hlv _ rfl) (rfl) rfl rfl hinX4 23 (by decide) hf_191 (fun _ h9 => h9) rfl dX4_unload_152 ?_
                    refine r_iald (v := nI (tb M1 ((mna M1) - 1))) hx hb hK.1 hc (hlv _ rfl) (rfl) (by decide) (by omega) dX4_unload_155 (hM1.2.2.2.2.2.2 _ (by omega)) ?_
                    refine lv_iconst (v := (-1)) hx hb dX4_unload_156 (by decide) ?_
                    refine r_iast hx hb hK.1 hc (hlv _ rfl) (rfl) (by decide) (by omega) dX4_unload_157 (fun H locs hc => ?_)
                    refine lv_aload_n hx hb dX4_unload_158 rfl (lv_at hl 0 rfl) ?_
                    refine r_get (C := RX4) (T := TX4) (N := 33) (v := .ref (a (118))) hx hb hts hown hK.1 hc (hlv _ rfl) (rfl) rfl rfl hinX4 18 (by decide) hf_49 (fun _ h9 => h9) (congrArg va_rf (hmr1.2 18 rfl)) dX4_unload_159 ?_
                    refine lv_aload_n hx hb dX4_unload_162 rfl (lv_at hl 0 rfl) ?_
                    refine r_get (C := RX4) (T := TX4) (N := 33) (v := .ref (a (122))) hx hb hts hown hK.1 hc (hlv _ rfl) (rfl) rfl rfl hinX4 22 (by decide) hf_61 (fun _ h9 => h9) (congrArg va_rf (hmr1.2 22 rfl)) dX4_unload_163 ?_
                    refine lv_aload_n hx hb dX4_unload_166 rfl (lv_at hl 0 rfl) ?_
                    refine r_get (C := RX4) (T := TX4) (N := 33) (v := .int (nI ((mna M1) - 1))) hx hb hts hown hK.1 hc (hlv _ rfl) (rfl) rfl rfl hinX4 23 (by decide) hf_191 (fun _ h9 => h9) rfl dX4_unload_167 ?_
                    refine r_iald (v := nI (tb M1 ((mna M1) - 1))) hx hb hK.1 hc (hlv _ rfl) (rfl) (by decide) (by omega) dX4_unload_170 (hM1.2.2.2.2.2.2 _ (by omega)) ?_
                    refine lv_iconst (v := nI (0)) hx hb dX4_unload_171 (by decide) ?_
                    refine r_iast hx hb hK.1 hc (hlv _ rfl) (rfl) (by decide) (by omega) dX4_unload_172 (fun H locs hc => ?_)
                    refine lv_iinc (v := nI (n + 1)) (lv' := [(3, .int (nI (n + 1))), (0, .ref (a (100))), (1, .int (nI (v)))]) hx hb dX4_unload_173 hl (k := 2) rfl (nI_inc _ 1) (by decide) rfl (fun ls hl => ?_)
                    refine lv_goto (tgt := 106) hx hb dX4_unload_176 (by decide) ?_
                    exact ih106 (n + 1) (f1 - 1) (nPop M1) (sai (sai (sfi R1 100 23 (nI ((mna M1) - 1))) 121 (tb M1 ((mna M1) - 1)) ((-1))) 118 (tb M1 ((mna M1) - 1)) (nI (0))) _ _ ls (by show mna M1 - 1 < _; omega) (by show mna M1 - 1 ≤ f1 - 1; omega) (by rw [hun, nUn_1 hfm ⟨h08, hps⟩, Nat.add_assoc, Nat.add_comm 1]) (iv_pop hI1 h08) (pm_pop hM1 hI1 h08) hmr1 hth (hout.trans ((((outM.r _).sfi (by decide)).sai (by decide)).sai (by decide))) hc (lv_sub hl [1, 2, 0] rfl)
            exact loop106 (mna M + 1) 0 8 M (sfi R 100 5 (nI (0))) _ _ ls (by omega) hb9.2.2.2.2.2.2.1 (by rw [Nat.zero_add]) hI (pm_th hM) hmr rfl ((outM.r _).sfi (by decide)) hc (lv_sub hl [1, 2, 0] rfl)
          · have hq_4 : ¬ ((mna M) ≤ i) := fun z => hq_4 ((nI_leI (a := (mna M)) (b := i) (by omega) (by omega)).mpr z)
            refine lv_aload_n hx hb dX4_unload_31 rfl (lv_at hl 0 rfl) ?_
            refine r_get (C := RX4) (T := TX4) (N := 33) (v := .int (nI (0))) hx hb hts hown hK.1 hc (hlv _ rfl) (rfl) rfl rfl hinX4 5 (by decide) hf_89 (fun _ h9 => h9) rfl dX4_unload_32 ?_
            refine lv_if_ne (tgt := 95) hx hb dX4_unload_35 (by decide) (fun hq_8 => absurd hq_8 (by decide)) (fun hq_8 => ?_)
            have ht9 := iv_t hI (show i < mna M by omega)
            have hq8 := iv_p hI ht9.1
            rcases hsn with ⟨rfl, hsn⟩ | ⟨rfl, hsn⟩
            · skip
              refine lv_aload_n hx hb dX4_unload_38 rfl (lv_at hl 0 rfl) ?_
              refine r_get (C := RX4) (T := TX4) (N := 33) (v := .ref (a (121))) hx hb hts hown hK.1 hc (hlv _ rfl) (rfl) rfl rfl hinX4 21 (by decide) hf_58 (fun _ h9 => h9) (congrArg va_rf (hmr.2 21 rfl)) dX4_unload_39 ?_
              refine lv_aload_n hx hb dX4_unload_42 rfl (lv_at hl 0 rfl) ?_
              refine r_get (C := RX4) (T := TX4) (N := 33) (v := .ref (a (122))) hx hb hts hown hK.1 hc (hlv _ rfl) (rfl) rfl rfl hinX4 22 (by decide) hf_61 (fun _ h9 => h9) (congrArg va_rf (hmr.2 22 rfl)) dX4_unload_43 ?_
              refine lv_iload_n hx hb dX4_unload_46 rfl (lv_at hl 3 rfl) ?_
              refine r_iald (v := nI (tb M i)) hx hb hK.1 hc (hlv _ rfl) (rfl) (by decide) (by omega) dX4_unload_47 (hM.2.2.2.2.2.2 _ (by omega)) ?_
              refine r_iald (v := nI (ps M (tb M i) - 1)) hx hb hK.1 hc (hlv _ rfl) (rfl) (by decide) (by omega) dX4_unload_48 ((hM.2.2.2.2.1 _ ht9.1).2.trans (stI_p ht9.2)) ?_
              refine lv_iload_n hx hb dX4_unload_49 rfl (lv_at hl 1 rfl) ?_
              refine lv_icmp_ne (tgt := 57) hx hb dX4_unload_50 (by decide) (fun hq_9 => ?_) (fun hq_9 => ?_)
              · have hq_9 : ¬ ((ps M (tb M i) - 1) = v) := fun z => hq_9 ((nI_eq (a := (ps M (tb M i) - 1)) (b := v) (by omega) (by omega)).mpr z)
                have hps : ¬ ps M (tb M i) = v + 1 := by omega
                refine lv_iconst (v := nI (0)) hx hb dX4_unload_57 (by decide) ?_
                refine lv_istore (lv' := [(4, .int (nI (0))), (0, .ref (a (100))), (1, .int (nI (v))), (2, .int (nI (0))), (3, .int (nI (i)))]) hx hb dX4_unload_58 hl (by decide) rfl (fun ls hl => ?_)
                refine lv_iload_n hx hb dX4_unload_60 rfl (lv_at hl 3 rfl) ?_
                refine lv_if_eq (tgt := 74) hx hb dX4_unload_61 (by decide) (fun hq_10 => ?_) (fun hq_10 => absurd hq_10 (by decide))
                refine lv_iload_n hx hb dX4_unload_74 rfl (lv_at hl 3 rfl) ?_
                refine lv_if_ne (tgt := 83) hx hb dX4_unload_75 (by decide) (fun hq_11 => absurd hq_11 (by decide)) (fun hq_11 => ?_)
                refine lv_iload hx hb dX4_unload_78 (lv_at hl 0 rfl) ?_
                refine lv_if_eq (tgt := 87) hx hb dX4_unload_80 (by decide) (fun hq_12 => ?_) (fun hq_12 => absurd hq_12 (by decide))
                refine lv_iconst (v := nI (0)) hx hb dX4_unload_87 (by decide) ?_
                refine lv_istore_n (lv' := [(2, .int (nI (0))), (4, .int (nI (0))), (0, .ref (a (100))), (1, .int (nI (v))), (3, .int (nI (i)))]) hx hb dX4_unload_88 rfl hl (by decide) rfl (fun ls hl => ?_)
                refine lv_iinc (v := nI (i + 1)) (lv' := [(3, .int (nI (i + 1))), (2, .int (nI (0))), (4, .int (nI (0))), (0, .ref (a (100))), (1, .int (nI (v)))]) hx hb dX4_unload_89 hl (k := 4) rfl (nI_inc _ 1) (by decide) rfl (fun ls hl => ?_)
                refine lv_goto (tgt := 23) hx hb dX4_unload_92 (by decide) ?_
                exact ih23 (i + 1) 0 0 _ _ ls (by omega) (by omega) (Or.inl ⟨rfl, by simp only [bar, hbr, hsn, decide_eq_false hps, Bool.false_or, Bool.false_and, Bool.true_and, Bool.not_true, Bool.not_false, Bool.and_false]⟩) (Or.inl ⟨rfl, by simp only [sen, hsn, decide_eq_false hps, Bool.or_false]⟩) hc (lv_sub hl [3, 4, 1, 0] rfl)
              · have hq_9 : (ps M (tb M i) - 1) = v := (nI_eq (a := (ps M (tb M i) - 1)) (b := v) (by omega) (by omega)).mp hq_9
                have hps : ps M (tb M i) = v + 1 := by omega
                refine lv_iconst (v := nI (1)) hx hb dX4_unload_53 (by decide) ?_
                refine lv_goto (tgt := 58) hx hb dX4_unload_54 (by decide) ?_
                refine lv_istore (lv' := [(4, .int (nI (1))), (0, .ref (a (100))), (1, .int (nI (v))), (2, .int (nI (0))), (3, .int (nI (i)))]) hx hb dX4_unload_58 hl (by decide) rfl (fun ls hl => ?_)
                refine lv_iload_n hx hb dX4_unload_60 rfl (lv_at hl 3 rfl) ?_
                refine lv_if_eq (tgt := 74) hx hb dX4_unload_61 (by decide) (fun hq_13 => ?_) (fun hq_13 => absurd hq_13 (by decide))
                refine lv_iload_n hx hb dX4_unload_74 rfl (lv_at hl 3 rfl) ?_
                refine lv_if_ne (tgt := 83) hx hb dX4_unload_75 (by decide) (fun hq_14 => absurd hq_14 (by decide)) (fun hq_14 => ?_)
                refine lv_iload hx hb dX4_unload_78 (lv_at hl 0 rfl) ?_
                refine lv_if_eq (tgt := 87) hx hb dX4_unload_80 (by decide) (fun hq_15 => absurd hq_15 (by decide)) (fun hq_15 => ?_)
                refine lv_iconst (v := nI (1)) hx hb dX4_unload_83 (by decide) ?_
                refine lv_goto (tgt := 88) hx hb dX4_unload_84 (by decide) ?_
                refine lv_istore_n (lv' := [(2, .int (nI (1))), (4, .int (nI (1))), (0, .ref (a (100))), (1, .int (nI (v))), (3, .int (nI (i)))]) hx hb dX4_unload_88 rfl hl (by decide) rfl (fun ls hl => ?_)
                refine lv_iinc (v := nI (i + 1)) (lv' := [(3, .int (nI (i + 1))), (2, .int (nI (1))), (4, .int (nI (1))), (0, .ref (a (100))), (1, .int (nI (v)))]) hx hb dX4_unload_89 hl (k := 4) rfl (nI_inc _ 1) (by decide) rfl (fun ls hl => ?_)
                refine lv_goto (tgt := 23) hx hb dX4_unload_92 (by decide) ?_
                exact ih23 (i + 1) 0 1 _ _ ls (by omega) (by omega) (Or.inl ⟨rfl, by simp only [bar, hbr, hsn, decide_eq_true hps, Bool.false_or, Bool.false_and, Bool.true_and, Bool.not_true, Bool.not_false, Bool.and_false]⟩) (Or.inr ⟨rfl, by simp only [sen, hsn, decide_eq_true hps, Bool.or_true, Bool.true_or]⟩) hc (lv_sub hl [3, 4, 1, 0] rfl)
            · skip
              refine lv_aload_n hx hb dX4_unload_38 rfl (lv_at hl 0 rfl) ?_
              refine r_get (C := RX4) (T := TX4) (N := 33) (v := .ref (a (121))) hx hb hts hown hK.1 hc (hlv _ rfl) (rfl) rfl rfl hinX4 21 (by decide) hf_58 (fun _ h9 => h9) (congrArg va_rf (hmr.2 21 rfl)) dX4_unload_39 ?_
              refine lv_aload_n hx hb dX4_unload_42 rfl (lv_at hl 0 rfl) ?_
              refine r_get (C := RX4) (T := TX4) (N := 33) (v := .ref (a (122))) hx hb hts hown hK.1 hc (hlv _ rfl) (rfl) rfl rfl hinX4 22 (by decide) hf_61 (fun _ h9 => h9) (congrArg va_rf (hmr.2 22 rfl)) dX4_unload_43 ?_
              refine lv_iload_n hx hb dX4_unload_46 rfl (lv_at hl 3 rfl) ?_
              refine r_iald (v := nI (tb M i)) hx hb hK.1 hc (hlv _ rfl) (rfl) (by decide) (by omega) dX4_unload_47 (hM.2.2.2.2.2.2 _ (by omega)) ?_
              refine r_iald (v := nI (ps M (tb M i) - 1)) hx hb hK.1 hc (hlv _ rfl) (rfl) (by decide) (by omega) dX4_unload_48 ((hM.2.2.2.2.1 _ ht9.1).2.trans (stI_p ht9.2)) ?_
              refine lv_iload_n hx hb dX4_unload_49 rfl (lv_at hl 1 rfl) ?_
              refine lv_icmp_ne (tgt := 57) hx hb dX4_unload_50 (by decide) (fun hq_16 => ?_) (fun hq_16 => ?_)
              · have hq_16 : ¬ ((ps M (tb M i) - 1) = v) := fun z => hq_16 ((nI_eq (a := (ps M (tb M i) - 1)) (b := v) (by omega) (by omega)).mpr z)
                have hps : ¬ ps M (tb M i) = v + 1 := by omega
                refine lv_iconst (v := nI (0)) hx hb dX4_unload_57 (by decide) ?_
                refine lv_istore (lv' := [(4, .int (nI (0))), (0, .ref (a (100))), (1, .int (nI (v))), (2, .int (nI (1))), (3, .int (nI (i)))]) hx hb dX4_unload_58 hl (by decide) rfl (fun ls hl => ?_)
                refine lv_iload_n hx hb dX4_unload_60 rfl (lv_at hl 3 rfl) ?_
                refine lv_if_eq (tgt := 74) hx hb dX4_unload_61 (by decide) (fun hq_17 => absurd hq_17 (by decide)) (fun hq_17 => ?_)
                refine lv_iload hx hb dX4_unload_64 (lv_at hl 0 rfl) ?_
                refine lv_if_ne (tgt := 74) hx hb dX4_unload_66 (by decide) (fun hq_18 => absurd hq_18 (by decide)) (fun hq_18 => ?_)
                refine lv_aload_n hx hb dX4_unload_69 rfl (lv_at hl 1 rfl) ?_
                refine lv_iconst (v := nI (2)) hx hb dX4_unload_70 (by decide) ?_
                refine r_put (C := RX4) (T := TX4) (N := 33) (R' := sfi (sfi R 100 5 (nI (0))) 100 5 (nI (2))) hx hb hts hown hK.1 hc (hlv _ rfl) (rfl) rfl rfl hinX4 tyX4 tyX4_ok nmX4 5 (by decide) hf_89 (fun _ h9 => h9) rfl (tyX4_ok 5 (by decide)) rfl rfl dX4_unload_71 (fds_sfi (by decide) (by decide)) (fun _ h9 => ct_sfi h9) (fun H locs hc => ?_)
                rw [sfi_2] at hc
                refine lv_iload_n hx hb dX4_unload_74 rfl (lv_at hl 3 rfl) ?_
                refine lv_if_ne (tgt := 83) hx hb dX4_unload_75 (by decide) (fun hq_19 => ?_) (fun hq_19 => absurd hq_19 (by decide))
                refine lv_iconst (v := nI (1)) hx hb dX4_unload_83 (by decide) ?_
                refine lv_goto (tgt := 88) hx hb dX4_unload_84 (by decide) ?_
                refine lv_istore_n (lv' := [(2, .int (nI (1))), (4, .int (nI (0))), (0, .ref (a (100))), (1, .int (nI (v))), (3, .int (nI (i)))]) hx hb dX4_unload_88 rfl hl (by decide) rfl (fun ls hl => ?_)
                refine lv_iinc (v := nI (i + 1)) (lv' := [(3, .int (nI (i + 1))), (2, .int (nI (1))), (4, .int (nI (0))), (0, .ref (a (100))), (1, .int (nI (v)))]) hx hb dX4_unload_89 hl (k := 4) rfl (nI_inc _ 1) (by decide) rfl (fun ls hl => ?_)
                refine lv_goto (tgt := 23) hx hb dX4_unload_92 (by decide) ?_
                exact ih23 (i + 1) 2 1 _ _ ls (by omega) (by omega) (Or.inr ⟨rfl, by simp only [bar, hsn, decide_eq_false hps, Bool.or_true, Bool.true_and, Bool.not_false]⟩) (Or.inr ⟨rfl, by simp only [sen, hsn, decide_eq_false hps, Bool.or_true, Bool.true_or]⟩) hc (lv_sub hl [3, 4, 1, 0] rfl)
              · have hq_16 : (ps M (tb M i) - 1) = v := (nI_eq (a := (ps M (tb M i) - 1)) (b := v) (by omega) (by omega)).mp hq_16
                have hps : ps M (tb M i) = v + 1 := by omega
                refine lv_iconst (v := nI (1)) hx hb dX4_unload_53 (by decide) ?_
                refine lv_goto (tgt := 58) hx hb dX4_unload_54 (by decide) ?_
                refine lv_istore (lv' := [(4, .int (nI (1))), (0, .ref (a (100))), (1, .int (nI (v))), (2, .int (nI (1))), (3, .int (nI (i)))]) hx hb dX4_unload_58 hl (by decide) rfl (fun ls hl => ?_)
                refine lv_iload_n hx hb dX4_unload_60 rfl (lv_at hl 3 rfl) ?_
                refine lv_if_eq (tgt := 74) hx hb dX4_unload_61 (by decide) (fun hq_20 => absurd hq_20 (by decide)) (fun hq_20 => ?_)
                refine lv_iload hx hb dX4_unload_64 (lv_at hl 0 rfl) ?_
                refine lv_if_ne (tgt := 74) hx hb dX4_unload_66 (by decide) (fun hq_21 => ?_) (fun hq_21 => absurd hq_21 (by decide))
                refine lv_iload_n hx hb dX4_unload_74 rfl (lv_at hl 3 rfl) ?_
                refine lv_if_ne (tgt := 83) hx hb dX4_unload_75 (by decide) (fun hq_22 => ?_) (fun hq_22 => absurd hq_22 (by decide))
                refine lv_iconst (v := nI (1)) hx hb dX4_unload_83 (by decide) ?_
                refine lv_goto (tgt := 88) hx hb dX4_unload_84 (by decide) ?_
                refine lv_istore_n (lv' := [(2, .int (nI (1))), (4, .int (nI (1))), (0, .ref (a (100))), (1, .int (nI (v))), (3, .int (nI (i)))]) hx hb dX4_unload_88 rfl hl (by decide) rfl (fun ls hl => ?_)
                refine lv_iinc (v := nI (i + 1)) (lv' := [(3, .int (nI (i + 1))), (2, .int (nI (1))), (4, .int (nI (1))), (0, .ref (a (100))), (1, .int (nI (v)))]) hx hb dX4_unload_89 hl (k := 4) rfl (nI_inc _ 1) (by decide) rfl (fun ls hl => ?_)
                refine lv_goto (tgt := 23) hx hb dX4_unload_92 (by decide) ?_
                exact ih23 (i + 1) 0 1 _ _ ls (by omega) (by omega) (Or.inl ⟨rfl, by simp only [bar, hbr, hsn, decide_eq_true hps, Bool.false_or, Bool.false_and, Bool.true_and, Bool.not_true, Bool.not_false, Bool.and_false]⟩) (Or.inr ⟨rfl, by simp only [sen, hsn, decide_eq_true hps, Bool.or_true, Bool.true_or]⟩) hc (lv_sub hl [3, 4, 1, 0] rfl)
        · skip
          refine lv_iload_n hx hb dX4_unload_23 rfl (lv_at hl 3 rfl) ?_
          refine lv_aload_n hx hb dX4_unload_24 rfl (lv_at hl 0 rfl) ?_
          refine r_get (C := RX4) (T := TX4) (N := 33) (v := .int (nI (mna M))) hx hb hts hown hK.1 hc (hlv _ rfl) (rfl) rfl rfl hinX4 23 (by decide) hf_191 (fun _ h9 => h9) (congrArg Value.int hM.1.2.2.2.2.2.2.2.2.1) dX4_unload_25 ?_
          refine lv_icmp_ge (tgt := 95) hx hb dX4_unload_28 (by decide) (fun hq_23 => ?_) (fun hq_23 => ?_)
          · have hq_23 : (mna M) ≤ i := (nI_leI (a := (mna M)) (b := i) (by omega) (by omega)).mp hq_23
            have hb7 : bar M v (mna M) = true := bar_mono (by omega) hbr
            refine lv_aload_n hx hb dX4_unload_95 rfl (lv_at hl 0 rfl) ?_
            refine r_get (C := RX4) (T := TX4) (N := 33) (v := .int (nI (2))) hx hb hts hown hK.1 hc (hlv _ rfl) (rfl) rfl rfl hinX4 5 (by decide) hf_89 (fun _ h9 => h9) rfl dX4_unload_96 ?_
            refine lv_if_eq (tgt := 104) hx hb dX4_unload_99 (by decide) (fun hq_24 => absurd hq_24 (by decide)) (fun hq_24 => ?_)
            refine lv_iconst (v := nI (0)) hx hb dX4_unload_102 (by decide) ?_
            exact r_iret hx hb hr hlocks hc dX4_unload_103 (by
      have hq9 : oUnload M (nI v) = (2, nI 0, M) := by simp only [oUnload, tN_nI hv2, if_pos hw5, if_pos hb7]
      unfold QM; rw [hq9]
      exact ⟨rfl, rfl, pm_th hM, ((outM.r _).sfi (by decide))⟩)
          · have hq_23 : ¬ ((mna M) ≤ i) := fun z => hq_23 ((nI_leI (a := (mna M)) (b := i) (by omega) (by omega)).mpr z)
            refine lv_aload_n hx hb dX4_unload_31 rfl (lv_at hl 0 rfl) ?_
            refine r_get (C := RX4) (T := TX4) (N := 33) (v := .int (nI (2))) hx hb hts hown hK.1 hc (hlv _ rfl) (rfl) rfl rfl hinX4 5 (by decide) hf_89 (fun _ h9 => h9) rfl dX4_unload_32 ?_
            refine lv_if_ne (tgt := 95) hx hb dX4_unload_35 (by decide) (fun hq_25 => ?_) (fun hq_25 => absurd hq_25 (by decide))
            have hb7 : bar M v (mna M) = true := bar_mono (by omega) hbr
            refine lv_aload_n hx hb dX4_unload_95 rfl (lv_at hl 0 rfl) ?_
            refine r_get (C := RX4) (T := TX4) (N := 33) (v := .int (nI (2))) hx hb hts hown hK.1 hc (hlv _ rfl) (rfl) rfl rfl hinX4 5 (by decide) hf_89 (fun _ h9 => h9) rfl dX4_unload_96 ?_
            refine lv_if_eq (tgt := 104) hx hb dX4_unload_99 (by decide) (fun hq_26 => absurd hq_26 (by decide)) (fun hq_26 => ?_)
            refine lv_iconst (v := nI (0)) hx hb dX4_unload_102 (by decide) ?_
            exact r_iret hx hb hr hlocks hc dX4_unload_103 (by
      have hq9 : oUnload M (nI v) = (2, nI 0, M) := by simp only [oUnload, tN_nI hv2, if_pos hw5, if_pos hb7]
      unfold QM; rw [hq9]
      exact ⟨rfl, rfl, pm_th hM, ((outM.r _).sfi (by decide))⟩)
    exact loop23 (mna M + 1) 0 0 0 _ _ ls (by omega) (Nat.zero_le _) (Or.inl ⟨rfl, rfl⟩) (Or.inl ⟨rfl, rfl⟩) hc (lv_sub hl [2, 3, 1, 0] rfl)
  · rw [hRe] at hc
    rw [w_iff (by decide) (by decide)] at hw5
    refine lv_if_ne (tgt := 15) hx hb dX4_unload_8 (by decide) (fun hq_27 => absurd hq_27 (by decide)) (fun hq_27 => ?_)
    refine lv_iconst (v := nI (1)) hx hb dX4_unload_11 (by decide) ?_
    refine lv_goto (tgt := 16) hx hb dX4_unload_12 (by decide) ?_
    refine r_put (C := RX4) (T := TX4) (N := 33) (R' := sfi R 100 5 (nI (1))) hx hb hts hown hK.1 hc (hlv _ rfl) (rfl) rfl rfl hinX4 tyX4 tyX4_ok nmX4 5 (by decide) hf_89 (fun _ h9 => h9) rfl (tyX4_ok 5 (by decide)) rfl rfl dX4_unload_16 (fds_sfi (by decide) (by decide)) (fun _ h9 => ct_sfi h9) (fun H locs hc => ?_)
    refine lv_iconst (v := nI (0)) hx hb dX4_unload_19 (by decide) ?_
    refine lv_istore_n (lv' := [(2, .int (nI (0))), (0, .ref (a (100))), (1, .int (x))]) hx hb dX4_unload_20 rfl hl (by decide) rfl (fun ls hl => ?_)
    refine lv_iconst (v := nI (0)) hx hb dX4_unload_21 (by decide) ?_
    refine lv_istore_n (lv' := [(3, .int (nI (0))), (2, .int (nI (0))), (0, .ref (a (100))), (1, .int (x))]) hx hb dX4_unload_22 rfl hl (by decide) rfl (fun ls hl => ?_)
    refine lv_iload_n hx hb dX4_unload_23 rfl (lv_at hl 0 rfl) ?_
    refine lv_aload_n hx hb dX4_unload_24 rfl (lv_at hl 2 rfl) ?_
    refine r_get (C := RX4) (T := TX4) (N := 33) (v := .int (nI (mna M))) hx hb hts hown hK.1 hc (hlv _ rfl) (rfl) rfl rfl hinX4 23 (by decide) hf_191 (fun _ h9 => h9) (congrArg Value.int hM.1.2.2.2.2.2.2.2.2.1) dX4_unload_25 ?_
    refine lv_icmp_ge (tgt := 95) hx hb dX4_unload_28 (by decide) (fun hq_28 => ?_) (fun hq_28 => ?_)
    · have hq_28 : (mna M) ≤ 0 := (nI_leI (a := (mna M)) (b := 0) (by omega) (by omega)).mp hq_28
      refine lv_aload_n hx hb dX4_unload_95 rfl (lv_at hl 2 rfl) ?_
      refine r_get (C := RX4) (T := TX4) (N := 33) (v := .int (nI (1))) hx hb hts hown hK.1 hc (hlv _ rfl) (rfl) rfl rfl hinX4 5 (by decide) hf_89 (fun _ h9 => h9) rfl dX4_unload_96 ?_
      refine lv_if_eq (tgt := 104) hx hb dX4_unload_99 (by decide) (fun hq_29 => absurd hq_29 (by decide)) (fun hq_29 => ?_)
      refine lv_iconst (v := nI (0)) hx hb dX4_unload_102 (by decide) ?_
      exact r_iret hx hb hr hlocks hc dX4_unload_103 (by
      have hq9 : oUnload M x = (1, nI 0, M) := by simp only [oUnload, if_neg hw5]
      unfold QM; rw [hq9]
      exact ⟨rfl, rfl, pm_th hM, ((outM.r _).sfi (by decide))⟩)
    · have hq_28 : ¬ ((mna M) ≤ 0) := fun z => hq_28 ((nI_leI (a := (mna M)) (b := 0) (by omega) (by omega)).mpr z)
      refine lv_aload_n hx hb dX4_unload_31 rfl (lv_at hl 2 rfl) ?_
      refine r_get (C := RX4) (T := TX4) (N := 33) (v := .int (nI (1))) hx hb hts hown hK.1 hc (hlv _ rfl) (rfl) rfl rfl hinX4 5 (by decide) hf_89 (fun _ h9 => h9) rfl dX4_unload_32 ?_
      refine lv_if_ne (tgt := 95) hx hb dX4_unload_35 (by decide) (fun hq_30 => ?_) (fun hq_30 => absurd hq_30 (by decide))
      refine lv_aload_n hx hb dX4_unload_95 rfl (lv_at hl 2 rfl) ?_
      refine r_get (C := RX4) (T := TX4) (N := 33) (v := .int (nI (1))) hx hb hts hown hK.1 hc (hlv _ rfl) (rfl) rfl rfl hinX4 5 (by decide) hf_89 (fun _ h9 => h9) rfl dX4_unload_96 ?_
      refine lv_if_eq (tgt := 104) hx hb dX4_unload_99 (by decide) (fun hq_31 => absurd hq_31 (by decide)) (fun hq_31 => ?_)
      refine lv_iconst (v := nI (0)) hx hb dX4_unload_102 (by decide) ?_
      exact r_iret hx hb hr hlocks hc dX4_unload_103 (by
      have hq9 : oUnload M x = (1, nI 0, M) := by simp only [oUnload, if_neg hw5]
      unfold QM; rw [hq9]
      exact ⟨rfl, rfl, pm_th hM, ((outM.r _).sfi (by decide))⟩)
