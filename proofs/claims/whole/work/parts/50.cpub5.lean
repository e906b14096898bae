set_option maxRecDepth 100000 in
set_option maxHeartbeats 4000000 in
theorem c_X3_fill (l : Launch) (hl9 : l.stackTraces = false) (D : va_G) (g : Nat → ClassId) (lv : Nat → Bool) (a : Nat → Nat) (R : RS) (M : MS) (hr9 : PCr lv a R M) (hC : PC R M) (hI : Inv M) (x y z : Int32) : xI l D g lv a yX3_fill wsX3_fill ({ frames := 7, cells := 1, slots := 6, locals := 132 } : Room) [.ref (a (0)), .int (x), .int (y), .int (z)] R (fun r R' => QC R (oFill M x y z) r R') (XP R (oFill M x y z) [NSE, IAE, ISE]) := by
  refine x_body (cc := cX3_fill) (maxL := 9) (ret := (some .int)) (by decide) rfl (Nat.le_of_ble_eq_true rfl) ?_
  intro pr en st mi bl me co ls B ht hl
  obtain ⟨hx, hb, hr, hml, hown, hts, hlocks, hnm, hK, hZ, hc, hA⟩ := B
  have hl : lv_has ls 9 [(0, .ref (a (0))), (1, .int (x)), (2, .int (y)), (3, .int (z))] := hl
  have hinX0 : ∀ w ∈ u_ws RX0 TX0 11, w ∈ wsX3_fill := (fun _ h => List.mem_cons_of_mem _ (List.mem_append_left _ (List.mem_append_left _ (List.mem_append_left _ (List.mem_append_left _ (List.mem_append_left _ (List.mem_append_left _ (List.mem_append_right _ h))))))))
  have hinX1 : ∀ w ∈ u_ws RX1 TX1 10, w ∈ wsX3_fill := (fun _ h => List.mem_cons_of_mem _ (List.mem_append_left _ (List.mem_append_left _ (List.mem_append_left _ (List.mem_append_left _ (List.mem_append_left _ (List.mem_append_right _ h)))))))
  have hf_106 := hts (.fieldLink RX3 106 "PalletLayers$Kind" "boxes" "I") (by decide +kernel)
  have hf_144 := hts (.fieldLink RX3 144 "PalletLayers$Pallet" "layers" "I") (by decide +kernel)
  have hb9 := iv_b hI
  refine lv_aload_n hx hb dX3_fill_0 rfl (lv_at hl 0 rfl) ?_
  refine lv_iload_n hx hb dX3_fill_1 rfl (lv_at hl 1 rfl) ?_
  by_cases hv_j : isN x (mnp M)
  rotate_left
  · exact x_thr hc hA ht hlocks (vx_runV (As := [.int (x)]) (rest := []) ⟨hx, hb, hml, hown, hts⟩ (c_X3_palletNumbered_t l hl9 D g lv a R M hr9 hC hI x hv_j _) (cwV 1 hts gX3_fill_X3_palletNumbered rfl rfl rfl (by decide +kernel) ⟨Nat.le_of_ble_eq_true rfl, Nat.le_of_ble_eq_true rfl⟩) (r_preV hK hZ hc hA (hr9.1.1) (rfl) rfl) rfl rfl hl.1 rfl (lv_room (Nat.le_of_ble_eq_true rfl)) dX3_fill_2 ⟨Nat.le_of_ble_eq_true rfl, Nat.le_of_ble_eq_true rfl⟩) ⟨rfl, 0, by rw [show oFill M x y z = (1, nI 0, M) by simp only [oFill, if_neg (not_and_of_not_left _ hv_j)]], rfl⟩ (by decide) (by decide)
  obtain ⟨j, hj, hj9, rfl⟩ := isN_ex hv_j
  refine r_callr hc hA (va_runV (As := [.int (nI (j))]) (rest := []) ⟨hx, hb, hml, hown, hts⟩ (c_X3_palletNumbered_v l D g lv a R M hr9 ⟨hb9.2.2.2.2.1, hb9.2.2.2.2.2.1⟩ j hj _) (cwV 1 hts gX3_fill_X3_palletNumbered rfl rfl rfl (by decide +kernel) ⟨Nat.le_of_ble_eq_true rfl, Nat.le_of_ble_eq_true rfl⟩) (r_preV hK hZ hc hA (hr9.1.1) (rfl) rfl) rfl rfl hl.1 rfl (lv_room (Nat.le_of_ble_eq_true rfl)) dX3_fill_2 ⟨Nat.le_of_ble_eq_true rfl, Nat.le_of_ble_eq_true rfl⟩) (fun r R' H locs hp hc => ?_)
  obtain ⟨hre, hRe⟩ := hp
  rw [hRe] at hc
  rw [hre]
  refine lv_astore (lv' := [(4, .ref (a (40 + 6 * j))), (0, .ref (a (0))), (1, .int (nI (j))), (2, .int (y)), (3, .int (z))]) hx hb dX3_fill_5 hl (by decide) rfl (fun ls hl => ?_)
  refine lv_aload_n hx hb dX3_fill_7 rfl (lv_at hl 1 rfl) ?_
  refine lv_iload_n hx hb dX3_fill_8 rfl (lv_at hl 3 rfl) ?_
  by_cases hv_k : isN y (mnk M)
  rotate_left
  · exact x_thr hc hA ht hlocks (vx_runV (As := [.int (y)]) (rest := []) ⟨hx, hb, hml, hown, hts⟩ (c_X3_kindNumbered_t l hl9 D g lv a R M hr9 hC hI y hv_k _) (cwV 1 hts gX3_fill_X3_kindNumbered rfl rfl rfl (by decide +kernel) ⟨Nat.le_of_ble_eq_true rfl, Nat.le_of_ble_eq_true rfl⟩) (r_preV hK hZ hc hA (hr9.1.1) (rfl) rfl) rfl rfl hl.1 rfl (lv_room (Nat.le_of_ble_eq_true rfl)) dX3_fill_9 ⟨Nat.le_of_ble_eq_true rfl, Nat.le_of_ble_eq_true rfl⟩) ⟨rfl, 0, by rw [show oFill M (nI j) y z = (1, nI 0, M) by simp only [oFill, tN_nI hj9, if_neg (not_and_of_not_right _ hv_k)]], rfl⟩ (by decide) (by decide)
  obtain ⟨k, hk, hk9, rfl⟩ := isN_ex hv_k
  refine r_callr hc hA (va_runV (As := [.int (nI (k))]) (rest := []) ⟨hx, hb, hml, hown, hts⟩ (c_X3_kindNumbered_v l D g lv a R M hr9 ⟨hb9.2.2.2.2.1, hb9.2.2.2.2.2.1⟩ k hk _) (cwV 1 hts gX3_fill_X3_kindNumbered rfl rfl rfl (by decide +kernel) ⟨Nat.le_of_ble_eq_true rfl, Nat.le_of_ble_eq_true rfl⟩) (r_preV hK hZ hc hA (hr9.1.1) (rfl) rfl) rfl rfl hl.1 rfl (lv_room (Nat.le_of_ble_eq_true rfl)) dX3_fill_9 ⟨Nat.le_of_ble_eq_true rfl, Nat.le_of_ble_eq_true rfl⟩) (fun r R' H locs hp hc => ?_)
  obtain ⟨hre, hRe⟩ := hp
  rw [hRe] at hc
  rw [hre]
  refine lv_astore (lv' := [(5, .ref (a (10 + 3 * k))), (4, .ref (a (40 + 6 * j))), (0, .ref (a (0))), (1, .int (nI (j))), (2, .int (nI (k))), (3, .int (z))]) hx hb dX3_fill_12 hl (by decide) rfl (fun ls hl => ?_)
  refine lv_iload_n hx hb dX3_fill_14 rfl (lv_at hl 5 rfl) ?_
  refine lv_iconst (v := nI (1)) hx hb dX3_fill_15 (by decide) ?_
  refine lv_sipush (v := nI (600)) hx hb dX3_fill_16 (by decide) ?_
  refine r_calli hc hA (va_runS (As := [.int (z), .int (nI (1)), .int (nI (600))]) (rest := []) ⟨hx, hb, hml, hown, hts⟩ (c_X3_isOutside l D g lv a R z (nI (1)) (nI (600)) _) (va_cwS 3 hts gX3_fill_X3_isOutside rfl rfl rfl (by decide +kernel) ⟨Nat.le_of_ble_eq_true rfl, Nat.le_of_ble_eq_true rfl⟩) (r_preS hK hZ hc hA) rfl rfl hl.1 rfl (lv_room (Nat.le_of_ble_eq_true rfl)) dX3_fill_19 ⟨Nat.le_of_ble_eq_true rfl, Nat.le_of_ble_eq_true rfl⟩) (fun r R' H locs hp hc => ?_)
  obtain ⟨hRe, ⟨hw19, rfl⟩ | ⟨hw19, rfl⟩⟩ := hp
  · rw [hRe] at hc
    rw [w_iff (by decide) (by decide)] at hw19
    obtain ⟨n, hn0, hn1, hn9, rfl⟩ := isR_ex hw19
    refine lv_if_eq (tgt := 35) hx hb dX3_fill_22 (by decide) (fun hq_7 => ?_) (fun hq_7 => absurd hq_7 (by decide))
    refine lv_aload hx hb dX3_fill_35 (lv_at hl 1 rfl) ?_
    by_cases hps : ps M j = 0
    rotate_left
    · exact x_thr hc hA ht hlocks (vx_runS (As := [.ref (a (40 + 6 * j))]) (rest := []) ⟨hx, hb, hml, hown, hts⟩ (c_X3_refuseOnTruck_t l hl9 D g lv a R M hr9 hC hI j hj hps _) (va_cwS 1 hts gX3_fill_X3_refuseOnTruck rfl rfl rfl (by decide +kernel) ⟨Nat.le_of_ble_eq_true rfl, Nat.le_of_ble_eq_true rfl⟩) (r_preS hK hZ hc hA) rfl rfl hl.1 rfl (lv_room (Nat.le_of_ble_eq_true rfl)) dX3_fill_37 ⟨Nat.le_of_ble_eq_true rfl, Nat.le_of_ble_eq_true rfl⟩) ⟨rfl, 2, by rw [show oFill M (nI j) (nI k) (nI n) = (3, nI 0, M) by simp only [oFill, tN_nI hj9, tN_nI hk9, tN_nI hn9, if_pos (And.intro hv_j hv_k), if_pos hw19, if_neg hps]], rfl⟩ (by decide) (by decide)
    refine r_callv hc hA (va_runS (As := [.ref (a (40 + 6 * j))]) (rest := []) ⟨hx, hb, hml, hown, hts⟩ (c_X3_refuseOnTruck_v l D g lv a R M hr9 hC hI j hj hps _) (va_cwS 1 hts gX3_fill_X3_refuseOnTruck rfl rfl rfl (by decide +kernel) ⟨Nat.le_of_ble_eq_true rfl, Nat.le_of_ble_eq_true rfl⟩) (r_preS hK hZ hc hA) rfl rfl hl.1 rfl (lv_room (Nat.le_of_ble_eq_true rfl)) dX3_fill_37 ⟨Nat.le_of_ble_eq_true rfl, Nat.le_of_ble_eq_true rfl⟩) (fun R' H locs hp hc => ?_)
    have hRe := hp
    rw [hRe] at hc
    have hp0 := iv_p hI hj
    have hk0 := iv_k hI hk
    refine lv_aload hx hb dX3_fill_40 (lv_at hl 0 rfl) ?_
    refine r_get (C := RX0) (T := TX0) (N := 11) (v := .int (nI (kb M k))) hx hb hts hown hK.1 hc ((hr9.2.2.1 k (by omega)).1) (sh_K (by omega)) rfl rfl hinX0 9 (by decide) hf_106 (fun _ h9 => h9) (congrArg Value.int (hC.2.2.2.1 k (by omega)).1) dX3_fill_42 ?_
    refine lv_if_ne (tgt := 50) hx hb dX3_fill_45 (by decide) (fun hq_10 => ?_) (fun hq_10 => ?_)
    · have hq_10 : ¬ ((kb M k) = 0) := fun z => hq_10 ((nI_eq (a := (kb M k)) (b := 0) (by omega) (by omega)).mpr z)
      have hkb0 : ¬ kb M k = 0 := hq_10
      refine lv_iconst (v := nI (0)) hx hb dX3_fill_50 (by decide) ?_
      refine lv_istore (lv' := [(6, .int (nI (0))), (5, .ref (a (10 + 3 * k))), (4, .ref (a (40 + 6 * j))), (0, .ref (a (0))), (1, .int (nI (j))), (2, .int (nI (k))), (3, .int (nI (n)))]) hx hb dX3_fill_51 hl (by decide) rfl (fun ls hl => ?_)
      refine lv_aload hx hb dX3_fill_53 (lv_at hl 2 rfl) ?_
      refine r_get (C := RX1) (T := TX1) (N := 10) (v := .int (nI (pn M j))) hx hb hts hown hK.1 hc ((hr9.2.2.2.1 j (by omega)).1.1) (sh_P (by omega)) rfl rfl hinX1 5 (by decide) hf_144 (fun _ h9 => h9) (congrArg Value.int (hC.2.2.2.2.1 j (by omega)).1) dX3_fill_55 ?_
      refine lv_istore (lv' := [(7, .int (nI (pn M j))), (6, .int (nI (0))), (5, .ref (a (10 + 3 * k))), (4, .ref (a (40 + 6 * j))), (0, .ref (a (0))), (1, .int (nI (j))), (2, .int (nI (k))), (3, .int (nI (n)))]) hx hb dX3_fill_58 hl (by decide) rfl (fun ls hl => ?_)
      have loop60 : ∀ (fuel60 : Nat) (f : Nat) (c : Nat) (R1 : RS) (M1 : MS) (H : Heap) (locs : List Loc) (ls : Array Slot), 11 - pn M1 j < fuel60 → (c ≤ n) → (11 ≤ f + pn M1 j) → (Inv M1) → (PC R1 M1) → (PCr lv a R1 M1) → (j < mnp M1) → (k < mnk M1) → (¬ kb M1 k = 0) → (outC R R1) → (flM j k f (n - c) M1 = flM j k 11 n M) → rc D g (rA lv a st.heap.size) st.heap lv a R1 H locs → lv_has ls 9 [(0, .ref (a (0))), (2, .int (nI (k))), (3, .int (nI (n))), (4, .ref (a (40 + 6 * j))), (5, .ref (a (10 + 3 * k))), (6, .int (nI (c))), (7, .int (nI (pn M1 j)))] → W pr l en ({ frames := 7, cells := 1, slots := 6, locals := 132 } : Room) st mi ([.ref (a (0)), .int ((nI j)), .int ((nI k)), .int ((nI n))] : List Value).toArray bl me co H locs 0 0 (vx_MQ bl (va_Qi (fun r R' => QC R (oFill M (nI j) (nI k) (nI n)) r R') (cB D g lv a) (rA lv a st.heap.size)) (tX D g lv a (XP R (oFill M (nI j) (nI k) (nI n)) [NSE, IAE, ISE]) st.heap.size) ([.ref (a (0)), .int ((nI j)), .int ((nI k)), .int ((nI n))] : List Value).toArray st 1 6 (rA lv a st.heap.size)) (F0 mi 60 ls []) := by
        intro fuel60
        induction fuel60 with
        | zero => intro f c R1 M1 H locs ls hmu; exact absurd hmu (Nat.not_lt_zero _)
        | succ fuel60 ih60 =>
          intro f c R1 M1 H locs ls hmu60 hcn0 hf9 hI1 hC1 hr1 hj1 hk1 hkb1 hout hfl hc hl
          have hb9 := iv_b hI1
          have hp9 := iv_p hI1 hj1
          have hkk9 := iv_k hI1 hk1
          refine lv_iload hx hb dX3_fill_60 (lv_at hl 6 rfl) ?_
          refine lv_bipush (v := nI (10)) hx hb dX3_fill_62 (by decide) ?_
          refine lv_icmp_ge (tgt := 126) hx hb dX3_fill_64 (by decide) (fun hq_11 => ?_) (fun hq_11 => ?_)
          · have hq_11 : 10 ≤ (pn M1 j) := (nI_leI (a := 10) (b := (pn M1 j)) (by omega) (by omega)).mp hq_11
            refine lv_iload hx hb dX3_fill_126 (lv_at hl 5 rfl) ?_
            refine vx_ret ?_
            refine W.widen (k := 1) (n := 6) (by decide) (by decide) ?_
            exact r_iret hx hb hr hlocks hc dX3_fill_128 (by
      have hfe : flM j k f (n - c) M1 = (n - c, M1) := fl_0 (fun z => by have h1 := z.1; have h2 := z.2.1; omega)
      rw [hfe] at hfl
      unfold QC; rw [show oFill M (nI j) (nI k) (nI n) = (0, nI (n - (flM j k 11 n M).1), (flM j k 11 n M).2) by simp only [oFill, tN_nI hj9, tN_nI hk9, tN_nI hn9, if_pos (And.intro hv_j hv_k), if_pos hw19, if_pos hps, if_neg hkb0]]
      rw [← hfl]
      exact ⟨rfl, by rw [show n - (n - c) = c by omega], hC1, hout⟩)
          · have hq_11 : ¬ (10 ≤ (pn M1 j)) := fun z => hq_11 ((nI_leI (a := 10) (b := (pn M1 j)) (by omega) (by omega)).mpr z)
            have h10 : pn M1 j < 10 := by omega
            refine lv_iload hx hb dX3_fill_67 (lv_at hl 5 rfl) ?_
            refine lv_iload_n hx hb dX3_fill_69 rfl (lv_at hl 2 rfl) ?_
            refine lv_icmp_ge (tgt := 126) hx hb dX3_fill_70 (by decide) (fun hq_12 => ?_) (fun hq_12 => ?_)
            · have hq_12 : n ≤ c := (nI_leI (a := n) (b := c) (by omega) (by omega)).mp hq_12
              refine lv_iload hx hb dX3_fill_126 (lv_at hl 5 rfl) ?_
              refine vx_ret ?_
              refine W.widen (k := 1) (n := 6) (by decide) (by decide) ?_
              exact r_iret hx hb hr hlocks hc dX3_fill_128 (by
      have hfe : flM j k f (n - c) M1 = (n - c, M1) := fl_0 (fun z => by have h1 := z.1; have h2 := z.2.1; omega)
      rw [hfe] at hfl
      unfold QC; rw [show oFill M (nI j) (nI k) (nI n) = (0, nI (n - (flM j k 11 n M).1), (flM j k 11 n M).2) by simp only [oFill, tN_nI hj9, tN_nI hk9, tN_nI hn9, if_pos (And.intro hv_j hv_k), if_pos hw19, if_pos hps, if_neg hkb0]]
      rw [← hfl]
      exact ⟨rfl, by rw [show n - (n - c) = c by omega], hC1, hout⟩)
            · have hq_12 : ¬ (n ≤ c) := fun z => hq_12 ((nI_leI (a := n) (b := c) (by omega) (by omega)).mpr z)
              have hcn : c < n := by omega
              refine lv_aload hx hb dX3_fill_73 (lv_at hl 4 rfl) ?_
              refine r_get (C := RX0) (T := TX0) (N := 11) (v := .int (nI (kb M1 k))) hx hb hts hown hK.1 hc ((hr1.2.2.1 k (by omega)).1) (sh_K (by omega)) rfl rfl hinX0 9 (by decide) hf_106 (fun _ h9 => h9) (congrArg Value.int (hC1.2.2.2.1 k (by omega)).1) dX3_fill_75 ?_
              refine lv_iload_n hx hb dX3_fill_78 rfl (lv_at hl 2 rfl) ?_
              refine lv_iload hx hb dX3_fill_79 (lv_at hl 5 rfl) ?_
              refine nv_isub hx hb dX3_fill_81 (by omega) ?_
              refine va_mmin hx hb (hml.trans hl.1.symm) hown (hts (.methodLink RX3 44 Lib.Math.min.name) (by decide +kernel)) (hts (.static Lib.Math.min.name) (by decide +kernel)) (hts (.initialized "java/lang/Math") (by decide +kernel)) (hts (.code Lib.Math.min.name Lib.Math.min.code 2 (some .int)) (by decide +kernel)) (Nat.le_of_ble_eq_true rfl) (Nat.le_of_ble_eq_true rfl) (Nat.le_of_ble_eq_true rfl) (Nat.le_of_ble_eq_true rfl) dX3_fill_82 ?_
              obtain ⟨q, hq⟩ : ∃ q, q = (if n - c < kb M1 k then n - c else kb M1 k) := ⟨_, rfl⟩
              rw [show (if nI (n - c) < nI (kb M1 k) then nI (n - c) else nI (kb M1 k)) = nI q by rw [hq]; exact min_nn (by omega) (by omega)]
              have hq1 : 1 ≤ q ∧ q ≤ n - c ∧ q ≤ 36 := by rw [hq]; split <;> omega
              refine lv_istore (lv' := [(8, .int (nI (q))), (0, .ref (a (0))), (2, .int (nI (k))), (3, .int (nI (n))), (4, .ref (a (40 + 6 * j))), (5, .ref (a (10 + 3 * k))), (6, .int (nI (c))), (7, .int (nI (pn M1 j)))]) hx hb dX3_fill_85 hl (by decide) rfl (fun ls hl => ?_)
              refine lv_aload_n hx hb dX3_fill_87 rfl (lv_at hl 1 rfl) ?_
              refine lv_aload hx hb dX3_fill_88 (lv_at hl 4 rfl) ?_
              refine lv_aload hx hb dX3_fill_90 (lv_at hl 5 rfl) ?_
              refine lv_iload hx hb dX3_fill_92 (lv_at hl 0 rfl) ?_
              refine r_calli hc hA (va_runV (As := [.ref (a (40 + 6 * j)), .ref (a (10 + 3 * k)), .int (nI (q))]) (rest := []) ⟨hx, hb, hml, hown, hts⟩ (c_X3_whyNot l D g lv a R1 M1 hr1 hC1 hI1 j k q hj1 hk1 (by omega) _) (cwV 3 hts gX3_fill_X3_whyNot rfl rfl rfl (by decide +kernel) ⟨Nat.le_of_ble_eq_true rfl, Nat.le_of_ble_eq_true rfl⟩) (r_preV hK hZ hc hA (hr1.1.1) (rfl) rfl) rfl rfl hl.1 rfl (lv_room (Nat.le_of_ble_eq_true rfl)) dX3_fill_94 ⟨Nat.le_of_ble_eq_true rfl, Nat.le_of_ble_eq_true rfl⟩) (fun r R' H locs hp hc => ?_)
              obtain ⟨hre, hRe⟩ := hp
              rw [hRe] at hc
              rw [hre]
              refine lv_if_ge (tgt := 103) hx hb dX3_fill_97 (by decide) (fun hq_15 => ?_) (fun hq_15 => ?_)
              · have hwr : rsn M1 j k q = nI 0 := rsn_0 hq_15
                refine lv_aload hx hb dX3_fill_103 (lv_at hl 4 rfl) ?_
                refine lv_iload_n hx hb dX3_fill_105 rfl (lv_at hl 2 rfl) ?_
                refine lv_aload hx hb dX3_fill_106 (lv_at hl 5 rfl) ?_
                refine lv_iload hx hb dX3_fill_108 (lv_at hl 0 rfl) ?_
                refine r_callv hc hA (va_runV (As := [.int (nI (k)), .ref (a (10 + 3 * k)), .int (nI (q))]) (rest := []) ⟨hx, hb, hml, hown, hts⟩ (c_X1_lay l D g lv a R1 M1 j (by omega) (hr1.2.2.2.1 j hj1) (hC1.2.2.2.2.1 j hj1) hp9.1 (hC1.2.2.2.2.2.1 j hj1) k (by omega) (hr1.2.2.1 k hk1) (hC1.2.2.1 k hk1) (hC1.2.2.2.1 k hk1) hI1 hk1 q (rsn_kb hwr) (by omega) _) (cwV 3 hts gX3_fill_X1_lay rfl rfl rfl (by decide +kernel) ⟨Nat.le_of_ble_eq_true rfl, Nat.le_of_ble_eq_true rfl⟩) (r_preV hK hZ hc hA ((hr1.2.2.2.1 j (by omega)).1.1) (sh_P (by omega)) rfl) rfl rfl hl.1 rfl (lv_room (Nat.le_of_ble_eq_true rfl)) dX3_fill_110 ⟨Nat.le_of_ble_eq_true rfl, Nat.le_of_ble_eq_true rfl⟩) (fun R' H locs hp hc => ?_)
                have hRe := hp
                rw [hRe] at hc
                refine lv_iload hx hb dX3_fill_113 (lv_at hl 6 rfl) ?_
                refine lv_iload hx hb dX3_fill_115 (lv_at hl 0 rfl) ?_
                refine nv_iadd hx hb dX3_fill_117 ?_
                refine lv_istore (lv' := [(6, .int (nI (c + q))), (8, .int (nI (q))), (0, .ref (a (0))), (2, .int (nI (k))), (3, .int (nI (n))), (4, .ref (a (40 + 6 * j))), (5, .ref (a (10 + 3 * k))), (7, .int (nI (pn M1 j)))]) hx hb dX3_fill_118 hl (by decide) rfl (fun ls hl => ?_)
                refine lv_iinc (v := nI (pn M1 j + 1)) (lv' := [(7, .int (nI (pn M1 j + 1))), (6, .int (nI (c + q))), (8, .int (nI (q))), (0, .ref (a (0))), (2, .int (nI (k))), (3, .int (nI (n))), (4, .ref (a (40 + 6 * j))), (5, .ref (a (10 + 3 * k)))]) hx hb dX3_fill_120 hl (k := 7) rfl (nI_inc _ 1) (by decide) rfl (fun ls hl => ?_)
                refine lv_goto (tgt := 60) hx hb dX3_fill_123 (by decide) ?_
                rw [show pn M1 j + 1 = pn (nAdd M1 j k q) j from pn_add.symm] at hl
                exact ih60 (f - 1) (c + q) _ (nAdd M1 j k q) _ _ ls (by rw [pn_add]; omega) (by omega) (by rw [pn_add]; omega) (iv_add hI1 hj1 hk1 h10 (by omega) (rsn_kb hwr)) (pc_add hC1 (by omega) (by omega) (by omega)) (hr1.out (outC_la (by omega)).2.1 (outC_la (by omega)).2.2 rfl rfl) hj1 hk1 hkb1 (hout.trans (outC_la (by omega))) (by rw [← hfl, show f = (f - 1) + 1 by omega, fl_1 (f := f - 1) ⟨by omega, h10, by rw [← hq]; exact hwr⟩, ← hq, show n - c - q = n - (c + q) by omega]; rfl) hc (lv_sub hl [3, 4, 5, 6, 7, 1, 0] rfl)
              · have hwr : ¬ rsn M1 j k (if n - c < kb M1 k then n - c else kb M1 k) = nI 0 := fun z => hq_15 (by rw [hq, z]; decide)
                refine lv_goto (tgt := 126) hx hb dX3_fill_100 (by decide) ?_
                refine lv_iload hx hb dX3_fill_126 (lv_at hl 6 rfl) ?_
                refine vx_ret ?_
                refine W.widen (k := 1) (n := 6) (by decide) (by decide) ?_
                exact r_iret hx hb hr hlocks hc dX3_fill_128 (by
      have hfe : flM j k f (n - c) M1 = (n - c, M1) := fl_0 (fun z => hwr z.2.2)
      rw [hfe] at hfl
      unfold QC; rw [show oFill M (nI j) (nI k) (nI n) = (0, nI (n - (flM j k 11 n M).1), (flM j k 11 n M).2) by simp only [oFill, tN_nI hj9, tN_nI hk9, tN_nI hn9, if_pos (And.intro hv_j hv_k), if_pos hw19, if_pos hps, if_neg hkb0]]
      rw [← hfl]
      exact ⟨rfl, by rw [show n - (n - c) = c by omega], hC1, hout⟩)
      exact loop60 (11 + 1) 11 0 R M _ _ ls (by omega) (Nat.zero_le _) (by omega) hI hC hr9 hj hk hkb0 (outC.r R) rfl hc (lv_sub hl [4, 6, 7, 3, 2, 1, 0] rfl)
    · have hq_10 : (kb M k) = 0 := (nI_eq (a := (kb M k)) (b := 0) (by omega) (by omega)).mp hq_10
      have hkb0 : kb M k = 0 := hq_10
      refine lv_iconst (v := nI (0)) hx hb dX3_fill_48 (by decide) ?_
      refine vx_ret ?_
      refine W.widen (k := 1) (n := 6) (by decide) (by decide) ?_
      exact r_iret hx hb hr hlocks hc dX3_fill_49 (by
      unfold QC; rw [show oFill M (nI j) (nI k) (nI n) = (0, nI 0, M) by simp only [oFill, tN_nI hj9, tN_nI hk9, tN_nI hn9, if_pos (And.intro hv_j hv_k), if_pos hw19, if_pos hps, if_pos hkb0]]
      exact ⟨rfl, rfl, hC, outC.r R⟩)
  · rw [hRe] at hc
    rw [w_iff (by decide) (by decide)] at hw19
    refine lv_if_eq (tgt := 35) hx hb dX3_fill_22 (by decide) (fun hq_18 => absurd hq_18 (by decide)) (fun hq_18 => ?_)
    exact x_own hx hb hl9 hown hts (hl.1.trans hml.symm) hlocks hK hZ hc ht tf_i (by decide +kernel) (by decide +kernel) (fun _ h => List.mem_cons_of_mem _ (List.mem_append_left _ (List.mem_append_left _ (List.mem_append_left _ (List.mem_append_right _ h))))) (is := 138) (text := "boxes are outside their range") (by decide) dX3_fill_25 dX3_fill_28 dX3_fill_29 dX3_fill_31 dX3_fill_34 (Nat.le_of_ble_eq_true rfl) (Nat.le_of_ble_eq_true rfl) (Nat.le_of_ble_eq_true rfl) (Nat.le_of_ble_eq_true rfl) ⟨rfl, 1, by rw [show oFill M (nI j) (nI k) z = (2, nI 0, M) by simp only [oFill, tN_nI hj9, tN_nI hk9, if_pos (And.intro hv_j hv_k), if_neg hw19]], rfl⟩ (by decide) (by decide)
set_option maxRecDepth 100000 in
set_option maxHeartbeats 4000000 in
theorem c_X3_unload (l : Launch) (hl9 : l.stackTraces = false) (D : va_G) (g : Nat → ClassId) (lv : Nat → Bool) (a : Nat → Nat) (R : RS) (M : MS) (hr9 : PCr lv a R M) (hC : PC R M) (hI : Inv M) (x : Int32) : xI l D g lv a yX3_unload wsX3_unload ({ frames := 6, cells := 1, slots := 6, locals := 110 } : Room) [.ref (a (0)), .int (x)] R (fun r R' => QC R (oUnload M x) r R') (XP R (oUnload M x) [IAE, ISE]) := by
  refine x_body (cc := cX3_unload) (maxL := 5) (ret := (some .int)) (by decide) rfl (Nat.le_of_ble_eq_true rfl) ?_
  intro pr en st mi bl me co ls B ht hl
  obtain ⟨hx, hb, hr, hml, hown, hts, hlocks, hnm, hK, hZ, hc, hA⟩ := B
  have hl : lv_has ls 5 [(0, .ref (a (0))), (1, .int (x))] := hl
  have hinX1 : ∀ w ∈ u_ws RX1 TX1 10, w ∈ wsX3_unload := (fun _ h => List.mem_cons_of_mem _ (List.mem_append_left _ (List.mem_append_left _ (List.mem_append_left _ (List.mem_append_left _ (List.mem_append_right _ h))))))
  have hinX3 : ∀ w ∈ u_ws RX3 TX3 12, w ∈ wsX3_unload := (fun _ h => List.mem_cons_of_mem _ (List.mem_append_left _ (List.mem_append_left _ (List.mem_append_left _ (List.mem_append_left _ (List.mem_append_left _ (List.mem_append_right _ h)))))))
  have hf_21 := hts (.fieldLink RX3 21 "PalletLayers" "aboard" "[I") (by decide +kernel)
  have hf_32 := hts (.fieldLink RX3 32 "PalletLayers" "aboardCount" "I") (by decide +kernel)
  have hf_194 := hts (.fieldLink RX3 194 "PalletLayers$Pallet" "stop" "I") (by decide +kernel)
  have hb9 := iv_b hI
  refine lv_iload_n hx hb dX3_unload_0 rfl (lv_at hl 1 rfl) ?_
  refine lv_iconst (v := nI (0)) hx hb dX3_unload_1 (by decide) ?_
  refine lv_bipush (v := nI (9)) hx hb dX3_unload_2 (by decide) ?_
  refine r_calli hc hA (va_runS (As := [.int (x), .int (nI (0)), .int (nI (9))]) (rest := []) ⟨hx, hb, hml, hown, hts⟩ (c_X3_isOutside l D g lv a R x (nI (0)) (nI (9)) _) (va_cwS 3 hts gX3_unload_X3_isOutside rfl rfl rfl (by decide +kernel) ⟨Nat.le_of_ble_eq_true rfl, Nat.le_of_ble_eq_true rfl⟩) (r_preS hK hZ hc hA) rfl rfl hl.1 rfl (lv_room (Nat.le_of_ble_eq_true rfl)) dX3_unload_4 ⟨Nat.le_of_ble_eq_true rfl, Nat.le_of_ble_eq_true rfl⟩) (fun r R' H locs hp hc => ?_)
  obtain ⟨hRe, ⟨hw4, rfl⟩ | ⟨hw4, rfl⟩⟩ := hp
  · rw [hRe] at hc
    rw [w_iff (by decide) (by decide)] at hw4
    obtain ⟨s, hs0, hs1, hs9, rfl⟩ := isR_ex hw4
    refine lv_if_eq (tgt := 20) hx hb dX3_unload_7 (by decide) (fun hq_3 => ?_) (fun hq_3 => absurd hq_3 (by decide))
    refine lv_aload_n hx hb dX3_unload_20 rfl (lv_at hl 0 rfl) ?_
    refine lv_iload_n hx hb dX3_unload_21 rfl (lv_at hl 1 rfl) ?_
    refine r_calli hc hA (va_runV (As := [.int (nI (s))]) (rest := []) ⟨hx, hb, hml, hown, hts⟩ (c_X3_isBarred l D g lv a R M hr9 hC hI s (by omega) _) (cwV 1 hts gX3_unload_X3_isBarred rfl rfl rfl (by decide +kernel) ⟨Nat.le_of_ble_eq_true rfl, Nat.le_of_ble_eq_true rfl⟩) (r_preV hK hZ hc hA (hr9.1.1) (rfl) rfl) rfl rfl hl.1 rfl (lv_room (Nat.le_of_ble_eq_true rfl)) dX3_unload_22 ⟨Nat.le_of_ble_eq_true rfl, Nat.le_of_ble_eq_true rfl⟩) (fun r R' H locs hp hc => ?_)
    obtain ⟨hRe, ⟨hba, rfl⟩ | ⟨hba, rfl⟩⟩ := hp
    · rw [hRe] at hc
      refine lv_if_eq (tgt := 38) hx hb dX3_unload_25 (by decide) (fun hq_6 => absurd hq_6 (by decide)) (fun hq_6 => ?_)
      exact x_own hx hb hl9 hown hts (hl.1.trans hml.symm) hlocks hK hZ hc ht tf_s (by decide +kernel) (by decide +kernel) (fun _ h => List.mem_cons_of_mem _ (List.mem_append_left _ (List.mem_append_left _ (List.mem_append_right _ h)))) (is := 213) (text := "a pallet for another stop stands behind") (by decide) dX3_unload_28 dX3_unload_31 dX3_unload_32 dX3_unload_34 dX3_unload_37 (Nat.le_of_ble_eq_true rfl) (Nat.le_of_ble_eq_true rfl) (Nat.le_of_ble_eq_true rfl) (Nat.le_of_ble_eq_true rfl) ⟨rfl, 1, by rw [show oUnload M (nI s) = (2, nI 0, M) by simp only [oUnload, if_pos hw4, tN_nI hs9, if_pos hba]], rfl⟩ (by decide) (by decide)
    · rw [hRe] at hc
      refine lv_if_eq (tgt := 38) hx hb dX3_unload_25 (by decide) (fun hq_7 => ?_) (fun hq_7 => absurd hq_7 (by decide))
      refine lv_iconst (v := nI (0)) hx hb dX3_unload_38 (by decide) ?_
      refine lv_istore_n (lv' := [(2, .int (nI (0))), (0, .ref (a (0))), (1, .int (nI (s)))]) hx hb dX3_unload_39 rfl hl (by decide) rfl (fun ls hl => ?_)
      refine lv_aload_n hx hb dX3_unload_40 rfl (lv_at hl 1 rfl) ?_
      refine r_get (C := RX3) (T := TX3) (N := 12) (v := .int (nI (mna M))) hx hb hts hown hK.1 hc (hr9.1.1) (rfl) rfl rfl hinX3 8 (by decide) hf_32 (fun _ h9 => h9) (congrArg Value.int hC.1.2.2.2.2.1) dX3_unload_41 ?_
      refine lv_iconst (v := nI (1)) hx hb dX3_unload_44 (by decide) ?_
      refine lv_isub hx hb dX3_unload_45 ?_
      refine lv_istore_n (lv' := [(3, .int (nI (mna M) - nI 1)), (2, .int (nI (0))), (0, .ref (a (0))), (1, .int (nI (s)))]) hx hb dX3_unload_46 rfl hl (by decide) rfl (fun ls hl => ?_)
      have loop47 : ∀ (fuel47 : Nat) (f : Nat) (u : Nat) (R1 : RS) (M1 : MS) (H : Heap) (locs : List Loc) (ls : Array Slot), mna M1 < fuel47 → (mna M1 ≤ f) → (mna M1 + u = mna M) → (Inv M1) → (PC (sfi R1 0 8 (nI (mna M1))) M1) → (PCr lv a R1 M1) → (fi R1 0 8 = nI (mna M)) → (outC R R1) → (u + (nUn s f M1).1 = (nUn s 8 M).1) → ((nUn s f M1).2 = (nUn s 8 M).2) → rc D g (rA lv a st.heap.size) st.heap lv a R1 H locs → lv_has ls 5 [(0, .ref (a (0))), (1, .int (nI (s))), (2, .int (nI (u))), (3, .int (nI (mna M1) - nI 1))] → W pr l en ({ frames := 6, cells := 1, slots := 6, locals := 110 } : Room) st mi ([.ref (a (0)), .int ((nI s))] : List Value).toArray bl me co H locs 0 0 (vx_MQ bl (va_Qi (fun r R' => QC R (oUnload M (nI s)) r R') (cB D g lv a) (rA lv a st.heap.size)) (tX D g lv a (XP R (oUnload M (nI s)) [IAE, ISE]) st.heap.size) ([.ref (a (0)), .int ((nI s))] : List Value).toArray st 1 6 (rA lv a st.heap.size)) (F0 mi 47 ls []) := by
        intro fuel47
        induction fuel47 with
        | zero => intro f u R1 M1 H locs ls hmu; exact absurd hmu (Nat.not_lt_zero _)
        | succ fuel47 ih47 =>
          intro f u R1 M1 H locs ls hmu47 hf9 hmu hI1 hC1 hr1 hna hout hu1 hu2 hc hl
          have hb9 := iv_b hI1
          refine lv_iload_n hx hb dX3_unload_47 rfl (lv_at hl 3 rfl) ?_
          refine lv_if_lt (tgt := 89) hx hb dX3_unload_48 (by decide) (fun hq_8 => ?_) (fun hq_8 => ?_)
          · have hmz : mna M1 = 0 := by have h9 := mt (sub1_ge (l := mna M1) (by omega)).mpr (fun z => absurd hq_8 (Int32.not_lt.mpr z)); omega
            refine lv_aload_n hx hb dX3_unload_89 rfl (lv_at hl 0 rfl) ?_
            refine lv_dup hx hb dX3_unload_90 rfl ?_
            refine r_get (C := RX3) (T := TX3) (N := 12) (v := .int (nI (mna M))) hx hb hts hown hK.1 hc (hr1.1.1) (rfl) rfl rfl hinX3 8 (by decide) hf_32 (fun _ h9 => h9) (congrArg Value.int hna) dX3_unload_91 ?_
            refine lv_iload_n hx hb dX3_unload_94 rfl (lv_at hl 2 rfl) ?_
            refine nv_isub hx hb dX3_unload_95 (by omega) ?_
            refine r_put (C := RX3) (T := TX3) (N := 12) (R' := sfi R1 0 8 (nI ((mna M) - u))) hx hb hts hown hK.1 hc (hr1.1.1) (rfl) rfl rfl hinX3 tyX3 tyX3_ok nmX3 8 (by decide) hf_32 (fun _ h9 => h9) rfl (tyX3_ok 8 (by decide)) rfl rfl dX3_unload_96 (fds_sfi (by decide) (by decide)) (fun _ h9 => ct_sfi h9) (fun H locs hc => ?_)
            refine lv_iload_n hx hb dX3_unload_99 rfl (lv_at hl 2 rfl) ?_
            refine vx_ret ?_
            refine W.widen (k := 1) (n := 6) (by decide) (by decide) ?_
            exact r_iret hx hb hr hlocks hc dX3_unload_100 (by
      have hue : nUn s f M1 = (0, M1) := nUn_0 hf9 (fun z => by have := z.1; omega)
      rw [hue] at hu1 hu2
      unfold QC; rw [show oUnload M (nI s) = (0, nI (nUn s 8 M).1, (nUn s 8 M).2) by simp only [oUnload, if_pos hw4, tN_nI hs9, if_neg (show ¬ bar M s (mna M) = true by rw [hba]; decide)]]
      rw [← hu1, ← hu2]
      refine ⟨rfl, rfl, ?_, hout.sfi (by decide)⟩
      rw [show mna M - u = mna M1 by omega]
      exact hC1)
          · have hmz : 0 < mna M1 := (sub1_ge (by omega)).mp (Int32.not_lt.mp hq_8)
            rw [pk_sub (show 1 ≤ mna M1 by omega)] at hl
            obtain ⟨p, hpt⟩ : ∃ p, p = tb M1 (mna M1 - 1) := ⟨_, rfl⟩
            have htb := iv_t hI1 (show mna M1 - 1 < mna M1 by omega)
            rw [← hpt] at htb
            have htb1 := htb.1
            have htb2 := htb.2
            have hp9 := iv_p hI1 htb1
            refine lv_aload_n hx hb dX3_unload_51 rfl (lv_at hl 0 rfl) ?_
            refine lv_aload_n hx hb dX3_unload_52 rfl (lv_at hl 0 rfl) ?_
            refine r_get (C := RX3) (T := TX3) (N := 12) (v := .ref (a (6))) hx hb hts hown hK.1 hc (hr1.1.1) (rfl) rfl rfl hinX3 5 (by decide) hf_21 (fun _ h9 => h9) (congrArg va_rf hr1.1.2.2.2.2.2.2.2) dX3_unload_53 ?_
            refine lv_iload_n hx hb dX3_unload_56 rfl (lv_at hl 3 rfl) ?_
            refine r_iald (v := nI (p)) hx hb hK.1 hc (hr1.1.2.2.2.1) (rfl) (by decide) (by omega) dX3_unload_57 ((hC1.2.2.2.2.2.2 _ (by omega)).trans (by rw [hpt])) ?_
            refine r_callr hc hA (va_runV (As := [.int (nI (p))]) (rest := []) ⟨hx, hb, hml, hown, hts⟩ (c_X3_palletNumbered_v l D g lv a R1 M1 hr1 ⟨hb9.2.2.2.2.1, hb9.2.2.2.2.2.1⟩ p htb1 _) (cwV 1 hts gX3_unload_X3_palletNumbered rfl rfl rfl (by decide +kernel) ⟨Nat.le_of_ble_eq_true rfl, Nat.le_of_ble_eq_true rfl⟩) (r_preV hK hZ hc hA (hr1.1.1) (rfl) rfl) rfl rfl hl.1 rfl (lv_room (Nat.le_of_ble_eq_true rfl)) dX3_unload_58 ⟨Nat.le_of_ble_eq_true rfl, Nat.le_of_ble_eq_true rfl⟩) (fun r R' H locs hp hc => ?_)
            obtain ⟨hre, hRe⟩ := hp
            rw [hRe] at hc
            rw [hre]
            refine lv_astore (lv' := [(4, .ref (a (40 + 6 * p))), (0, .ref (a (0))), (1, .int (nI (s))), (2, .int (nI (u))), (3, .int (nI (mna M1 - 1)))]) hx hb dX3_unload_61 hl (by decide) rfl (fun ls hl => ?_)
            refine lv_aload hx hb dX3_unload_63 (lv_at hl 0 rfl) ?_
            refine r_get (C := RX1) (T := TX1) (N := 10) (v := .int (nI (ps M1 p - 1))) hx hb hts hown hK.1 hc ((hr1.2.2.2.1 p (by omega)).1.1) (sh_P (by omega)) rfl rfl hinX1 9 (by decide) hf_194 (fun _ h9 => h9) (congrArg Value.int ((up2_ni (by omega)).symm.trans ((hC1.2.2.2.2.1 p htb1).2.2.2.2.trans (stI_p htb2)))) dX3_unload_65 ?_
            refine lv_iload_n hx hb dX3_unload_68 rfl (lv_at hl 2 rfl) ?_
            refine lv_icmp_eq (tgt := 75) hx hb dX3_unload_69 (by decide) (fun hq_11 => ?_) (fun hq_11 => ?_)
            · have hq_11 : (ps M1 p - 1) = s := (nI_eq (a := (ps M1 p - 1)) (b := s) (by omega) (by omega)).mp hq_11
              have hst9 : ps M1 p = s + 1 := by omega
              refine lv_aload hx hb dX3_unload_75 (lv_at hl 0 rfl) ?_
              refine r_callv hc hA (va_runV (As := []) (rest := []) ⟨hx, hb, hml, hown, hts⟩ (c_X1_clear l D g lv a R1 p (by omega) (hr1.2.2.2.1 p htb1) _) (cwV 0 hts gX3_unload_X1_clear rfl rfl rfl (by decide +kernel) ⟨Nat.le_of_ble_eq_true rfl, Nat.le_of_ble_eq_true rfl⟩) (r_preV hK hZ hc hA ((hr1.2.2.2.1 p (by omega)).1.1) (sh_P (by omega)) rfl) rfl rfl hl.1 rfl (lv_room (Nat.le_of_ble_eq_true rfl)) dX3_unload_77 ⟨Nat.le_of_ble_eq_true rfl, Nat.le_of_ble_eq_true rfl⟩) (fun R' H locs hp hc => ?_)
              have hRe := hp
              rw [hRe] at hc
              refine lv_iinc (v := nI (u + 1)) (lv' := [(2, .int (nI (u + 1))), (4, .ref (a (40 + 6 * p))), (0, .ref (a (0))), (1, .int (nI (s))), (3, .int (nI (mna M1 - 1)))]) hx hb dX3_unload_80 hl (k := 3) rfl (nI_inc _ 1) (by decide) rfl (fun ls hl => ?_)
              refine lv_iinc (v := nI (mna M1 - 1) + (-1)) (lv' := [(3, .int (nI (mna M1 - 1) + (-1))), (2, .int (nI (u + 1))), (4, .ref (a (40 + 6 * p))), (0, .ref (a (0))), (1, .int (nI (s)))]) hx hb dX3_unload_83 hl (k := 4) rfl rfl (by decide) rfl (fun ls hl => ?_)
              refine lv_goto (tgt := 47) hx hb dX3_unload_86 (by decide) ?_
              rw [show nI (mna M1 - 1) + (-1) = nI (mna (nPop M1)) - nI 1 from nI_m1 _] at hl
              exact ih47 (f - 1) (u + 1) _ (nPop M1) _ _ ls (by show mna M1 - 1 < _; omega) (by show mna M1 - 1 ≤ f - 1; omega) (by show mna M1 - 1 + (u + 1) = mna M; omega) (iv_pop hI1 hmz) (pc_pop hC1 hpt (by omega) (by omega) (by omega)) (hr1.out (outC_cl (by omega)).2.1 (outC_cl (by omega)).2.2 rfl rfl) ((cl_0 (by omega)).trans hna) (hout.trans (outC_cl (by omega))) (by have h9 := nUn_1 hf9 ⟨hmz, by rw [← hpt]; exact hst9⟩; rw [h9] at hu1; rw [← hu1]; show u + 1 + (nUn s (f - 1) (nPop M1)).1 = u + ((nUn s (f - 1) (nPop M1)).1 + 1); omega) (by have h9 := nUn_1 hf9 ⟨hmz, by rw [← hpt]; exact hst9⟩; rw [h9] at hu2; exact hu2) hc (lv_sub hl [3, 4, 1, 0] rfl)
            · have hq_11 : ¬ ((ps M1 p - 1) = s) := fun z => hq_11 ((nI_eq (a := (ps M1 p - 1)) (b := s) (by omega) (by omega)).mpr z)
              have hst9 : ¬ ps M1 p = s + 1 := by omega
              refine lv_goto (tgt := 89) hx hb dX3_unload_72 (by decide) ?_
              refine lv_aload_n hx hb dX3_unload_89 rfl (lv_at hl 1 rfl) ?_
              refine lv_dup hx hb dX3_unload_90 rfl ?_
              refine r_get (C := RX3) (T := TX3) (N := 12) (v := .int (nI (mna M))) hx hb hts hown hK.1 hc (hr1.1.1) (rfl) rfl rfl hinX3 8 (by decide) hf_32 (fun _ h9 => h9) (congrArg Value.int hna) dX3_unload_91 ?_
              refine lv_iload_n hx hb dX3_unload_94 rfl (lv_at hl 3 rfl) ?_
              refine nv_isub hx hb dX3_unload_95 (by omega) ?_
              refine r_put (C := RX3) (T := TX3) (N := 12) (R' := sfi R1 0 8 (nI ((mna M) - u))) hx hb hts hown hK.1 hc (hr1.1.1) (rfl) rfl rfl hinX3 tyX3 tyX3_ok nmX3 8 (by decide) hf_32 (fun _ h9 => h9) rfl (tyX3_ok 8 (by decide)) rfl rfl dX3_unload_96 (fds_sfi (by decide) (by decide)) (fun _ h9 => ct_sfi h9) (fun H locs hc => ?_)
              refine lv_iload_n hx hb dX3_unload_99 rfl (lv_at hl 3 rfl) ?_
              refine vx_ret ?_
              refine W.widen (k := 1) (n := 6) (by decide) (by decide) ?_
              exact r_iret hx hb hr hlocks hc dX3_unload_100 (by
      have hue : nUn s f M1 = (0, M1) := nUn_0 hf9 (fun z => by have := z.2; rw [← hpt] at this; omega)
      rw [hue] at hu1 hu2
      unfold QC; rw [show oUnload M (nI s) = (0, nI (nUn s 8 M).1, (nUn s 8 M).2) by simp only [oUnload, if_pos hw4, tN_nI hs9, if_neg (show ¬ bar M s (mna M) = true by rw [hba]; decide)]]
      rw [← hu1, ← hu2]
      refine ⟨rfl, rfl, ?_, hout.sfi (by decide)⟩
      rw [show mna M - u = mna M1 by omega]
      exact hC1)
      exact loop47 (mna M + 1) 8 0 R M _ _ ls (by omega) (by omega) (by omega) hI (by rw [sfi_id hC.1.2.2.2.2.1]; exact hC) hr9 hC.1.2.2.2.2.1 (outC.r R) (Nat.zero_add _) rfl hc (lv_sub hl [2, 3, 1, 0] rfl)
  · rw [hRe] at hc
    rw [w_iff (by decide) (by decide)] at hw4
    refine lv_if_eq (tgt := 20) hx hb dX3_unload_7 (by decide) (fun hq_14 => absurd hq_14 (by decide)) (fun hq_14 => ?_)
    exact x_own hx hb hl9 hown hts (hl.1.trans hml.symm) hlocks hK hZ hc ht tf_i (by decide +kernel) (by decide +kernel) (fun _ h => List.mem_cons_of_mem _ (List.mem_append_left _ (List.mem_append_left _ (List.mem_append_left _ (List.mem_append_right _ h))))) (is := 203) (text := "a stop is outside its range") (by decide) dX3_unload_10 dX3_unload_13 dX3_unload_14 dX3_unload_16 dX3_unload_19 (Nat.le_of_ble_eq_true rfl) (Nat.le_of_ble_eq_true rfl) (Nat.le_of_ble_eq_true rfl) (Nat.le_of_ble_eq_true rfl) ⟨rfl, 0, by rw [show oUnload M x = (1, nI 0, M) by simp only [oUnload, if_neg hw4]], rfl⟩ (by decide) (by decide)
