set_option maxRecDepth 100000 in
set_option maxHeartbeats 4000000 in
theorem c_X3_whyNot (l : Launch) (D : va_G) (g : Nat → ClassId) (lv : Nat → Bool) (a : Nat → Nat) (R : RS) (M : MS) (hr9 : PCr lv a R M) (hC : PC R M) (hI : Inv M) (p k n : Nat) (hp : p < mnp M) (hk : k < mnk M) (hn : n ≤ 1000) : cI l D g lv a yX3_whyNot wsX3_whyNot ({ frames := 3, cells := 0, slots := 0, locals := 68 } : Room) [.ref (a (0)), .ref (a (40 + 6 * p)), .ref (a (10 + 3 * k)), .int (nI (n))] R (fun r R' => r = rsn M p k n ∧ R' = R) 0 0 := by
  refine c_body (cc := cX3_whyNot) (maxL := 6) (ret := (some .int)) (by decide) rfl (Nat.le_of_ble_eq_true rfl) ?_
  intro pr en st mi bl me co ls B hl
  obtain ⟨hx, hb, hr, hml, hown, hts, hlocks, hnm, hK, hZ, hc, hA⟩ := B
  have hl : lv_has ls 6 [(0, .ref (a (0))), (1, .ref (a (40 + 6 * p))), (2, .ref (a (10 + 3 * k))), (3, .int (nI (n)))] := hl
  have hinX0 : ∀ w ∈ u_ws RX0 TX0 11, w ∈ wsX3_whyNot := (fun _ h => List.mem_cons_of_mem _ (List.mem_append_left _ (List.mem_append_left _ (List.mem_append_left _ (List.mem_append_right _ h)))))
  have hinX1 : ∀ w ∈ u_ws RX1 TX1 10, w ∈ wsX3_whyNot := (fun _ h => List.mem_cons_of_mem _ (List.mem_append_left _ (List.mem_append_left _ (List.mem_append_right _ h))))
  have hinX3 : ∀ w ∈ u_ws RX3 TX3 12, w ∈ wsX3_whyNot := (fun _ h => List.mem_cons_of_mem _ (List.mem_append_left _ (List.mem_append_right _ h)))
  have hf_35 := hts (.fieldLink RX3 35 "PalletLayers" "share" "I") (by decide +kernel)
  have hf_38 := hts (.fieldLink RX3 38 "PalletLayers" "door" "I") (by decide +kernel)
  have hf_41 := hts (.fieldLink RX3 41 "PalletLayers" "load" "I") (by decide +kernel)
  have hf_106 := hts (.fieldLink RX3 106 "PalletLayers$Kind" "boxes" "I") (by decide +kernel)
  have hf_126 := hts (.fieldLink RX3 126 "PalletLayers$Kind" "area" "I") (by decide +kernel)
  have hf_144 := hts (.fieldLink RX3 144 "PalletLayers$Pallet" "layers" "I") (by decide +kernel)
  have hf_187 := hts (.fieldLink RX3 187 "PalletLayers$Pallet" "height" "I") (by decide +kernel)
  have hf_190 := hts (.fieldLink RX3 190 "PalletLayers$Pallet" "weight" "I") (by decide +kernel)
  have hf_237 := hts (.fieldLink RX3 237 "PalletLayers$Kind" "height" "I") (by decide +kernel)
  have hf_238 := hts (.fieldLink RX3 238 "PalletLayers$Kind" "weight" "I") (by decide +kernel)
  have hb9 := iv_b hI
  have hp9 := iv_p hI hp
  have hk9 := iv_k hI hk
  have har := ar_b hk9
  have hh9 := hS_le hI hp (pn M p) (Nat.le_refl _)
  have hw9 := wS_le hI hp (pn M p) (Nat.le_refl _)
  have hma : msh M * (kw M k * kd M k) ≤ 100 * 36 := Nat.mul_le_mul hb9.2.2.2.2.2.2.2.1 har.2
  have hqn : kq M k * n ≤ 100 * 1000 := Nat.mul_le_mul hk9.2.2.2.2.2.2.1 hn
  refine lv_iload_n hx hb dX3_whyNot_0 rfl (lv_at hl 3 rfl) ?_
  refine lv_aload_n hx hb dX3_whyNot_1 rfl (lv_at hl 2 rfl) ?_
  refine r_get (C := RX0) (T := TX0) (N := 11) (v := .int (nI (kb M k))) hx hb hts hown hK.1 hc ((hr9.2.2.1 k (by omega)).1) (sh_K (by omega)) rfl rfl hinX0 9 (by decide) hf_106 (fun _ h9 => h9) (congrArg Value.int (hC.2.2.2.1 k (by omega)).1) dX3_whyNot_2 ?_
  refine lv_icmp_le (tgt := 10) hx hb dX3_whyNot_5 (by decide) (fun hq_1 => ?_) (fun hq_1 => ?_)
  · have hq_1 : n ≤ (kb M k) := (nI_leI (a := n) (b := (kb M k)) (by omega) (by omega)).mp hq_1
    refine lv_iconst (v := nI (0)) hx hb dX3_whyNot_10 (by decide) ?_
    refine lv_istore (lv' := [(4, .int (nI (0))), (0, .ref (a (0))), (1, .ref (a (40 + 6 * p))), (2, .ref (a (10 + 3 * k))), (3, .int (nI (n)))]) hx hb dX3_whyNot_11 hl (by decide) rfl (fun ls hl => ?_)
    have loop13 : ∀ (fuel13 : Nat) (i : Nat) (H : Heap) (locs : List Loc) (ls : Array Slot), n - i < fuel13 → (i ≤ n) → (sAll M p k i = true) → rc D g (rA lv a st.heap.size) st.heap lv a R H locs → lv_has ls 6 [(0, .ref (a (0))), (1, .ref (a (40 + 6 * p))), (2, .ref (a (10 + 3 * k))), (3, .int (nI (n))), (4, .int (nI (i)))] → W pr l en ({ frames := 3, cells := 0, slots := 0, locals := 68 } : Room) st mi ([.ref (a (0)), .ref (a (40 + 6 * p)), .ref (a (10 + 3 * k)), .int (nI (n))] : List Value).toArray bl me co H locs 0 0 (MQ bl (va_Qi (fun r R' => r = rsn M p k n ∧ R' = R) (cB D g lv a) (rA lv a st.heap.size)) ([.ref (a (0)), .ref (a (40 + 6 * p)), .ref (a (10 + 3 * k)), .int (nI (n))] : List Value).toArray st 0 0 (rA lv a st.heap.size)) (F0 mi 13 ls []) := by
      intro fuel13
      induction fuel13 with
      | zero => intro i H locs ls hmu; exact absurd hmu (Nat.not_lt_zero _)
      | succ fuel13 ih13 =>
        intro i H locs ls hmu13 hi hal hc hl
        refine lv_iload hx hb dX3_whyNot_13 (lv_at hl 4 rfl) ?_
        refine lv_iload_n hx hb dX3_whyNot_15 rfl (lv_at hl 3 rfl) ?_
        refine lv_icmp_ge (tgt := 61) hx hb dX3_whyNot_16 (by decide) (fun hq_2 => ?_) (fun hq_2 => ?_)
        · have hq_2 : n ≤ i := (nI_leI (a := n) (b := i) (by omega) (by omega)).mp hq_2
          refine lv_aload_n hx hb dX3_whyNot_61 rfl (lv_at hl 1 rfl) ?_
          refine r_get (C := RX1) (T := TX1) (N := 10) (v := .int (nI (hS M p (pn M p)))) hx hb hts hown hK.1 hc ((hr9.2.2.2.1 p (by omega)).1.1) (sh_P (by omega)) rfl rfl hinX1 6 (by decide) hf_187 (fun _ h9 => h9) (congrArg Value.int (hC.2.2.2.2.1 p (by omega)).2.1) dX3_whyNot_62 ?_
          refine lv_aload_n hx hb dX3_whyNot_65 rfl (lv_at hl 2 rfl) ?_
          refine r_get (C := RX0) (T := TX0) (N := 11) (v := .int (nI (kh M k))) hx hb hts hown hK.1 hc ((hr9.2.2.1 k (by omega)).1) (sh_K (by omega)) rfl rfl hinX0 2 (by decide) hf_237 (fun _ h9 => h9) (congrArg Value.int (hC.2.2.1 k (by omega)).2.2.1) dX3_whyNot_66 ?_
          refine nv_iadd hx hb dX3_whyNot_69 ?_
          refine lv_aload_n hx hb dX3_whyNot_70 rfl (lv_at hl 0 rfl) ?_
          refine r_get (C := RX3) (T := TX3) (N := 12) (v := .int (nI (mdo M))) hx hb hts hown hK.1 hc (hr9.1.1) (rfl) rfl rfl hinX3 10 (by decide) hf_38 (fun _ h9 => h9) (congrArg Value.int hC.1.2.2.2.2.2.2.1) dX3_whyNot_71 ?_
          refine lv_icmp_le (tgt := 80) hx hb dX3_whyNot_74 (by decide) (fun hq_3 => ?_) (fun hq_3 => ?_)
          · have hq_3 : ((hS M p (pn M p)) + (kh M k)) ≤ (mdo M) := (nI_leI (a := ((hS M p (pn M p)) + (kh M k))) (b := (mdo M)) (by omega) (by omega)).mp hq_3
            refine lv_aload_n hx hb dX3_whyNot_80 rfl (lv_at hl 1 rfl) ?_
            refine r_get (C := RX1) (T := TX1) (N := 10) (v := .int (nI (wS M p (pn M p)))) hx hb hts hown hK.1 hc ((hr9.2.2.2.1 p (by omega)).1.1) (sh_P (by omega)) rfl rfl hinX1 7 (by decide) hf_190 (fun _ h9 => h9) (congrArg Value.int (hC.2.2.2.2.1 p (by omega)).2.2.1) dX3_whyNot_81 ?_
            refine lv_aload_n hx hb dX3_whyNot_84 rfl (lv_at hl 2 rfl) ?_
            refine r_get (C := RX0) (T := TX0) (N := 11) (v := .int (nI (kq M k))) hx hb hts hown hK.1 hc ((hr9.2.2.1 k (by omega)).1) (sh_K (by omega)) rfl rfl hinX0 3 (by decide) hf_238 (fun _ h9 => h9) (congrArg Value.int (hC.2.2.1 k (by omega)).2.2.2.1) dX3_whyNot_85 ?_
            refine lv_iload_n hx hb dX3_whyNot_88 rfl (lv_at hl 3 rfl) ?_
            refine nv_imul hx hb dX3_whyNot_89 ?_
            refine nv_iadd hx hb dX3_whyNot_90 ?_
            refine lv_aload_n hx hb dX3_whyNot_91 rfl (lv_at hl 0 rfl) ?_
            refine r_get (C := RX3) (T := TX3) (N := 12) (v := .int (nI (mlo M))) hx hb hts hown hK.1 hc (hr9.1.1) (rfl) rfl rfl hinX3 11 (by decide) hf_41 (fun _ h9 => h9) (congrArg Value.int hC.1.2.2.2.2.2.2.2.1) dX3_whyNot_92 ?_
            refine lv_icmp_le (tgt := 101) hx hb dX3_whyNot_95 (by decide) (fun hq_4 => ?_) (fun hq_4 => ?_)
            · have hq_4 : ((wS M p (pn M p)) + ((kq M k) * n)) ≤ (mlo M) := (nI_leI (a := ((wS M p (pn M p)) + ((kq M k) * n))) (b := (mlo M)) (by omega) (by omega)).mp hq_4
              refine lv_iconst (v := nI (0)) hx hb dX3_whyNot_101 (by decide) ?_
              exact r_iret hx hb hr hlocks hc dX3_whyNot_102 ⟨by unfold rsn; rw [if_neg (by omega), if_neg (by rw [show i = n by omega] at hal; rw [hal]; decide), if_neg (by omega), if_neg (by rw [Nat.mul_comm n]; omega)], rfl⟩
            · have hq_4 : ¬ (((wS M p (pn M p)) + ((kq M k) * n)) ≤ (mlo M)) := fun z => hq_4 ((nI_leI (a := ((wS M p (pn M p)) + ((kq M k) * n))) (b := (mlo M)) (by omega) (by omega)).mpr z)
              refine lv_bipush (v := (-4)) hx hb dX3_whyNot_98 (by decide) ?_
              exact r_iret hx hb hr hlocks hc dX3_whyNot_100 ⟨by unfold rsn; rw [if_neg (by omega), if_neg (by rw [show i = n by omega] at hal; rw [hal]; decide), if_neg (by omega), if_pos (by rw [Nat.mul_comm n]; omega)], rfl⟩
          · have hq_3 : ¬ (((hS M p (pn M p)) + (kh M k)) ≤ (mdo M)) := fun z => hq_3 ((nI_leI (a := ((hS M p (pn M p)) + (kh M k))) (b := (mdo M)) (by omega) (by omega)).mpr z)
            refine lv_bipush (v := (-3)) hx hb dX3_whyNot_77 (by decide) ?_
            exact r_iret hx hb hr hlocks hc dX3_whyNot_79 ⟨by unfold rsn; rw [if_neg (by omega), if_neg (by rw [show i = n by omega] at hal; rw [hal]; decide), if_pos (by omega)], rfl⟩
        · have hq_2 : ¬ (n ≤ i) := fun z => hq_2 ((nI_leI (a := n) (b := i) (by omega) (by omega)).mpr z)
          refine lv_aload_n hx hb dX3_whyNot_19 rfl (lv_at hl 1 rfl) ?_
          refine lv_aload_n hx hb dX3_whyNot_20 rfl (lv_at hl 1 rfl) ?_
          refine r_get (C := RX1) (T := TX1) (N := 10) (v := .int (nI (pn M p))) hx hb hts hown hK.1 hc ((hr9.2.2.2.1 p (by omega)).1.1) (sh_P (by omega)) rfl rfl hinX1 5 (by decide) hf_144 (fun _ h9 => h9) (congrArg Value.int (hC.2.2.2.2.1 p (by omega)).1) dX3_whyNot_21 ?_
          refine lv_aload_n hx hb dX3_whyNot_24 rfl (lv_at hl 2 rfl) ?_
          refine lv_iload hx hb dX3_whyNot_25 (lv_at hl 4 rfl) ?_
          refine r_calll hc hA (va_runV (As := [.int (nI (i))]) (rest := [.int (nI (pn M p)), .ref (a (40 + 6 * p))]) ⟨hx, hb, hml, hown, hts⟩ (c_X0_cellsOfBox l D g lv a R M k (by omega) (hr9.2.2.1 k hk) (hC.2.2.1 k hk) (hC.2.2.2.1 k hk) hI hk i (by omega) _) (cwV 1 hts gX3_whyNot_X0_cellsOfBox rfl rfl rfl (by decide +kernel) ⟨Nat.le_of_ble_eq_true rfl, Nat.le_of_ble_eq_true rfl⟩) (r_preV hK hZ hc hA ((hr9.2.2.1 k (by omega)).1) (sh_K (by omega)) rfl) rfl rfl hl.1 rfl (lv_room (Nat.le_of_ble_eq_true rfl)) dX3_whyNot_27 ⟨Nat.le_of_ble_eq_true rfl, Nat.le_of_ble_eq_true rfl⟩) (fun r R' H locs hp hc => ?_)
          obtain ⟨hre, hRe⟩ := hp
          rw [hRe] at hc
          rw [hre]
          refine r_calli hc hA (va_runS (As := [.ref (a (40 + 6 * p)), .int (nI (pn M p)), .long (lN (bx M k i))]) (rest := []) ⟨hx, hb, hml, hown, hts⟩ (c_X3_supportedCells l D g lv a R M hr9 hC hI k i p (pn M p) hk (by omega) hp (Nat.le_refl _) _) (va_cwS 3 hts gX3_whyNot_X3_supportedCells rfl rfl rfl (by decide +kernel) ⟨Nat.le_of_ble_eq_true rfl, Nat.le_of_ble_eq_true rfl⟩) (r_preS hK hZ hc hA) rfl rfl hl.1 rfl (lv_room (Nat.le_of_ble_eq_true rfl)) dX3_whyNot_30 ⟨Nat.le_of_ble_eq_true rfl, Nat.le_of_ble_eq_true rfl⟩) (fun r R' H locs hp hc => ?_)
          obtain ⟨hre, hRe⟩ := hp
          rw [hRe] at hc
          rw [hre]
          have hsp := spt_le (i := i) hI hk hp (Nat.le_refl (pn M p))
          refine lv_istore (lv' := [(5, .int (nI (spt M k i p (pn M p)))), (0, .ref (a (0))), (1, .ref (a (40 + 6 * p))), (2, .ref (a (10 + 3 * k))), (3, .int (nI (n))), (4, .int (nI (i)))]) hx hb dX3_whyNot_33 hl (by decide) rfl (fun ls hl => ?_)
          refine lv_iload hx hb dX3_whyNot_35 (lv_at hl 0 rfl) ?_
          refine lv_bipush (v := nI (100)) hx hb dX3_whyNot_37 (by decide) ?_
          refine nv_imul hx hb dX3_whyNot_39 ?_
          refine lv_aload_n hx hb dX3_whyNot_40 rfl (lv_at hl 1 rfl) ?_
          refine r_get (C := RX3) (T := TX3) (N := 12) (v := .int (nI (msh M))) hx hb hts hown hK.1 hc (hr9.1.1) (rfl) rfl rfl hinX3 9 (by decide) hf_35 (fun _ h9 => h9) (congrArg Value.int hC.1.2.2.2.2.2.1) dX3_whyNot_41 ?_
          refine lv_aload_n hx hb dX3_whyNot_44 rfl (lv_at hl 3 rfl) ?_
          refine r_get (C := RX0) (T := TX0) (N := 11) (v := .int (nI (kw M k * kd M k))) hx hb hts hown hK.1 hc ((hr9.2.2.1 k (by omega)).1) (sh_K (by omega)) rfl rfl hinX0 4 (by decide) hf_126 (fun _ h9 => h9) (congrArg Value.int (hC.2.2.1 k (by omega)).2.2.2.2.1) dX3_whyNot_45 ?_
          refine nv_imul hx hb dX3_whyNot_48 ?_
          refine lv_icmp_ge (tgt := 55) hx hb dX3_whyNot_49 (by decide) (fun hq_9 => ?_) (fun hq_9 => ?_)
          · have hq_9 : ((msh M) * (kw M k * kd M k)) ≤ ((spt M k i p (pn M p)) * 100) := (nI_leI (a := ((msh M) * (kw M k * kd M k))) (b := ((spt M k i p (pn M p)) * 100)) (by omega) (by omega)).mp hq_9
            have hsu : msh M * (kw M k * kd M k) ≤ 100 * spt M k i p (pn M p) := by omega
            refine lv_iinc (v := nI (i + 1)) (lv' := [(4, .int (nI (i + 1))), (5, .int (nI (spt M k i p (pn M p)))), (0, .ref (a (0))), (1, .ref (a (40 + 6 * p))), (2, .ref (a (10 + 3 * k))), (3, .int (nI (n)))]) hx hb dX3_whyNot_55 hl (k := 5) rfl (nI_inc _ 1) (by decide) rfl (fun ls hl => ?_)
            refine lv_goto (tgt := 13) hx hb dX3_whyNot_58 (by decide) ?_
            exact ih13 (i + 1) _ _ ls (by omega) (by omega) (sAll_yes hal hsu) hc (lv_sub hl [2, 3, 4, 5, 0] rfl)
          · have hq_9 : ¬ (((msh M) * (kw M k * kd M k)) ≤ ((spt M k i p (pn M p)) * 100)) := fun z => hq_9 ((nI_leI (a := ((msh M) * (kw M k * kd M k))) (b := ((spt M k i p (pn M p)) * 100)) (by omega) (by omega)).mpr z)
            have hsu : ¬ msh M * (kw M k * kd M k) ≤ 100 * spt M k i p (pn M p) := by omega
            refine lv_bipush (v := (-2)) hx hb dX3_whyNot_52 (by decide) ?_
            exact r_iret hx hb hr hlocks hc dX3_whyNot_54 ⟨by unfold rsn; rw [if_neg (by omega), if_pos (sAll_mono (i := i + 1) (by omega) (sAll_no hsu))], rfl⟩
    exact loop13 (n + 1) 0 _ _ ls (by omega) (Nat.zero_le _) rfl hc (lv_sub hl [1, 2, 3, 4, 0] rfl)
  · have hq_1 : ¬ (n ≤ (kb M k)) := fun z => hq_1 ((nI_leI (a := n) (b := (kb M k)) (by omega) (by omega)).mpr z)
    refine lv_iconst (v := (-1)) hx hb dX3_whyNot_8 (by decide) ?_
    exact r_iret hx hb hr hlocks hc dX3_whyNot_9 ⟨by unfold rsn; rw [if_pos (by omega)], rfl⟩
set_option maxRecDepth 100000 in
set_option maxHeartbeats 4000000 in
theorem c_X3_hasLesserStopAboard (l : Launch) (D : va_G) (g : Nat → ClassId) (lv : Nat → Bool) (a : Nat → Nat) (R : RS) (M : MS) (hr9 : PCr lv a R M) (hC : PC R M) (hI : Inv M) (s : Nat) (hs : s ≤ 9) : cI l D g lv a yX3_hasLesserStopAboard wsX3_hasLesserStopAboard ({ frames := 2, cells := 0, slots := 0, locals := 44 } : Room) [.ref (a (0)), .int (nI (s))] R (fun r R' => R' = R ∧ (les M s (mna M) = true ∧ r = nI 1 ∨ les M s (mna M) = false ∧ r = nI 0)) 0 0 := by
  refine c_body (cc := cX3_hasLesserStopAboard) (maxL := 3) (ret := (some .boolean)) (by decide) rfl (Nat.le_of_ble_eq_true rfl) ?_
  intro pr en st mi bl me co ls B hl
  obtain ⟨hx, hb, hr, hml, hown, hts, hlocks, hnm, hK, hZ, hc, hA⟩ := B
  have hl : lv_has ls 3 [(0, .ref (a (0))), (1, .int (nI (s)))] := hl
  have hinX1 : ∀ w ∈ u_ws RX1 TX1 10, w ∈ wsX3_hasLesserStopAboard := (fun _ h => List.mem_cons_of_mem _ (List.mem_append_left _ (List.mem_append_left _ (List.mem_append_right _ h))))
  have hinX3 : ∀ w ∈ u_ws RX3 TX3 12, w ∈ wsX3_hasLesserStopAboard := (fun _ h => List.mem_cons_of_mem _ (List.mem_append_left _ (List.mem_append_left _ (List.mem_append_left _ (List.mem_append_right _ h)))))
  have hf_21 := hts (.fieldLink RX3 21 "PalletLayers" "aboard" "[I") (by decide +kernel)
  have hf_32 := hts (.fieldLink RX3 32 "PalletLayers" "aboardCount" "I") (by decide +kernel)
  have hf_194 := hts (.fieldLink RX3 194 "PalletLayers$Pallet" "stop" "I") (by decide +kernel)
  have hb9 := iv_b hI
  refine lv_iconst (v := nI (0)) hx hb dX3_hasLesserStopAboard_0 (by decide) ?_
  refine lv_istore_n (lv' := [(2, .int (nI (0))), (0, .ref (a (0))), (1, .int (nI (s)))]) hx hb dX3_hasLesserStopAboard_1 rfl hl (by decide) rfl (fun ls hl => ?_)
  have loop2 : ∀ (fuel2 : Nat) (i : Nat) (H : Heap) (locs : List Loc) (ls : Array Slot), mna M - i < fuel2 → (i ≤ mna M) → (les M s i = false) → rc D g (rA lv a st.heap.size) st.heap lv a R H locs → lv_has ls 3 [(0, .ref (a (0))), (1, .int (nI (s))), (2, .int (nI (i)))] → W pr l en ({ frames := 2, cells := 0, slots := 0, locals := 44 } : Room) st mi ([.ref (a (0)), .int (nI (s))] : List Value).toArray bl me co H locs 0 0 (MQ bl (va_Qi (fun r R' => R' = R ∧ (les M s (mna M) = true ∧ r = nI 1 ∨ les M s (mna M) = false ∧ r = nI 0)) (cB D g lv a) (rA lv a st.heap.size)) ([.ref (a (0)), .int (nI (s))] : List Value).toArray st 0 0 (rA lv a st.heap.size)) (F0 mi 2 ls []) := by
    intro fuel2
    induction fuel2 with
    | zero => intro i H locs ls hmu; exact absurd hmu (Nat.not_lt_zero _)
    | succ fuel2 ih2 =>
      intro i H locs ls hmu2 hi hle hc hl
      refine lv_iload_n hx hb dX3_hasLesserStopAboard_2 rfl (lv_at hl 2 rfl) ?_
      refine lv_aload_n hx hb dX3_hasLesserStopAboard_3 rfl (lv_at hl 0 rfl) ?_
      refine r_get (C := RX3) (T := TX3) (N := 12) (v := .int (nI (mna M))) hx hb hts hown hK.1 hc (hr9.1.1) (rfl) rfl rfl hinX3 8 (by decide) hf_32 (fun _ h9 => h9) (congrArg Value.int hC.1.2.2.2.2.1) dX3_hasLesserStopAboard_4 ?_
      refine lv_icmp_ge (tgt := 35) hx hb dX3_hasLesserStopAboard_7 (by decide) (fun hq_1 => ?_) (fun hq_1 => ?_)
      · have hq_1 : (mna M) ≤ i := (nI_leI (a := (mna M)) (b := i) (by omega) (by omega)).mp hq_1
        refine lv_iconst (v := nI (0)) hx hb dX3_hasLesserStopAboard_35 (by decide) ?_
        exact r_zret hx hb hr hlocks hc dX3_hasLesserStopAboard_36 (by decide) ⟨rfl, Or.inr ⟨by rw [← show i = mna M by omega]; exact hle, rfl⟩⟩
      · have hq_1 : ¬ ((mna M) ≤ i) := fun z => hq_1 ((nI_leI (a := (mna M)) (b := i) (by omega) (by omega)).mpr z)
        have htb := iv_t hI (show i < mna M by omega)
        have hp9 := iv_p hI htb.1
        refine lv_aload_n hx hb dX3_hasLesserStopAboard_10 rfl (lv_at hl 0 rfl) ?_
        refine lv_aload_n hx hb dX3_hasLesserStopAboard_11 rfl (lv_at hl 0 rfl) ?_
        refine r_get (C := RX3) (T := TX3) (N := 12) (v := .ref (a (6))) hx hb hts hown hK.1 hc (hr9.1.1) (rfl) rfl rfl hinX3 5 (by decide) hf_21 (fun _ h9 => h9) (congrArg va_rf hr9.1.2.2.2.2.2.2.2) dX3_hasLesserStopAboard_12 ?_
        refine lv_iload_n hx hb dX3_hasLesserStopAboard_15 rfl (lv_at hl 2 rfl) ?_
        refine r_iald (v := nI (tb M i)) hx hb hK.1 hc (hr9.1.2.2.2.1) (rfl) (by decide) (by omega) dX3_hasLesserStopAboard_16 (hC.2.2.2.2.2.2 _ (by omega)) ?_
        refine r_callr hc hA (va_runV (As := [.int (nI (tb M i))]) (rest := []) ⟨hx, hb, hml, hown, hts⟩ (c_X3_palletNumbered_v l D g lv a R M hr9 ⟨hb9.2.2.2.2.1, hb9.2.2.2.2.2.1⟩ (tb M i) (by omega) _) (cwV 1 hts gX3_hasLesserStopAboard_X3_palletNumbered rfl rfl rfl (by decide +kernel) ⟨Nat.le_of_ble_eq_true rfl, Nat.le_of_ble_eq_true rfl⟩) (r_preV hK hZ hc hA (hr9.1.1) (rfl) rfl) rfl rfl hl.1 rfl (lv_room (Nat.le_of_ble_eq_true rfl)) dX3_hasLesserStopAboard_17 ⟨Nat.le_of_ble_eq_true rfl, Nat.le_of_ble_eq_true rfl⟩) (fun r R' H locs hp hc => ?_)
        obtain ⟨hre, hRe⟩ := hp
        rw [hRe] at hc
        rw [hre]
        refine r_get (C := RX1) (T := TX1) (N := 10) (v := .int (nI (ps M (tb M i) - 1))) hx hb hts hown hK.1 hc ((hr9.2.2.2.1 (tb M i) (by omega)).1.1) (sh_P (by omega)) rfl rfl hinX1 9 (by decide) hf_194 (fun _ h9 => h9) (congrArg Value.int ((hC.2.2.2.2.1 (tb M i) (by omega)).2.2.2.2.trans (stI_p htb.2))) dX3_hasLesserStopAboard_20 ?_
        refine lv_iload_n hx hb dX3_hasLesserStopAboard_23 rfl (lv_at hl 1 rfl) ?_
        refine lv_icmp_ge (tgt := 29) hx hb dX3_hasLesserStopAboard_24 (by decide) (fun hq_4 => ?_) (fun hq_4 => ?_)
        · have hq_4 : s ≤ (ps M (tb M i) - 1) := (nI_leI (a := s) (b := (ps M (tb M i) - 1)) (by omega) (by omega)).mp hq_4
          refine lv_iinc (v := nI (i + 1)) (lv' := [(2, .int (nI (i + 1))), (0, .ref (a (0))), (1, .int (nI (s)))]) hx hb dX3_hasLesserStopAboard_29 hl (k := 2) rfl (nI_inc _ 1) (by decide) rfl (fun ls hl => ?_)
          refine lv_goto (tgt := 2) hx hb dX3_hasLesserStopAboard_32 (by decide) ?_
          exact ih2 (i + 1) _ _ ls (by omega) (by omega) (by show (les M s i || decide (ps M (tb M i) < s + 1)) = false; rw [hle, decide_eq_false (by omega)]; rfl) hc (lv_sub hl [1, 2, 0] rfl)
        · have hq_4 : ¬ (s ≤ (ps M (tb M i) - 1)) := fun z => hq_4 ((nI_leI (a := s) (b := (ps M (tb M i) - 1)) (by omega) (by omega)).mpr z)
          refine lv_iconst (v := nI (1)) hx hb dX3_hasLesserStopAboard_27 (by decide) ?_
          exact r_zret hx hb hr hlocks hc dX3_hasLesserStopAboard_28 (by decide) ⟨rfl, Or.inl ⟨les_mono (i := i + 1) (by omega) (by show (les M s i || decide (ps M (tb M i) < s + 1)) = true; rw [decide_eq_true (by omega), Bool.or_true]), rfl⟩⟩
  exact loop2 (mna M + 1) 0 _ _ ls (by omega) (Nat.zero_le _) rfl hc (lv_sub hl [1, 2, 0] rfl)
set_option maxRecDepth 100000 in
set_option maxHeartbeats 4000000 in
theorem c_X3_isBarred (l : Launch) (D : va_G) (g : Nat → ClassId) (lv : Nat → Bool) (a : Nat → Nat) (R : RS) (M : MS) (hr9 : PCr lv a R M) (hC : PC R M) (hI : Inv M) (s : Nat) (hs : s ≤ 9) : cI l D g lv a yX3_isBarred wsX3_isBarred ({ frames := 2, cells := 0, slots := 0, locals := 44 } : Room) [.ref (a (0)), .int (nI (s))] R (fun r R' => R' = R ∧ (bar M s (mna M) = true ∧ r = nI 1 ∨ bar M s (mna M) = false ∧ r = nI 0)) 0 0 := by
  refine c_body (cc := cX3_isBarred) (maxL := 4) (ret := (some .boolean)) (by decide) rfl (Nat.le_of_ble_eq_true rfl) ?_
  intro pr en st mi bl me co ls B hl
  obtain ⟨hx, hb, hr, hml, hown, hts, hlocks, hnm, hK, hZ, hc, hA⟩ := B
  have hl : lv_has ls 4 [(0, .ref (a (0))), (1, .int (nI (s)))] := hl
  have hinX1 : ∀ w ∈ u_ws RX1 TX1 10, w ∈ wsX3_isBarred := (fun _ h => List.mem_cons_of_mem _ (List.mem_append_left _ (List.mem_append_left _ (List.mem_append_right _ h))))
  have hinX3 : ∀ w ∈ u_ws RX3 TX3 12, w ∈ wsX3_isBarred := (fun _ h => List.mem_cons_of_mem _ (List.mem_append_left _ (List.mem_append_left _ (List.mem_append_left _ (List.mem_append_right _ h)))))
  have hf_21 := hts (.fieldLink RX3 21 "PalletLayers" "aboard" "[I") (by decide +kernel)
  have hf_32 := hts (.fieldLink RX3 32 "PalletLayers" "aboardCount" "I") (by decide +kernel)
  have hf_194 := hts (.fieldLink RX3 194 "PalletLayers$Pallet" "stop" "I") (by decide +kernel)
  have hb9 := iv_b hI
  refine lv_iconst (v := nI (0)) hx hb dX3_isBarred_0 (by decide) ?_
  refine lv_istore_n (lv' := [(2, .int (nI (0))), (0, .ref (a (0))), (1, .int (nI (s)))]) hx hb dX3_isBarred_1 rfl hl (by decide) rfl (fun ls hl => ?_)
  refine lv_iconst (v := nI (0)) hx hb dX3_isBarred_2 (by decide) ?_
  refine lv_istore_n (lv' := [(3, .int (nI (0))), (2, .int (nI (0))), (0, .ref (a (0))), (1, .int (nI (s)))]) hx hb dX3_isBarred_3 rfl hl (by decide) rfl (fun ls hl => ?_)
  have loop4 : ∀ (fuel4 : Nat) (i : Nat) (H : Heap) (locs : List Loc) (ls : Array Slot), mna M - i < fuel4 → (i ≤ mna M) → (bar M s i = false) → rc D g (rA lv a st.heap.size) st.heap lv a R H locs → lv_has ls 4 [(0, .ref (a (0))), (1, .int (nI (s))), (2, .int (nI (b2n (sen M s i)))), (3, .int (nI (i)))] → W pr l en ({ frames := 2, cells := 0, slots := 0, locals := 44 } : Room) st mi ([.ref (a (0)), .int (nI (s))] : List Value).toArray bl me co H locs 0 0 (MQ bl (va_Qi (fun r R' => R' = R ∧ (bar M s (mna M) = true ∧ r = nI 1 ∨ bar M s (mna M) = false ∧ r = nI 0)) (cB D g lv a) (rA lv a st.heap.size)) ([.ref (a (0)), .int (nI (s))] : List Value).toArray st 0 0 (rA lv a st.heap.size)) (F0 mi 4 ls []) := by
    intro fuel4
    induction fuel4 with
    | zero => intro i H locs ls hmu; exact absurd hmu (Nat.not_lt_zero _)
    | succ fuel4 ih4 =>
      intro i H locs ls hmu4 hi hba hc hl
      refine lv_iload_n hx hb dX3_isBarred_4 rfl (lv_at hl 3 rfl) ?_
      refine lv_aload_n hx hb dX3_isBarred_5 rfl (lv_at hl 0 rfl) ?_
      refine r_get (C := RX3) (T := TX3) (N := 12) (v := .int (nI (mna M))) hx hb hts hown hK.1 hc (hr9.1.1) (rfl) rfl rfl hinX3 8 (by decide) hf_32 (fun _ h9 => h9) (congrArg Value.int hC.1.2.2.2.2.1) dX3_isBarred_6 ?_
      refine lv_icmp_ge (tgt := 46) hx hb dX3_isBarred_9 (by decide) (fun hq_1 => ?_) (fun hq_1 => ?_)
      · have hq_1 : (mna M) ≤ i := (nI_leI (a := (mna M)) (b := i) (by omega) (by omega)).mp hq_1
        refine lv_iconst (v := nI (0)) hx hb dX3_isBarred_46 (by decide) ?_
        exact r_zret hx hb hr hlocks hc dX3_isBarred_47 (by decide) ⟨rfl, Or.inr ⟨by rw [← show i = mna M by omega]; exact hba, rfl⟩⟩
      · have hq_1 : ¬ ((mna M) ≤ i) := fun z => hq_1 ((nI_leI (a := (mna M)) (b := i) (by omega) (by omega)).mpr z)
        have htb := iv_t hI (show i < mna M by omega)
        have hp9 := iv_p hI htb.1
        refine lv_aload_n hx hb dX3_isBarred_12 rfl (lv_at hl 0 rfl) ?_
        refine lv_aload_n hx hb dX3_isBarred_13 rfl (lv_at hl 0 rfl) ?_
        refine r_get (C := RX3) (T := TX3) (N := 12) (v := .ref (a (6))) hx hb hts hown hK.1 hc (hr9.1.1) (rfl) rfl rfl hinX3 5 (by decide) hf_21 (fun _ h9 => h9) (congrArg va_rf hr9.1.2.2.2.2.2.2.2) dX3_isBarred_14 ?_
        refine lv_iload_n hx hb dX3_isBarred_17 rfl (lv_at hl 3 rfl) ?_
        refine r_iald (v := nI (tb M i)) hx hb hK.1 hc (hr9.1.2.2.2.1) (rfl) (by decide) (by omega) dX3_isBarred_18 (hC.2.2.2.2.2.2 _ (by omega)) ?_
        refine r_callr hc hA (va_runV (As := [.int (nI (tb M i))]) (rest := []) ⟨hx, hb, hml, hown, hts⟩ (c_X3_palletNumbered_v l D g lv a R M hr9 ⟨hb9.2.2.2.2.1, hb9.2.2.2.2.2.1⟩ (tb M i) (by omega) _) (cwV 1 hts gX3_isBarred_X3_palletNumbered rfl rfl rfl (by decide +kernel) ⟨Nat.le_of_ble_eq_true rfl, Nat.le_of_ble_eq_true rfl⟩) (r_preV hK hZ hc hA (hr9.1.1) (rfl) rfl) rfl rfl hl.1 rfl (lv_room (Nat.le_of_ble_eq_true rfl)) dX3_isBarred_19 ⟨Nat.le_of_ble_eq_true rfl, Nat.le_of_ble_eq_true rfl⟩) (fun r R' H locs hp hc => ?_)
        obtain ⟨hre, hRe⟩ := hp
        rw [hRe] at hc
        rw [hre]
        refine r_get (C := RX1) (T := TX1) (N := 10) (v := .int (nI (ps M (tb M i) - 1))) hx hb hts hown hK.1 hc ((hr9.2.2.2.1 (tb M i) (by omega)).1.1) (sh_P (by omega)) rfl rfl hinX1 9 (by decide) hf_194 (fun _ h9 => h9) (congrArg Value.int ((hC.2.2.2.2.1 (tb M i) (by omega)).2.2.2.2.trans (stI_p htb.2))) dX3_isBarred_22 ?_
        refine lv_iload_n hx hb dX3_isBarred_25 rfl (lv_at hl 1 rfl) ?_
        refine lv_icmp_ne (tgt := 34) hx hb dX3_isBarred_26 (by decide) (fun hq_4 => ?_) (fun hq_4 => ?_)
        · have hq_4 : ¬ ((ps M (tb M i) - 1) = s) := fun z => hq_4 ((nI_eq (a := (ps M (tb M i) - 1)) (b := s) (by omega) (by omega)).mpr z)
          have heq : ¬ ps M (tb M i) = s + 1 := by omega
          refine lv_iload_n hx hb dX3_isBarred_34 rfl (lv_at hl 2 rfl) ?_
          refine lv_if_eq (tgt := 40) hx hb dX3_isBarred_35 (by decide) (fun hq_5 => ?_) (fun hq_5 => ?_)
          · have hq_5 : (b2n (sen M s i)) = 0 := (nI_eq (a := (b2n (sen M s i))) (b := 0) (by first | decide | exact b2n_b) (by first | decide | exact b2n_b)).mp hq_5
            have hse : sen M s i = false := b2n_0 hq_5
            refine lv_iinc (v := nI (i + 1)) (lv' := [(3, .int (nI (i + 1))), (0, .ref (a (0))), (1, .int (nI (s))), (2, .int (nI (b2n (sen M s i))))]) hx hb dX3_isBarred_40 hl (k := 3) rfl (nI_inc _ 1) (by decide) rfl (fun ls hl => ?_)
            refine lv_goto (tgt := 4) hx hb dX3_isBarred_43 (by decide) ?_
            rw [show sen M s i = sen M s (i + 1) by show _ = (sen M s i || decide (ps M (tb M i) = s + 1)); rw [decide_eq_false heq, Bool.or_false]] at hl
            exact ih4 (i + 1) _ _ ls (by omega) (by omega) (by show (bar M s i || (sen M s i && !decide (ps M (tb M i) = s + 1))) = false; rw [hba, hse, Bool.false_and]; rfl) hc (lv_sub hl [1, 2, 3, 0] rfl)
          · have hq_5 : ¬ ((b2n (sen M s i)) = 0) := fun z => hq_5 ((nI_eq (a := (b2n (sen M s i))) (b := 0) (by first | decide | exact b2n_b) (by first | decide | exact b2n_b)).mpr z)
            have hse : sen M s i = true := b2n_1 hq_5
            refine lv_iconst (v := nI (1)) hx hb dX3_isBarred_38 (by decide) ?_
            exact r_zret hx hb hr hlocks hc dX3_isBarred_39 (by decide) ⟨rfl, Or.inl ⟨bar_mono (i := i + 1) (by omega) (by show (bar M s i || (sen M s i && !decide (ps M (tb M i) = s + 1))) = true; rw [hse, decide_eq_false heq, hba]; rfl), rfl⟩⟩
        · have hq_4 : (ps M (tb M i) - 1) = s := (nI_eq (a := (ps M (tb M i) - 1)) (b := s) (by omega) (by omega)).mp hq_4
          have heq : ps M (tb M i) = s + 1 := by omega
          refine lv_iconst (v := nI (1)) hx hb dX3_isBarred_29 (by decide) ?_
          refine lv_istore_n (lv' := [(2, .int (nI (1))), (0, .ref (a (0))), (1, .int (nI (s))), (3, .int (nI (i)))]) hx hb dX3_isBarred_30 rfl hl (by decide) rfl (fun ls hl => ?_)
          refine lv_goto (tgt := 40) hx hb dX3_isBarred_31 (by decide) ?_
          refine lv_iinc (v := nI (i + 1)) (lv' := [(3, .int (nI (i + 1))), (2, .int (nI (1))), (0, .ref (a (0))), (1, .int (nI (s)))]) hx hb dX3_isBarred_40 hl (k := 3) rfl (nI_inc _ 1) (by decide) rfl (fun ls hl => ?_)
          refine lv_goto (tgt := 4) hx hb dX3_isBarred_43 (by decide) ?_
          rw [show nI 1 = nI (b2n (sen M s (i + 1))) by show _ = nI (b2n (sen M s i || decide (ps M (tb M i) = s + 1))); rw [decide_eq_true heq, Bool.or_true]; rfl] at hl
          exact ih4 (i + 1) _ _ ls (by omega) (by omega) (by show (bar M s i || (sen M s i && !decide (ps M (tb M i) = s + 1))) = false; rw [hba, decide_eq_true heq, Bool.not_true, Bool.and_false]; rfl) hc (lv_sub hl [2, 3, 1, 0] rfl)
  exact loop4 (mna M + 1) 0 _ _ ls (by omega) (Nat.zero_le _) rfl hc (lv_sub hl [2, 3, 1, 0] rfl)
set_option maxRecDepth 100000 in
set_option maxHeartbeats 4000000 in
theorem c_X3_exact (l : Launch) (hl9 : l.stackTraces = false) (D : va_G) (g : Nat → ClassId) (lv : Nat → Bool) (a : Nat → Nat) (R : RS) (M : MS) (hr9 : PCr lv a R M) (hC : PC R M) (hI : Inv M) (x : Int32) : xI l D g lv a yX3_exact wsX3_exact ({ frames := 7, cells := 1, slots := 6, locals := 132 } : Room) [.ref (a (0)), .int (x)] R (fun r R' => QC R (oExact M x) r R') (XP R (oExact M x) [NSE]) := by
  refine x_body (cc := cX3_exact) (maxL := 2) (ret := (some .boolean)) (by decide) rfl (Nat.le_of_ble_eq_true rfl) ?_
  intro pr en st mi bl me co ls B ht hl
  obtain ⟨hx, hb, hr, hml, hown, hts, hlocks, hnm, hK, hZ, hc, hA⟩ := B
  have hl : lv_has ls 2 [(0, .ref (a (0))), (1, .int (x))] := hl
  have hinX0 : ∀ w ∈ u_ws RX0 TX0 11, w ∈ wsX3_exact := (fun _ h => List.mem_cons_of_mem _ (List.mem_append_left _ (List.mem_append_left _ (List.mem_append_right _ h))))
  have hf_122 := hts (.fieldLink RX3 122 "PalletLayers$Kind" "soughtExactly" "Z") (by decide +kernel)
  have hb9 := iv_b hI
  refine lv_aload_n hx hb dX3_exact_0 rfl (lv_at hl 0 rfl) ?_
  refine lv_iload_n hx hb dX3_exact_1 rfl (lv_at hl 1 rfl) ?_
  by_cases hv_j : isN x (mnk M)
  rotate_left
  · exact x_thr hc hA ht hlocks (vx_runV (As := [.int (x)]) (rest := []) ⟨hx, hb, hml, hown, hts⟩ (c_X3_kindNumbered_t l hl9 D g lv a R M hr9 hC hI x hv_j _) (cwV 1 hts gX3_exact_X3_kindNumbered rfl rfl rfl (by decide +kernel) ⟨Nat.le_of_ble_eq_true rfl, Nat.le_of_ble_eq_true rfl⟩) (r_preV hK hZ hc hA (hr9.1.1) (rfl) rfl) rfl rfl hl.1 rfl (lv_room (Nat.le_of_ble_eq_true rfl)) dX3_exact_2 ⟨Nat.le_of_ble_eq_true rfl, Nat.le_of_ble_eq_true rfl⟩) ⟨rfl, 0, by rw [show oExact M x = (1, nI 0, M) by simp only [oExact, if_neg hv_j]], rfl⟩ (by decide) (by decide)
  obtain ⟨j, hj, hj9, rfl⟩ := isN_ex hv_j
  refine r_callr hc hA (va_runV (As := [.int (nI (j))]) (rest := []) ⟨hx, hb, hml, hown, hts⟩ (c_X3_kindNumbered_v l D g lv a R M hr9 ⟨hb9.2.2.2.2.1, hb9.2.2.2.2.2.1⟩ j hj _) (cwV 1 hts gX3_exact_X3_kindNumbered rfl rfl rfl (by decide +kernel) ⟨Nat.le_of_ble_eq_true rfl, Nat.le_of_ble_eq_true rfl⟩) (r_preV hK hZ hc hA (hr9.1.1) (rfl) rfl) rfl rfl hl.1 rfl (lv_room (Nat.le_of_ble_eq_true rfl)) dX3_exact_2 ⟨Nat.le_of_ble_eq_true rfl, Nat.le_of_ble_eq_true rfl⟩) (fun r R' H locs hp hc => ?_)
  obtain ⟨hre, hRe⟩ := hp
  rw [hRe] at hc
  rw [hre]
  refine r_get (C := RX0) (T := TX0) (N := 11) (v := .int (nI (kx M j))) hx hb hts hown hK.1 hc ((hr9.2.2.1 j (by omega)).1) (sh_K (by omega)) rfl rfl hinX0 10 (by decide) hf_122 (fun _ h9 => h9) (congrArg Value.int (hC.2.2.2.1 j (by omega)).2.1) dX3_exact_5 ?_
  refine vx_ret ?_
  refine W.widen (k := 1) (n := 6) (by decide) (by decide) ?_
  exact r_zret hx hb hr hlocks hc dX3_exact_8 (nar_01 (iv_k hI hj).2.2.2.2.2.2.2.2) (by
      unfold QC; rw [show oExact M (nI j) = (0, nI (kx M j), M) by simp only [oExact, tN_nI hj9, if_pos hv_j]]
      exact ⟨rfl, rfl, hC, outC.r R⟩)
set_option maxRecDepth 100000 in
set_option maxHeartbeats 4000000 in
theorem c_X3_bound (l : Launch) (hl9 : l.stackTraces = false) (D : va_G) (g : Nat → ClassId) (lv : Nat → Bool) (a : Nat → Nat) (R : RS) (M : MS) (hr9 : PCr lv a R M) (hC : PC R M) (hI : Inv M) (x : Int32) : xI l D g lv a yX3_bound wsX3_bound ({ frames := 7, cells := 1, slots := 6, locals := 132 } : Room) [.ref (a (0)), .int (x)] R (fun r R' => QC R (oBound M x) r R') (XP R (oBound M x) [NSE]) := by
  refine x_body (cc := cX3_bound) (maxL := 2) (ret := (some .int)) (by decide) rfl (Nat.le_of_ble_eq_true rfl) ?_
  intro pr en st mi bl me co ls B ht hl
  obtain ⟨hx, hb, hr, hml, hown, hts, hlocks, hnm, hK, hZ, hc, hA⟩ := B
  have hl : lv_has ls 2 [(0, .ref (a (0))), (1, .int (x))] := hl
  have hinX0 : ∀ w ∈ u_ws RX0 TX0 11, w ∈ wsX3_bound := (fun _ h => List.mem_cons_of_mem _ (List.mem_append_left _ (List.mem_append_right _ h)))
  have hinX3 : ∀ w ∈ u_ws RX3 TX3 12, w ∈ wsX3_bound := (fun _ h => List.mem_cons_of_mem _ (List.mem_append_left _ (List.mem_append_left _ (List.mem_append_right _ h))))
  have hf_53 := hts (.fieldLink RX3 53 "PalletLayers" "areaWidth" "I") (by decide +kernel)
  have hf_56 := hts (.fieldLink RX3 56 "PalletLayers" "areaDepth" "I") (by decide +kernel)
  have hf_126 := hts (.fieldLink RX3 126 "PalletLayers$Kind" "area" "I") (by decide +kernel)
  have hb9 := iv_b hI
  refine lv_aload_n hx hb dX3_bound_0 rfl (lv_at hl 0 rfl) ?_
  refine r_get (C := RX3) (T := TX3) (N := 12) (v := .int (nI (mW M))) hx hb hts hown hK.1 hc (hr9.1.1) (rfl) rfl rfl hinX3 0 (by decide) hf_53 (fun _ h9 => h9) (congrArg Value.int hC.1.1) dX3_bound_1 ?_
  refine lv_aload_n hx hb dX3_bound_4 rfl (lv_at hl 0 rfl) ?_
  refine r_get (C := RX3) (T := TX3) (N := 12) (v := .int (nI (mD M))) hx hb hts hown hK.1 hc (hr9.1.1) (rfl) rfl rfl hinX3 1 (by decide) hf_56 (fun _ h9 => h9) (congrArg Value.int hC.1.2.1) dX3_bound_5 ?_
  refine nv_imul hx hb dX3_bound_8 ?_
  refine lv_aload_n hx hb dX3_bound_9 rfl (lv_at hl 0 rfl) ?_
  refine lv_iload_n hx hb dX3_bound_10 rfl (lv_at hl 1 rfl) ?_
  by_cases hv_j : isN x (mnk M)
  rotate_left
  · exact x_thr hc hA ht hlocks (vx_runV (As := [.int (x)]) (rest := [.int (nI ((mW M) * (mD M)))]) ⟨hx, hb, hml, hown, hts⟩ (c_X3_kindNumbered_t l hl9 D g lv a R M hr9 hC hI x hv_j _) (cwV 1 hts gX3_bound_X3_kindNumbered rfl rfl rfl (by decide +kernel) ⟨Nat.le_of_ble_eq_true rfl, Nat.le_of_ble_eq_true rfl⟩) (r_preV hK hZ hc hA (hr9.1.1) (rfl) rfl) rfl rfl hl.1 rfl (lv_room (Nat.le_of_ble_eq_true rfl)) dX3_bound_11 ⟨Nat.le_of_ble_eq_true rfl, Nat.le_of_ble_eq_true rfl⟩) ⟨rfl, 0, by rw [show oBound M x = (1, nI 0, M) by simp only [oBound, if_neg hv_j]], rfl⟩ (by decide) (by decide)
  obtain ⟨j, hj, hj9, rfl⟩ := isN_ex hv_j
  refine r_callr hc hA (va_runV (As := [.int (nI (j))]) (rest := [.int (nI ((mW M) * (mD M)))]) ⟨hx, hb, hml, hown, hts⟩ (c_X3_kindNumbered_v l D g lv a R M hr9 ⟨hb9.2.2.2.2.1, hb9.2.2.2.2.2.1⟩ j hj _) (cwV 1 hts gX3_bound_X3_kindNumbered rfl rfl rfl (by decide +kernel) ⟨Nat.le_of_ble_eq_true rfl, Nat.le_of_ble_eq_true rfl⟩) (r_preV hK hZ hc hA (hr9.1.1) (rfl) rfl) rfl rfl hl.1 rfl (lv_room (Nat.le_of_ble_eq_true rfl)) dX3_bound_11 ⟨Nat.le_of_ble_eq_true rfl, Nat.le_of_ble_eq_true rfl⟩) (fun r R' H locs hp hc => ?_)
  obtain ⟨hre, hRe⟩ := hp
  rw [hRe] at hc
  rw [hre]
  have har := ar_b (iv_k hI hj)
  have hce := ce_b hb9
  refine r_get (C := RX0) (T := TX0) (N := 11) (v := .int (nI (kw M j * kd M j))) hx hb hts hown hK.1 hc ((hr9.2.2.1 j (by omega)).1) (sh_K (by omega)) rfl rfl hinX0 4 (by decide) hf_126 (fun _ h9 => h9) (congrArg Value.int (hC.2.2.1 j (by omega)).2.2.2.2.1) dX3_bound_14 ?_
  refine nv_idiv hx hb dX3_bound_17 har.1 (by omega) (by omega) ?_
  refine vx_ret ?_
  refine W.widen (k := 1) (n := 6) (by decide) (by decide) ?_
  exact r_iret hx hb hr hlocks hc dX3_bound_18 (by
      unfold QC; rw [show oBound M (nI j) = (0, nI (mW M * mD M / (kw M j * kd M j)), M) by simp only [oBound, tN_nI hj9, if_pos hv_j]]
      exact ⟨rfl, rfl, hC, outC.r R⟩)
set_option maxRecDepth 100000 in
set_option maxHeartbeats 4000000 in
theorem c_X3_rules (l : Launch) (hl9 : l.stackTraces = false) (D : va_G) (g : Nat → ClassId) (lv : Nat → Bool) (a : Nat → Nat) (R : RS) (M : MS) (hr9 : PCr lv a R M) (hC : PC R M) (hI : Inv M) (x y z : Int32) : xV l D g lv a yX3_rules wsX3_rules ({ frames := 6, cells := 1, slots := 6, locals := 110 } : Room) [.ref (a (0)), .int (x), .int (y), .int (z)] R (fun R' => QC R (oRules M x y z) (nI 0) R') (XP R (oRules M x y z) [IAE]) := by
  refine x_body (cc := cX3_rules) (maxL := 4) (ret := none) (by decide) rfl (Nat.le_of_ble_eq_true rfl) ?_
  intro pr en st mi bl me co ls B ht hl
  obtain ⟨hx, hb, hr, hml, hown, hts, hlocks, hnm, hK, hZ, hc, hA⟩ := B
  have hl : lv_has ls 4 [(0, .ref (a (0))), (1, .int (x)), (2, .int (y)), (3, .int (z))] := hl
  have hinX3 : ∀ w ∈ u_ws RX3 TX3 12, w ∈ wsX3_rules := (fun _ h => List.mem_cons_of_mem _ (List.mem_append_left _ (List.mem_append_right _ h)))
  have hf_35 := hts (.fieldLink RX3 35 "PalletLayers" "share" "I") (by decide +kernel)
  have hf_38 := hts (.fieldLink RX3 38 "PalletLayers" "door" "I") (by decide +kernel)
  have hf_41 := hts (.fieldLink RX3 41 "PalletLayers" "load" "I") (by decide +kernel)
  have hb9 := iv_b hI
  refine lv_iload_n hx hb dX3_rules_0 rfl (lv_at hl 1 rfl) ?_
  refine lv_iconst (v := nI (0)) hx hb dX3_rules_1 (by decide) ?_
  refine lv_bipush (v := nI (100)) hx hb dX3_rules_2 (by decide) ?_
  refine r_calli hc hA (va_runS (As := [.int (x), .int (nI (0)), .int (nI (100))]) (rest := []) ⟨hx, hb, hml, hown, hts⟩ (c_X3_isOutside l D g lv a R x (nI (0)) (nI (100)) _) (va_cwS 3 hts gX3_rules_X3_isOutside rfl rfl rfl (by decide +kernel) ⟨Nat.le_of_ble_eq_true rfl, Nat.le_of_ble_eq_true rfl⟩) (r_preS hK hZ hc hA) rfl rfl hl.1 rfl (lv_room (Nat.le_of_ble_eq_true rfl)) dX3_rules_4 ⟨Nat.le_of_ble_eq_true rfl, Nat.le_of_ble_eq_true rfl⟩) (fun r R' H locs hp hc => ?_)
  obtain ⟨hRe, ⟨hw4, rfl⟩ | ⟨hw4, rfl⟩⟩ := hp
  · rw [hRe] at hc
    rw [w_iff (by decide) (by decide)] at hw4
    refine lv_if_ne (tgt := 31) hx hb dX3_rules_7 (by decide) (fun hq_3 => absurd hq_3 (by decide)) (fun hq_3 => ?_)
    refine lv_iload_n hx hb dX3_rules_10 rfl (lv_at hl 2 rfl) ?_
    refine lv_iconst (v := nI (1)) hx hb dX3_rules_11 (by decide) ?_
    refine lv_bipush (v := nI (100)) hx hb dX3_rules_12 (by decide) ?_
    refine r_calli hc hA (va_runS (As := [.int (y), .int (nI (1)), .int (nI (100))]) (rest := []) ⟨hx, hb, hml, hown, hts⟩ (c_X3_isOutside l D g lv a R y (nI (1)) (nI (100)) _) (va_cwS 3 hts gX3_rules_X3_isOutside rfl rfl rfl (by decide +kernel) ⟨Nat.le_of_ble_eq_true rfl, Nat.le_of_ble_eq_true rfl⟩) (r_preS hK hZ hc hA) rfl rfl hl.1 rfl (lv_room (Nat.le_of_ble_eq_true rfl)) dX3_rules_14 ⟨Nat.le_of_ble_eq_true rfl, Nat.le_of_ble_eq_true rfl⟩) (fun r R' H locs hp hc => ?_)
    obtain ⟨hRe, ⟨hw14, rfl⟩ | ⟨hw14, rfl⟩⟩ := hp
    · rw [hRe] at hc
      rw [w_iff (by decide) (by decide)] at hw14
      refine lv_if_ne (tgt := 31) hx hb dX3_rules_17 (by decide) (fun hq_6 => absurd hq_6 (by decide)) (fun hq_6 => ?_)
      refine lv_iload_n hx hb dX3_rules_20 rfl (lv_at hl 3 rfl) ?_
      refine lv_iconst (v := nI (0)) hx hb dX3_rules_21 (by decide) ?_
      refine lv_sipush (v := nI (10000)) hx hb dX3_rules_22 (by decide) ?_
      refine r_calli hc hA (va_runS (As := [.int (z), .int (nI (0)), .int (nI (10000))]) (rest := []) ⟨hx, hb, hml, hown, hts⟩ (c_X3_isOutside l D g lv a R z (nI (0)) (nI (10000)) _) (va_cwS 3 hts gX3_rules_X3_isOutside rfl rfl rfl (by decide +kernel) ⟨Nat.le_of_ble_eq_true rfl, Nat.le_of_ble_eq_true rfl⟩) (r_preS hK hZ hc hA) rfl rfl hl.1 rfl (lv_room (Nat.le_of_ble_eq_true rfl)) dX3_rules_25 ⟨Nat.le_of_ble_eq_true rfl, Nat.le_of_ble_eq_true rfl⟩) (fun r R' H locs hp hc => ?_)
      obtain ⟨hRe, ⟨hw25, rfl⟩ | ⟨hw25, rfl⟩⟩ := hp
      · rw [hRe] at hc
        rw [w_iff (by decide) (by decide)] at hw25
        refine lv_if_eq (tgt := 41) hx hb dX3_rules_28 (by decide) (fun hq_9 => ?_) (fun hq_9 => absurd hq_9 (by decide))
        obtain ⟨x1, hx0, hx1, hx2, rfl⟩ := isR_ex hw4
        obtain ⟨y1, hy0, hy1, hy2, rfl⟩ := isR_ex hw14
        obtain ⟨z1, hz0, hz1, hz2, rfl⟩ := isR_ex hw25
        refine lv_aload_n hx hb dX3_rules_41 rfl (lv_at hl 0 rfl) ?_
        refine lv_iload_n hx hb dX3_rules_42 rfl (lv_at hl 1 rfl) ?_
        refine r_put (C := RX3) (T := TX3) (N := 12) (R' := sfi R 0 9 (nI (x1))) hx hb hts hown hK.1 hc (hr9.1.1) (rfl) rfl rfl hinX3 tyX3 tyX3_ok nmX3 9 (by decide) hf_35 (fun _ h9 => h9) rfl (tyX3_ok 9 (by decide)) rfl rfl dX3_rules_43 (fds_sfi (by decide) (by decide)) (fun _ h9 => ct_sfi h9) (fun H locs hc => ?_)
        refine lv_aload_n hx hb dX3_rules_46 rfl (lv_at hl 0 rfl) ?_
        refine lv_iload_n hx hb dX3_rules_47 rfl (lv_at hl 2 rfl) ?_
        refine r_put (C := RX3) (T := TX3) (N := 12) (R' := sfi (sfi R 0 9 (nI (x1))) 0 10 (nI (y1))) hx hb hts hown hK.1 hc (hr9.1.1) (rfl) rfl rfl hinX3 tyX3 tyX3_ok nmX3 10 (by decide) hf_38 (fun _ h9 => h9) rfl (tyX3_ok 10 (by decide)) rfl rfl dX3_rules_48 (fds_sfi (by decide) (by decide)) (fun _ h9 => ct_sfi h9) (fun H locs hc => ?_)
        refine lv_aload_n hx hb dX3_rules_51 rfl (lv_at hl 0 rfl) ?_
        refine lv_iload_n hx hb dX3_rules_52 rfl (lv_at hl 3 rfl) ?_
        refine r_put (C := RX3) (T := TX3) (N := 12) (R' := sfi (sfi (sfi R 0 9 (nI (x1))) 0 10 (nI (y1))) 0 11 (nI (z1))) hx hb hts hown hK.1 hc (hr9.1.1) (rfl) rfl rfl hinX3 tyX3 tyX3_ok nmX3 11 (by decide) hf_41 (fun _ h9 => h9) rfl (tyX3_ok 11 (by decide)) rfl rfl dX3_rules_53 (fds_sfi (by decide) (by decide)) (fun _ h9 => ct_sfi h9) (fun H locs hc => ?_)
        refine vx_ret ?_
        refine W.widen (k := 1) (n := 6) (by decide) (by decide) ?_
        exact r_vret hx hb hr hlocks hc dX3_rules_56 (by
      unfold QC; rw [show oRules M (nI x1) (nI y1) (nI z1) = (0, nI 0, nRules M x1 y1 z1) by simp only [oRules, tN_nI hx2, tN_nI hy2, tN_nI hz2, if_pos hw4, if_pos hw14, if_pos hw25]]
      exact ⟨rfl, rfl, pc_rules hC, ((((outC.r _).sfi (by decide)).sfi (by decide)).sfi (by decide))⟩)
      · rw [hRe] at hc
        rw [w_iff (by decide) (by decide)] at hw25
        refine lv_if_eq (tgt := 41) hx hb dX3_rules_28 (by decide) (fun hq_10 => absurd hq_10 (by decide)) (fun hq_10 => ?_)
        exact x_own hx hb hl9 hown hts (hl.1.trans hml.symm) hlocks hK hZ hc ht tf_i (by decide +kernel) (by decide +kernel) (fun _ h => List.mem_cons_of_mem _ (List.mem_append_right _ h)) (is := 129) (text := "a rule is outside its range") (by decide) dX3_rules_31 dX3_rules_34 dX3_rules_35 dX3_rules_37 dX3_rules_40 (Nat.le_of_ble_eq_true rfl) (Nat.le_of_ble_eq_true rfl) (Nat.le_of_ble_eq_true rfl) (Nat.le_of_ble_eq_true rfl) ⟨rfl, 0, by rw [show oRules M x y z = (1, nI 0, M) by simp only [oRules, if_pos hw4, if_pos hw14, if_neg hw25]], rfl⟩ (by decide) (by decide)
    · rw [hRe] at hc
      rw [w_iff (by decide) (by decide)] at hw14
      refine lv_if_ne (tgt := 31) hx hb dX3_rules_17 (by decide) (fun hq_11 => ?_) (fun hq_11 => absurd hq_11 (by decide))
      exact x_own hx hb hl9 hown hts (hl.1.trans hml.symm) hlocks hK hZ hc ht tf_i (by decide +kernel) (by decide +kernel) (fun _ h => List.mem_cons_of_mem _ (List.mem_append_right _ h)) (is := 129) (text := "a rule is outside its range") (by decide) dX3_rules_31 dX3_rules_34 dX3_rules_35 dX3_rules_37 dX3_rules_40 (Nat.le_of_ble_eq_true rfl) (Nat.le_of_ble_eq_true rfl) (Nat.le_of_ble_eq_true rfl) (Nat.le_of_ble_eq_true rfl) ⟨rfl, 0, by rw [show oRules M x y z = (1, nI 0, M) by simp only [oRules, if_pos hw4, if_neg hw14]], rfl⟩ (by decide) (by decide)
  · rw [hRe] at hc
    rw [w_iff (by decide) (by decide)] at hw4
    refine lv_if_ne (tgt := 31) hx hb dX3_rules_7 (by decide) (fun hq_12 => ?_) (fun hq_12 => absurd hq_12 (by decide))
    exact x_own hx hb hl9 hown hts (hl.1.trans hml.symm) hlocks hK hZ hc ht tf_i (by decide +kernel) (by decide +kernel) (fun _ h => List.mem_cons_of_mem _ (List.mem_append_right _ h)) (is := 129) (text := "a rule is outside its range") (by decide) dX3_rules_31 dX3_rules_34 dX3_rules_35 dX3_rules_37 dX3_rules_40 (Nat.le_of_ble_eq_true rfl) (Nat.le_of_ble_eq_true rfl) (Nat.le_of_ble_eq_true rfl) (Nat.le_of_ble_eq_true rfl) ⟨rfl, 0, by rw [show oRules M x y z = (1, nI 0, M) by simp only [oRules, if_neg hw4]], rfl⟩ (by decide) (by decide)
set_option maxRecDepth 100000 in
set_option maxHeartbeats 4000000 in
theorem c_X3_order (l : Launch) (hl9 : l.stackTraces = false) (D : va_G) (g : Nat → ClassId) (lv : Nat → Bool) (a : Nat → Nat) (R : RS) (M : MS) (hr9 : PCr lv a R M) (hC : PC R M) (hI : Inv M) (x : Int32) : xI l D g lv a yX3_order wsX3_order ({ frames := 6, cells := 1, slots := 6, locals := 110 } : Room) [.ref (a (0)), .int (x)] R (fun r R' => QC R (oOrder M x) r R') (XP R (oOrder M x) [NSE]) := by
  refine x_body (cc := cX3_order) (maxL := 2) (ret := (some .int)) (by decide) rfl (Nat.le_of_ble_eq_true rfl) ?_
  intro pr en st mi bl me co ls B ht hl
  obtain ⟨hx, hb, hr, hml, hown, hts, hlocks, hnm, hK, hZ, hc, hA⟩ := B
  have hl : lv_has ls 2 [(0, .ref (a (0))), (1, .int (x))] := hl
  have hinX3 : ∀ w ∈ u_ws RX3 TX3 12, w ∈ wsX3_order := (fun _ h => List.mem_cons_of_mem _ (List.mem_append_left _ (List.mem_append_left _ (List.mem_append_right _ h))))
  have hf_21 := hts (.fieldLink RX3 21 "PalletLayers" "aboard" "[I") (by decide +kernel)
  have hf_32 := hts (.fieldLink RX3 32 "PalletLayers" "aboardCount" "I") (by decide +kernel)
  have hb9 := iv_b hI
  refine lv_iload_n hx hb dX3_order_0 rfl (lv_at hl 1 rfl) ?_
  refine lv_iconst (v := nI (0)) hx hb dX3_order_1 (by decide) ?_
  refine lv_aload_n hx hb dX3_order_2 rfl (lv_at hl 0 rfl) ?_
  refine r_get (C := RX3) (T := TX3) (N := 12) (v := .int (nI (mna M))) hx hb hts hown hK.1 hc (hr9.1.1) (rfl) rfl rfl hinX3 8 (by decide) hf_32 (fun _ h9 => h9) (congrArg Value.int hC.1.2.2.2.2.1) dX3_order_3 ?_
  refine lv_iconst (v := nI (1)) hx hb dX3_order_6 (by decide) ?_
  refine lv_isub hx hb dX3_order_7 ?_
  refine r_calli hc hA (va_runS (As := [.int (x), .int (nI (0)), .int (nI (mna M) - nI 1)]) (rest := []) ⟨hx, hb, hml, hown, hts⟩ (c_X3_isOutside l D g lv a R x (nI (0)) (nI (mna M) - nI 1) _) (va_cwS 3 hts gX3_order_X3_isOutside rfl rfl rfl (by decide +kernel) ⟨Nat.le_of_ble_eq_true rfl, Nat.le_of_ble_eq_true rfl⟩) (r_preS hK hZ hc hA) rfl rfl hl.1 rfl (lv_room (Nat.le_of_ble_eq_true rfl)) dX3_order_8 ⟨Nat.le_of_ble_eq_true rfl, Nat.le_of_ble_eq_true rfl⟩) (fun r R' H locs hp hc => ?_)
  obtain ⟨hRe, ⟨hw8, rfl⟩ | ⟨hw8, rfl⟩⟩ := hp
  · rw [hRe] at hc
    rw [in_iff (by omega)] at hw8
    obtain ⟨i, hi, hi9, rfl⟩ := isN_ex hw8
    refine lv_if_eq (tgt := 24) hx hb dX3_order_11 (by decide) (fun hq_3 => ?_) (fun hq_3 => absurd hq_3 (by decide))
    refine lv_aload_n hx hb dX3_order_24 rfl (lv_at hl 0 rfl) ?_
    refine r_get (C := RX3) (T := TX3) (N := 12) (v := .ref (a (6))) hx hb hts hown hK.1 hc (hr9.1.1) (rfl) rfl rfl hinX3 5 (by decide) hf_21 (fun _ h9 => h9) (congrArg va_rf hr9.1.2.2.2.2.2.2.2) dX3_order_25 ?_
    refine lv_aload_n hx hb dX3_order_28 rfl (lv_at hl 0 rfl) ?_
    refine r_get (C := RX3) (T := TX3) (N := 12) (v := .int (nI (mna M))) hx hb hts hown hK.1 hc (hr9.1.1) (rfl) rfl rfl hinX3 8 (by decide) hf_32 (fun _ h9 => h9) (congrArg Value.int hC.1.2.2.2.2.1) dX3_order_29 ?_
    refine lv_iconst (v := nI (1)) hx hb dX3_order_32 (by decide) ?_
    refine nv_isub hx hb dX3_order_33 (by omega) ?_
    refine lv_iload_n hx hb dX3_order_34 rfl (lv_at hl 1 rfl) ?_
    refine nv_isub hx hb dX3_order_35 (by omega) ?_
    refine r_iald (v := nI (tb M (((mna M) - 1) - i))) hx hb hK.1 hc (hr9.1.2.2.2.1) (rfl) (by decide) (by omega) dX3_order_36 (hC.2.2.2.2.2.2 _ (by omega)) ?_
    refine vx_ret ?_
    refine W.widen (k := 1) (n := 6) (by decide) (by decide) ?_
    exact r_iret hx hb hr hlocks hc dX3_order_37 (by
      unfold QC; rw [show oOrder M (nI i) = (0, nI (tb M (mna M - 1 - i)), M) by simp only [oOrder, tN_nI hi9, if_pos hw8]]
      exact ⟨rfl, rfl, hC, outC.r R⟩)
  · rw [hRe] at hc
    rw [in_iff (by omega)] at hw8
    refine lv_if_eq (tgt := 24) hx hb dX3_order_11 (by decide) (fun hq_4 => absurd hq_4 (by decide)) (fun hq_4 => ?_)
    exact x_ownN hx hb hl9 hown hts (hl.1.trans hml.symm) hlocks hK hZ hc ht tf_n (by decide +kernel) (by decide +kernel) (fun _ h => List.mem_cons_of_mem _ (List.mem_append_left _ (List.mem_append_right _ h))) (is := 218) (text := "not so many pallets on the truck") (by decide) dX3_order_14 dX3_order_17 dX3_order_18 dX3_order_20 dX3_order_23 (Nat.le_of_ble_eq_true rfl) (Nat.le_of_ble_eq_true rfl) (Nat.le_of_ble_eq_true rfl) (Nat.le_of_ble_eq_true rfl) ⟨rfl, 0, by rw [show oOrder M x = (1, nI 0, M) by simp only [oOrder, if_neg hw8]], rfl⟩ (by decide) (by decide)
