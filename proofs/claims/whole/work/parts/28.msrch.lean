set_option maxRecDepth 100000 in
set_option maxHeartbeats 4000000 in
theorem c_X4_search (l : Launch) (D : va_G) (g : Nat → ClassId) (lv : Nat → Bool) (a : Nat → Nat) (R : RS) (M : MS) (hmr : PMr R a lv) (hM : PM R M) (hI : Inv M) (x y : Int32) : cI l D g lv a yX4_search wsX4_search ({ frames := 3, cells := 0, slots := 0, locals := 84 } : Room) [.ref (a (100)), .int (x), .int (y)] R (QM R (oSearch M x y)) 0 0 := by
  refine c_body (cc := cX4_search) (maxL := 3) (ret := (some .int)) (by decide) rfl (Nat.le_of_ble_eq_true rfl) ?_
  intro pr en st mi bl me co ls B hl
  obtain ⟨hx, hb, hr, hml, hown, hts, hlocks, hnm, hK, hZ, hc, hA⟩ := B
  have hl : lv_has ls 3 [(0, .ref (a (100))), (1, .int (x)), (2, .int (y))] := hl
  have hinX4 : ∀ w ∈ u_ws RX4 TX4 33, w ∈ wsX4_search := (fun _ h => List.mem_cons_of_mem _ (List.mem_append_left _ (List.mem_append_right _ h)))
  have hf_22 := hts (.fieldLink RX4 22 "PalletLayersModel" "boxes" "[I") (by decide +kernel)
  have hf_89 := hts (.fieldLink RX4 89 "PalletLayersModel" "thrown" "I") (by decide +kernel)
  have hlv := hmr.1
  have hb9 := iv_b hI
  refine lv_aload_n hx hb dX4_search_0 rfl (lv_at hl 0 rfl) ?_
  refine lv_aload_n hx hb dX4_search_1 rfl (lv_at hl 0 rfl) ?_
  refine lv_iload_n hx hb dX4_search_2 rfl (lv_at hl 1 rfl) ?_
  refine r_calli hc hA (va_runV (As := [.int (x)]) (rest := [.ref (a (100))]) ⟨hx, hb, hml, hown, hts⟩ (c_X4_isKind l D g lv a R M hmr hM hI x _) (cwV 1 hts gX4_search_X4_isKind rfl rfl rfl (by decide +kernel) ⟨Nat.le_of_ble_eq_true rfl, Nat.le_of_ble_eq_true rfl⟩) (r_preV hK hZ hc hA (hlv _ rfl) (rfl) rfl) rfl rfl hl.1 rfl (lv_room (Nat.le_of_ble_eq_true rfl)) dX4_search_3 ⟨Nat.le_of_ble_eq_true rfl, Nat.le_of_ble_eq_true rfl⟩) (fun r R' H locs hp hc => ?_)
  obtain ⟨hRe, ⟨hw3, rfl⟩ | ⟨hw3, rfl⟩⟩ := hp
  · rw [hRe] at hc
    obtain ⟨j, hj, hj9, rfl⟩ := isN_ex hw3
    refine lv_if_ne (tgt := 13) hx hb dX4_search_6 (by decide) (fun hq_3 => ?_) (fun hq_3 => absurd hq_3 (by decide))
    refine lv_iload_n hx hb dX4_search_13 rfl (lv_at hl 2 rfl) ?_
    refine lv_iconst (v := nI (0)) hx hb dX4_search_14 (by decide) ?_
    refine lv_sipush (v := nI (5000)) hx hb dX4_search_15 (by decide) ?_
    refine r_calli hc hA (va_runS (As := [.int (y), .int (nI (0)), .int (nI (5000))]) (rest := [.ref (a (100))]) ⟨hx, hb, hml, hown, hts⟩ (c_X4_within l D g lv a R y (nI (0)) (nI (5000)) _) (va_cwS 3 hts gX4_search_X4_within rfl rfl rfl (by decide +kernel) ⟨Nat.le_of_ble_eq_true rfl, Nat.le_of_ble_eq_true rfl⟩) (r_preS hK hZ hc hA) rfl rfl hl.1 rfl (lv_room (Nat.le_of_ble_eq_true rfl)) dX4_search_18 ⟨Nat.le_of_ble_eq_true rfl, Nat.le_of_ble_eq_true rfl⟩) (fun r R' H locs hp hc => ?_)
    obtain ⟨hRe, ⟨hw18, rfl⟩ | ⟨hw18, rfl⟩⟩ := hp
    · rw [hRe] at hc
      rw [w_iff (by decide) (by decide)] at hw18
      refine lv_if_ne (tgt := 28) hx hb dX4_search_21 (by decide) (fun hq_6 => ?_) (fun hq_6 => absurd hq_6 (by decide))
      refine lv_aload_n hx hb dX4_search_28 rfl (lv_at hl 0 rfl) ?_
      refine lv_iload_n hx hb dX4_search_29 rfl (lv_at hl 1 rfl) ?_
      refine r_calli hc hA (va_runV (As := [.int (nI (j))]) (rest := [.ref (a (100))]) ⟨hx, hb, hml, hown, hts⟩ (c_X4_hasLayers l D g lv a R M hmr hM hI j hj _) (cwV 1 hts gX4_search_X4_hasLayers rfl rfl rfl (by decide +kernel) ⟨Nat.le_of_ble_eq_true rfl, Nat.le_of_ble_eq_true rfl⟩) (r_preV hK hZ hc hA (hlv _ rfl) (rfl) rfl) rfl rfl hl.1 rfl (lv_room (Nat.le_of_ble_eq_true rfl)) dX4_search_30 ⟨Nat.le_of_ble_eq_true rfl, Nat.le_of_ble_eq_true rfl⟩) (fun r R' H locs hp hc => ?_)
      obtain ⟨hRe, ⟨hon, rfl⟩ | ⟨hon, rfl⟩⟩ := hp
      · rw [hRe] at hc
        refine lv_if_eq (tgt := 40) hx hb dX4_search_33 (by decide) (fun hq_9 => absurd hq_9 (by decide)) (fun hq_9 => ?_)
        refine lv_iconst (v := nI (3)) hx hb dX4_search_36 (by decide) ?_
        refine lv_goto (tgt := 41) hx hb dX4_search_37 (by decide) ?_
        refine r_put (C := RX4) (T := TX4) (N := 33) (R' := sfi R 100 5 (nI (3))) hx hb hts hown hK.1 hc (hlv _ rfl) (rfl) rfl rfl hinX4 tyX4 tyX4_ok nmX4 5 (by decide) hf_89 (fun _ h9 => h9) rfl (tyX4_ok 5 (by decide)) rfl rfl dX4_search_41 (fds_sfi (by decide) (by decide)) (fun _ h9 => ct_sfi h9) (fun H locs hc => ?_)
        refine lv_aload_n hx hb dX4_search_44 rfl (lv_at hl 0 rfl) ?_
        refine r_get (C := RX4) (T := TX4) (N := 33) (v := .int (nI (3))) hx hb hts hown hK.1 hc (hlv _ rfl) (rfl) rfl rfl hinX4 5 (by decide) hf_89 (fun _ h9 => h9) rfl dX4_search_45 ?_
        refine lv_if_eq (tgt := 53) hx hb dX4_search_48 (by decide) (fun hq_10 => absurd hq_10 (by decide)) (fun hq_10 => ?_)
        refine lv_iconst (v := nI (0)) hx hb dX4_search_51 (by decide) ?_
        exact r_iret hx hb hr hlocks hc dX4_search_52 (by
      have hq9 : oSearch M (nI j) y = (3, nI 0, M) := by rw [oSearch, if_pos hw3, if_pos hw18, tN_nI hj9, if_pos hon]
      unfold QM; rw [hq9]
      exact ⟨rfl, rfl, pm_th hM, ((outM.r _).sfi (by decide))⟩)
      · rw [hRe] at hc
        refine lv_if_eq (tgt := 40) hx hb dX4_search_33 (by decide) (fun hq_11 => ?_) (fun hq_11 => absurd hq_11 (by decide))
        refine lv_iconst (v := nI (0)) hx hb dX4_search_40 (by decide) ?_
        refine r_put (C := RX4) (T := TX4) (N := 33) (R' := sfi R 100 5 (nI (0))) hx hb hts hown hK.1 hc (hlv _ rfl) (rfl) rfl rfl hinX4 tyX4 tyX4_ok nmX4 5 (by decide) hf_89 (fun _ h9 => h9) rfl (tyX4_ok 5 (by decide)) rfl rfl dX4_search_41 (fds_sfi (by decide) (by decide)) (fun _ h9 => ct_sfi h9) (fun H locs hc => ?_)
        refine lv_aload_n hx hb dX4_search_44 rfl (lv_at hl 0 rfl) ?_
        refine r_get (C := RX4) (T := TX4) (N := 33) (v := .int (nI (0))) hx hb hts hown hK.1 hc (hlv _ rfl) (rfl) rfl rfl hinX4 5 (by decide) hf_89 (fun _ h9 => h9) rfl dX4_search_45 ?_
        refine lv_if_eq (tgt := 53) hx hb dX4_search_48 (by decide) (fun hq_12 => ?_) (fun hq_12 => absurd hq_12 (by decide))
        obtain ⟨v, hv0, hv1, hv2, rfl⟩ := isR_ex hw18
        refine lv_aload_n hx hb dX4_search_53 rfl (lv_at hl 0 rfl) ?_
        refine lv_iload_n hx hb dX4_search_54 rfl (lv_at hl 1 rfl) ?_
        refine lv_iload_n hx hb dX4_search_55 rfl (lv_at hl 2 rfl) ?_
        refine r_callv hc hA (va_runV (As := [.int (nI (j)), .int (nI (v))]) (rest := []) ⟨hx, hb, hml, hown, hts⟩ (c_X4_seek l D g lv a (sfi R 100 5 (nI (0))) M hmr (pk_of (pm_th hM)) hI j v hj (by omega) _) (cwV 2 hts gX4_search_X4_seek rfl rfl rfl (by decide +kernel) ⟨Nat.le_of_ble_eq_true rfl, Nat.le_of_ble_eq_true rfl⟩) (r_preV hK hZ hc hA (hlv _ rfl) (rfl) rfl) rfl rfl hl.1 rfl (lv_room (Nat.le_of_ble_eq_true rfl)) dX4_search_56 ⟨Nat.le_of_ble_eq_true rfl, Nat.le_of_ble_eq_true rfl⟩) (fun R' H locs hp hc => ?_)
        obtain ⟨hFS, hLS⟩ := hp
        refine lv_aload_n hx hb dX4_search_59 rfl (lv_at hl 0 rfl) ?_
        refine r_get (C := RX4) (T := TX4) (N := 33) (v := .ref (a (110))) hx hb hts hown hK.1 hc (hlv _ rfl) (rfl) rfl rfl hinX4 10 (by decide) hf_22 (fun _ h9 => h9) (congrArg va_rf ((hFS.1.2 10).trans (hmr.2 10 rfl))) dX4_search_60 ?_
        refine lv_iload_n hx hb dX4_search_63 rfl (lv_at hl 1 rfl) ?_
        refine r_iald (v := nI ((sk0 M j v).2.2.2.length)) hx hb hK.1 hc (hlv _ rfl) (rfl) (by decide) (by omega) dX4_search_64 hLS.2.2.2.2.2.2.1 ?_
        exact r_iret hx hb hr hlocks hc dX4_search_65 (by
      have hq9 : oSearch M (nI j) (nI v) = (0, nI (sk0 M j v).2.2.2.length, nSearch M j (sk0 M j v)) := by rw [oSearch, if_pos hw3, if_pos hw18, tN_nI hj9, tN_nI hv2, if_neg (by rw [hon]; decide)]
      unfold QM; rw [hq9]
      exact ⟨rfl, (hFS.2.1 5 (by decide) (by decide) (by decide)).trans rfl, pm_search (pm_th hM) hI hj hFS hLS (sk0_si hI hj), ((outM.r _).sfi (by decide)).trans hFS.1⟩)
    · rw [hRe] at hc
      rw [w_iff (by decide) (by decide)] at hw18
      refine lv_if_ne (tgt := 28) hx hb dX4_search_21 (by decide) (fun hq_15 => absurd hq_15 (by decide)) (fun hq_15 => ?_)
      refine lv_iconst (v := nI (2)) hx hb dX4_search_24 (by decide) ?_
      refine lv_goto (tgt := 41) hx hb dX4_search_25 (by decide) ?_
      refine r_put (C := RX4) (T := TX4) (N := 33) (R' := sfi R 100 5 (nI (2))) hx hb hts hown hK.1 hc (hlv _ rfl) (rfl) rfl rfl hinX4 tyX4 tyX4_ok nmX4 5 (by decide) hf_89 (fun _ h9 => h9) rfl (tyX4_ok 5 (by decide)) rfl rfl dX4_search_41 (fds_sfi (by decide) (by decide)) (fun _ h9 => ct_sfi h9) (fun H locs hc => ?_)
      refine lv_aload_n hx hb dX4_search_44 rfl (lv_at hl 0 rfl) ?_
      refine r_get (C := RX4) (T := TX4) (N := 33) (v := .int (nI (2))) hx hb hts hown hK.1 hc (hlv _ rfl) (rfl) rfl rfl hinX4 5 (by decide) hf_89 (fun _ h9 => h9) rfl dX4_search_45 ?_
      refine lv_if_eq (tgt := 53) hx hb dX4_search_48 (by decide) (fun hq_16 => absurd hq_16 (by decide)) (fun hq_16 => ?_)
      refine lv_iconst (v := nI (0)) hx hb dX4_search_51 (by decide) ?_
      exact r_iret hx hb hr hlocks hc dX4_search_52 (by
      have hq9 : oSearch M (nI j) y = (2, nI 0, M) := by rw [oSearch, if_pos hw3, if_neg hw18]
      unfold QM; rw [hq9]
      exact ⟨rfl, rfl, pm_th hM, ((outM.r _).sfi (by decide))⟩)
  · rw [hRe] at hc
    refine lv_if_ne (tgt := 13) hx hb dX4_search_6 (by decide) (fun hq_17 => absurd hq_17 (by decide)) (fun hq_17 => ?_)
    refine lv_iconst (v := nI (1)) hx hb dX4_search_9 (by decide) ?_
    refine lv_goto (tgt := 41) hx hb dX4_search_10 (by decide) ?_
    refine r_put (C := RX4) (T := TX4) (N := 33) (R' := sfi R 100 5 (nI (1))) hx hb hts hown hK.1 hc (hlv _ rfl) (rfl) rfl rfl hinX4 tyX4 tyX4_ok nmX4 5 (by decide) hf_89 (fun _ h9 => h9) rfl (tyX4_ok 5 (by decide)) rfl rfl dX4_search_41 (fds_sfi (by decide) (by decide)) (fun _ h9 => ct_sfi h9) (fun H locs hc => ?_)
    refine lv_aload_n hx hb dX4_search_44 rfl (lv_at hl 0 rfl) ?_
    refine r_get (C := RX4) (T := TX4) (N := 33) (v := .int (nI (1))) hx hb hts hown hK.1 hc (hlv _ rfl) (rfl) rfl rfl hinX4 5 (by decide) hf_89 (fun _ h9 => h9) rfl dX4_search_45 ?_
    refine lv_if_eq (tgt := 53) hx hb dX4_search_48 (by decide) (fun hq_18 => absurd hq_18 (by decide)) (fun hq_18 => ?_)
    refine lv_iconst (v := nI (0)) hx hb dX4_search_51 (by decide) ?_
    exact r_iret hx hb hr hlocks hc dX4_search_52 (by
      have hq9 : oSearch M x y = (1, nI 0, M) := by simp only [oSearch, if_neg hw3]
      unfold QM; rw [hq9]
      exact ⟨rfl, rfl, pm_th hM, ((outM.r _).sfi (by decide))⟩)
