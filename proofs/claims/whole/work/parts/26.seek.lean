set_option maxRecDepth 100000 in
set_option maxHeartbeats 4000000 in
theorem c_X4_seek (l : Launch) (D : va_G) (g : Nat → ClassId) (lv : Nat → Bool) (a : Nat → Nat) (R : RS) (M : MS) (hmr : PMr R a lv) (hM : PK R M) (hI : Inv M) (k mx : Nat) (hk : k < mnk M) (hmx : mx ≤ 5000) : cV l D g lv a yX4_seek wsX4_seek ({ frames := 2, cells := 0, slots := 0, locals := 57 } : Room) [.ref (a (100)), .int (nI (k)), .int (nI (mx))] R (fun R' => FSt R R' k ∧ LSt R' M k 0 0 [] (goS M k mx 37 0 [] (0, 0, false, []))) 0 0 := by
  refine c_body (cc := cX4_seek) (maxL := 8) (ret := none) (by decide) rfl (Nat.le_of_ble_eq_true rfl) ?_
  intro pr en st mi bl me co ls B hl
  obtain ⟨hx, hb, hr, hml, hown, hts, hlocks, hnm, hK, hZ, hc, hA⟩ := B
  have hl : lv_has ls 8 [(0, .ref (a (100))), (1, .int (nI (k))), (2, .int (nI (mx)))] := hl
  have hinX4 : ∀ w ∈ u_ws RX4 TX4 33, w ∈ wsX4_seek := (fun _ h => List.mem_cons_of_mem _ (List.mem_append_left _ (List.mem_append_right _ h)))
  have hf_22 := hts (.fieldLink RX4 22 "PalletLayersModel" "boxes" "[I") (by decide +kernel)
  have hf_25 := hts (.fieldLink RX4 25 "PalletLayersModel" "exact" "[Z") (by decide +kernel)
  have hf_64 := hts (.fieldLink RX4 64 "PalletLayersModel" "cellAt" "[I") (by decide +kernel)
  have hf_67 := hts (.fieldLink RX4 67 "PalletLayersModel" "trial" "[I") (by decide +kernel)
  have hf_86 := hts (.fieldLink RX4 86 "PalletLayersModel" "cells" "I") (by decide +kernel)
  have hf_102 := hts (.fieldLink RX4 102 "PalletLayersModel" "taken" "J") (by decide +kernel)
  have hf_106 := hts (.fieldLink RX4 106 "PalletLayersModel" "left" "J") (by decide +kernel)
  have hf_109 := hts (.fieldLink RX4 109 "PalletLayersModel" "most" "I") (by decide +kernel)
  have hf_112 := hts (.fieldLink RX4 112 "PalletLayersModel" "placed" "I") (by decide +kernel)
  have hf_128 := hts (.fieldLink RX4 128 "PalletLayersModel" "steps" "I") (by decide +kernel)
  have hlv := hmr.1
  have hb9 := iv_b hI
  have hce := ce_b hb9
  have hk9 := iv_k hI hk
  refine lv_aload_n hx hb dX4_seek_0 rfl (lv_at hl 0 rfl) ?_
  refine lv_lconst (v := lN 0) hx hb dX4_seek_1 (by decide) ?_
  refine r_put (C := RX4) (T := TX4) (N := 33) (R' := sfl R 100 29 (lN (0))) hx hb hts hown hK.1 hc (hlv _ rfl) (rfl) rfl rfl hinX4 tyX4 tyX4_ok nmX4 29 (by decide) hf_102 (fun _ h9 => h9) rfl (tyX4_ok 29 (by decide)) rfl rfl dX4_seek_2 (fds_sfl (by decide) (by decide)) (fun _ h9 => ct_sfl h9) (fun H locs hc => ?_)
  refine lv_aload_n hx hb dX4_seek_5 rfl (lv_at hl 0 rfl) ?_
  refine lv_lconst (v := lN 0) hx hb dX4_seek_6 (by decide) ?_
  refine r_put (C := RX4) (T := TX4) (N := 33) (R' := sfl (sfl R 100 29 (lN (0))) 100 30 (lN (0))) hx hb hts hown hK.1 hc (hlv _ rfl) (rfl) rfl rfl hinX4 tyX4 tyX4_ok nmX4 30 (by decide) hf_106 (fun _ h9 => h9) rfl (tyX4_ok 30 (by decide)) rfl rfl dX4_seek_7 (fds_sfl (by decide) (by decide)) (fun _ h9 => ct_sfl h9) (fun H locs hc => ?_)
  refine lv_aload_n hx hb dX4_seek_10 rfl (lv_at hl 0 rfl) ?_
  refine lv_iconst (v := nI (0)) hx hb dX4_seek_11 (by decide) ?_
  refine r_put (C := RX4) (T := TX4) (N := 33) (R' := sfi (sfl (sfl R 100 29 (lN (0))) 100 30 (lN (0))) 100 31 (nI (0))) hx hb hts hown hK.1 hc (hlv _ rfl) (rfl) rfl rfl hinX4 tyX4 tyX4_ok nmX4 31 (by decide) hf_112 (fun _ h9 => h9) rfl (tyX4_ok 31 (by decide)) rfl rfl dX4_seek_12 (fds_sfi (by decide) (by decide)) (fun _ h9 => ct_sfi h9) (fun H locs hc => ?_)
  refine lv_aload_n hx hb dX4_seek_15 rfl (lv_at hl 0 rfl) ?_
  refine lv_iconst (v := (-1)) hx hb dX4_seek_16 (by decide) ?_
  refine r_put (C := RX4) (T := TX4) (N := 33) (R' := sfi (sfi (sfl (sfl R 100 29 (lN (0))) 100 30 (lN (0))) 100 31 (nI (0))) 100 32 ((-1))) hx hb hts hown hK.1 hc (hlv _ rfl) (rfl) rfl rfl hinX4 tyX4 tyX4_ok nmX4 32 (by decide) hf_109 (fun _ h9 => h9) rfl (tyX4_ok 32 (by decide)) rfl rfl dX4_seek_17 (fds_sfi (by decide) (by decide)) (fun _ h9 => ct_sfi h9) (fun H locs hc => ?_)
  refine lv_aload_n hx hb dX4_seek_20 rfl (lv_at hl 0 rfl) ?_
  refine lv_iconst (v := nI (0)) hx hb dX4_seek_21 (by decide) ?_
  refine r_put (C := RX4) (T := TX4) (N := 33) (R' := sfi (sfi (sfi (sfl (sfl R 100 29 (lN (0))) 100 30 (lN (0))) 100 31 (nI (0))) 100 32 ((-1))) 100 24 (nI (0))) hx hb hts hown hK.1 hc (hlv _ rfl) (rfl) rfl rfl hinX4 tyX4 tyX4_ok nmX4 24 (by decide) hf_128 (fun _ h9 => h9) rfl (tyX4_ok 24 (by decide)) rfl rfl dX4_seek_22 (fds_sfi (by decide) (by decide)) (fun _ h9 => ct_sfi h9) (fun H locs hc => ?_)
  refine lv_aload_n hx hb dX4_seek_25 rfl (lv_at hl 0 rfl) ?_
  refine r_get (C := RX4) (T := TX4) (N := 33) (v := .ref (a (111))) hx hb hts hown hK.1 hc (hlv _ rfl) (rfl) rfl rfl hinX4 11 (by decide) hf_25 (fun _ h9 => h9) (congrArg va_rf (hmr.2 11 rfl)) dX4_seek_26 ?_
  refine lv_iload_n hx hb dX4_seek_29 rfl (lv_at hl 1 rfl) ?_
  refine lv_iconst (v := nI (1)) hx hb dX4_seek_30 (by decide) ?_
  refine r_zast hx hb hK.1 hc (hlv _ rfl) (rfl) (by decide) (by omega) (by decide) dX4_seek_31 (fun H locs hc => ?_)
  refine lv_aload_n hx hb dX4_seek_32 rfl (lv_at hl 0 rfl) ?_
  refine r_get (C := RX4) (T := TX4) (N := 33) (v := .ref (a (110))) hx hb hts hown hK.1 hc (hlv _ rfl) (rfl) rfl rfl hinX4 10 (by decide) hf_22 (fun _ h9 => h9) (congrArg va_rf (hmr.2 10 rfl)) dX4_seek_33 ?_
  refine lv_iload_n hx hb dX4_seek_36 rfl (lv_at hl 1 rfl) ?_
  refine lv_iconst (v := nI (0)) hx hb dX4_seek_37 (by decide) ?_
  refine r_iast hx hb hK.1 hc (hlv _ rfl) (rfl) (by decide) (by omega) dX4_seek_38 (fun H locs hc => ?_)
  refine lv_iconst (v := nI (0)) hx hb dX4_seek_39 (by decide) ?_
  refine lv_istore_n (lv' := [(3, .int (nI (0))), (0, .ref (a (100))), (1, .int (nI (k))), (2, .int (nI (mx)))]) hx hb dX4_seek_40 rfl hl (by decide) rfl (fun ls hl => ?_)
  refine lv_aload_n hx hb dX4_seek_41 rfl (lv_at hl 1 rfl) ?_
  refine r_get (C := RX4) (T := TX4) (N := 33) (v := .ref (a (125))) hx hb hts hown hK.1 hc (hlv _ rfl) (rfl) rfl rfl hinX4 25 (by decide) hf_64 (fun _ h9 => h9) (congrArg va_rf (hmr.2 25 rfl)) dX4_seek_42 ?_
  refine lv_iconst (v := nI (0)) hx hb dX4_seek_45 (by decide) ?_
  refine lv_iconst (v := nI (0)) hx hb dX4_seek_46 (by decide) ?_
  refine r_iast hx hb hK.1 hc (hlv _ rfl) (rfl) (by decide) (by omega) dX4_seek_47 (fun H locs hc => ?_)
  refine lv_aload_n hx hb dX4_seek_48 rfl (lv_at hl 1 rfl) ?_
  refine r_get (C := RX4) (T := TX4) (N := 33) (v := .ref (a (126))) hx hb hts hown hK.1 hc (hlv _ rfl) (rfl) rfl rfl hinX4 26 (by decide) hf_67 (fun _ h9 => h9) (congrArg va_rf (hmr.2 26 rfl)) dX4_seek_49 ?_
  refine lv_iconst (v := nI (0)) hx hb dX4_seek_52 (by decide) ?_
  refine lv_iconst (v := nI (0)) hx hb dX4_seek_53 (by decide) ?_
  refine r_iast hx hb hK.1 hc (hlv _ rfl) (rfl) (by decide) (by omega) dX4_seek_54 (fun H locs hc => ?_)
  refine lv_iconst (v := nI (1)) hx hb dX4_seek_55 (by decide) ?_
  refine lv_istore (lv' := [(4, .int (nI (1))), (3, .int (nI (0))), (0, .ref (a (100))), (1, .int (nI (k))), (2, .int (nI (mx)))]) hx hb dX4_seek_56 hl (by decide) rfl (fun ls hl => ?_)
  have hE : ∀ (d n T F : Nat) (pl : List (Nat × Nat)) (S : SS) (Re : RS) (H : Heap) (locs : List Loc) (ls : Array Slot), mW M * mD M - fo (mW M * mD M) (T ||| F) < d → GT M k n T F pl → SI M k mx S → LSt Re M k T F pl S → ai Re 125 n = nI (fo (mW M * mD M) (T ||| F)) → ai Re 126 n = nI 0 → FSt R Re k → rc D g (rA lv a st.heap.size) st.heap lv a Re H locs → lv_has ls 8 [(0, .ref (a (100))), (1, .int (nI (k))), (2, .int (nI (mx))), (3, .int (nI (n))), (4, .int (nI (1)))] → (∀ (R2 : RS) (H2 : Heap) (locs2 : List Loc) (ls2 : Array Slot), LSt R2 M k T F pl (goS M k mx d (T ||| F) pl S) → (∀ j, j < n → ai R2 125 j = ai Re 125 j ∧ ai R2 126 j = ai Re 126 j) → FSt R R2 k → rc D g (rA lv a st.heap.size) st.heap lv a R2 H2 locs2 → lv_has ls2 8 [(0, .ref (a (100))), (1, .int (nI (k))), (2, .int (nI (mx))), (3, .int (nI n + (-1))), (4, .int (nI (0)))] → W pr l en ({ frames := 2, cells := 0, slots := 0, locals := 57 } : Room) st mi ([.ref (a (100)), .int (nI (k)), .int (nI (mx))] : List Value).toArray bl me co H2 locs2 0 0 (MQ bl (va_Qv (fun R' => FSt R R' k ∧ LSt R' M k 0 0 [] (goS M k mx 37 0 [] (0, 0, false, []))) (cB D g lv a) (rA lv a st.heap.size)) ([.ref (a (100)), .int (nI (k)), .int (nI (mx))] : List Value).toArray st 0 0 (rA lv a st.heap.size)) (F0 mi 58 ls2 [])) → W pr l en ({ frames := 2, cells := 0, slots := 0, locals := 57 } : Room) st mi ([.ref (a (100)), .int (nI (k)), .int (nI (mx))] : List Value).toArray bl me co H locs 0 0 (MQ bl (va_Qv (fun R' => FSt R R' k ∧ LSt R' M k 0 0 [] (goS M k mx 37 0 [] (0, 0, false, []))) (cB D g lv a) (rA lv a st.heap.size)) ([.ref (a (100)), .int (nI (k)), .int (nI (mx))] : List Value).toArray st 0 0 (rA lv a st.heap.size)) (F0 mi 58 ls []) := by
    intro d
    induction d with
    | zero => intro n T F pl S Re H locs ls hmu; exact absurd hmu (Nat.not_lt_zero _)
    | succ d ihE =>
      intro n T F pl S Re H locs ls hmu hGT hSI hLS hcell htr hFS hc hl K
      have hM1 := hFS.pk hM
      have hmr1 := hFS.mr hmr
      have hfl := fo_le (mW M * mD M) (T ||| F)
      have hGX := hGT.gx
      obtain ⟨c, hce9⟩ : ∃ z, z = fo (mW M * mD M) (T ||| F) := ⟨_, rfl⟩
      rw [← hce9] at hcell hmu hfl
      have hT6 : T < 68719476736 := Nat.lt_of_lt_of_le hGT.1 (p36 hce.2)
      have hF6 : F < 68719476736 := Nat.lt_of_lt_of_le hGT.2.1 (p36 hce.2)
      have hnc : n ≤ c := by rw [hce9]; exact hGT.2.2.2.1
      have hpc : pl.length ≤ c := by rw [hce9]; exact hGT.2.2.2.2.1
      have hbs : S.2.1 ≤ 37 := by have h9 := hSI.2.2.1; rcases hSI.2.1 with h | h <;> omega
      refine lv_iload_n hx hb dX4_seek_58 rfl (lv_at hl 3 rfl) ?_
      refine lv_if_lt (tgt := 286) hx hb dX4_seek_59 (by decide) (fun hq_1 => absurd hq_1 (nI_pos (by omega))) (fun hq_1 => ?_)
      refine lv_aload_n hx hb dX4_seek_62 rfl (lv_at hl 0 rfl) ?_
      refine r_get (C := RX4) (T := TX4) (N := 33) (v := .ref (a (125))) hx hb hts hown hK.1 hc (hlv _ rfl) (rfl) rfl rfl hinX4 25 (by decide) hf_64 (fun _ h9 => h9) (congrArg va_rf (hmr1.2 25 rfl)) dX4_seek_63 ?_
      refine lv_iload_n hx hb dX4_seek_66 rfl (lv_at hl 3 rfl) ?_
      refine r_iald (v := nI (c)) hx hb hK.1 hc (hlv _ rfl) (rfl) (by decide) (by omega) dX4_seek_67 hcell ?_
      refine lv_istore (lv' := [(5, .int (nI (c))), (0, .ref (a (100))), (1, .int (nI (k))), (2, .int (nI (mx))), (3, .int (nI (n))), (4, .int (nI (1)))]) hx hb dX4_seek_68 hl (by decide) rfl (fun ls hl => ?_)
      refine lv_aload_n hx hb dX4_seek_70 rfl (lv_at hl 1 rfl) ?_
      refine r_get (C := RX4) (T := TX4) (N := 33) (v := .ref (a (126))) hx hb hts hown hK.1 hc (hlv _ rfl) (rfl) rfl rfl hinX4 26 (by decide) hf_67 (fun _ h9 => h9) (congrArg va_rf (hmr1.2 26 rfl)) dX4_seek_71 ?_
      refine lv_iload_n hx hb dX4_seek_74 rfl (lv_at hl 4 rfl) ?_
      refine r_iald (v := nI (0)) hx hb hK.1 hc (hlv _ rfl) (rfl) (by decide) (by omega) dX4_seek_75 htr ?_
      refine lv_istore (lv' := [(6, .int (nI (0))), (5, .int (nI (c))), (0, .ref (a (100))), (1, .int (nI (k))), (2, .int (nI (mx))), (3, .int (nI (n))), (4, .int (nI (1)))]) hx hb dX4_seek_76 hl (by decide) rfl (fun ls hl => ?_)
      refine lv_aload_n hx hb dX4_seek_78 rfl (lv_at hl 2 rfl) ?_
      refine lv_iload_n hx hb dX4_seek_79 rfl (lv_at hl 3 rfl) ?_
      refine lv_iload hx hb dX4_seek_80 (lv_at hl 1 rfl) ?_
      refine lv_iload hx hb dX4_seek_82 (lv_at hl 0 rfl) ?_
      refine r_callv hc hA (va_runV (As := [.int (nI (k)), .int (nI (c)), .int (nI (0))]) (rest := []) ⟨hx, hb, hml, hown, hts⟩ (c_X4_undo_0 l D g lv a Re M hmr1 hM1 hI k c _) (cwV 3 hts gX4_seek_X4_undo rfl rfl rfl (by decide +kernel) ⟨Nat.le_of_ble_eq_true rfl, Nat.le_of_ble_eq_true rfl⟩) (r_preV hK hZ hc hA (hlv _ rfl) (rfl) rfl) rfl rfl hl.1 rfl (lv_room (Nat.le_of_ble_eq_true rfl)) dX4_seek_84 ⟨Nat.le_of_ble_eq_true rfl, Nat.le_of_ble_eq_true rfl⟩) (fun R' H locs hp hc => ?_)
      have hRe := hp
      rw [hRe] at hc
      refine lv_iload hx hb dX4_seek_87 (lv_at hl 6 rfl) ?_
      refine lv_if_eq (tgt := 117) hx hb dX4_seek_89 (by decide) (fun hq_4 => absurd hq_4 (by decide)) (fun hq_4 => ?_)
      refine lv_iload hx hb dX4_seek_92 (lv_at hl 1 rfl) ?_
      refine lv_aload_n hx hb dX4_seek_94 rfl (lv_at hl 2 rfl) ?_
      refine r_get (C := RX4) (T := TX4) (N := 33) (v := .int (nI (mW M * mD M))) hx hb hts hown hK.1 hc (hlv _ rfl) (rfl) rfl rfl hinX4 2 (by decide) hf_86 (fun _ h9 => h9) (congrArg Value.int hM1.2.2.1) dX4_seek_95 ?_
      refine lv_icmp_ne (tgt := 117) hx hb dX4_seek_98 (by decide) (fun hq_5 => ?_) (fun hq_5 => ?_)
      · have hq_5 : ¬ (c = (mW M * mD M)) := fun z => hq_5 ((nI_eq (a := c) (b := (mW M * mD M)) (by omega) (by omega)).mpr z)
        refine lv_iload hx hb dX4_seek_117 (lv_at hl 1 rfl) ?_
        refine lv_aload_n hx hb dX4_seek_119 rfl (lv_at hl 2 rfl) ?_
        refine r_get (C := RX4) (T := TX4) (N := 33) (v := .int (nI (mW M * mD M))) hx hb hts hown hK.1 hc (hlv _ rfl) (rfl) rfl rfl hinX4 2 (by decide) hf_86 (fun _ h9 => h9) (congrArg Value.int hM1.2.2.1) dX4_seek_120 ?_
        refine lv_icmp_eq (tgt := 139) hx hb dX4_seek_123 (by decide) (fun hq_6 => absurd ((nI_eq (a := c) (b := mW M * mD M) (by omega) (by omega)).mp hq_6) (by omega)) (fun hq_6 => ?_)
        refine lv_iload hx hb dX4_seek_126 (lv_at hl 6 rfl) ?_
        refine lv_if_eq (tgt := 143) hx hb dX4_seek_128 (by decide) (fun hq_7 => absurd hq_7 (by decide)) (fun hq_7 => ?_)
        refine lv_aload_n hx hb dX4_seek_131 rfl (lv_at hl 2 rfl) ?_
        refine lv_iload_n hx hb dX4_seek_132 rfl (lv_at hl 3 rfl) ?_
        refine r_calli hc hA (va_runV (As := [.int (nI (k))]) (rest := []) ⟨hx, hb, hml, hown, hts⟩ (c_X4_canBeBetter l D g lv a Re M hmr1 hM1 hI k pl.length S.2.1 hk T F hLS.1 hLS.2.1 hT6 hF6 hLS.2.2.1 (by omega) hLS.2.2.2.1 hbs (Nat.or_lt_two_pow hGT.1 hGT.2.1) _) (cwV 1 hts gX4_seek_X4_canBeBetter rfl rfl rfl (by decide +kernel) ⟨Nat.le_of_ble_eq_true rfl, Nat.le_of_ble_eq_true rfl⟩) (r_preV hK hZ hc hA (hlv _ rfl) (rfl) rfl) rfl rfl hl.1 rfl (lv_room (Nat.le_of_ble_eq_true rfl)) dX4_seek_133 ⟨Nat.le_of_ble_eq_true rfl, Nat.le_of_ble_eq_true rfl⟩) (fun r R' H locs hp hc => ?_)
        obtain ⟨hRe, ⟨hcb, rfl⟩ | ⟨hcb, rfl⟩⟩ := hp
        · rw [hRe] at hc
          refine lv_if_ne (tgt := 143) hx hb dX4_seek_136 (by decide) (fun hq_10 => ?_) (fun hq_10 => absurd hq_10 (by decide))
          refine lv_iconst (v := nI (0)) hx hb dX4_seek_143 (by decide) ?_
          refine lv_istore (lv' := [(7, .int (nI (0))), (6, .int (nI (0))), (5, .int (nI (c))), (0, .ref (a (100))), (1, .int (nI (k))), (2, .int (nI (mx))), (3, .int (nI (n))), (4, .int (nI (1)))]) hx hb dX4_seek_144 hl (by decide) rfl (fun ls hl => ?_)
          refine lv_iinc (v := nI (1)) (lv' := [(6, .int (nI (1))), (7, .int (nI (0))), (5, .int (nI (c))), (0, .ref (a (100))), (1, .int (nI (k))), (2, .int (nI (mx))), (3, .int (nI (n))), (4, .int (nI (1)))]) hx hb dX4_seek_146 hl (k := 1) rfl (nI_inc _ 1) (by decide) rfl (fun ls hl => ?_)
          have hmid : ∀ (q t : Nat) (S : SS) (R1 : RS) (H : Heap) (locs : List Loc) (ls : Array Slot), 4 - t < q → 1 ≤ t → t ≤ 4 → SI M k mx S → LSt R1 M k T F pl S → ai R1 125 n = nI c → (∀ j, j < n → ai R1 125 j = ai Re 125 j ∧ ai R1 126 j = ai Re 126 j) → FSt R R1 k → rc D g (rA lv a st.heap.size) st.heap lv a R1 H locs → lv_has ls 8 [(0, .ref (a (100))), (1, .int (nI (k))), (2, .int (nI (mx))), (3, .int (nI (n))), (5, .int (nI (c))), (6, .int (nI (t))), (7, .int (nI (0)))] → (∀ (R2 : RS) (H2 : Heap) (locs2 : List Loc) (ls2 : Array Slot), LSt R2 M k T F pl (rS (goS M k mx d) M k mx (T ||| F) c pl t S) → (∀ j, j < n → ai R2 125 j = ai Re 125 j ∧ ai R2 126 j = ai Re 126 j) → FSt R R2 k → rc D g (rA lv a st.heap.size) st.heap lv a R2 H2 locs2 → lv_has ls2 8 [(0, .ref (a (100))), (1, .int (nI (k))), (2, .int (nI (mx))), (3, .int (nI n + (-1))), (4, .int (nI (0)))] → W pr l en ({ frames := 2, cells := 0, slots := 0, locals := 57 } : Room) st mi ([.ref (a (100)), .int (nI (k)), .int (nI (mx))] : List Value).toArray bl me co H2 locs2 0 0 (MQ bl (va_Qv (fun R' => FSt R R' k ∧ LSt R' M k 0 0 [] (goS M k mx 37 0 [] (0, 0, false, []))) (cB D g lv a) (rA lv a st.heap.size)) ([.ref (a (100)), .int (nI (k)), .int (nI (mx))] : List Value).toArray st 0 0 (rA lv a st.heap.size)) (F0 mi 58 ls2 [])) → W pr l en ({ frames := 2, cells := 0, slots := 0, locals := 57 } : Room) st mi ([.ref (a (100)), .int (nI (k)), .int (nI (mx))] : List Value).toArray bl me co H locs 0 0 (MQ bl (va_Qv (fun R' => FSt R R' k ∧ LSt R' M k 0 0 [] (goS M k mx 37 0 [] (0, 0, false, []))) (cB D g lv a) (rA lv a st.heap.size)) ([.ref (a (100)), .int (nI (k)), .int (nI (mx))] : List Value).toArray st 0 0 (rA lv a st.heap.size)) (F0 mi 149 ls []) := by
            intro q
            induction q with
            | zero => intro t S R1 H locs ls hmu; exact absurd hmu (Nat.not_lt_zero _)
            | succ q ihm =>
              intro t S R1 H locs ls hmuq ht1 ht4 hSI hLS hcell hSB hFS hc hl Km
              have hM1 := hFS.pk hM
              have hmr1 := hFS.mr hmr
              have hs5 := hSI.1
              refine lv_iload hx hb dX4_seek_149 (lv_at hl 6 rfl) ?_
              refine lv_if_ne (tgt := 178) hx hb dX4_seek_151 (by decide) (fun hq_11 => absurd hq_11 (by decide)) (fun hq_11 => ?_)
              refine lv_iload hx hb dX4_seek_154 (lv_at hl 5 rfl) ?_
              refine lv_iconst (v := nI (3)) hx hb dX4_seek_156 (by decide) ?_
              refine lv_icmp_ge (tgt := 178) hx hb dX4_seek_157 (by decide) (fun hq_12 => ?_) (fun hq_12 => ?_)
              · have hq_12 : 3 ≤ t := (nI_leI (a := 3) (b := t) (by omega) (by omega)).mp hq_12
                rcases (show t = 3 ∨ t = 4 by omega) with rfl | rfl
                · skip
                  refine lv_iload hx hb dX4_seek_178 (lv_at hl 6 rfl) ?_
                  refine lv_if_ne (tgt := 207) hx hb dX4_seek_180 (by decide) (fun hq_13 => absurd hq_13 (by decide)) (fun hq_13 => ?_)
                  refine lv_iload hx hb dX4_seek_183 (lv_at hl 5 rfl) ?_
                  refine lv_iconst (v := nI (3)) hx hb dX4_seek_185 (by decide) ?_
                  refine lv_icmp_gt (tgt := 207) hx hb dX4_seek_186 (by decide) (fun hq_14 => absurd hq_14 (by decide)) (fun hq_14 => ?_)
                  refine lv_aload_n hx hb dX4_seek_189 rfl (lv_at hl 0 rfl) ?_
                  refine r_get (C := RX4) (T := TX4) (N := 33) (v := .int (nI (S.1))) hx hb hts hown hK.1 hc (hlv _ rfl) (rfl) rfl rfl hinX4 24 (by decide) hf_128 (fun _ h9 => h9) (congrArg Value.int hLS.2.2.2.2.1) dX4_seek_190 ?_
                  refine lv_iload_n hx hb dX4_seek_193 rfl (lv_at hl 2 rfl) ?_
                  refine lv_icmp_ne (tgt := 207) hx hb dX4_seek_194 (by decide) (fun hq_15 => ?_) (fun hq_15 => ?_)
                  · have hq_15 : ¬ (S.1 = mx) := fun z => hq_15 ((nI_eq (a := S.1) (b := mx) (by omega) (by omega)).mpr z)
                    refine lv_iload hx hb dX4_seek_207 (lv_at hl 6 rfl) ?_
                    refine lv_if_ne (tgt := 222) hx hb dX4_seek_209 (by decide) (fun hq_16 => absurd hq_16 (by decide)) (fun hq_16 => ?_)
                    refine lv_iload hx hb dX4_seek_212 (lv_at hl 5 rfl) ?_
                    refine lv_iconst (v := nI (3)) hx hb dX4_seek_214 (by decide) ?_
                    refine lv_icmp_gt (tgt := 222) hx hb dX4_seek_215 (by decide) (fun hq_17 => absurd hq_17 (by decide)) (fun hq_17 => ?_)
                    refine lv_iconst (v := nI (1)) hx hb dX4_seek_218 (by decide) ?_
                    refine lv_goto (tgt := 223) hx hb dX4_seek_219 (by decide) ?_
                    refine lv_istore (lv' := [(4, .int (nI (1))), (0, .ref (a (100))), (1, .int (nI (k))), (2, .int (nI (mx))), (3, .int (nI (n))), (5, .int (nI (c))), (6, .int (nI (3))), (7, .int (nI (0)))]) hx hb dX4_seek_223 hl (by decide) rfl (fun ls hl => ?_)
                    refine lv_iload hx hb dX4_seek_225 (lv_at hl 0 rfl) ?_
                    refine lv_if_eq (tgt := 280) hx hb dX4_seek_227 (by decide) (fun hq_18 => absurd hq_18 (by decide)) (fun hq_18 => ?_)
                    have hst : S.1 < mx := by omega
                    refine lv_aload_n hx hb dX4_seek_230 rfl (lv_at hl 1 rfl) ?_
                    refine lv_dup hx hb dX4_seek_231 rfl ?_
                    refine r_get (C := RX4) (T := TX4) (N := 33) (v := .int (nI (S.1))) hx hb hts hown hK.1 hc (hlv _ rfl) (rfl) rfl rfl hinX4 24 (by decide) hf_128 (fun _ h9 => h9) (congrArg Value.int hLS.2.2.2.2.1) dX4_seek_232 ?_
                    refine lv_iconst (v := nI (1)) hx hb dX4_seek_235 (by decide) ?_
                    refine nv_iadd hx hb dX4_seek_236 ?_
                    refine r_put (C := RX4) (T := TX4) (N := 33) (R' := sfi R1 100 24 (nI (S.1 + 1))) hx hb hts hown hK.1 hc (hlv _ rfl) (rfl) rfl rfl hinX4 tyX4 tyX4_ok nmX4 24 (by decide) hf_128 (fun _ h9 => h9) rfl (tyX4_ok 24 (by decide)) rfl rfl dX4_seek_237 (fds_sfi (by decide) (by decide)) (fun _ h9 => ct_sfi h9) (fun H locs hc => ?_)
                    refine lv_aload_n hx hb dX4_seek_240 rfl (lv_at hl 1 rfl) ?_
                    refine r_get (C := RX4) (T := TX4) (N := 33) (v := .ref (a (126))) hx hb hts hown hK.1 hc (hlv _ rfl) (rfl) rfl rfl hinX4 26 (by decide) hf_67 (fun _ h9 => h9) (congrArg va_rf (hmr1.2 26 rfl)) dX4_seek_241 ?_
                    refine lv_iload_n hx hb dX4_seek_244 rfl (lv_at hl 4 rfl) ?_
                    refine lv_iload hx hb dX4_seek_245 (lv_at hl 6 rfl) ?_
                    refine r_iast hx hb hK.1 hc (hlv _ rfl) (rfl) (by decide) (by omega) dX4_seek_247 (fun H locs hc => ?_)
                    refine lv_aload_n hx hb dX4_seek_248 rfl (lv_at hl 1 rfl) ?_
                    refine lv_iload_n hx hb dX4_seek_249 rfl (lv_at hl 2 rfl) ?_
                    refine lv_iload hx hb dX4_seek_250 (lv_at hl 5 rfl) ?_
                    refine lv_iload hx hb dX4_seek_252 (lv_at hl 6 rfl) ?_
                    refine r_callv hc hA (va_runV (As := [.int (nI (k)), .int (nI (c)), .int (nI (3))]) (rest := []) ⟨hx, hb, hml, hown, hts⟩ (c_X4_tries_3 l D g lv a (sai (sfi R1 100 24 (nI (S.1 + 1))) 126 n (nI (3))) M hmr1 hM1 hI k c (by omega) F hLS.2.1 hF6 _) (cwV 3 hts gX4_seek_X4_tries rfl rfl rfl (by decide +kernel) ⟨Nat.le_of_ble_eq_true rfl, Nat.le_of_ble_eq_true rfl⟩) (r_preV hK hZ hc hA (hlv _ rfl) (rfl) rfl) rfl rfl hl.1 rfl (lv_room (Nat.le_of_ble_eq_true rfl)) dX4_seek_254 ⟨Nat.le_of_ble_eq_true rfl, Nat.le_of_ble_eq_true rfl⟩) (fun R' H locs hp hc => ?_)
                    have hRe := hp
                    rw [hRe] at hc
                    have hLS2 := ls_free (n := n) (t := 3) (c := c) hLS
                    have hfu := free_up (M := M) hce9 (by omega)
                    refine lv_iinc (v := nI (n + 1)) (lv' := [(3, .int (nI (n + 1))), (4, .int (nI (1))), (0, .ref (a (100))), (1, .int (nI (k))), (2, .int (nI (mx))), (5, .int (nI (c))), (6, .int (nI (3))), (7, .int (nI (0)))]) hx hb dX4_seek_257 hl (k := 4) rfl (nI_inc _ 1) (by decide) rfl (fun ls hl => ?_)
                    refine lv_aload_n hx hb dX4_seek_260 rfl (lv_at hl 2 rfl) ?_
                    refine r_get (C := RX4) (T := TX4) (N := 33) (v := .ref (a (125))) hx hb hts hown hK.1 hc (hlv _ rfl) (rfl) rfl rfl hinX4 25 (by decide) hf_64 (fun _ h9 => h9) (congrArg va_rf (hmr1.2 25 rfl)) dX4_seek_261 ?_
                    refine lv_iload_n hx hb dX4_seek_264 rfl (lv_at hl 0 rfl) ?_
                    refine lv_aload_n hx hb dX4_seek_265 rfl (lv_at hl 2 rfl) ?_
                    refine r_calli hc hA (va_runV (As := []) (rest := [.int (nI (n + 1)), .ref (a (125))]) ⟨hx, hb, hml, hown, hts⟩ (c_X4_firstCell l D g lv a (sfl (sai (sfi R1 100 24 (nI (S.1 + 1))) 126 n (nI (3))) 100 30 (lN (F ||| 2 ^ c))) M hmr1 hM1 hI T (F ||| 2 ^ c) hLS.1 rfl hT6 (Nat.or_lt_two_pow (n := 36) hF6 (Nat.pow_lt_pow_right (by decide) (by omega))) _) (cwV 0 hts gX4_seek_X4_firstCell rfl rfl rfl (by decide +kernel) ⟨Nat.le_of_ble_eq_true rfl, Nat.le_of_ble_eq_true rfl⟩) (r_preV hK hZ hc hA (hlv _ rfl) (rfl) rfl) rfl rfl hl.1 rfl (lv_room (Nat.le_of_ble_eq_true rfl)) dX4_seek_266 ⟨Nat.le_of_ble_eq_true rfl, Nat.le_of_ble_eq_true rfl⟩) (fun r R' H locs hp hc => ?_)
                    obtain ⟨hre, hRe⟩ := hp
                    rw [hRe] at hc
                    rw [hre]
                    refine r_iast hx hb hK.1 hc (hlv _ rfl) (rfl) (by decide) (by omega) dX4_seek_269 (fun H locs hc => ?_)
                    refine lv_aload_n hx hb dX4_seek_270 rfl (lv_at hl 2 rfl) ?_
                    refine r_get (C := RX4) (T := TX4) (N := 33) (v := .ref (a (126))) hx hb hts hown hK.1 hc (hlv _ rfl) (rfl) rfl rfl hinX4 26 (by decide) hf_67 (fun _ h9 => h9) (congrArg va_rf (hmr1.2 26 rfl)) dX4_seek_271 ?_
                    refine lv_iload_n hx hb dX4_seek_274 rfl (lv_at hl 0 rfl) ?_
                    refine lv_iconst (v := nI (0)) hx hb dX4_seek_275 (by decide) ?_
                    refine r_iast hx hb hK.1 hc (hlv _ rfl) (rfl) (by decide) (by omega) dX4_seek_276 (fun H locs hc => ?_)
                    refine lv_goto (tgt := 283) hx hb dX4_seek_277 (by decide) ?_
                    refine lv_goto (tgt := 58) hx hb dX4_seek_283 (by decide) ?_
                    have hGT2 := gt_free hGT hce9 (by omega)
                    refine ihE (n + 1) (T) (F ||| 2 ^ c) (pl) (stepS S) (sai (sai (sfl (sai (sfi R1 100 24 (nI (S.1 + 1))) 126 n (nI (3))) 100 30 (lN (F ||| 2 ^ c))) 125 (n + 1) (nI (fo (mW M * mD M) (T ||| (F ||| 2 ^ c))))) 126 (n + 1) (nI (0))) _ _ ls (by omega) hGT2 (si_step hSI hst) (ls_next hLS2) (by simp [q_fi_sfi, q_fi_sfl, q_fi_sfr, q_fi_sai, q_fi_sal, q_fi_saq, q_fl_sfi, q_fl_sfl, q_fl_sfr, q_fl_sai, q_fl_sal, q_fl_saq, q_fr_sfi, q_fr_sfl, q_fr_sfr, q_fr_sai, q_fr_sal, q_fr_saq, q_ai_sfi, q_ai_sfl, q_ai_sfr, q_ai_sai, q_ai_sal, q_ai_saq, q_al_sfi, q_al_sfl, q_al_sfr, q_al_sai, q_al_sal, q_al_saq, q_aq_sfi, q_aq_sfl, q_aq_sfr, q_aq_sai, q_aq_sal, q_aq_saq]) (by simp [q_fi_sfi, q_fi_sfl, q_fi_sfr, q_fi_sai, q_fi_sal, q_fi_saq, q_fl_sfi, q_fl_sfl, q_fl_sfr, q_fl_sai, q_fl_sal, q_fl_saq, q_fr_sfi, q_fr_sfl, q_fr_sfr, q_fr_sai, q_fr_sal, q_fr_saq, q_ai_sfi, q_ai_sfl, q_ai_sfr, q_ai_sai, q_ai_sal, q_ai_saq, q_al_sfi, q_al_sfl, q_al_sfr, q_al_sai, q_al_sal, q_al_saq, q_aq_sfi, q_aq_sfl, q_aq_sfr, q_aq_sai, q_aq_sal, q_aq_saq]) ((((hFS.sfi (by decide)).sai (by omega)).sfl.sai (by omega)).sai (by omega)) hc (lv_sub hl [2, 3, 4, 0, 1] rfl) (fun R2 H locs ls hLS3 hSB3 hFS3 hc hl => ?_)
                    rw [pk_m1] at hl
                    have hsb9 := sb_free (R := R1) (n := n) (t := 3) (v1 := nI (fo (mW M * mD M) (T ||| (F ||| 2 ^ c)))) (v2 := nI 0) (u1 := nI (S.1 + 1)) (x1 := lN (F ||| 2 ^ c))
                    have hcell3 : ai R2 125 n = nI c := ((hSB3 n (by omega)).1.trans hsb9.2.1).trans hcell
                    have htr3 : ai R2 126 n = nI (3) := (hSB3 n (by omega)).2.trans hsb9.2.2
                    have hM3 := hFS3.pk hM
                    have hmr3 := hFS3.mr hmr
                    refine lv_iload_n hx hb dX4_seek_58 rfl (lv_at hl 3 rfl) ?_
                    refine lv_if_lt (tgt := 286) hx hb dX4_seek_59 (by decide) (fun hq_23 => absurd hq_23 (nI_pos (by omega))) (fun hq_23 => ?_)
                    refine lv_aload_n hx hb dX4_seek_62 rfl (lv_at hl 0 rfl) ?_
                    refine r_get (C := RX4) (T := TX4) (N := 33) (v := .ref (a (125))) hx hb hts hown hK.1 hc (hlv _ rfl) (rfl) rfl rfl hinX4 25 (by decide) hf_64 (fun _ h9 => h9) (congrArg va_rf (hmr3.2 25 rfl)) dX4_seek_63 ?_
                    refine lv_iload_n hx hb dX4_seek_66 rfl (lv_at hl 3 rfl) ?_
                    refine r_iald (v := nI (c)) hx hb hK.1 hc (hlv _ rfl) (rfl) (by decide) (by omega) dX4_seek_67 hcell3 ?_
                    refine lv_istore (lv' := [(5, .int (nI (c))), (0, .ref (a (100))), (1, .int (nI (k))), (2, .int (nI (mx))), (3, .int (nI (n))), (4, .int (nI (0)))]) hx hb dX4_seek_68 hl (by decide) rfl (fun ls hl => ?_)
                    refine lv_aload_n hx hb dX4_seek_70 rfl (lv_at hl 1 rfl) ?_
                    refine r_get (C := RX4) (T := TX4) (N := 33) (v := .ref (a (126))) hx hb hts hown hK.1 hc (hlv _ rfl) (rfl) rfl rfl hinX4 26 (by decide) hf_67 (fun _ h9 => h9) (congrArg va_rf (hmr3.2 26 rfl)) dX4_seek_71 ?_
                    refine lv_iload_n hx hb dX4_seek_74 rfl (lv_at hl 4 rfl) ?_
                    refine r_iald (v := nI (3)) hx hb hK.1 hc (hlv _ rfl) (rfl) (by decide) (by omega) dX4_seek_75 htr3 ?_
                    refine lv_istore (lv' := [(6, .int (nI (3))), (5, .int (nI (c))), (0, .ref (a (100))), (1, .int (nI (k))), (2, .int (nI (mx))), (3, .int (nI (n))), (4, .int (nI (0)))]) hx hb dX4_seek_76 hl (by decide) rfl (fun ls hl => ?_)
                    refine lv_aload_n hx hb dX4_seek_78 rfl (lv_at hl 2 rfl) ?_
                    refine lv_iload_n hx hb dX4_seek_79 rfl (lv_at hl 3 rfl) ?_
                    refine lv_iload hx hb dX4_seek_80 (lv_at hl 1 rfl) ?_
                    refine lv_iload hx hb dX4_seek_82 (lv_at hl 0 rfl) ?_
                    refine r_callv hc hA (va_runV (As := [.int (nI (k)), .int (nI (c)), .int (nI (3))]) (rest := []) ⟨hx, hb, hml, hown, hts⟩ (c_X4_undo_3 l D g lv a R2 M hmr3 hM3 hI k c (by omega) F hLS3.2.1 hF6 (open_and hce9 (by omega)) _) (cwV 3 hts gX4_seek_X4_undo rfl rfl rfl (by decide +kernel) ⟨Nat.le_of_ble_eq_true rfl, Nat.le_of_ble_eq_true rfl⟩) (r_preV hK hZ hc hA (hlv _ rfl) (rfl) rfl) rfl rfl hl.1 rfl (lv_room (Nat.le_of_ble_eq_true rfl)) dX4_seek_84 ⟨Nat.le_of_ble_eq_true rfl, Nat.le_of_ble_eq_true rfl⟩) (fun R' H locs hp hc => ?_)
                    have hRe := hp
                    rw [hRe] at hc
                    refine lv_iload hx hb dX4_seek_87 (lv_at hl 6 rfl) ?_
                    refine lv_if_eq (tgt := 117) hx hb dX4_seek_89 (by decide) (fun hq_26 => ?_) (fun hq_26 => absurd hq_26 (by decide))
                    refine lv_iload hx hb dX4_seek_117 (lv_at hl 1 rfl) ?_
                    refine lv_aload_n hx hb dX4_seek_119 rfl (lv_at hl 2 rfl) ?_
                    refine r_get (C := RX4) (T := TX4) (N := 33) (v := .int (nI (mW M * mD M))) hx hb hts hown hK.1 hc (hlv _ rfl) (rfl) rfl rfl hinX4 2 (by decide) hf_86 (fun _ h9 => h9) (congrArg Value.int hM3.2.2.1) dX4_seek_120 ?_
                    refine lv_icmp_eq (tgt := 139) hx hb dX4_seek_123 (by decide) (fun hq_27 => absurd ((nI_eq (a := c) (b := mW M * mD M) (by omega) (by omega)).mp hq_27) (by omega)) (fun hq_27 => ?_)
                    refine lv_iload hx hb dX4_seek_126 (lv_at hl 6 rfl) ?_
                    refine lv_if_eq (tgt := 143) hx hb dX4_seek_128 (by decide) (fun hq_28 => ?_) (fun hq_28 => absurd hq_28 (by decide))
                    refine lv_iconst (v := nI (0)) hx hb dX4_seek_143 (by decide) ?_
                    refine lv_istore (lv' := [(7, .int (nI (0))), (6, .int (nI (3))), (5, .int (nI (c))), (0, .ref (a (100))), (1, .int (nI (k))), (2, .int (nI (mx))), (3, .int (nI (n))), (4, .int (nI (0)))]) hx hb dX4_seek_144 hl (by decide) rfl (fun ls hl => ?_)
                    refine lv_iinc (v := nI (4)) (lv' := [(6, .int (nI (4))), (7, .int (nI (0))), (5, .int (nI (c))), (0, .ref (a (100))), (1, .int (nI (k))), (2, .int (nI (mx))), (3, .int (nI (n))), (4, .int (nI (0)))]) hx hb dX4_seek_146 hl (k := 1) rfl (nI_inc _ 1) (by decide) rfl (fun ls hl => ?_)
                    have hSI3 := goS_si hI hk d _ _ _ hGT2.gx (si_step hSI hst)
                    exact ihm _ _ (sfl R2 100 30 (lN (F))) _ _ ls (by omega) (by omega) (by omega) hSI3 (ls_bfree hLS3) hcell3 (fun j hj => ⟨((hSB3 j (by omega)).1.trans (hsb9.1 j hj).1).trans (hSB j hj).1, ((hSB3 j (by omega)).2.trans (hsb9.1 j hj).2).trans (hSB j hj).2⟩) hFS3.sfl hc (lv_sub hl [3, 4, 5, 6, 2, 0, 1] rfl) (fun R2 H2 locs2 ls2 h1 h2 h3 h4 h5 => Km R2 H2 locs2 ls2 (by rw [rS_free hst, Nat.or_assoc]; exact h1) h2 h3 h4 h5)
                  · have hq_15 : S.1 = mx := (nI_eq (a := S.1) (b := mx) (by omega) (by omega)).mp hq_15
                    refine lv_aload_n hx hb dX4_seek_197 rfl (lv_at hl 0 rfl) ?_
                    refine r_get (C := RX4) (T := TX4) (N := 33) (v := .ref (a (111))) hx hb hts hown hK.1 hc (hlv _ rfl) (rfl) rfl rfl hinX4 11 (by decide) hf_25 (fun _ h9 => h9) (congrArg va_rf (hmr1.2 11 rfl)) dX4_seek_198 ?_
                    refine lv_iload_n hx hb dX4_seek_201 rfl (lv_at hl 1 rfl) ?_
                    refine lv_iconst (v := nI (0)) hx hb dX4_seek_202 (by decide) ?_
                    refine r_zast hx hb hK.1 hc (hlv _ rfl) (rfl) (by decide) (by omega) (by decide) dX4_seek_203 (fun H locs hc => ?_)
                    refine lv_iconst (v := nI (1)) hx hb dX4_seek_204 (by decide) ?_
                    refine lv_istore (lv' := [(7, .int (nI (1))), (0, .ref (a (100))), (1, .int (nI (k))), (2, .int (nI (mx))), (3, .int (nI (n))), (5, .int (nI (c))), (6, .int (nI (3)))]) hx hb dX4_seek_205 hl (by decide) rfl (fun ls hl => ?_)
                    refine lv_iload hx hb dX4_seek_207 (lv_at hl 0 rfl) ?_
                    refine lv_if_ne (tgt := 222) hx hb dX4_seek_209 (by decide) (fun hq_29 => ?_) (fun hq_29 => absurd hq_29 (by decide))
                    refine lv_iconst (v := nI (0)) hx hb dX4_seek_222 (by decide) ?_
                    refine lv_istore (lv' := [(4, .int (nI (0))), (7, .int (nI (1))), (0, .ref (a (100))), (1, .int (nI (k))), (2, .int (nI (mx))), (3, .int (nI (n))), (5, .int (nI (c))), (6, .int (nI (3)))]) hx hb dX4_seek_223 hl (by decide) rfl (fun ls hl => ?_)
                    refine lv_iload hx hb dX4_seek_225 (lv_at hl 0 rfl) ?_
                    refine lv_if_eq (tgt := 280) hx hb dX4_seek_227 (by decide) (fun hq_30 => ?_) (fun hq_30 => absurd hq_30 (by decide))
                    refine lv_iinc (v := nI (n) + (-1)) (lv' := [(3, .int (nI (n) + (-1))), (4, .int (nI (0))), (7, .int (nI (1))), (0, .ref (a (100))), (1, .int (nI (k))), (2, .int (nI (mx))), (5, .int (nI (c))), (6, .int (nI (3)))]) hx hb dX4_seek_280 hl (k := 5) rfl rfl (by decide) rfl (fun ls hl => ?_)
                    refine lv_goto (tgt := 58) hx hb dX4_seek_283 (by decide) ?_
                    exact Km (sai R1 111 k (nI (0))) _ _ ls (by rw [rS_lack (by omega) (by omega) (by omega)]; exact ls_lack hLS) hSB (hFS.sai (by omega)) hc (lv_sub hl [3, 4, 5, 0, 1] rfl)
                · skip
                  refine lv_iload hx hb dX4_seek_178 (lv_at hl 6 rfl) ?_
                  refine lv_if_ne (tgt := 207) hx hb dX4_seek_180 (by decide) (fun hq_31 => absurd hq_31 (by decide)) (fun hq_31 => ?_)
                  refine lv_iload hx hb dX4_seek_183 (lv_at hl 5 rfl) ?_
                  refine lv_iconst (v := nI (3)) hx hb dX4_seek_185 (by decide) ?_
                  refine lv_icmp_gt (tgt := 207) hx hb dX4_seek_186 (by decide) (fun hq_32 => ?_) (fun hq_32 => absurd hq_32 (by decide))
                  refine lv_iload hx hb dX4_seek_207 (lv_at hl 6 rfl) ?_
                  refine lv_if_ne (tgt := 222) hx hb dX4_seek_209 (by decide) (fun hq_33 => absurd hq_33 (by decide)) (fun hq_33 => ?_)
                  refine lv_iload hx hb dX4_seek_212 (lv_at hl 5 rfl) ?_
                  refine lv_iconst (v := nI (3)) hx hb dX4_seek_214 (by decide) ?_
                  refine lv_icmp_gt (tgt := 222) hx hb dX4_seek_215 (by decide) (fun hq_34 => ?_) (fun hq_34 => absurd hq_34 (by decide))
                  refine lv_iconst (v := nI (0)) hx hb dX4_seek_222 (by decide) ?_
                  refine lv_istore (lv' := [(4, .int (nI (0))), (0, .ref (a (100))), (1, .int (nI (k))), (2, .int (nI (mx))), (3, .int (nI (n))), (5, .int (nI (c))), (6, .int (nI (4))), (7, .int (nI (0)))]) hx hb dX4_seek_223 hl (by decide) rfl (fun ls hl => ?_)
                  refine lv_iload hx hb dX4_seek_225 (lv_at hl 0 rfl) ?_
                  refine lv_if_eq (tgt := 280) hx hb dX4_seek_227 (by decide) (fun hq_35 => ?_) (fun hq_35 => absurd hq_35 (by decide))
                  refine lv_iinc (v := nI (n) + (-1)) (lv' := [(3, .int (nI (n) + (-1))), (4, .int (nI (0))), (0, .ref (a (100))), (1, .int (nI (k))), (2, .int (nI (mx))), (5, .int (nI (c))), (6, .int (nI (4))), (7, .int (nI (0)))]) hx hb dX4_seek_280 hl (k := 4) rfl rfl (by decide) rfl (fun ls hl => ?_)
                  refine lv_goto (tgt := 58) hx hb dX4_seek_283 (by decide) ?_
                  exact Km R1 _ _ ls hLS hSB hFS hc (lv_sub hl [2, 3, 4, 0, 1] rfl)
              · have hq_12 : ¬ (3 ≤ t) := fun z => hq_12 ((nI_leI (a := 3) (b := t) (by omega) (by omega)).mpr z)
                obtain ⟨y, rfl⟩ : ∃ y, t = y + 1 := ⟨t - 1, by omega⟩
                refine lv_aload_n hx hb dX4_seek_160 rfl (lv_at hl 0 rfl) ?_
                refine lv_iload_n hx hb dX4_seek_161 rfl (lv_at hl 1 rfl) ?_
                refine lv_iload hx hb dX4_seek_162 (lv_at hl 4 rfl) ?_
                refine lv_iload hx hb dX4_seek_164 (lv_at hl 5 rfl) ?_
                refine r_calli hc hA (va_runV (As := [.int (nI (k)), .int (nI (c)), .int (nI (y + 1))]) (rest := []) ⟨hx, hb, hml, hown, hts⟩ (c_X4_canTry l D g lv a R1 M hmr1 hM1 hI k c y hk (by omega) (by omega) T hLS.1 hT6 _) (cwV 3 hts gX4_seek_X4_canTry rfl rfl rfl (by decide +kernel) ⟨Nat.le_of_ble_eq_true rfl, Nat.le_of_ble_eq_true rfl⟩) (r_preV hK hZ hc hA (hlv _ rfl) (rfl) rfl) rfl rfl hl.1 rfl (lv_room (Nat.le_of_ble_eq_true rfl)) dX4_seek_166 ⟨Nat.le_of_ble_eq_true rfl, Nat.le_of_ble_eq_true rfl⟩) (fun r R' H locs hp hc => ?_)
                obtain ⟨hRe, ⟨hkk, rfl⟩ | ⟨hkk, rfl⟩⟩ := hp
                · rw [hRe] at hc
                  have hk8 : key9 M k c (y + 1) (T ||| F) := (key_TF (by rw [hce9]; exact hGT.2.2.1)).mpr (hkk.elim (fun h => by omega) id)
                  refine lv_if_ne (tgt := 178) hx hb dX4_seek_169 (by decide) (fun hq_38 => ?_) (fun hq_38 => absurd hq_38 (by decide))
                  refine lv_iload hx hb dX4_seek_178 (lv_at hl 6 rfl) ?_
                  refine lv_if_ne (tgt := 207) hx hb dX4_seek_180 (by decide) (fun hq_39 => absurd hq_39 (by decide)) (fun hq_39 => ?_)
                  refine lv_iload hx hb dX4_seek_183 (lv_at hl 5 rfl) ?_
                  refine lv_iconst (v := nI (3)) hx hb dX4_seek_185 (by decide) ?_
                  refine lv_icmp_gt (tgt := 207) hx hb dX4_seek_186 (by decide) (fun hq_40 => absurd ((nI_ltI (a := 3) (b := y + 1) (by omega) (by omega)).mp hq_40) (by omega)) (fun hq_40 => ?_)
                  refine lv_aload_n hx hb dX4_seek_189 rfl (lv_at hl 0 rfl) ?_
                  refine r_get (C := RX4) (T := TX4) (N := 33) (v := .int (nI (S.1))) hx hb hts hown hK.1 hc (hlv _ rfl) (rfl) rfl rfl hinX4 24 (by decide) hf_128 (fun _ h9 => h9) (congrArg Value.int hLS.2.2.2.2.1) dX4_seek_190 ?_
                  refine lv_iload_n hx hb dX4_seek_193 rfl (lv_at hl 2 rfl) ?_
                  refine lv_icmp_ne (tgt := 207) hx hb dX4_seek_194 (by decide) (fun hq_41 => ?_) (fun hq_41 => ?_)
                  · have hq_41 : ¬ (S.1 = mx) := fun z => hq_41 ((nI_eq (a := S.1) (b := mx) (by omega) (by omega)).mpr z)
                    refine lv_iload hx hb dX4_seek_207 (lv_at hl 6 rfl) ?_
                    refine lv_if_ne (tgt := 222) hx hb dX4_seek_209 (by decide) (fun hq_42 => absurd hq_42 (by decide)) (fun hq_42 => ?_)
                    refine lv_iload hx hb dX4_seek_212 (lv_at hl 5 rfl) ?_
                    refine lv_iconst (v := nI (3)) hx hb dX4_seek_214 (by decide) ?_
                    refine lv_icmp_gt (tgt := 222) hx hb dX4_seek_215 (by decide) (fun hq_43 => absurd ((nI_ltI (a := 3) (b := y + 1) (by omega) (by omega)).mp hq_43) (by omega)) (fun hq_43 => ?_)
                    refine lv_iconst (v := nI (1)) hx hb dX4_seek_218 (by decide) ?_
                    refine lv_goto (tgt := 223) hx hb dX4_seek_219 (by decide) ?_
                    refine lv_istore (lv' := [(4, .int (nI (1))), (0, .ref (a (100))), (1, .int (nI (k))), (2, .int (nI (mx))), (3, .int (nI (n))), (5, .int (nI (c))), (6, .int (nI (y + 1))), (7, .int (nI (0)))]) hx hb dX4_seek_223 hl (by decide) rfl (fun ls hl => ?_)
                    refine lv_iload hx hb dX4_seek_225 (lv_at hl 0 rfl) ?_
                    refine lv_if_eq (tgt := 280) hx hb dX4_seek_227 (by decide) (fun hq_44 => absurd hq_44 (by decide)) (fun hq_44 => ?_)
                    have hst : S.1 < mx := by omega
                    have hkT : cel M k c y &&& T = 0 := by have h9 := ((key_TF (M := M) (k := k) (t := y + 1) (T := T) (by rw [hce9]; exact hGT.2.2.1)).mp hk8).2.2; rw [Nat.add_sub_cancel] at h9; exact h9
                    have hk7 : cel M k c y ≠ 0 := by have h9 := hk8.2.1; rw [Nat.add_sub_cancel] at h9; exact h9
                    refine lv_aload_n hx hb dX4_seek_230 rfl (lv_at hl 1 rfl) ?_
                    refine lv_dup hx hb dX4_seek_231 rfl ?_
                    refine r_get (C := RX4) (T := TX4) (N := 33) (v := .int (nI (S.1))) hx hb hts hown hK.1 hc (hlv _ rfl) (rfl) rfl rfl hinX4 24 (by decide) hf_128 (fun _ h9 => h9) (congrArg Value.int hLS.2.2.2.2.1) dX4_seek_232 ?_
                    refine lv_iconst (v := nI (1)) hx hb dX4_seek_235 (by decide) ?_
                    refine nv_iadd hx hb dX4_seek_236 ?_
                    refine r_put (C := RX4) (T := TX4) (N := 33) (R' := sfi R1 100 24 (nI (S.1 + 1))) hx hb hts hown hK.1 hc (hlv _ rfl) (rfl) rfl rfl hinX4 tyX4 tyX4_ok nmX4 24 (by decide) hf_128 (fun _ h9 => h9) rfl (tyX4_ok 24 (by decide)) rfl rfl dX4_seek_237 (fds_sfi (by decide) (by decide)) (fun _ h9 => ct_sfi h9) (fun H locs hc => ?_)
                    refine lv_aload_n hx hb dX4_seek_240 rfl (lv_at hl 1 rfl) ?_
                    refine r_get (C := RX4) (T := TX4) (N := 33) (v := .ref (a (126))) hx hb hts hown hK.1 hc (hlv _ rfl) (rfl) rfl rfl hinX4 26 (by decide) hf_67 (fun _ h9 => h9) (congrArg va_rf (hmr1.2 26 rfl)) dX4_seek_241 ?_
                    refine lv_iload_n hx hb dX4_seek_244 rfl (lv_at hl 4 rfl) ?_
                    refine lv_iload hx hb dX4_seek_245 (lv_at hl 6 rfl) ?_
                    refine r_iast hx hb hK.1 hc (hlv _ rfl) (rfl) (by decide) (by omega) dX4_seek_247 (fun H locs hc => ?_)
                    refine lv_aload_n hx hb dX4_seek_248 rfl (lv_at hl 1 rfl) ?_
                    refine lv_iload_n hx hb dX4_seek_249 rfl (lv_at hl 2 rfl) ?_
                    refine lv_iload hx hb dX4_seek_250 (lv_at hl 5 rfl) ?_
                    refine lv_iload hx hb dX4_seek_252 (lv_at hl 6 rfl) ?_
                    refine r_callv hc hA (va_runV (As := [.int (nI (k)), .int (nI (c)), .int (nI (y + 1))]) (rest := []) ⟨hx, hb, hml, hown, hts⟩ (c_X4_tries l D g lv a (sai (sfi R1 100 24 (nI (S.1 + 1))) 126 n (nI (y + 1))) M hmr1 hM1 hI k c y pl.length hk (by omega) (by omega) T hLS.1 hT6 hLS.2.2.1 (by omega) _) (cwV 3 hts gX4_seek_X4_tries rfl rfl rfl (by decide +kernel) ⟨Nat.le_of_ble_eq_true rfl, Nat.le_of_ble_eq_true rfl⟩) (r_preV hK hZ hc hA (hlv _ rfl) (rfl) rfl) rfl rfl hl.1 rfl (lv_room (Nat.le_of_ble_eq_true rfl)) dX4_seek_254 ⟨Nat.le_of_ble_eq_true rfl, Nat.le_of_ble_eq_true rfl⟩) (fun R' H locs hp hc => ?_)
                    have hRe := hp
                    rw [hRe] at hc
                    have hLS2 := ls_box (n := n) (t := y + 1) (c := c) (y := y) hLS
                    have hfu := box_up hI hk hce9 (by omega) hk7
                    refine lv_iinc (v := nI (n + 1)) (lv' := [(3, .int (nI (n + 1))), (4, .int (nI (1))), (0, .ref (a (100))), (1, .int (nI (k))), (2, .int (nI (mx))), (5, .int (nI (c))), (6, .int (nI (y + 1))), (7, .int (nI (0)))]) hx hb dX4_seek_257 hl (k := 4) rfl (nI_inc _ 1) (by decide) rfl (fun ls hl => ?_)
                    refine lv_aload_n hx hb dX4_seek_260 rfl (lv_at hl 2 rfl) ?_
                    refine r_get (C := RX4) (T := TX4) (N := 33) (v := .ref (a (125))) hx hb hts hown hK.1 hc (hlv _ rfl) (rfl) rfl rfl hinX4 25 (by decide) hf_64 (fun _ h9 => h9) (congrArg va_rf (hmr1.2 25 rfl)) dX4_seek_261 ?_
                    refine lv_iload_n hx hb dX4_seek_264 rfl (lv_at hl 0 rfl) ?_
                    refine lv_aload_n hx hb dX4_seek_265 rfl (lv_at hl 2 rfl) ?_
                    refine r_calli hc hA (va_runV (As := []) (rest := [.int (nI (n + 1)), .ref (a (125))]) ⟨hx, hb, hml, hown, hts⟩ (c_X4_firstCell l D g lv a (sfi (sai (sai (sfl (sai (sfi R1 100 24 (nI (S.1 + 1))) 126 n (nI (y + 1))) 100 29 (lN (T ||| cel M k c y))) 127 pl.length (nI (c))) 128 pl.length (nI (y))) 100 31 (nI (pl.length + 1))) M hmr1 hM1 hI (T ||| cel M k c y) F rfl hLS.2.1 (Nat.or_lt_two_pow (n := 36) hT6 (Nat.lt_of_lt_of_le cel_lt (p36 hce.2))) hF6 _) (cwV 0 hts gX4_seek_X4_firstCell rfl rfl rfl (by decide +kernel) ⟨Nat.le_of_ble_eq_true rfl, Nat.le_of_ble_eq_true rfl⟩) (r_preV hK hZ hc hA (hlv _ rfl) (rfl) rfl) rfl rfl hl.1 rfl (lv_room (Nat.le_of_ble_eq_true rfl)) dX4_seek_266 ⟨Nat.le_of_ble_eq_true rfl, Nat.le_of_ble_eq_true rfl⟩) (fun r R' H locs hp hc => ?_)
                    obtain ⟨hre, hRe⟩ := hp
                    rw [hRe] at hc
                    rw [hre]
                    refine r_iast hx hb hK.1 hc (hlv _ rfl) (rfl) (by decide) (by omega) dX4_seek_269 (fun H locs hc => ?_)
                    refine lv_aload_n hx hb dX4_seek_270 rfl (lv_at hl 2 rfl) ?_
                    refine r_get (C := RX4) (T := TX4) (N := 33) (v := .ref (a (126))) hx hb hts hown hK.1 hc (hlv _ rfl) (rfl) rfl rfl hinX4 26 (by decide) hf_67 (fun _ h9 => h9) (congrArg va_rf (hmr1.2 26 rfl)) dX4_seek_271 ?_
                    refine lv_iload_n hx hb dX4_seek_274 rfl (lv_at hl 0 rfl) ?_
                    refine lv_iconst (v := nI (0)) hx hb dX4_seek_275 (by decide) ?_
                    refine r_iast hx hb hK.1 hc (hlv _ rfl) (rfl) (by decide) (by omega) dX4_seek_276 (fun H locs hc => ?_)
                    refine lv_goto (tgt := 283) hx hb dX4_seek_277 (by decide) ?_
                    refine lv_goto (tgt := 58) hx hb dX4_seek_283 (by decide) ?_
                    have hGT2 := gt_box hI hk hGT hce9 (by omega) (by omega) hk8.2.1 hkT
                    refine ihE (n + 1) (T ||| cel M k c y) (F) (pl ++ [(c, y)]) (stepS S) (sai (sai (sfi (sai (sai (sfl (sai (sfi R1 100 24 (nI (S.1 + 1))) 126 n (nI (y + 1))) 100 29 (lN (T ||| cel M k c y))) 127 pl.length (nI (c))) 128 pl.length (nI (y))) 100 31 (nI (pl.length + 1))) 125 (n + 1) (nI (fo (mW M * mD M) (T ||| cel M k c y ||| F)))) 126 (n + 1) (nI (0))) _ _ ls (by omega) hGT2 (si_step hSI hst) (ls_next hLS2) (by simp [q_fi_sfi, q_fi_sfl, q_fi_sfr, q_fi_sai, q_fi_sal, q_fi_saq, q_fl_sfi, q_fl_sfl, q_fl_sfr, q_fl_sai, q_fl_sal, q_fl_saq, q_fr_sfi, q_fr_sfl, q_fr_sfr, q_fr_sai, q_fr_sal, q_fr_saq, q_ai_sfi, q_ai_sfl, q_ai_sfr, q_ai_sai, q_ai_sal, q_ai_saq, q_al_sfi, q_al_sfl, q_al_sfr, q_al_sai, q_al_sal, q_al_saq, q_aq_sfi, q_aq_sfl, q_aq_sfr, q_aq_sai, q_aq_sal, q_aq_saq]) (by simp [q_fi_sfi, q_fi_sfl, q_fi_sfr, q_fi_sai, q_fi_sal, q_fi_saq, q_fl_sfi, q_fl_sfl, q_fl_sfr, q_fl_sai, q_fl_sal, q_fl_saq, q_fr_sfi, q_fr_sfl, q_fr_sfr, q_fr_sai, q_fr_sal, q_fr_saq, q_ai_sfi, q_ai_sfl, q_ai_sfr, q_ai_sai, q_ai_sal, q_ai_saq, q_al_sfi, q_al_sfl, q_al_sfr, q_al_sai, q_al_sal, q_al_saq, q_aq_sfi, q_aq_sfl, q_aq_sfr, q_aq_sai, q_aq_sal, q_aq_saq]) (((((((hFS.sfi (by decide)).sai (by omega)).sfl.sai (by omega)).sai (by omega)).sfi (by decide)).sai (by omega)).sai (by omega)) hc (lv_sub hl [2, 3, 4, 0, 1] rfl) (fun R2 H locs ls hLS3 hSB3 hFS3 hc hl => ?_)
                    rw [pk_m1] at hl
                    have hsb9 := sb_box (R := R1) (n := n) (t := y + 1) (L := pl.length) (c := c) (y := y) (v1 := nI (fo (mW M * mD M) (T ||| cel M k c y ||| F))) (v2 := nI 0) (u1 := nI (S.1 + 1)) (w1 := nI (pl.length + 1)) (x1 := lN (T ||| cel M k c y))
                    have hcell3 : ai R2 125 n = nI c := ((hSB3 n (by omega)).1.trans hsb9.2.1).trans hcell
                    have htr3 : ai R2 126 n = nI (y + 1) := (hSB3 n (by omega)).2.trans hsb9.2.2
                    have hM3 := hFS3.pk hM
                    have hmr3 := hFS3.mr hmr
                    refine lv_iload_n hx hb dX4_seek_58 rfl (lv_at hl 3 rfl) ?_
                    refine lv_if_lt (tgt := 286) hx hb dX4_seek_59 (by decide) (fun hq_49 => absurd hq_49 (nI_pos (by omega))) (fun hq_49 => ?_)
                    refine lv_aload_n hx hb dX4_seek_62 rfl (lv_at hl 0 rfl) ?_
                    refine r_get (C := RX4) (T := TX4) (N := 33) (v := .ref (a (125))) hx hb hts hown hK.1 hc (hlv _ rfl) (rfl) rfl rfl hinX4 25 (by decide) hf_64 (fun _ h9 => h9) (congrArg va_rf (hmr3.2 25 rfl)) dX4_seek_63 ?_
                    refine lv_iload_n hx hb dX4_seek_66 rfl (lv_at hl 3 rfl) ?_
                    refine r_iald (v := nI (c)) hx hb hK.1 hc (hlv _ rfl) (rfl) (by decide) (by omega) dX4_seek_67 hcell3 ?_
                    refine lv_istore (lv' := [(5, .int (nI (c))), (0, .ref (a (100))), (1, .int (nI (k))), (2, .int (nI (mx))), (3, .int (nI (n))), (4, .int (nI (0)))]) hx hb dX4_seek_68 hl (by decide) rfl (fun ls hl => ?_)
                    refine lv_aload_n hx hb dX4_seek_70 rfl (lv_at hl 1 rfl) ?_
                    refine r_get (C := RX4) (T := TX4) (N := 33) (v := .ref (a (126))) hx hb hts hown hK.1 hc (hlv _ rfl) (rfl) rfl rfl hinX4 26 (by decide) hf_67 (fun _ h9 => h9) (congrArg va_rf (hmr3.2 26 rfl)) dX4_seek_71 ?_
                    refine lv_iload_n hx hb dX4_seek_74 rfl (lv_at hl 4 rfl) ?_
                    refine r_iald (v := nI (y + 1)) hx hb hK.1 hc (hlv _ rfl) (rfl) (by decide) (by omega) dX4_seek_75 htr3 ?_
                    refine lv_istore (lv' := [(6, .int (nI (y + 1))), (5, .int (nI (c))), (0, .ref (a (100))), (1, .int (nI (k))), (2, .int (nI (mx))), (3, .int (nI (n))), (4, .int (nI (0)))]) hx hb dX4_seek_76 hl (by decide) rfl (fun ls hl => ?_)
                    refine lv_aload_n hx hb dX4_seek_78 rfl (lv_at hl 2 rfl) ?_
                    refine lv_iload_n hx hb dX4_seek_79 rfl (lv_at hl 3 rfl) ?_
                    refine lv_iload hx hb dX4_seek_80 (lv_at hl 1 rfl) ?_
                    refine lv_iload hx hb dX4_seek_82 (lv_at hl 0 rfl) ?_
                    refine r_callv hc hA (va_runV (As := [.int (nI (k)), .int (nI (c)), .int (nI (y + 1))]) (rest := []) ⟨hx, hb, hml, hown, hts⟩ (c_X4_undo l D g lv a R2 M hmr3 hM3 hI k c y pl.length hk (by omega) (by omega) T hLS3.1 hT6 (by rw [Nat.and_comm]; exact hkT) (by rw [hLS3.2.2.1]; simp) _) (cwV 3 hts gX4_seek_X4_undo rfl rfl rfl (by decide +kernel) ⟨Nat.le_of_ble_eq_true rfl, Nat.le_of_ble_eq_true rfl⟩) (r_preV hK hZ hc hA (hlv _ rfl) (rfl) rfl) rfl rfl hl.1 rfl (lv_room (Nat.le_of_ble_eq_true rfl)) dX4_seek_84 ⟨Nat.le_of_ble_eq_true rfl, Nat.le_of_ble_eq_true rfl⟩) (fun R' H locs hp hc => ?_)
                    have hRe := hp
                    rw [hRe] at hc
                    refine lv_iload hx hb dX4_seek_87 (lv_at hl 6 rfl) ?_
                    refine lv_if_eq (tgt := 117) hx hb dX4_seek_89 (by decide) (fun hq_52 => ?_) (fun hq_52 => absurd hq_52 (by decide))
                    refine lv_iload hx hb dX4_seek_117 (lv_at hl 1 rfl) ?_
                    refine lv_aload_n hx hb dX4_seek_119 rfl (lv_at hl 2 rfl) ?_
                    refine r_get (C := RX4) (T := TX4) (N := 33) (v := .int (nI (mW M * mD M))) hx hb hts hown hK.1 hc (hlv _ rfl) (rfl) rfl rfl hinX4 2 (by decide) hf_86 (fun _ h9 => h9) (congrArg Value.int hM3.2.2.1) dX4_seek_120 ?_
                    refine lv_icmp_eq (tgt := 139) hx hb dX4_seek_123 (by decide) (fun hq_53 => absurd ((nI_eq (a := c) (b := mW M * mD M) (by omega) (by omega)).mp hq_53) (by omega)) (fun hq_53 => ?_)
                    refine lv_iload hx hb dX4_seek_126 (lv_at hl 6 rfl) ?_
                    refine lv_if_eq (tgt := 143) hx hb dX4_seek_128 (by decide) (fun hq_54 => ?_) (fun hq_54 => absurd hq_54 (by decide))
                    refine lv_iconst (v := nI (0)) hx hb dX4_seek_143 (by decide) ?_
                    refine lv_istore (lv' := [(7, .int (nI (0))), (6, .int (nI (y + 1))), (5, .int (nI (c))), (0, .ref (a (100))), (1, .int (nI (k))), (2, .int (nI (mx))), (3, .int (nI (n))), (4, .int (nI (0)))]) hx hb dX4_seek_144 hl (by decide) rfl (fun ls hl => ?_)
                    refine lv_iinc (v := nI (y + 1 + 1)) (lv' := [(6, .int (nI (y + 1 + 1))), (7, .int (nI (0))), (5, .int (nI (c))), (0, .ref (a (100))), (1, .int (nI (k))), (2, .int (nI (mx))), (3, .int (nI (n))), (4, .int (nI (0)))]) hx hb dX4_seek_146 hl (k := 1) rfl (nI_inc _ 1) (by decide) rfl (fun ls hl => ?_)
                    have hSI3 := goS_si hI hk d _ _ _ hGT2.gx (si_step hSI hst)
                    exact ihm _ _ (sfl (sfi R2 100 31 (nI (pl.length))) 100 29 (lN (T))) _ _ ls (by omega) (by omega) (by omega) hSI3 (ls_back hLS3) hcell3 (fun j hj => ⟨((hSB3 j (by omega)).1.trans (hsb9.1 j hj).1).trans (hSB j hj).1, ((hSB3 j (by omega)).2.trans (hsb9.1 j hj).2).trans (hSB j hj).2⟩) (hFS3.sfi (by decide)).sfl hc (lv_sub hl [3, 4, 5, 6, 2, 0, 1] rfl) (fun R2 H2 locs2 ls2 h1 h2 h3 h4 h5 => Km R2 H2 locs2 ls2 (by rw [rS_box (by omega) (by omega) hk8 hst, Nat.add_sub_cancel, ← or_sw]; exact h1) h2 h3 h4 h5)
                  · have hq_41 : S.1 = mx := (nI_eq (a := S.1) (b := mx) (by omega) (by omega)).mp hq_41
                    refine lv_aload_n hx hb dX4_seek_197 rfl (lv_at hl 0 rfl) ?_
                    refine r_get (C := RX4) (T := TX4) (N := 33) (v := .ref (a (111))) hx hb hts hown hK.1 hc (hlv _ rfl) (rfl) rfl rfl hinX4 11 (by decide) hf_25 (fun _ h9 => h9) (congrArg va_rf (hmr1.2 11 rfl)) dX4_seek_198 ?_
                    refine lv_iload_n hx hb dX4_seek_201 rfl (lv_at hl 1 rfl) ?_
                    refine lv_iconst (v := nI (0)) hx hb dX4_seek_202 (by decide) ?_
                    refine r_zast hx hb hK.1 hc (hlv _ rfl) (rfl) (by decide) (by omega) (by decide) dX4_seek_203 (fun H locs hc => ?_)
                    refine lv_iconst (v := nI (1)) hx hb dX4_seek_204 (by decide) ?_
                    refine lv_istore (lv' := [(7, .int (nI (1))), (0, .ref (a (100))), (1, .int (nI (k))), (2, .int (nI (mx))), (3, .int (nI (n))), (5, .int (nI (c))), (6, .int (nI (y + 1)))]) hx hb dX4_seek_205 hl (by decide) rfl (fun ls hl => ?_)
                    refine lv_iload hx hb dX4_seek_207 (lv_at hl 0 rfl) ?_
                    refine lv_if_ne (tgt := 222) hx hb dX4_seek_209 (by decide) (fun hq_55 => ?_) (fun hq_55 => absurd hq_55 (by decide))
                    refine lv_iconst (v := nI (0)) hx hb dX4_seek_222 (by decide) ?_
                    refine lv_istore (lv' := [(4, .int (nI (0))), (7, .int (nI (1))), (0, .ref (a (100))), (1, .int (nI (k))), (2, .int (nI (mx))), (3, .int (nI (n))), (5, .int (nI (c))), (6, .int (nI (y + 1)))]) hx hb dX4_seek_223 hl (by decide) rfl (fun ls hl => ?_)
                    refine lv_iload hx hb dX4_seek_225 (lv_at hl 0 rfl) ?_
                    refine lv_if_eq (tgt := 280) hx hb dX4_seek_227 (by decide) (fun hq_56 => ?_) (fun hq_56 => absurd hq_56 (by decide))
                    refine lv_iinc (v := nI (n) + (-1)) (lv' := [(3, .int (nI (n) + (-1))), (4, .int (nI (0))), (7, .int (nI (1))), (0, .ref (a (100))), (1, .int (nI (k))), (2, .int (nI (mx))), (5, .int (nI (c))), (6, .int (nI (y + 1)))]) hx hb dX4_seek_280 hl (k := 5) rfl rfl (by decide) rfl (fun ls hl => ?_)
                    refine lv_goto (tgt := 58) hx hb dX4_seek_283 (by decide) ?_
                    exact Km (sai R1 111 k (nI (0))) _ _ ls (by rw [rS_lack (by omega) (by omega) (by omega)]; exact ls_lack hLS) hSB (hFS.sai (by omega)) hc (lv_sub hl [3, 4, 5, 0, 1] rfl)
                · rw [hRe] at hc
                  have hk8 : ¬ key9 M k c (y + 1) (T ||| F) := fun z => hkk (Or.inr ((key_TF (by rw [hce9]; exact hGT.2.2.1)).mp z))
                  refine lv_if_ne (tgt := 178) hx hb dX4_seek_169 (by decide) (fun hq_57 => absurd hq_57 (by decide)) (fun hq_57 => ?_)
                  refine lv_iinc (v := nI (y + 1 + 1)) (lv' := [(6, .int (nI (y + 1 + 1))), (0, .ref (a (100))), (1, .int (nI (k))), (2, .int (nI (mx))), (3, .int (nI (n))), (5, .int (nI (c))), (7, .int (nI (0)))]) hx hb dX4_seek_172 hl (k := 5) rfl (nI_inc _ 1) (by decide) rfl (fun ls hl => ?_)
                  refine lv_goto (tgt := 149) hx hb dX4_seek_175 (by decide) ?_
                  exact ihm _ S R1 _ _ ls (by omega) (by omega) (by omega) hSI hLS hcell hSB hFS hc (lv_sub hl [1, 2, 3, 4, 5, 0, 6] rfl) (fun R2 H2 locs2 ls2 h1 h2 h3 h4 h5 => Km R2 H2 locs2 ls2 (by rw [rS_skip (by omega) (by omega) hk8]; exact h1) h2 h3 h4 h5)
          exact hmid 4 1 S _ _ _ ls (by omega) (by omega) (by omega) hSI hLS hcell (fun j _ => ⟨rfl, rfl⟩) hFS hc (lv_sub hl [3, 4, 5, 6, 2, 0, 1] rfl) (fun R2 H2 locs2 ls2 h1 h2 h3 h4 h5 => K R2 H2 locs2 ls2 (by rw [goS_go (by omega) hcb, ← hce9]; exact h1) h2 h3 h4 h5)
        · rw [hRe] at hc
          refine lv_if_ne (tgt := 143) hx hb dX4_seek_136 (by decide) (fun hq_58 => absurd hq_58 (by decide)) (fun hq_58 => ?_)
          refine lv_iconst (v := nI (1)) hx hb dX4_seek_139 (by decide) ?_
          refine lv_goto (tgt := 144) hx hb dX4_seek_140 (by decide) ?_
          refine lv_istore (lv' := [(7, .int (nI (1))), (6, .int (nI (0))), (5, .int (nI (c))), (0, .ref (a (100))), (1, .int (nI (k))), (2, .int (nI (mx))), (3, .int (nI (n))), (4, .int (nI (1)))]) hx hb dX4_seek_144 hl (by decide) rfl (fun ls hl => ?_)
          refine lv_iinc (v := nI (1)) (lv' := [(6, .int (nI (1))), (7, .int (nI (1))), (5, .int (nI (c))), (0, .ref (a (100))), (1, .int (nI (k))), (2, .int (nI (mx))), (3, .int (nI (n))), (4, .int (nI (1)))]) hx hb dX4_seek_146 hl (k := 1) rfl (nI_inc _ 1) (by decide) rfl (fun ls hl => ?_)
          refine lv_iload hx hb dX4_seek_149 (lv_at hl 1 rfl) ?_
          refine lv_if_ne (tgt := 178) hx hb dX4_seek_151 (by decide) (fun hq_59 => ?_) (fun hq_59 => absurd hq_59 (by decide))
          refine lv_iload hx hb dX4_seek_178 (lv_at hl 1 rfl) ?_
          refine lv_if_ne (tgt := 207) hx hb dX4_seek_180 (by decide) (fun hq_60 => ?_) (fun hq_60 => absurd hq_60 (by decide))
          refine lv_iload hx hb dX4_seek_207 (lv_at hl 1 rfl) ?_
          refine lv_if_ne (tgt := 222) hx hb dX4_seek_209 (by decide) (fun hq_61 => ?_) (fun hq_61 => absurd hq_61 (by decide))
          refine lv_iconst (v := nI (0)) hx hb dX4_seek_222 (by decide) ?_
          refine lv_istore (lv' := [(4, .int (nI (0))), (6, .int (nI (1))), (7, .int (nI (1))), (5, .int (nI (c))), (0, .ref (a (100))), (1, .int (nI (k))), (2, .int (nI (mx))), (3, .int (nI (n)))]) hx hb dX4_seek_223 hl (by decide) rfl (fun ls hl => ?_)
          refine lv_iload hx hb dX4_seek_225 (lv_at hl 0 rfl) ?_
          refine lv_if_eq (tgt := 280) hx hb dX4_seek_227 (by decide) (fun hq_62 => ?_) (fun hq_62 => absurd hq_62 (by decide))
          refine lv_iinc (v := nI (n) + (-1)) (lv' := [(3, .int (nI (n) + (-1))), (4, .int (nI (0))), (6, .int (nI (1))), (7, .int (nI (1))), (5, .int (nI (c))), (0, .ref (a (100))), (1, .int (nI (k))), (2, .int (nI (mx)))]) hx hb dX4_seek_280 hl (k := 7) rfl rfl (by decide) rfl (fun ls hl => ?_)
          refine lv_goto (tgt := 58) hx hb dX4_seek_283 (by decide) ?_
          exact K Re _ _ ls (by rw [goS_cut (by omega) hcb]; exact hLS) (fun j _ => ⟨rfl, rfl⟩) hFS hc (lv_sub hl [5, 6, 7, 0, 1] rfl)
      · have hq_5 : c = (mW M * mD M) := (nI_eq (a := c) (b := (mW M * mD M)) (by omega) (by omega)).mp hq_5
        refine lv_aload_n hx hb dX4_seek_101 rfl (lv_at hl 2 rfl) ?_
        refine r_get (C := RX4) (T := TX4) (N := 33) (v := .int (nI (pl.length))) hx hb hts hown hK.1 hc (hlv _ rfl) (rfl) rfl rfl hinX4 31 (by decide) hf_112 (fun _ h9 => h9) (congrArg Value.int hLS.2.2.1) dX4_seek_102 ?_
        refine lv_aload_n hx hb dX4_seek_105 rfl (lv_at hl 2 rfl) ?_
        refine r_get (C := RX4) (T := TX4) (N := 33) (v := .int (stI S.2.1)) hx hb hts hown hK.1 hc (hlv _ rfl) (rfl) rfl rfl hinX4 32 (by decide) hf_109 (fun _ h9 => h9) (congrArg Value.int hLS.2.2.2.1) dX4_seek_106 ?_
        refine lv_icmp_le (tgt := 117) hx hb dX4_seek_109 (by decide) (fun hq_63 => ?_) (fun hq_63 => ?_)
        · have hbt : ¬ S.2.1 < pl.length + 1 := (le_st (by omega) (by omega)).mp hq_63
          refine lv_iload hx hb dX4_seek_117 (lv_at hl 1 rfl) ?_
          refine lv_aload_n hx hb dX4_seek_119 rfl (lv_at hl 2 rfl) ?_
          refine r_get (C := RX4) (T := TX4) (N := 33) (v := .int (nI (mW M * mD M))) hx hb hts hown hK.1 hc (hlv _ rfl) (rfl) rfl rfl hinX4 2 (by decide) hf_86 (fun _ h9 => h9) (congrArg Value.int hM1.2.2.1) dX4_seek_120 ?_
          refine lv_icmp_eq (tgt := 139) hx hb dX4_seek_123 (by decide) (fun hq_64 => ?_) (fun hq_64 => absurd ((nI_eq (a := c) (b := mW M * mD M) (by omega) (by omega)).mpr (by omega)) hq_64)
          refine lv_iconst (v := nI (1)) hx hb dX4_seek_139 (by decide) ?_
          refine lv_goto (tgt := 144) hx hb dX4_seek_140 (by decide) ?_
          refine lv_istore (lv' := [(7, .int (nI (1))), (6, .int (nI (0))), (5, .int (nI (c))), (0, .ref (a (100))), (1, .int (nI (k))), (2, .int (nI (mx))), (3, .int (nI (n))), (4, .int (nI (1)))]) hx hb dX4_seek_144 hl (by decide) rfl (fun ls hl => ?_)
          refine lv_iinc (v := nI (1)) (lv' := [(6, .int (nI (1))), (7, .int (nI (1))), (5, .int (nI (c))), (0, .ref (a (100))), (1, .int (nI (k))), (2, .int (nI (mx))), (3, .int (nI (n))), (4, .int (nI (1)))]) hx hb dX4_seek_146 hl (k := 1) rfl (nI_inc _ 1) (by decide) rfl (fun ls hl => ?_)
          refine lv_iload hx hb dX4_seek_149 (lv_at hl 1 rfl) ?_
          refine lv_if_ne (tgt := 178) hx hb dX4_seek_151 (by decide) (fun hq_65 => ?_) (fun hq_65 => absurd hq_65 (by decide))
          refine lv_iload hx hb dX4_seek_178 (lv_at hl 1 rfl) ?_
          refine lv_if_ne (tgt := 207) hx hb dX4_seek_180 (by decide) (fun hq_66 => ?_) (fun hq_66 => absurd hq_66 (by decide))
          refine lv_iload hx hb dX4_seek_207 (lv_at hl 1 rfl) ?_
          refine lv_if_ne (tgt := 222) hx hb dX4_seek_209 (by decide) (fun hq_67 => ?_) (fun hq_67 => absurd hq_67 (by decide))
          refine lv_iconst (v := nI (0)) hx hb dX4_seek_222 (by decide) ?_
          refine lv_istore (lv' := [(4, .int (nI (0))), (6, .int (nI (1))), (7, .int (nI (1))), (5, .int (nI (c))), (0, .ref (a (100))), (1, .int (nI (k))), (2, .int (nI (mx))), (3, .int (nI (n)))]) hx hb dX4_seek_223 hl (by decide) rfl (fun ls hl => ?_)
          refine lv_iload hx hb dX4_seek_225 (lv_at hl 0 rfl) ?_
          refine lv_if_eq (tgt := 280) hx hb dX4_seek_227 (by decide) (fun hq_68 => ?_) (fun hq_68 => absurd hq_68 (by decide))
          refine lv_iinc (v := nI (n) + (-1)) (lv' := [(3, .int (nI (n) + (-1))), (4, .int (nI (0))), (6, .int (nI (1))), (7, .int (nI (1))), (5, .int (nI (c))), (0, .ref (a (100))), (1, .int (nI (k))), (2, .int (nI (mx)))]) hx hb dX4_seek_280 hl (k := 7) rfl rfl (by decide) rfl (fun ls hl => ?_)
          refine lv_goto (tgt := 58) hx hb dX4_seek_283 (by decide) ?_
          exact K Re _ _ ls (by rw [goS_leaf (by omega)]; rw [show leaf pl S = S from if_neg hbt]; exact hLS) (fun j _ => ⟨rfl, rfl⟩) hFS hc (lv_sub hl [5, 6, 7, 0, 1] rfl)
        · have hbt : S.2.1 < pl.length + 1 := Classical.byContradiction (fun z => hq_63 ((le_st (by omega) (by omega)).mpr z))
          refine lv_aload_n hx hb dX4_seek_112 rfl (lv_at hl 2 rfl) ?_
          refine lv_iload_n hx hb dX4_seek_113 rfl (lv_at hl 3 rfl) ?_
          refine r_callv hc hA (va_runV (As := [.int (nI (k))]) (rest := []) ⟨hx, hb, hml, hown, hts⟩ (c_X4_keepBest l D g lv a Re M hmr1 hM1 hI k pl.length hk hLS.2.2.1 (by omega) (fun i => (pb pl i).1) (fun i => (pb pl i).2) (fun i hi => ⟨(hLS.2.2.2.2.2.2.2.2 i hi).1, (hLS.2.2.2.2.2.2.2.2 i hi).2, by have h9 := (hGT.2.2.2.2.2.1 i hi).1.2.1; omega, (hGT.2.2.2.2.2.1 i hi).1.1⟩) _) (cwV 1 hts gX4_seek_X4_keepBest rfl rfl rfl (by decide +kernel) ⟨Nat.le_of_ble_eq_true rfl, Nat.le_of_ble_eq_true rfl⟩) (r_preV hK hZ hc hA (hlv _ rfl) (rfl) rfl) rfl rfl hl.1 rfl (lv_room (Nat.le_of_ble_eq_true rfl)) dX4_seek_114 ⟨Nat.le_of_ble_eq_true rfl, Nat.le_of_ble_eq_true rfl⟩) (fun R' H locs hp hc => ?_)
          have hRe := hp
          rw [hRe] at hc
          refine lv_iload hx hb dX4_seek_117 (lv_at hl 1 rfl) ?_
          refine lv_aload_n hx hb dX4_seek_119 rfl (lv_at hl 2 rfl) ?_
          refine r_get (C := RX4) (T := TX4) (N := 33) (v := .int (nI (mW M * mD M))) hx hb hts hown hK.1 hc (hlv _ rfl) (rfl) rfl rfl hinX4 2 (by decide) hf_86 (fun _ h9 => h9) (congrArg Value.int hM1.2.2.1) dX4_seek_120 ?_
          refine lv_icmp_eq (tgt := 139) hx hb dX4_seek_123 (by decide) (fun hq_71 => ?_) (fun hq_71 => absurd ((nI_eq (a := c) (b := mW M * mD M) (by omega) (by omega)).mpr (by omega)) hq_71)
          refine lv_iconst (v := nI (1)) hx hb dX4_seek_139 (by decide) ?_
          refine lv_goto (tgt := 144) hx hb dX4_seek_140 (by decide) ?_
          refine lv_istore (lv' := [(7, .int (nI (1))), (6, .int (nI (0))), (5, .int (nI (c))), (0, .ref (a (100))), (1, .int (nI (k))), (2, .int (nI (mx))), (3, .int (nI (n))), (4, .int (nI (1)))]) hx hb dX4_seek_144 hl (by decide) rfl (fun ls hl => ?_)
          refine lv_iinc (v := nI (1)) (lv' := [(6, .int (nI (1))), (7, .int (nI (1))), (5, .int (nI (c))), (0, .ref (a (100))), (1, .int (nI (k))), (2, .int (nI (mx))), (3, .int (nI (n))), (4, .int (nI (1)))]) hx hb dX4_seek_146 hl (k := 1) rfl (nI_inc _ 1) (by decide) rfl (fun ls hl => ?_)
          refine lv_iload hx hb dX4_seek_149 (lv_at hl 1 rfl) ?_
          refine lv_if_ne (tgt := 178) hx hb dX4_seek_151 (by decide) (fun hq_72 => ?_) (fun hq_72 => absurd hq_72 (by decide))
          refine lv_iload hx hb dX4_seek_178 (lv_at hl 1 rfl) ?_
          refine lv_if_ne (tgt := 207) hx hb dX4_seek_180 (by decide) (fun hq_73 => ?_) (fun hq_73 => absurd hq_73 (by decide))
          refine lv_iload hx hb dX4_seek_207 (lv_at hl 1 rfl) ?_
          refine lv_if_ne (tgt := 222) hx hb dX4_seek_209 (by decide) (fun hq_74 => ?_) (fun hq_74 => absurd hq_74 (by decide))
          refine lv_iconst (v := nI (0)) hx hb dX4_seek_222 (by decide) ?_
          refine lv_istore (lv' := [(4, .int (nI (0))), (6, .int (nI (1))), (7, .int (nI (1))), (5, .int (nI (c))), (0, .ref (a (100))), (1, .int (nI (k))), (2, .int (nI (mx))), (3, .int (nI (n)))]) hx hb dX4_seek_223 hl (by decide) rfl (fun ls hl => ?_)
          refine lv_iload hx hb dX4_seek_225 (lv_at hl 0 rfl) ?_
          refine lv_if_eq (tgt := 280) hx hb dX4_seek_227 (by decide) (fun hq_75 => ?_) (fun hq_75 => absurd hq_75 (by decide))
          refine lv_iinc (v := nI (n) + (-1)) (lv' := [(3, .int (nI (n) + (-1))), (4, .int (nI (0))), (6, .int (nI (1))), (7, .int (nI (1))), (5, .int (nI (c))), (0, .ref (a (100))), (1, .int (nI (k))), (2, .int (nI (mx)))]) hx hb dX4_seek_280 hl (k := 7) rfl rfl (by decide) rfl (fun ls hl => ?_)
          refine lv_goto (tgt := 58) hx hb dX4_seek_283 (by decide) ?_
          exact K (kbS M k pl.length (fun i => (pb pl i).1) (fun i => (pb pl i).2) Re pl.length) _ _ ls (by rw [goS_leaf (by omega)]; exact ls_keep hLS (by omega) hbt) (fun j _ => ⟨kbS_sc (by decide), kbS_sc (by decide)⟩) (hFS.kb (by omega)) hc (lv_sub hl [5, 6, 7, 0, 1] rfl)
  refine hE 37 0 0 0 [] (0, 0, false, []) (sai (sai (sai (sai (sfi (sfi (sfi (sfl (sfl R 100 29 (lN (0))) 100 30 (lN (0))) 100 31 (nI (0))) 100 32 ((-1))) 100 24 (nI (0))) 111 k (nI (1))) 110 k (nI (0))) 125 0 (nI (0))) 126 0 (nI (0))) _ _ ls (by have := fo_le (mW M * mD M) (0 ||| 0); omega) ⟨Nat.two_pow_pos _, Nat.two_pow_pos _, fun i h => by simp at h, Nat.zero_le _, Nat.zero_le _, Dj_nil⟩ ⟨Nat.zero_le _, Or.inl ⟨rfl, rfl⟩, Nat.zero_le _, 0, Dj_nil⟩ ls_init (by rw [fo_z (by omega)]; simp [q_fi_sfi, q_fi_sfl, q_fi_sfr, q_fi_sai, q_fi_sal, q_fi_saq, q_fl_sfi, q_fl_sfl, q_fl_sfr, q_fl_sai, q_fl_sal, q_fl_saq, q_fr_sfi, q_fr_sfl, q_fr_sfr, q_fr_sai, q_fr_sal, q_fr_saq, q_ai_sfi, q_ai_sfl, q_ai_sfr, q_ai_sai, q_ai_sal, q_ai_saq, q_al_sfi, q_al_sfl, q_al_sfr, q_al_sai, q_al_sal, q_al_saq, q_aq_sfi, q_aq_sfl, q_aq_sfr, q_aq_sai, q_aq_sal, q_aq_saq]) (by simp [q_fi_sfi, q_fi_sfl, q_fi_sfr, q_fi_sai, q_fi_sal, q_fi_saq, q_fl_sfi, q_fl_sfl, q_fl_sfr, q_fl_sai, q_fl_sal, q_fl_saq, q_fr_sfi, q_fr_sfl, q_fr_sfr, q_fr_sai, q_fr_sal, q_fr_saq, q_ai_sfi, q_ai_sfl, q_ai_sfr, q_ai_sai, q_ai_sal, q_ai_saq, q_al_sfi, q_al_sfl, q_al_sfr, q_al_sai, q_al_sal, q_al_saq, q_aq_sfi, q_aq_sfl, q_aq_sfr, q_aq_sai, q_aq_sal, q_aq_saq]) ((((((((FSt.r R k).sfl.sfl.sfi (by decide)).sfi (by decide)).sfi (by decide)).sai (by omega)).sai (by omega)).sai (by omega)).sai (by omega)) hc (lv_sub hl [2, 3, 4, 1, 0] rfl) (fun R2 H locs ls hLS hSB hFS hc hl => ?_)
  rw [show nI 0 + (-1) = (-1 : Int32) by decide] at hl
  refine lv_iload_n hx hb dX4_seek_58 rfl (lv_at hl 3 rfl) ?_
  refine lv_if_lt (tgt := 286) hx hb dX4_seek_59 (by decide) (fun hq_76 => ?_) (fun hq_76 => absurd hq_76 (by decide))
  exact r_vret hx hb hr hlocks hc dX4_seek_286 ⟨hFS, hLS⟩
