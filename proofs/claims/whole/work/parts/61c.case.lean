set_option maxRecDepth 100000 in
set_option maxHeartbeats 4000000 in
theorem la_layer {p : Program} {l : Launch} {e : Env} {s : State} {m : MethodId} {below : List Frame} {meth : Method} {c : Code} {H : Heap} {locs : List Loc} {cells slots : Nat} {Q : State → Prop} {ls : Array Slot} {D : va_G} {g : Nat → ClassId} {lv : Nat → Bool} {a : Nat → Nat} {R : RS} {M : MS} {b L i : Nat} {xs : Nat → Int32} (X : LX p l s m c D g b L xs) (hJ : J lv a R M) (hi : i + 5 ≤ L) (hc : rc D g (lwA s) s.heap lv a R H locs) (hl : lv_has ls 7 [(0, .ref (b)), (1, .ref (a 0)), (2, .ref (a 100)), (3, .ref (a 200)), (4, .int (nI (i)))]) (h1 : cells + 6 ≤ 603072) (h2 : slots + 83 ≤ 7181976)
    (kk : ∀ (lv' : Nat → Bool) (a' : Nat → Nat) (R' : RS) (M' : MS) (H' : Heap) (locs' : List Loc) (ls' : Array Slot), J lv' a' R' M' → rc D g (lwA s) s.heap lv' a' R' H' locs' → lv_has ls' 7 [(0, .ref (b)), (1, .ref (a' 0)), (2, .ref (a' 100)), (3, .ref (a' 200)), (4, .int (nI (i)))] → W p l e room_1 s m #[Value.ref b] below meth c H' locs' (cells + 6) (slots + 83) Q (F0 m 1252 ls' [])) : W p l e room_1 s m #[Value.ref b] below meth c H locs cells slots Q (F0 m 967 ls []) := by
  obtain ⟨hx, hb, hml, hown, hts, hK, hZ, hX, hbl, hl9, hL31⟩ := X
  have hA : ∀ q, s.heap.size ≤ q → lwA s q := fun _ h => h
  have h4 := ob_layer M (xs (i + 1)) (xs (i + 2)) (xs (i + 3))
  refine lv_aload_n hx hb dL_law_967 rfl (lv_at hl 1 rfl) ?_
  refine lv_aload_n hx hb dL_law_968 rfl (lv_at hl 0 rfl) ?_
  refine lv_iload hx hb dL_law_969 (lv_at hl 4 rfl) ?_
  refine lv_iconst (v := nI (1)) hx hb dL_law_971 (by decide) ?_
  refine nv_iadd hx hb dL_law_972 ?_
  refine r_scr (j := i + 1) hx hb hX hbl hc.2.2 (by omega) hL31 dL_law_973 ?_
  refine lv_aload_n hx hb dL_law_974 rfl (lv_at hl 0 rfl) ?_
  refine lv_iload hx hb dL_law_975 (lv_at hl 4 rfl) ?_
  refine lv_iconst (v := nI (2)) hx hb dL_law_977 (by decide) ?_
  refine nv_iadd hx hb dL_law_978 ?_
  refine r_scr (j := i + 2) hx hb hX hbl hc.2.2 (by omega) hL31 dL_law_979 ?_
  refine lv_aload_n hx hb dL_law_980 rfl (lv_at hl 0 rfl) ?_
  refine lv_iload hx hb dL_law_981 (lv_at hl 4 rfl) ?_
  refine lv_iconst (v := nI (3)) hx hb dL_law_983 (by decide) ?_
  refine nv_iadd hx hb dL_law_984 ?_
  refine r_scr (j := i + 3) hx hb hX hbl hc.2.2 (by omega) hL31 dL_law_985 ?_
  refine lv_aload_n hx hb dL_law_986 rfl (lv_at hl 3 rfl) ?_
  refine r_tryA (post := fun r lv' a' R' => LQ lv a R true (oLayer M (xs (i + 1)) (xs (i + 2)) (xs (i + 3))) r lv' a' R') (xp := fun _ _ => False) hc hA (vx_runSX (hh := [(0, 12, 15, 21), (0, 12, 19, 13)]) (As := [.ref (a 0), .int (xs (i + 1)), .int (xs (i + 2)), .int (xs (i + 3)), .ref (a 200)]) (rest := []) ⟨hx, hb, hml, hown, hts⟩ (c_L_layer l hl9 D g lv a R M hJ.1 hJ.2.1 hJ.2.2.2.2.1 hJ.2.2.2.2.2 (xs (i + 1)) (xs (i + 2)) (xs (i + 3)) _) (vx_cwSW 5 hts (glw gL_law_L_layer) rfl rfl rfl (by decide +kernel) ⟨Nat.le_of_ble_eq_true rfl, Nat.le_of_ble_eq_true rfl⟩) (r_preS hK hZ hc hA) rfl rfl hl.1 rfl (lv_room (Nat.le_of_ble_eq_true rfl)) dL_law_987 ⟨h1, h2⟩) (fun E ce q9 R' H locs hp => hp.elim) (fun r lv1 a1 R1 H locs hp hc => ?_)
  have hr1 := hp.1
  subst hr1
  have hs9 := sm_layer hJ.2.2.2.2.1 (xs (i + 1)) (xs (i + 2)) (xs (i + 3))
  obtain ⟨hm1, hm2, hm3, e0, e1, e2⟩ := j_1 hJ hp
  have hl : lv_has ls 7 [(0, .ref (b)), (1, .ref (a1 0)), (2, .ref (a1 100)), (3, .ref (a1 200)), (4, .int (nI (i)))] := by rw [e0, e1, e2]; exact hl
  refine lv_istore (lv' := [(5, .int (nI ((oLayer M (xs (i + 1)) (xs (i + 2)) (xs (i + 3))).1))), (0, .ref (b)), (1, .ref (a1 0)), (2, .ref (a1 100)), (3, .ref (a1 200)), (4, .int (nI (i)))]) hx hb dL_law_990 hl (by decide) rfl (fun ls hl => ?_)
  refine lv_aload_n hx hb dL_law_992 rfl (lv_at hl 3 rfl) ?_
  refine lv_aload_n hx hb dL_law_993 rfl (lv_at hl 1 rfl) ?_
  refine lv_iload hx hb dL_law_994 (lv_at hl 5 rfl) ?_
  refine lv_iconst (v := nI (1)) hx hb dL_law_996 (by decide) ?_
  refine nv_iadd hx hb dL_law_997 ?_
  refine r_scr (j := i + 1) hx hb hX hbl hc.2.2 (by omega) hL31 dL_law_998 ?_
  refine lv_aload_n hx hb dL_law_999 rfl (lv_at hl 1 rfl) ?_
  refine lv_iload hx hb dL_law_1000 (lv_at hl 5 rfl) ?_
  refine lv_iconst (v := nI (2)) hx hb dL_law_1002 (by decide) ?_
  refine nv_iadd hx hb dL_law_1003 ?_
  refine r_scr (j := i + 2) hx hb hX hbl hc.2.2 (by omega) hL31 dL_law_1004 ?_
  refine lv_aload_n hx hb dL_law_1005 rfl (lv_at hl 1 rfl) ?_
  refine lv_iload hx hb dL_law_1006 (lv_at hl 5 rfl) ?_
  refine lv_iconst (v := nI (3)) hx hb dL_law_1008 (by decide) ?_
  refine nv_iadd hx hb dL_law_1009 ?_
  refine r_scr (j := i + 3) hx hb hX hbl hc.2.2 (by omega) hL31 dL_law_1010 ?_
  refine r_calli (post := QM R1 (oLayer M (xs (i + 1)) (xs (i + 2)) (xs (i + 3)))) hc hA (va_runV (As := [.int (xs (i + 1)), .int (xs (i + 2)), .int (xs (i + 3))]) (rest := []) ⟨hx, hb, hml, hown, hts⟩ (c_X4_layer l D g lv1 a1 R1 M hm2 hm1 hJ.2.2.2.2.1 (xs (i + 1)) (xs (i + 2)) (xs (i + 3)) _) (cwV 3 hts (glw gL_law_X4_layer) rfl rfl rfl (by decide +kernel) ⟨Nat.le_of_ble_eq_true rfl, Nat.le_of_ble_eq_true rfl⟩) (r_preV hK hZ hc hA (hm2.1 100 rfl) (rfl) rfl) rfl rfl hl.1 rfl (lv_room (Nat.le_of_ble_eq_true rfl)) dL_law_1011 ⟨h1, h2⟩) (fun r R2 H locs hp2 hc => ?_)
  obtain ⟨hJ2, ht2, ho2⟩ := j_2 hp hs9.1.1 hm2 hm3 hp2
  have hr2 := hp2.1
  subst hr2
  refine lv_istore (lv' := [(6, .int ((oLayer M (xs (i + 1)) (xs (i + 2)) (xs (i + 3))).2.1)), (5, .int (nI ((oLayer M (xs (i + 1)) (xs (i + 2)) (xs (i + 3))).1))), (0, .ref (b)), (1, .ref (a1 0)), (2, .ref (a1 100)), (3, .ref (a1 200)), (4, .int (nI (i)))]) hx hb dL_law_1014 hl (by decide) rfl (fun ls hl => ?_)
  refine lv_aload_n hx hb dL_law_1016 rfl (lv_at hl 4 rfl) ?_
  refine r_calli (post := fun r R' => r = fi R2 100 5 ∧ R' = R2) hc hA (va_runV (As := []) (rest := []) ⟨hx, hb, hml, hown, hts⟩ (c_X4_thrown l D g lv1 a1 R2 _ hJ2.2.2.2.1 hJ2.2.2.1 hJ2.2.2.2.2.1 _) (cwV 0 hts (glw gL_law_X4_thrown) rfl rfl rfl (by decide +kernel) ⟨Nat.le_of_ble_eq_true rfl, Nat.le_of_ble_eq_true rfl⟩) (r_preV hK hZ hc hA (hm2.1 100 rfl) (rfl) rfl) rfl rfl hl.1 rfl (lv_room (Nat.le_of_ble_eq_true rfl)) dL_law_1017 ⟨h1, h2⟩) (fun r R3 H locs hp3 hc => ?_)
  obtain ⟨hre, hRe⟩ := hp3
  rw [hRe] at hc
  rw [hre, ht2]
  refine lv_iload hx hb dL_law_1020 (lv_at hl 1 rfl) ?_
  refine lv_icmp_eq (tgt := 1027) hx hb dL_law_1022 (by decide) (fun hq_1 => ?_) (fun hq_1 => absurd rfl hq_1)
  refine lv_iload hx hb dL_law_1027 (lv_at hl 1 rfl) ?_
  refine lv_if_ne (tgt := 1044) hx hb dL_law_1029 (by decide) (fun hq_2 => ?_) (fun hq_2 => ?_)
  · have hq_2 : ¬ (((oLayer M (xs (i + 1)) (xs (i + 2)) (xs (i + 3))).1) = 0) := fun z => hq_2 ((nI_eq (a := ((oLayer M (xs (i + 1)) (xs (i + 2)) (xs (i + 3))).1)) (b := 0) (by omega) (by omega)).mpr z)
    refine lv_goto (tgt := 1252) hx hb dL_law_1044 (by decide) ?_
    exact kk lv1 a1 R2 (oLayer M (xs (i + 1)) (xs (i + 2)) (xs (i + 3))).2.2 _ _ ls hJ2 hc (lv_sub hl [2, 3, 4, 5, 6] rfl)
  · have hq_2 : ((oLayer M (xs (i + 1)) (xs (i + 2)) (xs (i + 3))).1) = 0 := (nI_eq (a := ((oLayer M (xs (i + 1)) (xs (i + 2)) (xs (i + 3))).1)) (b := 0) (by omega) (by omega)).mp hq_2
    have h0 := hq_2
    refine lv_aload_n hx hb dL_law_1032 rfl (lv_at hl 5 rfl) ?_
    refine lv_iconst (v := nI (0)) hx hb dL_law_1033 (by decide) ?_
    refine r_lald (v := ((oLayer M (xs (i + 1)) (xs (i + 2)) (xs (i + 3))).2.1).toInt64) hx hb hK.1 hc (hm3) (rfl) (by decide) (by omega) dL_law_1034 (ho2 h0 rfl) ?_
    refine lv_iload hx hb dL_law_1035 (lv_at hl 0 rfl) ?_
    refine lv_i2l hx hb dL_law_1037 rfl ?_
    refine W.lcmp hx hb dL_law_1038 ?_
    refine lv_if_eq (tgt := 1044) hx hb dL_law_1039 (by decide) (fun hq_3 => ?_) (fun hq_3 => absurd (lg_0.mpr rfl) hq_3)
    refine lv_goto (tgt := 1252) hx hb dL_law_1044 (by decide) ?_
    exact kk lv1 a1 R2 (oLayer M (xs (i + 1)) (xs (i + 2)) (xs (i + 3))).2.2 _ _ ls hJ2 hc (lv_sub hl [2, 3, 4, 5, 6] rfl)
set_option maxRecDepth 100000 in
set_option maxHeartbeats 4000000 in
theorem la_truck {p : Program} {l : Launch} {e : Env} {s : State} {m : MethodId} {below : List Frame} {meth : Method} {c : Code} {H : Heap} {locs : List Loc} {cells slots : Nat} {Q : State → Prop} {ls : Array Slot} {D : va_G} {g : Nat → ClassId} {lv : Nat → Bool} {a : Nat → Nat} {R : RS} {M : MS} {b L i : Nat} {xs : Nat → Int32} (X : LX p l s m c D g b L xs) (hJ : J lv a R M) (hi : i + 5 ≤ L) (hc : rc D g (lwA s) s.heap lv a R H locs) (hl : lv_has ls 7 [(0, .ref (b)), (1, .ref (a 0)), (2, .ref (a 100)), (3, .ref (a 200)), (4, .int (nI (i)))]) (h1 : cells + 6 ≤ 603072) (h2 : slots + 83 ≤ 7181976)
    (kk : ∀ (lv' : Nat → Bool) (a' : Nat → Nat) (R' : RS) (M' : MS) (H' : Heap) (locs' : List Loc) (ls' : Array Slot), J lv' a' R' M' → rc D g (lwA s) s.heap lv' a' R' H' locs' → lv_has ls' 7 [(0, .ref (b)), (1, .ref (a' 0)), (2, .ref (a' 100)), (3, .ref (a' 200)), (4, .int (nI (i)))] → W p l e room_1 s m #[Value.ref b] below meth c H' locs' (cells + 6) (slots + 83) Q (F0 m 1252 ls' [])) : W p l e room_1 s m #[Value.ref b] below meth c H locs cells slots Q (F0 m 1047 ls []) := by
  obtain ⟨hx, hb, hml, hown, hts, hK, hZ, hX, hbl, hl9, hL31⟩ := X
  have hA : ∀ q, s.heap.size ≤ q → lwA s q := fun _ h => h
  have h4 := ob_truck M (xs (i + 1)) (xs (i + 2))
  refine lv_aload_n hx hb dL_law_1047 rfl (lv_at hl 1 rfl) ?_
  refine lv_aload_n hx hb dL_law_1048 rfl (lv_at hl 0 rfl) ?_
  refine lv_iload hx hb dL_law_1049 (lv_at hl 4 rfl) ?_
  refine lv_iconst (v := nI (1)) hx hb dL_law_1051 (by decide) ?_
  refine nv_iadd hx hb dL_law_1052 ?_
  refine r_scr (j := i + 1) hx hb hX hbl hc.2.2 (by omega) hL31 dL_law_1053 ?_
  refine lv_aload_n hx hb dL_law_1054 rfl (lv_at hl 0 rfl) ?_
  refine lv_iload hx hb dL_law_1055 (lv_at hl 4 rfl) ?_
  refine lv_iconst (v := nI (2)) hx hb dL_law_1057 (by decide) ?_
  refine nv_iadd hx hb dL_law_1058 ?_
  refine r_scr (j := i + 2) hx hb hX hbl hc.2.2 (by omega) hL31 dL_law_1059 ?_
  refine lv_aload_n hx hb dL_law_1060 rfl (lv_at hl 3 rfl) ?_
  refine r_tryA (post := fun r lv' a' R' => LQ lv a R true (oTruck M (xs (i + 1)) (xs (i + 2))) r lv' a' R') (xp := fun _ _ => False) hc hA (vx_runSX (hh := [(0, 10, 13, 21), (0, 10, 17, 13), (0, 10, 21, 23)]) (As := [.ref (a 0), .int (xs (i + 1)), .int (xs (i + 2)), .ref (a 200)]) (rest := []) ⟨hx, hb, hml, hown, hts⟩ (c_L_truck l hl9 D g lv a R M hJ.1 hJ.2.1 hJ.2.2.2.2.1 hJ.2.2.2.2.2 (xs (i + 1)) (xs (i + 2)) _) (vx_cwSW 4 hts (glw gL_law_L_truck) rfl rfl rfl (by decide +kernel) ⟨Nat.le_of_ble_eq_true rfl, Nat.le_of_ble_eq_true rfl⟩) (r_preS hK hZ hc hA) rfl rfl hl.1 rfl (lv_room (Nat.le_of_ble_eq_true rfl)) dL_law_1061 ⟨h1, h2⟩) (fun E ce q9 R' H locs hp => hp.elim) (fun r lv1 a1 R1 H locs hp hc => ?_)
  have hr1 := hp.1
  subst hr1
  have hs9 := sm_truck hJ.2.2.2.2.1 (xs (i + 1)) (xs (i + 2))
  obtain ⟨hm1, hm2, hm3, e0, e1, e2⟩ := j_1 hJ hp
  have hl : lv_has ls 7 [(0, .ref (b)), (1, .ref (a1 0)), (2, .ref (a1 100)), (3, .ref (a1 200)), (4, .int (nI (i)))] := by rw [e0, e1, e2]; exact hl
  refine lv_istore (lv' := [(5, .int (nI ((oTruck M (xs (i + 1)) (xs (i + 2))).1))), (0, .ref (b)), (1, .ref (a1 0)), (2, .ref (a1 100)), (3, .ref (a1 200)), (4, .int (nI (i)))]) hx hb dL_law_1064 hl (by decide) rfl (fun ls hl => ?_)
  refine lv_aload_n hx hb dL_law_1066 rfl (lv_at hl 3 rfl) ?_
  refine lv_aload_n hx hb dL_law_1067 rfl (lv_at hl 1 rfl) ?_
  refine lv_iload hx hb dL_law_1068 (lv_at hl 5 rfl) ?_
  refine lv_iconst (v := nI (1)) hx hb dL_law_1070 (by decide) ?_
  refine nv_iadd hx hb dL_law_1071 ?_
  refine r_scr (j := i + 1) hx hb hX hbl hc.2.2 (by omega) hL31 dL_law_1072 ?_
  refine lv_aload_n hx hb dL_law_1073 rfl (lv_at hl 1 rfl) ?_
  refine lv_iload hx hb dL_law_1074 (lv_at hl 5 rfl) ?_
  refine lv_iconst (v := nI (2)) hx hb dL_law_1076 (by decide) ?_
  refine nv_iadd hx hb dL_law_1077 ?_
  refine r_scr (j := i + 2) hx hb hX hbl hc.2.2 (by omega) hL31 dL_law_1078 ?_
  refine r_calli (post := QM R1 (oTruck M (xs (i + 1)) (xs (i + 2)))) hc hA (va_runV (As := [.int (xs (i + 1)), .int (xs (i + 2))]) (rest := []) ⟨hx, hb, hml, hown, hts⟩ (c_X4_truck l D g lv1 a1 R1 M hm2 hm1 hJ.2.2.2.2.1 (xs (i + 1)) (xs (i + 2)) _) (cwV 2 hts (glw gL_law_X4_truck) rfl rfl rfl (by decide +kernel) ⟨Nat.le_of_ble_eq_true rfl, Nat.le_of_ble_eq_true rfl⟩) (r_preV hK hZ hc hA (hm2.1 100 rfl) (rfl) rfl) rfl rfl hl.1 rfl (lv_room (Nat.le_of_ble_eq_true rfl)) dL_law_1079 ⟨h1, h2⟩) (fun r R2 H locs hp2 hc => ?_)
  obtain ⟨hJ2, ht2, ho2⟩ := j_2 hp hs9.1.1 hm2 hm3 hp2
  have hr2 := hp2.1
  subst hr2
  refine lv_istore (lv' := [(6, .int ((oTruck M (xs (i + 1)) (xs (i + 2))).2.1)), (5, .int (nI ((oTruck M (xs (i + 1)) (xs (i + 2))).1))), (0, .ref (b)), (1, .ref (a1 0)), (2, .ref (a1 100)), (3, .ref (a1 200)), (4, .int (nI (i)))]) hx hb dL_law_1082 hl (by decide) rfl (fun ls hl => ?_)
  refine lv_aload_n hx hb dL_law_1084 rfl (lv_at hl 4 rfl) ?_
  refine r_calli (post := fun r R' => r = fi R2 100 5 ∧ R' = R2) hc hA (va_runV (As := []) (rest := []) ⟨hx, hb, hml, hown, hts⟩ (c_X4_thrown l D g lv1 a1 R2 _ hJ2.2.2.2.1 hJ2.2.2.1 hJ2.2.2.2.2.1 _) (cwV 0 hts (glw gL_law_X4_thrown) rfl rfl rfl (by decide +kernel) ⟨Nat.le_of_ble_eq_true rfl, Nat.le_of_ble_eq_true rfl⟩) (r_preV hK hZ hc hA (hm2.1 100 rfl) (rfl) rfl) rfl rfl hl.1 rfl (lv_room (Nat.le_of_ble_eq_true rfl)) dL_law_1085 ⟨h1, h2⟩) (fun r R3 H locs hp3 hc => ?_)
  obtain ⟨hre, hRe⟩ := hp3
  rw [hRe] at hc
  rw [hre, ht2]
  refine lv_iload hx hb dL_law_1088 (lv_at hl 1 rfl) ?_
  refine lv_icmp_eq (tgt := 1095) hx hb dL_law_1090 (by decide) (fun hq_1 => ?_) (fun hq_1 => absurd rfl hq_1)
  refine lv_iload hx hb dL_law_1095 (lv_at hl 1 rfl) ?_
  refine lv_if_ne (tgt := 1112) hx hb dL_law_1097 (by decide) (fun hq_2 => ?_) (fun hq_2 => ?_)
  · have hq_2 : ¬ (((oTruck M (xs (i + 1)) (xs (i + 2))).1) = 0) := fun z => hq_2 ((nI_eq (a := ((oTruck M (xs (i + 1)) (xs (i + 2))).1)) (b := 0) (by omega) (by omega)).mpr z)
    refine lv_goto (tgt := 1252) hx hb dL_law_1112 (by decide) ?_
    exact kk lv1 a1 R2 (oTruck M (xs (i + 1)) (xs (i + 2))).2.2 _ _ ls hJ2 hc (lv_sub hl [2, 3, 4, 5, 6] rfl)
  · have hq_2 : ((oTruck M (xs (i + 1)) (xs (i + 2))).1) = 0 := (nI_eq (a := ((oTruck M (xs (i + 1)) (xs (i + 2))).1)) (b := 0) (by omega) (by omega)).mp hq_2
    have h0 := hq_2
    refine lv_aload_n hx hb dL_law_1100 rfl (lv_at hl 5 rfl) ?_
    refine lv_iconst (v := nI (0)) hx hb dL_law_1101 (by decide) ?_
    refine r_lald (v := ((oTruck M (xs (i + 1)) (xs (i + 2))).2.1).toInt64) hx hb hK.1 hc (hm3) (rfl) (by decide) (by omega) dL_law_1102 (ho2 h0 rfl) ?_
    refine lv_iload hx hb dL_law_1103 (lv_at hl 0 rfl) ?_
    refine lv_i2l hx hb dL_law_1105 rfl ?_
    refine W.lcmp hx hb dL_law_1106 ?_
    refine lv_if_eq (tgt := 1112) hx hb dL_law_1107 (by decide) (fun hq_3 => ?_) (fun hq_3 => absurd (lg_0.mpr rfl) hq_3)
    refine lv_goto (tgt := 1252) hx hb dL_law_1112 (by decide) ?_
    exact kk lv1 a1 R2 (oTruck M (xs (i + 1)) (xs (i + 2))).2.2 _ _ ls hJ2 hc (lv_sub hl [2, 3, 4, 5, 6] rfl)
set_option maxRecDepth 100000 in
set_option maxHeartbeats 4000000 in
theorem la_unload {p : Program} {l : Launch} {e : Env} {s : State} {m : MethodId} {below : List Frame} {meth : Method} {c : Code} {H : Heap} {locs : List Loc} {cells slots : Nat} {Q : State → Prop} {ls : Array Slot} {D : va_G} {g : Nat → ClassId} {lv : Nat → Bool} {a : Nat → Nat} {R : RS} {M : MS} {b L i : Nat} {xs : Nat → Int32} (X : LX p l s m c D g b L xs) (hJ : J lv a R M) (hi : i + 5 ≤ L) (hc : rc D g (lwA s) s.heap lv a R H locs) (hl : lv_has ls 7 [(0, .ref (b)), (1, .ref (a 0)), (2, .ref (a 100)), (3, .ref (a 200)), (4, .int (nI (i)))]) (h1 : cells + 6 ≤ 603072) (h2 : slots + 83 ≤ 7181976)
    (kk : ∀ (lv' : Nat → Bool) (a' : Nat → Nat) (R' : RS) (M' : MS) (H' : Heap) (locs' : List Loc) (ls' : Array Slot), J lv' a' R' M' → rc D g (lwA s) s.heap lv' a' R' H' locs' → lv_has ls' 7 [(0, .ref (b)), (1, .ref (a' 0)), (2, .ref (a' 100)), (3, .ref (a' 200)), (4, .int (nI (i)))] → W p l e room_1 s m #[Value.ref b] below meth c H' locs' (cells + 6) (slots + 83) Q (F0 m 1252 ls' [])) : W p l e room_1 s m #[Value.ref b] below meth c H locs cells slots Q (F0 m 1115 ls []) := by
  obtain ⟨hx, hb, hml, hown, hts, hK, hZ, hX, hbl, hl9, hL31⟩ := X
  have hA : ∀ q, s.heap.size ≤ q → lwA s q := fun _ h => h
  have h4 := ob_unload M (xs (i + 1))
  refine lv_aload_n hx hb dL_law_1115 rfl (lv_at hl 1 rfl) ?_
  refine lv_aload_n hx hb dL_law_1116 rfl (lv_at hl 0 rfl) ?_
  refine lv_iload hx hb dL_law_1117 (lv_at hl 4 rfl) ?_
  refine lv_iconst (v := nI (1)) hx hb dL_law_1119 (by decide) ?_
  refine nv_iadd hx hb dL_law_1120 ?_
  refine r_scr (j := i + 1) hx hb hX hbl hc.2.2 (by omega) hL31 dL_law_1121 ?_
  refine lv_aload_n hx hb dL_law_1122 rfl (lv_at hl 3 rfl) ?_
  refine r_tryA (post := fun r lv' a' R' => LQ lv a R true (oUnload M (xs (i + 1))) r lv' a' R') (xp := fun _ _ => False) hc hA (vx_runSX (hh := [(0, 9, 12, 13), (0, 9, 15, 23)]) (As := [.ref (a 0), .int (xs (i + 1)), .ref (a 200)]) (rest := []) ⟨hx, hb, hml, hown, hts⟩ (c_L_unload l hl9 D g lv a R M hJ.1 hJ.2.1 hJ.2.2.2.2.1 hJ.2.2.2.2.2 (xs (i + 1)) _) (vx_cwSW 3 hts (glw gL_law_L_unload) rfl rfl rfl (by decide +kernel) ⟨Nat.le_of_ble_eq_true rfl, Nat.le_of_ble_eq_true rfl⟩) (r_preS hK hZ hc hA) rfl rfl hl.1 rfl (lv_room (Nat.le_of_ble_eq_true rfl)) dL_law_1123 ⟨h1, h2⟩) (fun E ce q9 R' H locs hp => hp.elim) (fun r lv1 a1 R1 H locs hp hc => ?_)
  have hr1 := hp.1
  subst hr1
  have hs9 := sm_unload hJ.2.2.2.2.1 (xs (i + 1))
  obtain ⟨hm1, hm2, hm3, e0, e1, e2⟩ := j_1 hJ hp
  have hl : lv_has ls 7 [(0, .ref (b)), (1, .ref (a1 0)), (2, .ref (a1 100)), (3, .ref (a1 200)), (4, .int (nI (i)))] := by rw [e0, e1, e2]; exact hl
  refine lv_istore (lv' := [(5, .int (nI ((oUnload M (xs (i + 1))).1))), (0, .ref (b)), (1, .ref (a1 0)), (2, .ref (a1 100)), (3, .ref (a1 200)), (4, .int (nI (i)))]) hx hb dL_law_1126 hl (by decide) rfl (fun ls hl => ?_)
  refine lv_aload_n hx hb dL_law_1128 rfl (lv_at hl 3 rfl) ?_
  refine lv_aload_n hx hb dL_law_1129 rfl (lv_at hl 1 rfl) ?_
  refine lv_iload hx hb dL_law_1130 (lv_at hl 5 rfl) ?_
  refine lv_iconst (v := nI (1)) hx hb dL_law_1132 (by decide) ?_
  refine nv_iadd hx hb dL_law_1133 ?_
  refine r_scr (j := i + 1) hx hb hX hbl hc.2.2 (by omega) hL31 dL_law_1134 ?_
  refine r_calli (post := QM R1 (oUnload M (xs (i + 1)))) hc hA (va_runV (As := [.int (xs (i + 1))]) (rest := []) ⟨hx, hb, hml, hown, hts⟩ (c_X4_unload l D g lv1 a1 R1 M hm2 hm1 hJ.2.2.2.2.1 (xs (i + 1)) _) (cwV 1 hts (glw gL_law_X4_unload) rfl rfl rfl (by decide +kernel) ⟨Nat.le_of_ble_eq_true rfl, Nat.le_of_ble_eq_true rfl⟩) (r_preV hK hZ hc hA (hm2.1 100 rfl) (rfl) rfl) rfl rfl hl.1 rfl (lv_room (Nat.le_of_ble_eq_true rfl)) dL_law_1135 ⟨h1, h2⟩) (fun r R2 H locs hp2 hc => ?_)
  obtain ⟨hJ2, ht2, ho2⟩ := j_2 hp hs9.1.1 hm2 hm3 hp2
  have hr2 := hp2.1
  subst hr2
  refine lv_istore (lv' := [(6, .int ((oUnload M (xs (i + 1))).2.1)), (5, .int (nI ((oUnload M (xs (i + 1))).1))), (0, .ref (b)), (1, .ref (a1 0)), (2, .ref (a1 100)), (3, .ref (a1 200)), (4, .int (nI (i)))]) hx hb dL_law_1138 hl (by decide) rfl (fun ls hl => ?_)
  refine lv_aload_n hx hb dL_law_1140 rfl (lv_at hl 4 rfl) ?_
  refine r_calli (post := fun r R' => r = fi R2 100 5 ∧ R' = R2) hc hA (va_runV (As := []) (rest := []) ⟨hx, hb, hml, hown, hts⟩ (c_X4_thrown l D g lv1 a1 R2 _ hJ2.2.2.2.1 hJ2.2.2.1 hJ2.2.2.2.2.1 _) (cwV 0 hts (glw gL_law_X4_thrown) rfl rfl rfl (by decide +kernel) ⟨Nat.le_of_ble_eq_true rfl, Nat.le_of_ble_eq_true rfl⟩) (r_preV hK hZ hc hA (hm2.1 100 rfl) (rfl) rfl) rfl rfl hl.1 rfl (lv_room (Nat.le_of_ble_eq_true rfl)) dL_law_1141 ⟨h1, h2⟩) (fun r R3 H locs hp3 hc => ?_)
  obtain ⟨hre, hRe⟩ := hp3
  rw [hRe] at hc
  rw [hre, ht2]
  refine lv_iload hx hb dL_law_1144 (lv_at hl 1 rfl) ?_
  refine lv_icmp_eq (tgt := 1151) hx hb dL_law_1146 (by decide) (fun hq_1 => ?_) (fun hq_1 => absurd rfl hq_1)
  refine lv_iload hx hb dL_law_1151 (lv_at hl 1 rfl) ?_
  refine lv_if_ne (tgt := 1168) hx hb dL_law_1153 (by decide) (fun hq_2 => ?_) (fun hq_2 => ?_)
  · have hq_2 : ¬ (((oUnload M (xs (i + 1))).1) = 0) := fun z => hq_2 ((nI_eq (a := ((oUnload M (xs (i + 1))).1)) (b := 0) (by omega) (by omega)).mpr z)
    refine lv_goto (tgt := 1252) hx hb dL_law_1168 (by decide) ?_
    exact kk lv1 a1 R2 (oUnload M (xs (i + 1))).2.2 _ _ ls hJ2 hc (lv_sub hl [2, 3, 4, 5, 6] rfl)
  · have hq_2 : ((oUnload M (xs (i + 1))).1) = 0 := (nI_eq (a := ((oUnload M (xs (i + 1))).1)) (b := 0) (by omega) (by omega)).mp hq_2
    have h0 := hq_2
    refine lv_aload_n hx hb dL_law_1156 rfl (lv_at hl 5 rfl) ?_
    refine lv_iconst (v := nI (0)) hx hb dL_law_1157 (by decide) ?_
    refine r_lald (v := ((oUnload M (xs (i + 1))).2.1).toInt64) hx hb hK.1 hc (hm3) (rfl) (by decide) (by omega) dL_law_1158 (ho2 h0 rfl) ?_
    refine lv_iload hx hb dL_law_1159 (lv_at hl 0 rfl) ?_
    refine lv_i2l hx hb dL_law_1161 rfl ?_
    refine W.lcmp hx hb dL_law_1162 ?_
    refine lv_if_eq (tgt := 1168) hx hb dL_law_1163 (by decide) (fun hq_3 => ?_) (fun hq_3 => absurd (lg_0.mpr rfl) hq_3)
    refine lv_goto (tgt := 1252) hx hb dL_law_1168 (by decide) ?_
    exact kk lv1 a1 R2 (oUnload M (xs (i + 1))).2.2 _ _ ls hJ2 hc (lv_sub hl [2, 3, 4, 5, 6] rfl)
set_option maxRecDepth 100000 in
set_option maxHeartbeats 4000000 in
theorem la_order {p : Program} {l : Launch} {e : Env} {s : State} {m : MethodId} {below : List Frame} {meth : Method} {c : Code} {H : Heap} {locs : List Loc} {cells slots : Nat} {Q : State → Prop} {ls : Array Slot} {D : va_G} {g : Nat → ClassId} {lv : Nat → Bool} {a : Nat → Nat} {R : RS} {M : MS} {b L i : Nat} {xs : Nat → Int32} (X : LX p l s m c D g b L xs) (hJ : J lv a R M) (hi : i + 5 ≤ L) (hc : rc D g (lwA s) s.heap lv a R H locs) (hl : lv_has ls 7 [(0, .ref (b)), (1, .ref (a 0)), (2, .ref (a 100)), (3, .ref (a 200)), (4, .int (nI (i)))]) (h1 : cells + 6 ≤ 603072) (h2 : slots + 83 ≤ 7181976)
    (kk : ∀ (lv' : Nat → Bool) (a' : Nat → Nat) (R' : RS) (M' : MS) (H' : Heap) (locs' : List Loc) (ls' : Array Slot), J lv' a' R' M' → rc D g (lwA s) s.heap lv' a' R' H' locs' → lv_has ls' 7 [(0, .ref (b)), (1, .ref (a' 0)), (2, .ref (a' 100)), (3, .ref (a' 200)), (4, .int (nI (i)))] → W p l e room_1 s m #[Value.ref b] below meth c H' locs' (cells + 6) (slots + 83) Q (F0 m 1252 ls' [])) : W p l e room_1 s m #[Value.ref b] below meth c H locs cells slots Q (F0 m 1171 ls []) := by
  obtain ⟨hx, hb, hml, hown, hts, hK, hZ, hX, hbl, hl9, hL31⟩ := X
  have hA : ∀ q, s.heap.size ≤ q → lwA s q := fun _ h => h
  have h4 := ob_order M (xs (i + 1))
  refine lv_aload_n hx hb dL_law_1171 rfl (lv_at hl 1 rfl) ?_
  refine lv_aload_n hx hb dL_law_1172 rfl (lv_at hl 0 rfl) ?_
  refine lv_iload hx hb dL_law_1173 (lv_at hl 4 rfl) ?_
  refine lv_iconst (v := nI (1)) hx hb dL_law_1175 (by decide) ?_
  refine nv_iadd hx hb dL_law_1176 ?_
  refine r_scr (j := i + 1) hx hb hX hbl hc.2.2 (by omega) hL31 dL_law_1177 ?_
  refine lv_aload_n hx hb dL_law_1178 rfl (lv_at hl 3 rfl) ?_
  refine r_tryA (post := fun r lv' a' R' => LQ lv a R true (oOrder M (xs (i + 1))) r lv' a' R') (xp := fun _ _ => False) hc hA (vx_runSX (hh := [(0, 9, 12, 21)]) (As := [.ref (a 0), .int (xs (i + 1)), .ref (a 200)]) (rest := []) ⟨hx, hb, hml, hown, hts⟩ (c_L_order l hl9 D g lv a R M hJ.1 hJ.2.1 hJ.2.2.2.2.1 hJ.2.2.2.2.2 (xs (i + 1)) _) (vx_cwSW 3 hts (glw gL_law_L_order) rfl rfl rfl (by decide +kernel) ⟨Nat.le_of_ble_eq_true rfl, Nat.le_of_ble_eq_true rfl⟩) (r_preS hK hZ hc hA) rfl rfl hl.1 rfl (lv_room (Nat.le_of_ble_eq_true rfl)) dL_law_1179 ⟨h1, h2⟩) (fun E ce q9 R' H locs hp => hp.elim) (fun r lv1 a1 R1 H locs hp hc => ?_)
  have hr1 := hp.1
  subst hr1
  have hs9 := sm_order hJ.2.2.2.2.1 (xs (i + 1))
  obtain ⟨hm1, hm2, hm3, e0, e1, e2⟩ := j_1 hJ hp
  have hl : lv_has ls 7 [(0, .ref (b)), (1, .ref (a1 0)), (2, .ref (a1 100)), (3, .ref (a1 200)), (4, .int (nI (i)))] := by rw [e0, e1, e2]; exact hl
  refine lv_istore (lv' := [(5, .int (nI ((oOrder M (xs (i + 1))).1))), (0, .ref (b)), (1, .ref (a1 0)), (2, .ref (a1 100)), (3, .ref (a1 200)), (4, .int (nI (i)))]) hx hb dL_law_1182 hl (by decide) rfl (fun ls hl => ?_)
  refine lv_aload_n hx hb dL_law_1184 rfl (lv_at hl 3 rfl) ?_
  refine lv_aload_n hx hb dL_law_1185 rfl (lv_at hl 1 rfl) ?_
  refine lv_iload hx hb dL_law_1186 (lv_at hl 5 rfl) ?_
  refine lv_iconst (v := nI (1)) hx hb dL_law_1188 (by decide) ?_
  refine nv_iadd hx hb dL_law_1189 ?_
  refine r_scr (j := i + 1) hx hb hX hbl hc.2.2 (by omega) hL31 dL_law_1190 ?_
  refine r_calli (post := QM R1 (oOrder M (xs (i + 1)))) hc hA (va_runV (As := [.int (xs (i + 1))]) (rest := []) ⟨hx, hb, hml, hown, hts⟩ (c_X4_order l D g lv1 a1 R1 M hm2 hm1 hJ.2.2.2.2.1 (xs (i + 1)) _) (cwV 1 hts (glw gL_law_X4_order) rfl rfl rfl (by decide +kernel) ⟨Nat.le_of_ble_eq_true rfl, Nat.le_of_ble_eq_true rfl⟩) (r_preV hK hZ hc hA (hm2.1 100 rfl) (rfl) rfl) rfl rfl hl.1 rfl (lv_room (Nat.le_of_ble_eq_true rfl)) dL_law_1191 ⟨h1, h2⟩) (fun r R2 H locs hp2 hc => ?_)
  obtain ⟨hJ2, ht2, ho2⟩ := j_2 hp hs9.1.1 hm2 hm3 hp2
  have hr2 := hp2.1
  subst hr2
  refine lv_istore (lv' := [(6, .int ((oOrder M (xs (i + 1))).2.1)), (5, .int (nI ((oOrder M (xs (i + 1))).1))), (0, .ref (b)), (1, .ref (a1 0)), (2, .ref (a1 100)), (3, .ref (a1 200)), (4, .int (nI (i)))]) hx hb dL_law_1194 hl (by decide) rfl (fun ls hl => ?_)
  refine lv_aload_n hx hb dL_law_1196 rfl (lv_at hl 4 rfl) ?_
  refine r_calli (post := fun r R' => r = fi R2 100 5 ∧ R' = R2) hc hA (va_runV (As := []) (rest := []) ⟨hx, hb, hml, hown, hts⟩ (c_X4_thrown l D g lv1 a1 R2 _ hJ2.2.2.2.1 hJ2.2.2.1 hJ2.2.2.2.2.1 _) (cwV 0 hts (glw gL_law_X4_thrown) rfl rfl rfl (by decide +kernel) ⟨Nat.le_of_ble_eq_true rfl, Nat.le_of_ble_eq_true rfl⟩) (r_preV hK hZ hc hA (hm2.1 100 rfl) (rfl) rfl) rfl rfl hl.1 rfl (lv_room (Nat.le_of_ble_eq_true rfl)) dL_law_1197 ⟨h1, h2⟩) (fun r R3 H locs hp3 hc => ?_)
  obtain ⟨hre, hRe⟩ := hp3
  rw [hRe] at hc
  rw [hre, ht2]
  refine lv_iload hx hb dL_law_1200 (lv_at hl 1 rfl) ?_
  refine lv_icmp_eq (tgt := 1207) hx hb dL_law_1202 (by decide) (fun hq_1 => ?_) (fun hq_1 => absurd rfl hq_1)
  refine lv_iload hx hb dL_law_1207 (lv_at hl 1 rfl) ?_
  refine lv_if_ne (tgt := 1224) hx hb dL_law_1209 (by decide) (fun hq_2 => ?_) (fun hq_2 => ?_)
  · have hq_2 : ¬ (((oOrder M (xs (i + 1))).1) = 0) := fun z => hq_2 ((nI_eq (a := ((oOrder M (xs (i + 1))).1)) (b := 0) (by omega) (by omega)).mpr z)
    refine lv_goto (tgt := 1252) hx hb dL_law_1224 (by decide) ?_
    exact kk lv1 a1 R2 (oOrder M (xs (i + 1))).2.2 _ _ ls hJ2 hc (lv_sub hl [2, 3, 4, 5, 6] rfl)
  · have hq_2 : ((oOrder M (xs (i + 1))).1) = 0 := (nI_eq (a := ((oOrder M (xs (i + 1))).1)) (b := 0) (by omega) (by omega)).mp hq_2
    have h0 := hq_2
    refine lv_aload_n hx hb dL_law_1212 rfl (lv_at hl 5 rfl) ?_
    refine lv_iconst (v := nI (0)) hx hb dL_law_1213 (by decide) ?_
    refine r_lald (v := ((oOrder M (xs (i + 1))).2.1).toInt64) hx hb hK.1 hc (hm3) (rfl) (by decide) (by omega) dL_law_1214 (ho2 h0 rfl) ?_
    refine lv_iload hx hb dL_law_1215 (lv_at hl 0 rfl) ?_
    refine lv_i2l hx hb dL_law_1217 rfl ?_
    refine W.lcmp hx hb dL_law_1218 ?_
    refine lv_if_eq (tgt := 1224) hx hb dL_law_1219 (by decide) (fun hq_3 => ?_) (fun hq_3 => absurd (lg_0.mpr rfl) hq_3)
    refine lv_goto (tgt := 1252) hx hb dL_law_1224 (by decide) ?_
    exact kk lv1 a1 R2 (oOrder M (xs (i + 1))).2.2 _ _ ls hJ2 hc (lv_sub hl [2, 3, 4, 5, 6] rfl)
set_option maxRecDepth 100000 in
set_option maxHeartbeats 4000000 in
theorem la_count {p : Program} {l : Launch} {e : Env} {s : State} {m : MethodId} {below : List Frame} {meth : Method} {c : Code} {H : Heap} {locs : List Loc} {cells slots : Nat} {Q : State → Prop} {ls : Array Slot} {D : va_G} {g : Nat → ClassId} {lv : Nat → Bool} {a : Nat → Nat} {R : RS} {M : MS} {b L i : Nat} {xs : Nat → Int32} (X : LX p l s m c D g b L xs) (hJ : J lv a R M) (hi : i + 5 ≤ L) (hc : rc D g (lwA s) s.heap lv a R H locs) (hl : lv_has ls 7 [(0, .ref (b)), (1, .ref (a 0)), (2, .ref (a 100)), (3, .ref (a 200)), (4, .int (nI (i)))]) (h1 : cells + 6 ≤ 603072) (h2 : slots + 83 ≤ 7181976)
    (kk : ∀ (lv' : Nat → Bool) (a' : Nat → Nat) (R' : RS) (M' : MS) (H' : Heap) (locs' : List Loc) (ls' : Array Slot), J lv' a' R' M' → rc D g (lwA s) s.heap lv' a' R' H' locs' → lv_has ls' 7 [(0, .ref (b)), (1, .ref (a' 0)), (2, .ref (a' 100)), (3, .ref (a' 200)), (4, .int (nI (i)))] → W p l e room_1 s m #[Value.ref b] below meth c H' locs' (cells + 6) (slots + 83) Q (F0 m 1252 ls' [])) : W p l e room_1 s m #[Value.ref b] below meth c H locs cells slots Q (F0 m 1227 ls []) := by
  obtain ⟨hx, hb, hml, hown, hts, hK, hZ, hX, hbl, hl9, hL31⟩ := X
  have hA : ∀ q, s.heap.size ≤ q → lwA s q := fun _ h => h
  have h1' := h1
  have h2' := h2
  have h1 : cells + 0 ≤ 603072 := by omega
  have h2 : slots + 0 ≤ 7181976 := by omega
  refine lv_aload_n hx hb dL_law_1227 rfl (lv_at hl 1 rfl) ?_
  refine lv_aload_n hx hb dL_law_1228 rfl (lv_at hl 0 rfl) ?_
  refine lv_iload hx hb dL_law_1229 (lv_at hl 4 rfl) ?_
  refine lv_iconst (v := nI (1)) hx hb dL_law_1231 (by decide) ?_
  refine nv_iadd hx hb dL_law_1232 ?_
  refine r_scr (j := i + 1) hx hb hX hbl hc.2.2 (by omega) hL31 dL_law_1233 ?_
  refine r_calli (post := fun r R' => r = oCount M (xs (i + 1)) ∧ R' = R) hc hA (va_runV (As := [.int (xs (i + 1))]) (rest := []) ⟨hx, hb, hml, hown, hts⟩ (c_X3_count l D g lv a R M hJ.1 hJ.2.1 hJ.2.2.2.2.1 (xs (i + 1)) _) (cwV 1 hts (glw gL_law_X3_count) rfl rfl rfl (by decide +kernel) ⟨Nat.le_of_ble_eq_true rfl, Nat.le_of_ble_eq_true rfl⟩) (r_preV hK hZ hc hA (hJ.1.1.1) (rfl) rfl) rfl rfl hl.1 rfl (lv_room (Nat.le_of_ble_eq_true rfl)) dL_law_1234 ⟨h1, h2⟩) (fun r R3 H locs hp3 hc => ?_)
  obtain ⟨hre, hRe⟩ := hp3
  rw [hRe] at hc
  rw [hre]
  refine lv_aload_n hx hb dL_law_1237 rfl (lv_at hl 2 rfl) ?_
  refine lv_aload_n hx hb dL_law_1238 rfl (lv_at hl 0 rfl) ?_
  refine lv_iload hx hb dL_law_1239 (lv_at hl 4 rfl) ?_
  refine lv_iconst (v := nI (1)) hx hb dL_law_1241 (by decide) ?_
  refine nv_iadd hx hb dL_law_1242 ?_
  refine r_scr (j := i + 1) hx hb hX hbl hc.2.2 (by omega) hL31 dL_law_1243 ?_
  refine r_calli (post := fun r R' => r = oCount M (xs (i + 1)) ∧ PM R' M ∧ outM R R') hc hA (va_runV (As := [.int (xs (i + 1))]) (rest := [.int (oCount M (xs (i + 1)))]) ⟨hx, hb, hml, hown, hts⟩ (c_X4_count_ l D g lv a R M hJ.2.2.2.1 hJ.2.2.1 hJ.2.2.2.2.1 (xs (i + 1)) _) (cwV 1 hts (glw gL_law_X4_count_) rfl rfl rfl (by decide +kernel) ⟨Nat.le_of_ble_eq_true rfl, Nat.le_of_ble_eq_true rfl⟩) (r_preV hK hZ hc hA (hJ.2.2.2.1.1 100 rfl) (rfl) rfl) rfl rfl hl.1 rfl (lv_room (Nat.le_of_ble_eq_true rfl)) dL_law_1244 ⟨h1, h2⟩) (fun r R2 H locs hp3 hc => ?_)
  obtain ⟨hre, hm4, hm5⟩ := hp3
  rw [hre]
  have hJ2 := j_3 hJ hm4 hm5
  refine lv_icmp_eq (tgt := 1252) hx hb dL_law_1247 (by decide) (fun hq_1 => ?_) (fun hq_1 => absurd rfl hq_1)
  refine W.widen (k := cells + 6) (n := slots + 83) (by omega) (by omega) ?_
  exact kk lv a R2 M _ _ ls hJ2 hc (lv_sub hl [0, 1, 2, 3, 4] rfl)
