set_option maxRecDepth 100000 in
set_option maxHeartbeats 4000000 in
theorem la_pallet {p : Program} {l : Launch} {e : Env} {s : State} {m : MethodId} {below : List Frame} {meth : Method} {c : Code} {H : Heap} {locs : List Loc} {cells slots : Nat} {Q : State → Prop} {ls : Array Slot} {D : va_G} {g : Nat → ClassId} {lv : Nat → Bool} {a : Nat → Nat} {R : RS} {M : MS} {b L i : Nat} {xs : Nat → Int32} (X : LX p l s m c D g b L xs) (hJ : J lv a R M) (hi : i + 5 ≤ L) (hc : rc D g (lwA s) s.heap lv a R H locs) (hl : lv_has ls 7 [(0, .ref (b)), (1, .ref (a 0)), (2, .ref (a 100)), (3, .ref (a 200)), (4, .int (nI (i)))]) (h1 : cells + 6 ≤ 603072) (h2 : slots + 83 ≤ 7181976)
    (kk : ∀ (lv' : Nat → Bool) (a' : Nat → Nat) (R' : RS) (M' : MS) (H' : Heap) (locs' : List Loc) (ls' : Array Slot), J lv' a' R' M' → rc D g (lwA s) s.heap lv' a' R' H' locs' → lv_has ls' 7 [(0, .ref (b)), (1, .ref (a' 0)), (2, .ref (a' 100)), (3, .ref (a' 200)), (4, .int (nI (i)))] → W p l e room_1 s m #[Value.ref b] below meth c H' locs' (cells + 6) (slots + 83) Q (F0 m 1252 ls' [])) : W p l e room_1 s m #[Value.ref b] below meth c H locs cells slots Q (F0 m 559 ls []) := by
  obtain ⟨hx, hb, hml, hown, hts, hK, hZ, hX, hbl, hl9, hL31⟩ := X
  have hA : ∀ q, s.heap.size ≤ q → lwA s q := fun _ h => h
  have h4 := ob_pallet M
  refine lv_aload_n hx hb dL_law_559 rfl (lv_at hl 1 rfl) ?_
  refine lv_aload_n hx hb dL_law_560 rfl (lv_at hl 3 rfl) ?_
  refine r_tryA (post := fun r lv' a' R' => LQ lv a R true (oPallet M) r lv' a' R') (xp := fun _ _ => False) hc hA (vx_runSX (hh := [(0, 8, 11, 15)]) (As := [.ref (a 0), .ref (a 200)]) (rest := []) ⟨hx, hb, hml, hown, hts⟩ (c_L_pallet l hl9 D g lv a R M hJ.1 hJ.2.1 hJ.2.2.2.2.1 hJ.2.2.2.2.2 _) (vx_cwSW 2 hts (glw gL_law_L_pallet) rfl rfl rfl (by decide +kernel) ⟨Nat.le_of_ble_eq_true rfl, Nat.le_of_ble_eq_true rfl⟩) (r_preS hK hZ hc hA) rfl rfl hl.1 rfl (lv_room (Nat.le_of_ble_eq_true rfl)) dL_law_561 ⟨h1, h2⟩) (fun E ce q9 R' H locs hp => hp.elim) (fun r lv1 a1 R1 H locs hp hc => ?_)
  have hr1 := hp.1
  subst hr1
  have hs9 := sm_pallet hJ.2.2.2.2.1
  obtain ⟨hm1, hm2, hm3, e0, e1, e2⟩ := j_1 hJ hp
  have hl : lv_has ls 7 [(0, .ref (b)), (1, .ref (a1 0)), (2, .ref (a1 100)), (3, .ref (a1 200)), (4, .int (nI (i)))] := by rw [e0, e1, e2]; exact hl
  refine lv_istore (lv' := [(5, .int (nI ((oPallet M).1))), (0, .ref (b)), (1, .ref (a1 0)), (2, .ref (a1 100)), (3, .ref (a1 200)), (4, .int (nI (i)))]) hx hb dL_law_564 hl (by decide) rfl (fun ls hl => ?_)
  refine lv_aload_n hx hb dL_law_566 rfl (lv_at hl 3 rfl) ?_
  refine r_calli (post := QM R1 (oPallet M)) hc hA (va_runV (As := []) (rest := []) ⟨hx, hb, hml, hown, hts⟩ (c_X4_pallet l D g lv1 a1 R1 M hm2 hm1 hJ.2.2.2.2.1 _) (cwV 0 hts (glw gL_law_X4_pallet) rfl rfl rfl (by decide +kernel) ⟨Nat.le_of_ble_eq_true rfl, Nat.le_of_ble_eq_true rfl⟩) (r_preV hK hZ hc hA (hm2.1 100 rfl) (rfl) rfl) rfl rfl hl.1 rfl (lv_room (Nat.le_of_ble_eq_true rfl)) dL_law_567 ⟨h1, h2⟩) (fun r R2 H locs hp2 hc => ?_)
  obtain ⟨hJ2, ht2, ho2⟩ := j_2 hp hs9.1 hm2 hm3 hp2
  have hr2 := hp2.1
  subst hr2
  refine lv_istore (lv' := [(6, .int ((oPallet M).2.1)), (5, .int (nI ((oPallet M).1))), (0, .ref (b)), (1, .ref (a1 0)), (2, .ref (a1 100)), (3, .ref (a1 200)), (4, .int (nI (i)))]) hx hb dL_law_570 hl (by decide) rfl (fun ls hl => ?_)
  refine lv_aload_n hx hb dL_law_572 rfl (lv_at hl 4 rfl) ?_
  refine r_calli (post := fun r R' => r = fi R2 100 5 ∧ R' = R2) hc hA (va_runV (As := []) (rest := []) ⟨hx, hb, hml, hown, hts⟩ (c_X4_thrown l D g lv1 a1 R2 _ hJ2.2.2.2.1 hJ2.2.2.1 hJ2.2.2.2.2.1 _) (cwV 0 hts (glw gL_law_X4_thrown) rfl rfl rfl (by decide +kernel) ⟨Nat.le_of_ble_eq_true rfl, Nat.le_of_ble_eq_true rfl⟩) (r_preV hK hZ hc hA (hm2.1 100 rfl) (rfl) rfl) rfl rfl hl.1 rfl (lv_room (Nat.le_of_ble_eq_true rfl)) dL_law_573 ⟨h1, h2⟩) (fun r R3 H locs hp3 hc => ?_)
  obtain ⟨hre, hRe⟩ := hp3
  rw [hRe] at hc
  rw [hre, ht2]
  refine lv_iload hx hb dL_law_576 (lv_at hl 1 rfl) ?_
  refine lv_icmp_eq (tgt := 583) hx hb dL_law_578 (by decide) (fun hq_1 => ?_) (fun hq_1 => absurd rfl hq_1)
  refine lv_iload hx hb dL_law_583 (lv_at hl 1 rfl) ?_
  refine lv_if_ne (tgt := 600) hx hb dL_law_585 (by decide) (fun hq_2 => ?_) (fun hq_2 => ?_)
  · have hq_2 : ¬ (((oPallet M).1) = 0) := fun z => hq_2 ((nI_eq (a := ((oPallet M).1)) (b := 0) (by omega) (by omega)).mpr z)
    refine lv_goto (tgt := 1252) hx hb dL_law_600 (by decide) ?_
    exact kk lv1 a1 R2 (oPallet M).2.2 _ _ ls hJ2 hc (lv_sub hl [2, 3, 4, 5, 6] rfl)
  · have hq_2 : ((oPallet M).1) = 0 := (nI_eq (a := ((oPallet M).1)) (b := 0) (by omega) (by omega)).mp hq_2
    have h0 := hq_2
    refine lv_aload_n hx hb dL_law_588 rfl (lv_at hl 5 rfl) ?_
    refine lv_iconst (v := nI (0)) hx hb dL_law_589 (by decide) ?_
    refine r_lald (v := ((oPallet M).2.1).toInt64) hx hb hK.1 hc (hm3) (rfl) (by decide) (by omega) dL_law_590 (ho2 h0 rfl) ?_
    refine lv_iload hx hb dL_law_591 (lv_at hl 0 rfl) ?_
    refine lv_i2l hx hb dL_law_593 rfl ?_
    refine W.lcmp hx hb dL_law_594 ?_
    refine lv_if_eq (tgt := 600) hx hb dL_law_595 (by decide) (fun hq_3 => ?_) (fun hq_3 => absurd (lg_0.mpr rfl) hq_3)
    refine lv_goto (tgt := 1252) hx hb dL_law_600 (by decide) ?_
    exact kk lv1 a1 R2 (oPallet M).2.2 _ _ ls hJ2 hc (lv_sub hl [2, 3, 4, 5, 6] rfl)
set_option maxRecDepth 100000 in
set_option maxHeartbeats 4000000 in
theorem la_put {p : Program} {l : Launch} {e : Env} {s : State} {m : MethodId} {below : List Frame} {meth : Method} {c : Code} {H : Heap} {locs : List Loc} {cells slots : Nat} {Q : State → Prop} {ls : Array Slot} {D : va_G} {g : Nat → ClassId} {lv : Nat → Bool} {a : Nat → Nat} {R : RS} {M : MS} {b L i : Nat} {xs : Nat → Int32} (X : LX p l s m c D g b L xs) (hJ : J lv a R M) (hi : i + 5 ≤ L) (hc : rc D g (lwA s) s.heap lv a R H locs) (hl : lv_has ls 7 [(0, .ref (b)), (1, .ref (a 0)), (2, .ref (a 100)), (3, .ref (a 200)), (4, .int (nI (i)))]) (h1 : cells + 6 ≤ 603072) (h2 : slots + 83 ≤ 7181976)
    (kk : ∀ (lv' : Nat → Bool) (a' : Nat → Nat) (R' : RS) (M' : MS) (H' : Heap) (locs' : List Loc) (ls' : Array Slot), J lv' a' R' M' → rc D g (lwA s) s.heap lv' a' R' H' locs' → lv_has ls' 7 [(0, .ref (b)), (1, .ref (a' 0)), (2, .ref (a' 100)), (3, .ref (a' 200)), (4, .int (nI (i)))] → W p l e room_1 s m #[Value.ref b] below meth c H' locs' (cells + 6) (slots + 83) Q (F0 m 1252 ls' [])) : W p l e room_1 s m #[Value.ref b] below meth c H locs cells slots Q (F0 m 603 ls []) := by
  obtain ⟨hx, hb, hml, hown, hts, hK, hZ, hX, hbl, hl9, hL31⟩ := X
  have hA : ∀ q, s.heap.size ≤ q → lwA s q := fun _ h => h
  have h4 := ob_put M (xs (i + 1)) (xs (i + 2)) (xs (i + 3))
  refine lv_aload_n hx hb dL_law_603 rfl (lv_at hl 1 rfl) ?_
  refine lv_aload_n hx hb dL_law_604 rfl (lv_at hl 0 rfl) ?_
  refine lv_iload hx hb dL_law_605 (lv_at hl 4 rfl) ?_
  refine lv_iconst (v := nI (1)) hx hb dL_law_607 (by decide) ?_
  refine nv_iadd hx hb dL_law_608 ?_
  refine r_scr (j := i + 1) hx hb hX hbl hc.2.2 (by omega) hL31 dL_law_609 ?_
  refine lv_aload_n hx hb dL_law_610 rfl (lv_at hl 0 rfl) ?_
  refine lv_iload hx hb dL_law_611 (lv_at hl 4 rfl) ?_
  refine lv_iconst (v := nI (2)) hx hb dL_law_613 (by decide) ?_
  refine nv_iadd hx hb dL_law_614 ?_
  refine r_scr (j := i + 2) hx hb hX hbl hc.2.2 (by omega) hL31 dL_law_615 ?_
  refine lv_aload_n hx hb dL_law_616 rfl (lv_at hl 0 rfl) ?_
  refine lv_iload hx hb dL_law_617 (lv_at hl 4 rfl) ?_
  refine lv_iconst (v := nI (3)) hx hb dL_law_619 (by decide) ?_
  refine nv_iadd hx hb dL_law_620 ?_
  refine r_scr (j := i + 3) hx hb hX hbl hc.2.2 (by omega) hL31 dL_law_621 ?_
  refine lv_aload_n hx hb dL_law_622 rfl (lv_at hl 3 rfl) ?_
  refine r_tryA (post := fun r lv' a' R' => LQ lv a R true (oPut M (xs (i + 1)) (xs (i + 2)) (xs (i + 3))) r lv' a' R') (xp := fun _ _ => False) hc hA (vx_runSX (hh := [(0, 12, 15, 21), (0, 12, 19, 13), (0, 12, 23, 23), (0, 12, 27, 15)]) (As := [.ref (a 0), .int (xs (i + 1)), .int (xs (i + 2)), .int (xs (i + 3)), .ref (a 200)]) (rest := []) ⟨hx, hb, hml, hown, hts⟩ (c_L_put l hl9 D g lv a R M hJ.1 hJ.2.1 hJ.2.2.2.2.1 hJ.2.2.2.2.2 (xs (i + 1)) (xs (i + 2)) (xs (i + 3)) _) (vx_cwSW 5 hts (glw gL_law_L_put) rfl rfl rfl (by decide +kernel) ⟨Nat.le_of_ble_eq_true rfl, Nat.le_of_ble_eq_true rfl⟩) (r_preS hK hZ hc hA) rfl rfl hl.1 rfl (lv_room (Nat.le_of_ble_eq_true rfl)) dL_law_623 ⟨h1, h2⟩) (fun E ce q9 R' H locs hp => hp.elim) (fun r lv1 a1 R1 H locs hp hc => ?_)
  have hr1 := hp.1
  subst hr1
  have hs9 := sm_put hJ.2.2.2.2.1 (xs (i + 1)) (xs (i + 2)) (xs (i + 3))
  obtain ⟨hm1, hm2, hm3, e0, e1, e2⟩ := j_1 hJ hp
  have hl : lv_has ls 7 [(0, .ref (b)), (1, .ref (a1 0)), (2, .ref (a1 100)), (3, .ref (a1 200)), (4, .int (nI (i)))] := by rw [e0, e1, e2]; exact hl
  refine lv_istore (lv' := [(5, .int (nI ((oPut M (xs (i + 1)) (xs (i + 2)) (xs (i + 3))).1))), (0, .ref (b)), (1, .ref (a1 0)), (2, .ref (a1 100)), (3, .ref (a1 200)), (4, .int (nI (i)))]) hx hb dL_law_626 hl (by decide) rfl (fun ls hl => ?_)
  refine lv_aload_n hx hb dL_law_628 rfl (lv_at hl 3 rfl) ?_
  refine lv_aload_n hx hb dL_law_629 rfl (lv_at hl 1 rfl) ?_
  refine lv_iload hx hb dL_law_630 (lv_at hl 5 rfl) ?_
  refine lv_iconst (v := nI (1)) hx hb dL_law_632 (by decide) ?_
  refine nv_iadd hx hb dL_law_633 ?_
  refine r_scr (j := i + 1) hx hb hX hbl hc.2.2 (by omega) hL31 dL_law_634 ?_
  refine lv_aload_n hx hb dL_law_635 rfl (lv_at hl 1 rfl) ?_
  refine lv_iload hx hb dL_law_636 (lv_at hl 5 rfl) ?_
  refine lv_iconst (v := nI (2)) hx hb dL_law_638 (by decide) ?_
  refine nv_iadd hx hb dL_law_639 ?_
  refine r_scr (j := i + 2) hx hb hX hbl hc.2.2 (by omega) hL31 dL_law_640 ?_
  refine lv_aload_n hx hb dL_law_641 rfl (lv_at hl 1 rfl) ?_
  refine lv_iload hx hb dL_law_642 (lv_at hl 5 rfl) ?_
  refine lv_iconst (v := nI (3)) hx hb dL_law_644 (by decide) ?_
  refine nv_iadd hx hb dL_law_645 ?_
  refine r_scr (j := i + 3) hx hb hX hbl hc.2.2 (by omega) hL31 dL_law_646 ?_
  refine r_calli (post := QM R1 (oPut M (xs (i + 1)) (xs (i + 2)) (xs (i + 3)))) hc hA (va_runV (As := [.int (xs (i + 1)), .int (xs (i + 2)), .int (xs (i + 3))]) (rest := []) ⟨hx, hb, hml, hown, hts⟩ (c_X4_put l D g lv1 a1 R1 M hm2 hm1 hJ.2.2.2.2.1 (xs (i + 1)) (xs (i + 2)) (xs (i + 3)) _) (cwV 3 hts (glw gL_law_X4_put) rfl rfl rfl (by decide +kernel) ⟨Nat.le_of_ble_eq_true rfl, Nat.le_of_ble_eq_true rfl⟩) (r_preV hK hZ hc hA (hm2.1 100 rfl) (rfl) rfl) rfl rfl hl.1 rfl (lv_room (Nat.le_of_ble_eq_true rfl)) dL_law_647 ⟨h1, h2⟩) (fun r R2 H locs hp2 hc => ?_)
  obtain ⟨hJ2, ht2, ho2⟩ := j_2 hp hs9.1.1 hm2 hm3 hp2
  have hr2 := hp2.1
  subst hr2
  refine lv_istore (lv' := [(6, .int ((oPut M (xs (i + 1)) (xs (i + 2)) (xs (i + 3))).2.1)), (5, .int (nI ((oPut M (xs (i + 1)) (xs (i + 2)) (xs (i + 3))).1))), (0, .ref (b)), (1, .ref (a1 0)), (2, .ref (a1 100)), (3, .ref (a1 200)), (4, .int (nI (i)))]) hx hb dL_law_650 hl (by decide) rfl (fun ls hl => ?_)
  refine lv_aload_n hx hb dL_law_652 rfl (lv_at hl 4 rfl) ?_
  refine r_calli (post := fun r R' => r = fi R2 100 5 ∧ R' = R2) hc hA (va_runV (As := []) (rest := []) ⟨hx, hb, hml, hown, hts⟩ (c_X4_thrown l D g lv1 a1 R2 _ hJ2.2.2.2.1 hJ2.2.2.1 hJ2.2.2.2.2.1 _) (cwV 0 hts (glw gL_law_X4_thrown) rfl rfl rfl (by decide +kernel) ⟨Nat.le_of_ble_eq_true rfl, Nat.le_of_ble_eq_true rfl⟩) (r_preV hK hZ hc hA (hm2.1 100 rfl) (rfl) rfl) rfl rfl hl.1 rfl (lv_room (Nat.le_of_ble_eq_true rfl)) dL_law_653 ⟨h1, h2⟩) (fun r R3 H locs hp3 hc => ?_)
  obtain ⟨hre, hRe⟩ := hp3
  rw [hRe] at hc
  rw [hre, ht2]
  refine lv_iload hx hb dL_law_656 (lv_at hl 1 rfl) ?_
  refine lv_icmp_eq (tgt := 663) hx hb dL_law_658 (by decide) (fun hq_1 => ?_) (fun hq_1 => absurd rfl hq_1)
  refine lv_iload hx hb dL_law_663 (lv_at hl 1 rfl) ?_
  refine lv_if_ne (tgt := 680) hx hb dL_law_665 (by decide) (fun hq_2 => ?_) (fun hq_2 => ?_)
  · have hq_2 : ¬ (((oPut M (xs (i + 1)) (xs (i + 2)) (xs (i + 3))).1) = 0) := fun z => hq_2 ((nI_eq (a := ((oPut M (xs (i + 1)) (xs (i + 2)) (xs (i + 3))).1)) (b := 0) (by omega) (by omega)).mpr z)
    refine lv_goto (tgt := 1252) hx hb dL_law_680 (by decide) ?_
    exact kk lv1 a1 R2 (oPut M (xs (i + 1)) (xs (i + 2)) (xs (i + 3))).2.2 _ _ ls hJ2 hc (lv_sub hl [2, 3, 4, 5, 6] rfl)
  · have hq_2 : ((oPut M (xs (i + 1)) (xs (i + 2)) (xs (i + 3))).1) = 0 := (nI_eq (a := ((oPut M (xs (i + 1)) (xs (i + 2)) (xs (i + 3))).1)) (b := 0) (by omega) (by omega)).mp hq_2
    have h0 := hq_2
    refine lv_aload_n hx hb dL_law_668 rfl (lv_at hl 5 rfl) ?_
    refine lv_iconst (v := nI (0)) hx hb dL_law_669 (by decide) ?_
    refine r_lald (v := ((oPut M (xs (i + 1)) (xs (i + 2)) (xs (i + 3))).2.1).toInt64) hx hb hK.1 hc (hm3) (rfl) (by decide) (by omega) dL_law_670 (ho2 h0 rfl) ?_
    refine lv_iload hx hb dL_law_671 (lv_at hl 0 rfl) ?_
    refine lv_i2l hx hb dL_law_673 rfl ?_
    refine W.lcmp hx hb dL_law_674 ?_
    refine lv_if_eq (tgt := 680) hx hb dL_law_675 (by decide) (fun hq_3 => ?_) (fun hq_3 => absurd (lg_0.mpr rfl) hq_3)
    refine lv_goto (tgt := 1252) hx hb dL_law_680 (by decide) ?_
    exact kk lv1 a1 R2 (oPut M (xs (i + 1)) (xs (i + 2)) (xs (i + 3))).2.2 _ _ ls hJ2 hc (lv_sub hl [2, 3, 4, 5, 6] rfl)
set_option maxRecDepth 100000 in
set_option maxHeartbeats 4000000 in
theorem la_fill {p : Program} {l : Launch} {e : Env} {s : State} {m : MethodId} {below : List Frame} {meth : Method} {c : Code} {H : Heap} {locs : List Loc} {cells slots : Nat} {Q : State → Prop} {ls : Array Slot} {D : va_G} {g : Nat → ClassId} {lv : Nat → Bool} {a : Nat → Nat} {R : RS} {M : MS} {b L i : Nat} {xs : Nat → Int32} (X : LX p l s m c D g b L xs) (hJ : J lv a R M) (hi : i + 5 ≤ L) (hc : rc D g (lwA s) s.heap lv a R H locs) (hl : lv_has ls 7 [(0, .ref (b)), (1, .ref (a 0)), (2, .ref (a 100)), (3, .ref (a 200)), (4, .int (nI (i)))]) (h1 : cells + 6 ≤ 603072) (h2 : slots + 83 ≤ 7181976)
    (kk : ∀ (lv' : Nat → Bool) (a' : Nat → Nat) (R' : RS) (M' : MS) (H' : Heap) (locs' : List Loc) (ls' : Array Slot), J lv' a' R' M' → rc D g (lwA s) s.heap lv' a' R' H' locs' → lv_has ls' 7 [(0, .ref (b)), (1, .ref (a' 0)), (2, .ref (a' 100)), (3, .ref (a' 200)), (4, .int (nI (i)))] → W p l e room_1 s m #[Value.ref b] below meth c H' locs' (cells + 6) (slots + 83) Q (F0 m 1252 ls' [])) : W p l e room_1 s m #[Value.ref b] below meth c H locs cells slots Q (F0 m 683 ls []) := by
  obtain ⟨hx, hb, hml, hown, hts, hK, hZ, hX, hbl, hl9, hL31⟩ := X
  have hA : ∀ q, s.heap.size ≤ q → lwA s q := fun _ h => h
  have h4 := ob_fill M (xs (i + 1)) (xs (i + 2)) (xs (i + 3))
  refine lv_aload_n hx hb dL_law_683 rfl (lv_at hl 1 rfl) ?_
  refine lv_aload_n hx hb dL_law_684 rfl (lv_at hl 0 rfl) ?_
  refine lv_iload hx hb dL_law_685 (lv_at hl 4 rfl) ?_
  refine lv_iconst (v := nI (1)) hx hb dL_law_687 (by decide) ?_
  refine nv_iadd hx hb dL_law_688 ?_
  refine r_scr (j := i + 1) hx hb hX hbl hc.2.2 (by omega) hL31 dL_law_689 ?_
  refine lv_aload_n hx hb dL_law_690 rfl (lv_at hl 0 rfl) ?_
  refine lv_iload hx hb dL_law_691 (lv_at hl 4 rfl) ?_
  refine lv_iconst (v := nI (2)) hx hb dL_law_693 (by decide) ?_
  refine nv_iadd hx hb dL_law_694 ?_
  refine r_scr (j := i + 2) hx hb hX hbl hc.2.2 (by omega) hL31 dL_law_695 ?_
  refine lv_aload_n hx hb dL_law_696 rfl (lv_at hl 0 rfl) ?_
  refine lv_iload hx hb dL_law_697 (lv_at hl 4 rfl) ?_
  refine lv_iconst (v := nI (3)) hx hb dL_law_699 (by decide) ?_
  refine nv_iadd hx hb dL_law_700 ?_
  refine r_scr (j := i + 3) hx hb hX hbl hc.2.2 (by omega) hL31 dL_law_701 ?_
  refine lv_aload_n hx hb dL_law_702 rfl (lv_at hl 3 rfl) ?_
  refine r_tryA (post := fun r lv' a' R' => LQ lv a R true (oFill M (xs (i + 1)) (xs (i + 2)) (xs (i + 3))) r lv' a' R') (xp := fun _ _ => False) hc hA (vx_runSX (hh := [(0, 12, 15, 21), (0, 12, 19, 13), (0, 12, 23, 23)]) (As := [.ref (a 0), .int (xs (i + 1)), .int (xs (i + 2)), .int (xs (i + 3)), .ref (a 200)]) (rest := []) ⟨hx, hb, hml, hown, hts⟩ (c_L_fill l hl9 D g lv a R M hJ.1 hJ.2.1 hJ.2.2.2.2.1 hJ.2.2.2.2.2 (xs (i + 1)) (xs (i + 2)) (xs (i + 3)) _) (vx_cwSW 5 hts (glw gL_law_L_fill) rfl rfl rfl (by decide +kernel) ⟨Nat.le_of_ble_eq_true rfl, Nat.le_of_ble_eq_true rfl⟩) (r_preS hK hZ hc hA) rfl rfl hl.1 rfl (lv_room (Nat.le_of_ble_eq_true rfl)) dL_law_703 ⟨h1, h2⟩) (fun E ce q9 R' H locs hp => hp.elim) (fun r lv1 a1 R1 H locs hp hc => ?_)
  have hr1 := hp.1
  subst hr1
  have hs9 := sm_fill hJ.2.2.2.2.1 (xs (i + 1)) (xs (i + 2)) (xs (i + 3))
  obtain ⟨hm1, hm2, hm3, e0, e1, e2⟩ := j_1 hJ hp
  have hl : lv_has ls 7 [(0, .ref (b)), (1, .ref (a1 0)), (2, .ref (a1 100)), (3, .ref (a1 200)), (4, .int (nI (i)))] := by rw [e0, e1, e2]; exact hl
  refine lv_istore (lv' := [(5, .int (nI ((oFill M (xs (i + 1)) (xs (i + 2)) (xs (i + 3))).1))), (0, .ref (b)), (1, .ref (a1 0)), (2, .ref (a1 100)), (3, .ref (a1 200)), (4, .int (nI (i)))]) hx hb dL_law_706 hl (by decide) rfl (fun ls hl => ?_)
  refine lv_aload_n hx hb dL_law_708 rfl (lv_at hl 3 rfl) ?_
  refine lv_aload_n hx hb dL_law_709 rfl (lv_at hl 1 rfl) ?_
  refine lv_iload hx hb dL_law_710 (lv_at hl 5 rfl) ?_
  refine lv_iconst (v := nI (1)) hx hb dL_law_712 (by decide) ?_
  refine nv_iadd hx hb dL_law_713 ?_
  refine r_scr (j := i + 1) hx hb hX hbl hc.2.2 (by omega) hL31 dL_law_714 ?_
  refine lv_aload_n hx hb dL_law_715 rfl (lv_at hl 1 rfl) ?_
  refine lv_iload hx hb dL_law_716 (lv_at hl 5 rfl) ?_
  refine lv_iconst (v := nI (2)) hx hb dL_law_718 (by decide) ?_
  refine nv_iadd hx hb dL_law_719 ?_
  refine r_scr (j := i + 2) hx hb hX hbl hc.2.2 (by omega) hL31 dL_law_720 ?_
  refine lv_aload_n hx hb dL_law_721 rfl (lv_at hl 1 rfl) ?_
  refine lv_iload hx hb dL_law_722 (lv_at hl 5 rfl) ?_
  refine lv_iconst (v := nI (3)) hx hb dL_law_724 (by decide) ?_
  refine nv_iadd hx hb dL_law_725 ?_
  refine r_scr (j := i + 3) hx hb hX hbl hc.2.2 (by omega) hL31 dL_law_726 ?_
  refine r_calli (post := QM R1 (oFill M (xs (i + 1)) (xs (i + 2)) (xs (i + 3)))) hc hA (va_runV (As := [.int (xs (i + 1)), .int (xs (i + 2)), .int (xs (i + 3))]) (rest := []) ⟨hx, hb, hml, hown, hts⟩ (c_X4_fill l D g lv1 a1 R1 M hm2 hm1 hJ.2.2.2.2.1 (xs (i + 1)) (xs (i + 2)) (xs (i + 3)) _) (cwV 3 hts (glw gL_law_X4_fill) rfl rfl rfl (by decide +kernel) ⟨Nat.le_of_ble_eq_true rfl, Nat.le_of_ble_eq_true rfl⟩) (r_preV hK hZ hc hA (hm2.1 100 rfl) (rfl) rfl) rfl rfl hl.1 rfl (lv_room (Nat.le_of_ble_eq_true rfl)) dL_law_727 ⟨h1, h2⟩) (fun r R2 H locs hp2 hc => ?_)
  obtain ⟨hJ2, ht2, ho2⟩ := j_2 hp hs9.1.1 hm2 hm3 hp2
  have hr2 := hp2.1
  subst hr2
  refine lv_istore (lv' := [(6, .int ((oFill M (xs (i + 1)) (xs (i + 2)) (xs (i + 3))).2.1)), (5, .int (nI ((oFill M (xs (i + 1)) (xs (i + 2)) (xs (i + 3))).1))), (0, .ref (b)), (1, .ref (a1 0)), (2, .ref (a1 100)), (3, .ref (a1 200)), (4, .int (nI (i)))]) hx hb dL_law_730 hl (by decide) rfl (fun ls hl => ?_)
  refine lv_aload_n hx hb dL_law_732 rfl (lv_at hl 4 rfl) ?_
  refine r_calli (post := fun r R' => r = fi R2 100 5 ∧ R' = R2) hc hA (va_runV (As := []) (rest := []) ⟨hx, hb, hml, hown, hts⟩ (c_X4_thrown l D g lv1 a1 R2 _ hJ2.2.2.2.1 hJ2.2.2.1 hJ2.2.2.2.2.1 _) (cwV 0 hts (glw gL_law_X4_thrown) rfl rfl rfl (by decide +kernel) ⟨Nat.le_of_ble_eq_true rfl, Nat.le_of_ble_eq_true rfl⟩) (r_preV hK hZ hc hA (hm2.1 100 rfl) (rfl) rfl) rfl rfl hl.1 rfl (lv_room (Nat.le_of_ble_eq_true rfl)) dL_law_733 ⟨h1, h2⟩) (fun r R3 H locs hp3 hc => ?_)
  obtain ⟨hre, hRe⟩ := hp3
  rw [hRe] at hc
  rw [hre, ht2]
  refine lv_iload hx hb dL_law_736 (lv_at hl 1 rfl) ?_
  refine lv_icmp_eq (tgt := 743) hx hb dL_law_738 (by decide) (fun hq_1 => ?_) (fun hq_1 => absurd rfl hq_1)
  refine lv_iload hx hb dL_law_743 (lv_at hl 1 rfl) ?_
  refine lv_if_ne (tgt := 760) hx hb dL_law_745 (by decide) (fun hq_2 => ?_) (fun hq_2 => ?_)
  · have hq_2 : ¬ (((oFill M (xs (i + 1)) (xs (i + 2)) (xs (i + 3))).1) = 0) := fun z => hq_2 ((nI_eq (a := ((oFill M (xs (i + 1)) (xs (i + 2)) (xs (i + 3))).1)) (b := 0) (by omega) (by omega)).mpr z)
    refine lv_goto (tgt := 1252) hx hb dL_law_760 (by decide) ?_
    exact kk lv1 a1 R2 (oFill M (xs (i + 1)) (xs (i + 2)) (xs (i + 3))).2.2 _ _ ls hJ2 hc (lv_sub hl [2, 3, 4, 5, 6] rfl)
  · have hq_2 : ((oFill M (xs (i + 1)) (xs (i + 2)) (xs (i + 3))).1) = 0 := (nI_eq (a := ((oFill M (xs (i + 1)) (xs (i + 2)) (xs (i + 3))).1)) (b := 0) (by omega) (by omega)).mp hq_2
    have h0 := hq_2
    refine lv_aload_n hx hb dL_law_748 rfl (lv_at hl 5 rfl) ?_
    refine lv_iconst (v := nI (0)) hx hb dL_law_749 (by decide) ?_
    refine r_lald (v := ((oFill M (xs (i + 1)) (xs (i + 2)) (xs (i + 3))).2.1).toInt64) hx hb hK.1 hc (hm3) (rfl) (by decide) (by omega) dL_law_750 (ho2 h0 rfl) ?_
    refine lv_iload hx hb dL_law_751 (lv_at hl 0 rfl) ?_
    refine lv_i2l hx hb dL_law_753 rfl ?_
    refine W.lcmp hx hb dL_law_754 ?_
    refine lv_if_eq (tgt := 760) hx hb dL_law_755 (by decide) (fun hq_3 => ?_) (fun hq_3 => absurd (lg_0.mpr rfl) hq_3)
    refine lv_goto (tgt := 1252) hx hb dL_law_760 (by decide) ?_
    exact kk lv1 a1 R2 (oFill M (xs (i + 1)) (xs (i + 2)) (xs (i + 3))).2.2 _ _ ls hJ2 hc (lv_sub hl [2, 3, 4, 5, 6] rfl)
set_option maxRecDepth 100000 in
set_option maxHeartbeats 4000000 in
theorem la_take {p : Program} {l : Launch} {e : Env} {s : State} {m : MethodId} {below : List Frame} {meth : Method} {c : Code} {H : Heap} {locs : List Loc} {cells slots : Nat} {Q : State → Prop} {ls : Array Slot} {D : va_G} {g : Nat → ClassId} {lv : Nat → Bool} {a : Nat → Nat} {R : RS} {M : MS} {b L i : Nat} {xs : Nat → Int32} (X : LX p l s m c D g b L xs) (hJ : J lv a R M) (hi : i + 5 ≤ L) (hc : rc D g (lwA s) s.heap lv a R H locs) (hl : lv_has ls 7 [(0, .ref (b)), (1, .ref (a 0)), (2, .ref (a 100)), (3, .ref (a 200)), (4, .int (nI (i)))]) (h1 : cells + 6 ≤ 603072) (h2 : slots + 83 ≤ 7181976)
    (kk : ∀ (lv' : Nat → Bool) (a' : Nat → Nat) (R' : RS) (M' : MS) (H' : Heap) (locs' : List Loc) (ls' : Array Slot), J lv' a' R' M' → rc D g (lwA s) s.heap lv' a' R' H' locs' → lv_has ls' 7 [(0, .ref (b)), (1, .ref (a' 0)), (2, .ref (a' 100)), (3, .ref (a' 200)), (4, .int (nI (i)))] → W p l e room_1 s m #[Value.ref b] below meth c H' locs' (cells + 6) (slots + 83) Q (F0 m 1252 ls' [])) : W p l e room_1 s m #[Value.ref b] below meth c H locs cells slots Q (F0 m 763 ls []) := by
  obtain ⟨hx, hb, hml, hown, hts, hK, hZ, hX, hbl, hl9, hL31⟩ := X
  have hA : ∀ q, s.heap.size ≤ q → lwA s q := fun _ h => h
  have h4 := ob_take M (xs (i + 1))
  refine lv_aload_n hx hb dL_law_763 rfl (lv_at hl 1 rfl) ?_
  refine lv_aload_n hx hb dL_law_764 rfl (lv_at hl 0 rfl) ?_
  refine lv_iload hx hb dL_law_765 (lv_at hl 4 rfl) ?_
  refine lv_iconst (v := nI (1)) hx hb dL_law_767 (by decide) ?_
  refine nv_iadd hx hb dL_law_768 ?_
  refine r_scr (j := i + 1) hx hb hX hbl hc.2.2 (by omega) hL31 dL_law_769 ?_
  refine lv_aload_n hx hb dL_law_770 rfl (lv_at hl 3 rfl) ?_
  refine r_tryA (post := fun r lv' a' R' => LQ lv a R true (oTake M (xs (i + 1))) r lv' a' R') (xp := fun _ _ => False) hc hA (vx_runSX (hh := [(0, 9, 12, 21), (0, 9, 15, 23)]) (As := [.ref (a 0), .int (xs (i + 1)), .ref (a 200)]) (rest := []) ⟨hx, hb, hml, hown, hts⟩ (c_L_take l hl9 D g lv a R M hJ.1 hJ.2.1 hJ.2.2.2.2.1 hJ.2.2.2.2.2 (xs (i + 1)) _) (vx_cwSW 3 hts (glw gL_law_L_take) rfl rfl rfl (by decide +kernel) ⟨Nat.le_of_ble_eq_true rfl, Nat.le_of_ble_eq_true rfl⟩) (r_preS hK hZ hc hA) rfl rfl hl.1 rfl (lv_room (Nat.le_of_ble_eq_true rfl)) dL_law_771 ⟨h1, h2⟩) (fun E ce q9 R' H locs hp => hp.elim) (fun r lv1 a1 R1 H locs hp hc => ?_)
  have hr1 := hp.1
  subst hr1
  have hs9 := sm_take hJ.2.2.2.2.1 (xs (i + 1))
  obtain ⟨hm1, hm2, hm3, e0, e1, e2⟩ := j_1 hJ hp
  have hl : lv_has ls 7 [(0, .ref (b)), (1, .ref (a1 0)), (2, .ref (a1 100)), (3, .ref (a1 200)), (4, .int (nI (i)))] := by rw [e0, e1, e2]; exact hl
  refine lv_istore (lv' := [(5, .int (nI ((oTake M (xs (i + 1))).1))), (0, .ref (b)), (1, .ref (a1 0)), (2, .ref (a1 100)), (3, .ref (a1 200)), (4, .int (nI (i)))]) hx hb dL_law_774 hl (by decide) rfl (fun ls hl => ?_)
  refine lv_aload_n hx hb dL_law_776 rfl (lv_at hl 3 rfl) ?_
  refine lv_aload_n hx hb dL_law_777 rfl (lv_at hl 1 rfl) ?_
  refine lv_iload hx hb dL_law_778 (lv_at hl 5 rfl) ?_
  refine lv_iconst (v := nI (1)) hx hb dL_law_780 (by decide) ?_
  refine nv_iadd hx hb dL_law_781 ?_
  refine r_scr (j := i + 1) hx hb hX hbl hc.2.2 (by omega) hL31 dL_law_782 ?_
  refine r_calli (post := QM R1 (oTake M (xs (i + 1)))) hc hA (va_runV (As := [.int (xs (i + 1))]) (rest := []) ⟨hx, hb, hml, hown, hts⟩ (c_X4_take l D g lv1 a1 R1 M hm2 hm1 hJ.2.2.2.2.1 (xs (i + 1)) _) (cwV 1 hts (glw gL_law_X4_take) rfl rfl rfl (by decide +kernel) ⟨Nat.le_of_ble_eq_true rfl, Nat.le_of_ble_eq_true rfl⟩) (r_preV hK hZ hc hA (hm2.1 100 rfl) (rfl) rfl) rfl rfl hl.1 rfl (lv_room (Nat.le_of_ble_eq_true rfl)) dL_law_783 ⟨h1, h2⟩) (fun r R2 H locs hp2 hc => ?_)
  obtain ⟨hJ2, ht2, ho2⟩ := j_2 hp hs9.1.1 hm2 hm3 hp2
  have hr2 := hp2.1
  subst hr2
  refine lv_istore (lv' := [(6, .int ((oTake M (xs (i + 1))).2.1)), (5, .int (nI ((oTake M (xs (i + 1))).1))), (0, .ref (b)), (1, .ref (a1 0)), (2, .ref (a1 100)), (3, .ref (a1 200)), (4, .int (nI (i)))]) hx hb dL_law_786 hl (by decide) rfl (fun ls hl => ?_)
  refine lv_aload_n hx hb dL_law_788 rfl (lv_at hl 4 rfl) ?_
  refine r_calli (post := fun r R' => r = fi R2 100 5 ∧ R' = R2) hc hA (va_runV (As := []) (rest := []) ⟨hx, hb, hml, hown, hts⟩ (c_X4_thrown l D g lv1 a1 R2 _ hJ2.2.2.2.1 hJ2.2.2.1 hJ2.2.2.2.2.1 _) (cwV 0 hts (glw gL_law_X4_thrown) rfl rfl rfl (by decide +kernel) ⟨Nat.le_of_ble_eq_true rfl, Nat.le_of_ble_eq_true rfl⟩) (r_preV hK hZ hc hA (hm2.1 100 rfl) (rfl) rfl) rfl rfl hl.1 rfl (lv_room (Nat.le_of_ble_eq_true rfl)) dL_law_789 ⟨h1, h2⟩) (fun r R3 H locs hp3 hc => ?_)
  obtain ⟨hre, hRe⟩ := hp3
  rw [hRe] at hc
  rw [hre, ht2]
  refine lv_iload hx hb dL_law_792 (lv_at hl 1 rfl) ?_
  refine lv_icmp_eq (tgt := 799) hx hb dL_law_794 (by decide) (fun hq_1 => ?_) (fun hq_1 => absurd rfl hq_1)
  refine lv_iload hx hb dL_law_799 (lv_at hl 1 rfl) ?_
  refine lv_if_ne (tgt := 816) hx hb dL_law_801 (by decide) (fun hq_2 => ?_) (fun hq_2 => ?_)
  · have hq_2 : ¬ (((oTake M (xs (i + 1))).1) = 0) := fun z => hq_2 ((nI_eq (a := ((oTake M (xs (i + 1))).1)) (b := 0) (by omega) (by omega)).mpr z)
    refine lv_goto (tgt := 1252) hx hb dL_law_816 (by decide) ?_
    exact kk lv1 a1 R2 (oTake M (xs (i + 1))).2.2 _ _ ls hJ2 hc (lv_sub hl [2, 3, 4, 5, 6] rfl)
  · have hq_2 : ((oTake M (xs (i + 1))).1) = 0 := (nI_eq (a := ((oTake M (xs (i + 1))).1)) (b := 0) (by omega) (by omega)).mp hq_2
    have h0 := hq_2
    refine lv_aload_n hx hb dL_law_804 rfl (lv_at hl 5 rfl) ?_
    refine lv_iconst (v := nI (0)) hx hb dL_law_805 (by decide) ?_
    refine r_lald (v := ((oTake M (xs (i + 1))).2.1).toInt64) hx hb hK.1 hc (hm3) (rfl) (by decide) (by omega) dL_law_806 (ho2 h0 rfl) ?_
    refine lv_iload hx hb dL_law_807 (lv_at hl 0 rfl) ?_
    refine lv_i2l hx hb dL_law_809 rfl ?_
    refine W.lcmp hx hb dL_law_810 ?_
    refine lv_if_eq (tgt := 816) hx hb dL_law_811 (by decide) (fun hq_3 => ?_) (fun hq_3 => absurd (lg_0.mpr rfl) hq_3)
    refine lv_goto (tgt := 1252) hx hb dL_law_816 (by decide) ?_
    exact kk lv1 a1 R2 (oTake M (xs (i + 1))).2.2 _ _ ls hJ2 hc (lv_sub hl [2, 3, 4, 5, 6] rfl)
set_option maxRecDepth 100000 in
set_option maxHeartbeats 4000000 in
theorem la_support {p : Program} {l : Launch} {e : Env} {s : State} {m : MethodId} {below : List Frame} {meth : Method} {c : Code} {H : Heap} {locs : List Loc} {cells slots : Nat} {Q : State → Prop} {ls : Array Slot} {D : va_G} {g : Nat → ClassId} {lv : Nat → Bool} {a : Nat → Nat} {R : RS} {M : MS} {b L i : Nat} {xs : Nat → Int32} (X : LX p l s m c D g b L xs) (hJ : J lv a R M) (hi : i + 5 ≤ L) (hc : rc D g (lwA s) s.heap lv a R H locs) (hl : lv_has ls 7 [(0, .ref (b)), (1, .ref (a 0)), (2, .ref (a 100)), (3, .ref (a 200)), (4, .int (nI (i)))]) (h1 : cells + 6 ≤ 603072) (h2 : slots + 83 ≤ 7181976)
    (kk : ∀ (lv' : Nat → Bool) (a' : Nat → Nat) (R' : RS) (M' : MS) (H' : Heap) (locs' : List Loc) (ls' : Array Slot), J lv' a' R' M' → rc D g (lwA s) s.heap lv' a' R' H' locs' → lv_has ls' 7 [(0, .ref (b)), (1, .ref (a' 0)), (2, .ref (a' 100)), (3, .ref (a' 200)), (4, .int (nI (i)))] → W p l e room_1 s m #[Value.ref b] below meth c H' locs' (cells + 6) (slots + 83) Q (F0 m 1252 ls' [])) : W p l e room_1 s m #[Value.ref b] below meth c H locs cells slots Q (F0 m 819 ls []) := by
  obtain ⟨hx, hb, hml, hown, hts, hK, hZ, hX, hbl, hl9, hL31⟩ := X
  have hA : ∀ q, s.heap.size ≤ q → lwA s q := fun _ h => h
  have h4 := ob_support M (xs (i + 1)) (xs (i + 2)) (xs (i + 3))
  refine lv_aload_n hx hb dL_law_819 rfl (lv_at hl 1 rfl) ?_
  refine lv_aload_n hx hb dL_law_820 rfl (lv_at hl 0 rfl) ?_
  refine lv_iload hx hb dL_law_821 (lv_at hl 4 rfl) ?_
  refine lv_iconst (v := nI (1)) hx hb dL_law_823 (by decide) ?_
  refine nv_iadd hx hb dL_law_824 ?_
  refine r_scr (j := i + 1) hx hb hX hbl hc.2.2 (by omega) hL31 dL_law_825 ?_
  refine lv_aload_n hx hb dL_law_826 rfl (lv_at hl 0 rfl) ?_
  refine lv_iload hx hb dL_law_827 (lv_at hl 4 rfl) ?_
  refine lv_iconst (v := nI (2)) hx hb dL_law_829 (by decide) ?_
  refine nv_iadd hx hb dL_law_830 ?_
  refine r_scr (j := i + 2) hx hb hX hbl hc.2.2 (by omega) hL31 dL_law_831 ?_
  refine lv_aload_n hx hb dL_law_832 rfl (lv_at hl 0 rfl) ?_
  refine lv_iload hx hb dL_law_833 (lv_at hl 4 rfl) ?_
  refine lv_iconst (v := nI (3)) hx hb dL_law_835 (by decide) ?_
  refine nv_iadd hx hb dL_law_836 ?_
  refine r_scr (j := i + 3) hx hb hX hbl hc.2.2 (by omega) hL31 dL_law_837 ?_
  refine lv_aload_n hx hb dL_law_838 rfl (lv_at hl 3 rfl) ?_
  refine r_tryA (post := fun r lv' a' R' => LQ lv a R true (oSupport M (xs (i + 1)) (xs (i + 2)) (xs (i + 3))) r lv' a' R') (xp := fun _ _ => False) hc hA (vx_runSX (hh := [(0, 12, 15, 21)]) (As := [.ref (a 0), .int (xs (i + 1)), .int (xs (i + 2)), .int (xs (i + 3)), .ref (a 200)]) (rest := []) ⟨hx, hb, hml, hown, hts⟩ (c_L_support l hl9 D g lv a R M hJ.1 hJ.2.1 hJ.2.2.2.2.1 hJ.2.2.2.2.2 (xs (i + 1)) (xs (i + 2)) (xs (i + 3)) _) (vx_cwSW 5 hts (glw gL_law_L_support) rfl rfl rfl (by decide +kernel) ⟨Nat.le_of_ble_eq_true rfl, Nat.le_of_ble_eq_true rfl⟩) (r_preS hK hZ hc hA) rfl rfl hl.1 rfl (lv_room (Nat.le_of_ble_eq_true rfl)) dL_law_839 ⟨h1, h2⟩) (fun E ce q9 R' H locs hp => hp.elim) (fun r lv1 a1 R1 H locs hp hc => ?_)
  have hr1 := hp.1
  subst hr1
  have hs9 := sm_support hJ.2.2.2.2.1 (xs (i + 1)) (xs (i + 2)) (xs (i + 3))
  obtain ⟨hm1, hm2, hm3, e0, e1, e2⟩ := j_1 hJ hp
  have hl : lv_has ls 7 [(0, .ref (b)), (1, .ref (a1 0)), (2, .ref (a1 100)), (3, .ref (a1 200)), (4, .int (nI (i)))] := by rw [e0, e1, e2]; exact hl
  refine lv_istore (lv' := [(5, .int (nI ((oSupport M (xs (i + 1)) (xs (i + 2)) (xs (i + 3))).1))), (0, .ref (b)), (1, .ref (a1 0)), (2, .ref (a1 100)), (3, .ref (a1 200)), (4, .int (nI (i)))]) hx hb dL_law_842 hl (by decide) rfl (fun ls hl => ?_)
  refine lv_aload_n hx hb dL_law_844 rfl (lv_at hl 3 rfl) ?_
  refine lv_aload_n hx hb dL_law_845 rfl (lv_at hl 1 rfl) ?_
  refine lv_iload hx hb dL_law_846 (lv_at hl 5 rfl) ?_
  refine lv_iconst (v := nI (1)) hx hb dL_law_848 (by decide) ?_
  refine nv_iadd hx hb dL_law_849 ?_
  refine r_scr (j := i + 1) hx hb hX hbl hc.2.2 (by omega) hL31 dL_law_850 ?_
  refine lv_aload_n hx hb dL_law_851 rfl (lv_at hl 1 rfl) ?_
  refine lv_iload hx hb dL_law_852 (lv_at hl 5 rfl) ?_
  refine lv_iconst (v := nI (2)) hx hb dL_law_854 (by decide) ?_
  refine nv_iadd hx hb dL_law_855 ?_
  refine r_scr (j := i + 2) hx hb hX hbl hc.2.2 (by omega) hL31 dL_law_856 ?_
  refine lv_aload_n hx hb dL_law_857 rfl (lv_at hl 1 rfl) ?_
  refine lv_iload hx hb dL_law_858 (lv_at hl 5 rfl) ?_
  refine lv_iconst (v := nI (3)) hx hb dL_law_860 (by decide) ?_
  refine nv_iadd hx hb dL_law_861 ?_
  refine r_scr (j := i + 3) hx hb hX hbl hc.2.2 (by omega) hL31 dL_law_862 ?_
  refine r_calli (post := QM R1 (oSupport M (xs (i + 1)) (xs (i + 2)) (xs (i + 3)))) hc hA (va_runV (As := [.int (xs (i + 1)), .int (xs (i + 2)), .int (xs (i + 3))]) (rest := []) ⟨hx, hb, hml, hown, hts⟩ (c_X4_support l D g lv1 a1 R1 M hm2 hm1 hJ.2.2.2.2.1 (xs (i + 1)) (xs (i + 2)) (xs (i + 3)) _) (cwV 3 hts (glw gL_law_X4_support) rfl rfl rfl (by decide +kernel) ⟨Nat.le_of_ble_eq_true rfl, Nat.le_of_ble_eq_true rfl⟩) (r_preV hK hZ hc hA (hm2.1 100 rfl) (rfl) rfl) rfl rfl hl.1 rfl (lv_room (Nat.le_of_ble_eq_true rfl)) dL_law_863 ⟨h1, h2⟩) (fun r R2 H locs hp2 hc => ?_)
  obtain ⟨hJ2, ht2, ho2⟩ := j_2 hp hs9.1.1 hm2 hm3 hp2
  have hr2 := hp2.1
  subst hr2
  refine lv_istore (lv' := [(6, .int ((oSupport M (xs (i + 1)) (xs (i + 2)) (xs (i + 3))).2.1)), (5, .int (nI ((oSupport M (xs (i + 1)) (xs (i + 2)) (xs (i + 3))).1))), (0, .ref (b)), (1, .ref (a1 0)), (2, .ref (a1 100)), (3, .ref (a1 200)), (4, .int (nI (i)))]) hx hb dL_law_866 hl (by decide) rfl (fun ls hl => ?_)
  refine lv_aload_n hx hb dL_law_868 rfl (lv_at hl 4 rfl) ?_
  refine r_calli (post := fun r R' => r = fi R2 100 5 ∧ R' = R2) hc hA (va_runV (As := []) (rest := []) ⟨hx, hb, hml, hown, hts⟩ (c_X4_thrown l D g lv1 a1 R2 _ hJ2.2.2.2.1 hJ2.2.2.1 hJ2.2.2.2.2.1 _) (cwV 0 hts (glw gL_law_X4_thrown) rfl rfl rfl (by decide +kernel) ⟨Nat.le_of_ble_eq_true rfl, Nat.le_of_ble_eq_true rfl⟩) (r_preV hK hZ hc hA (hm2.1 100 rfl) (rfl) rfl) rfl rfl hl.1 rfl (lv_room (Nat.le_of_ble_eq_true rfl)) dL_law_869 ⟨h1, h2⟩) (fun r R3 H locs hp3 hc => ?_)
  obtain ⟨hre, hRe⟩ := hp3
  rw [hRe] at hc
  rw [hre, ht2]
  refine lv_iload hx hb dL_law_872 (lv_at hl 1 rfl) ?_
  refine lv_icmp_eq (tgt := 879) hx hb dL_law_874 (by decide) (fun hq_1 => ?_) (fun hq_1 => absurd rfl hq_1)
  refine lv_iload hx hb dL_law_879 (lv_at hl 1 rfl) ?_
  refine lv_if_ne (tgt := 896) hx hb dL_law_881 (by decide) (fun hq_2 => ?_) (fun hq_2 => ?_)
  · have hq_2 : ¬ (((oSupport M (xs (i + 1)) (xs (i + 2)) (xs (i + 3))).1) = 0) := fun z => hq_2 ((nI_eq (a := ((oSupport M (xs (i + 1)) (xs (i + 2)) (xs (i + 3))).1)) (b := 0) (by omega) (by omega)).mpr z)
    refine lv_goto (tgt := 1252) hx hb dL_law_896 (by decide) ?_
    exact kk lv1 a1 R2 (oSupport M (xs (i + 1)) (xs (i + 2)) (xs (i + 3))).2.2 _ _ ls hJ2 hc (lv_sub hl [2, 3, 4, 5, 6] rfl)
  · have hq_2 : ((oSupport M (xs (i + 1)) (xs (i + 2)) (xs (i + 3))).1) = 0 := (nI_eq (a := ((oSupport M (xs (i + 1)) (xs (i + 2)) (xs (i + 3))).1)) (b := 0) (by omega) (by omega)).mp hq_2
    have h0 := hq_2
    refine lv_aload_n hx hb dL_law_884 rfl (lv_at hl 5 rfl) ?_
    refine lv_iconst (v := nI (0)) hx hb dL_law_885 (by decide) ?_
    refine r_lald (v := ((oSupport M (xs (i + 1)) (xs (i + 2)) (xs (i + 3))).2.1).toInt64) hx hb hK.1 hc (hm3) (rfl) (by decide) (by omega) dL_law_886 (ho2 h0 rfl) ?_
    refine lv_iload hx hb dL_law_887 (lv_at hl 0 rfl) ?_
    refine lv_i2l hx hb dL_law_889 rfl ?_
    refine W.lcmp hx hb dL_law_890 ?_
    refine lv_if_eq (tgt := 896) hx hb dL_law_891 (by decide) (fun hq_3 => ?_) (fun hq_3 => absurd (lg_0.mpr rfl) hq_3)
    refine lv_goto (tgt := 1252) hx hb dL_law_896 (by decide) ?_
    exact kk lv1 a1 R2 (oSupport M (xs (i + 1)) (xs (i + 2)) (xs (i + 3))).2.2 _ _ ls hJ2 hc (lv_sub hl [2, 3, 4, 5, 6] rfl)
set_option maxRecDepth 100000 in
set_option maxHeartbeats 4000000 in
theorem la_told {p : Program} {l : Launch} {e : Env} {s : State} {m : MethodId} {below : List Frame} {meth : Method} {c : Code} {H : Heap} {locs : List Loc} {cells slots : Nat} {Q : State → Prop} {ls : Array Slot} {D : va_G} {g : Nat → ClassId} {lv : Nat → Bool} {a : Nat → Nat} {R : RS} {M : MS} {b L i : Nat} {xs : Nat → Int32} (X : LX p l s m c D g b L xs) (hJ : J lv a R M) (hi : i + 5 ≤ L) (hc : rc D g (lwA s) s.heap lv a R H locs) (hl : lv_has ls 7 [(0, .ref (b)), (1, .ref (a 0)), (2, .ref (a 100)), (3, .ref (a 200)), (4, .int (nI (i)))]) (h1 : cells + 6 ≤ 603072) (h2 : slots + 83 ≤ 7181976)
    (kk : ∀ (lv' : Nat → Bool) (a' : Nat → Nat) (R' : RS) (M' : MS) (H' : Heap) (locs' : List Loc) (ls' : Array Slot), J lv' a' R' M' → rc D g (lwA s) s.heap lv' a' R' H' locs' → lv_has ls' 7 [(0, .ref (b)), (1, .ref (a' 0)), (2, .ref (a' 100)), (3, .ref (a' 200)), (4, .int (nI (i)))] → W p l e room_1 s m #[Value.ref b] below meth c H' locs' (cells + 6) (slots + 83) Q (F0 m 1252 ls' [])) : W p l e room_1 s m #[Value.ref b] below meth c H locs cells slots Q (F0 m 899 ls []) := by
  obtain ⟨hx, hb, hml, hown, hts, hK, hZ, hX, hbl, hl9, hL31⟩ := X
  have hA : ∀ q, s.heap.size ≤ q → lwA s q := fun _ h => h
  have h4 := ob_told M (xs (i + 1)) (xs (i + 2))
  refine lv_aload_n hx hb dL_law_899 rfl (lv_at hl 1 rfl) ?_
  refine lv_aload_n hx hb dL_law_900 rfl (lv_at hl 0 rfl) ?_
  refine lv_iload hx hb dL_law_901 (lv_at hl 4 rfl) ?_
  refine lv_iconst (v := nI (1)) hx hb dL_law_903 (by decide) ?_
  refine nv_iadd hx hb dL_law_904 ?_
  refine r_scr (j := i + 1) hx hb hX hbl hc.2.2 (by omega) hL31 dL_law_905 ?_
  refine lv_aload_n hx hb dL_law_906 rfl (lv_at hl 0 rfl) ?_
  refine lv_iload hx hb dL_law_907 (lv_at hl 4 rfl) ?_
  refine lv_iconst (v := nI (2)) hx hb dL_law_909 (by decide) ?_
  refine nv_iadd hx hb dL_law_910 ?_
  refine r_scr (j := i + 2) hx hb hX hbl hc.2.2 (by omega) hL31 dL_law_911 ?_
  refine lv_aload_n hx hb dL_law_912 rfl (lv_at hl 3 rfl) ?_
  refine r_tryA (post := fun r lv' a' R' => LQ lv a R true (oTold M (xs (i + 1)) (xs (i + 2))) r lv' a' R') (xp := fun _ _ => False) hc hA (vx_runSX (hh := [(0, 10, 13, 21), (0, 10, 17, 13)]) (As := [.ref (a 0), .int (xs (i + 1)), .int (xs (i + 2)), .ref (a 200)]) (rest := []) ⟨hx, hb, hml, hown, hts⟩ (c_L_told l hl9 D g lv a R M hJ.1 hJ.2.1 hJ.2.2.2.2.1 hJ.2.2.2.2.2 (xs (i + 1)) (xs (i + 2)) _) (vx_cwSW 4 hts (glw gL_law_L_told) rfl rfl rfl (by decide +kernel) ⟨Nat.le_of_ble_eq_true rfl, Nat.le_of_ble_eq_true rfl⟩) (r_preS hK hZ hc hA) rfl rfl hl.1 rfl (lv_room (Nat.le_of_ble_eq_true rfl)) dL_law_913 ⟨h1, h2⟩) (fun E ce q9 R' H locs hp => hp.elim) (fun r lv1 a1 R1 H locs hp hc => ?_)
  have hr1 := hp.1
  subst hr1
  have hs9 := sm_told hJ.2.2.2.2.1 (xs (i + 1)) (xs (i + 2))
  obtain ⟨hm1, hm2, hm3, e0, e1, e2⟩ := j_1 hJ hp
  have hl : lv_has ls 7 [(0, .ref (b)), (1, .ref (a1 0)), (2, .ref (a1 100)), (3, .ref (a1 200)), (4, .int (nI (i)))] := by rw [e0, e1, e2]; exact hl
  refine lv_istore (lv' := [(5, .int (nI ((oTold M (xs (i + 1)) (xs (i + 2))).1))), (0, .ref (b)), (1, .ref (a1 0)), (2, .ref (a1 100)), (3, .ref (a1 200)), (4, .int (nI (i)))]) hx hb dL_law_916 hl (by decide) rfl (fun ls hl => ?_)
  refine lv_aload_n hx hb dL_law_918 rfl (lv_at hl 3 rfl) ?_
  refine lv_aload_n hx hb dL_law_919 rfl (lv_at hl 1 rfl) ?_
  refine lv_iload hx hb dL_law_920 (lv_at hl 5 rfl) ?_
  refine lv_iconst (v := nI (1)) hx hb dL_law_922 (by decide) ?_
  refine nv_iadd hx hb dL_law_923 ?_
  refine r_scr (j := i + 1) hx hb hX hbl hc.2.2 (by omega) hL31 dL_law_924 ?_
  refine lv_aload_n hx hb dL_law_925 rfl (lv_at hl 1 rfl) ?_
  refine lv_iload hx hb dL_law_926 (lv_at hl 5 rfl) ?_
  refine lv_iconst (v := nI (2)) hx hb dL_law_928 (by decide) ?_
  refine nv_iadd hx hb dL_law_929 ?_
  refine r_scr (j := i + 2) hx hb hX hbl hc.2.2 (by omega) hL31 dL_law_930 ?_
  refine r_calli (post := QM R1 (oTold M (xs (i + 1)) (xs (i + 2)))) hc hA (va_runV (As := [.int (xs (i + 1)), .int (xs (i + 2))]) (rest := []) ⟨hx, hb, hml, hown, hts⟩ (c_X4_told l D g lv1 a1 R1 M hm2 hm1 hJ.2.2.2.2.1 (xs (i + 1)) (xs (i + 2)) _) (cwV 2 hts (glw gL_law_X4_told) rfl rfl rfl (by decide +kernel) ⟨Nat.le_of_ble_eq_true rfl, Nat.le_of_ble_eq_true rfl⟩) (r_preV hK hZ hc hA (hm2.1 100 rfl) (rfl) rfl) rfl rfl hl.1 rfl (lv_room (Nat.le_of_ble_eq_true rfl)) dL_law_931 ⟨h1, h2⟩) (fun r R2 H locs hp2 hc => ?_)
  obtain ⟨hJ2, ht2, ho2⟩ := j_2 hp hs9.1.1 hm2 hm3 hp2
  have hr2 := hp2.1
  subst hr2
  refine lv_istore (lv' := [(6, .int ((oTold M (xs (i + 1)) (xs (i + 2))).2.1)), (5, .int (nI ((oTold M (xs (i + 1)) (xs (i + 2))).1))), (0, .ref (b)), (1, .ref (a1 0)), (2, .ref (a1 100)), (3, .ref (a1 200)), (4, .int (nI (i)))]) hx hb dL_law_934 hl (by decide) rfl (fun ls hl => ?_)
  refine lv_aload_n hx hb dL_law_936 rfl (lv_at hl 4 rfl) ?_
  refine r_calli (post := fun r R' => r = fi R2 100 5 ∧ R' = R2) hc hA (va_runV (As := []) (rest := []) ⟨hx, hb, hml, hown, hts⟩ (c_X4_thrown l D g lv1 a1 R2 _ hJ2.2.2.2.1 hJ2.2.2.1 hJ2.2.2.2.2.1 _) (cwV 0 hts (glw gL_law_X4_thrown) rfl rfl rfl (by decide +kernel) ⟨Nat.le_of_ble_eq_true rfl, Nat.le_of_ble_eq_true rfl⟩) (r_preV hK hZ hc hA (hm2.1 100 rfl) (rfl) rfl) rfl rfl hl.1 rfl (lv_room (Nat.le_of_ble_eq_true rfl)) dL_law_937 ⟨h1, h2⟩) (fun r R3 H locs hp3 hc => ?_)
  obtain ⟨hre, hRe⟩ := hp3
  rw [hRe] at hc
  rw [hre, ht2]
  refine lv_iload hx hb dL_law_940 (lv_at hl 1 rfl) ?_
  refine lv_icmp_eq (tgt := 947) hx hb dL_law_942 (by decide) (fun hq_1 => ?_) (fun hq_1 => absurd rfl hq_1)
  refine lv_iload hx hb dL_law_947 (lv_at hl 1 rfl) ?_
  refine lv_if_ne (tgt := 964) hx hb dL_law_949 (by decide) (fun hq_2 => ?_) (fun hq_2 => ?_)
  · have hq_2 : ¬ (((oTold M (xs (i + 1)) (xs (i + 2))).1) = 0) := fun z => hq_2 ((nI_eq (a := ((oTold M (xs (i + 1)) (xs (i + 2))).1)) (b := 0) (by omega) (by omega)).mpr z)
    refine lv_goto (tgt := 1252) hx hb dL_law_964 (by decide) ?_
    exact kk lv1 a1 R2 (oTold M (xs (i + 1)) (xs (i + 2))).2.2 _ _ ls hJ2 hc (lv_sub hl [2, 3, 4, 5, 6] rfl)
  · have hq_2 : ((oTold M (xs (i + 1)) (xs (i + 2))).1) = 0 := (nI_eq (a := ((oTold M (xs (i + 1)) (xs (i + 2))).1)) (b := 0) (by omega) (by omega)).mp hq_2
    have h0 := hq_2
    refine lv_aload_n hx hb dL_law_952 rfl (lv_at hl 5 rfl) ?_
    refine lv_iconst (v := nI (0)) hx hb dL_law_953 (by decide) ?_
    refine r_lald (v := ((oTold M (xs (i + 1)) (xs (i + 2))).2.1).toInt64) hx hb hK.1 hc (hm3) (rfl) (by decide) (by omega) dL_law_954 (ho2 h0 rfl) ?_
    refine lv_iload hx hb dL_law_955 (lv_at hl 0 rfl) ?_
    refine lv_i2l hx hb dL_law_957 rfl ?_
    refine W.lcmp hx hb dL_law_958 ?_
    refine lv_if_eq (tgt := 964) hx hb dL_law_959 (by decide) (fun hq_3 => ?_) (fun hq_3 => absurd (lg_0.mpr rfl) hq_3)
    refine lv_goto (tgt := 1252) hx hb dL_law_964 (by decide) ?_
    exact kk lv1 a1 R2 (oTold M (xs (i + 1)) (xs (i + 2))).2.2 _ _ ls hJ2 hc (lv_sub hl [2, 3, 4, 5, 6] rfl)
