/-! ===== the law's loop ===== -/
set_option maxRecDepth 100000 in
set_option maxHeartbeats 4000000 in
theorem la_loop {p : Program} {l : Launch} {e : Env} {s : State} {m : MethodId} {below : List Frame} {meth : Method} {c : Code} {Q : State → Prop} {D : va_G} {g : Nat → ClassId} {b L : Nat} {xs : Nat → Int32} (X : LX p l s m c D g b L xs) (hL : L ≤ 2562)
    (kend : ∀ (H : Heap) (locs : List Loc) (ls : Array Slot) (n : Nat), n ≤ 512 → va_S (lwA s) s.heap H locs → W p l e room_1 s m #[Value.ref b] below meth c H locs (27 + 6 * n) (1165 + 83 * n) Q (F0 m 1258 ls [])) :
    ∀ (f n : Nat) (lv : Nat → Bool) (a : Nat → Nat) (R : RS) (M : MS) (H : Heap) (locs : List Loc) (ls : Array Slot), 512 - n < f → n ≤ 512 → J lv a R M → rc D g (lwA s) s.heap lv a R H locs → lv_has ls 7 [(0, .ref (b)), (1, .ref (a 0)), (2, .ref (a 100)), (3, .ref (a 200)), (4, .int (nI (2 + 5 * n)))] → W p l e room_1 s m #[Value.ref b] below meth c H locs (27 + 6 * n) (1165 + 83 * n) Q (F0 m 43 ls []) := by
  intro f
  induction f with
  | zero => intro n lv a R M H locs ls hf; exact absurd hf (Nat.not_lt_zero _)
  | succ f ih =>
    intro n lv a R M H locs ls hf hn hJ hc hl
    obtain ⟨hx, hb, hml, hown, hts, hK, hZ, hX, hbl, hl9, hL31⟩ := id X
    refine lv_iload hx hb dL_law_43 (lv_at hl 4 rfl) ?_
    refine lv_aload_n hx hb dL_law_45 rfl (lv_at hl 0 rfl) ?_
    refine va_slen hx hb hX hbl (Nat.not_le.mpr hbl) hc.2.2 dL_law_46 ?_
    refine lv_iconst (v := nI (5)) hx hb dL_law_47 (by decide) ?_
    refine lv_isub hx hb dL_law_48 ?_
    refine lv_icmp_gt (tgt := 1258) hx hb dL_law_49 (by decide) (fun hq => ?_) (fun hq => ?_)
    · exact kend H locs ls n hn hc.2.2
    · have hi : 2 + 5 * n + 5 ≤ L := by
        have h9 : ¬ (nI L - nI 5 < nI (2 + 5 * n)) := hq
        rw [i_lt, pk_sub_toInt (by omega) (by decide), nI_toInt (by omega)] at h9
        omega
      have kn : ∀ (lv' : Nat → Bool) (a' : Nat → Nat) (R' : RS) (M' : MS) (H' : Heap) (locs' : List Loc) (ls' : Array Slot), J lv' a' R' M' → rc D g (lwA s) s.heap lv' a' R' H' locs' → lv_has ls' 7 [(0, .ref (b)), (1, .ref (a' 0)), (2, .ref (a' 100)), (3, .ref (a' 200)), (4, .int (nI (2 + 5 * n)))] → W p l e room_1 s m #[Value.ref b] below meth c H' locs' (27 + 6 * n + 6) (1165 + 83 * n + 83) Q (F0 m 1252 ls' []) := by
        intro lv' a' R' M' H' locs' ls' hJ' hc' hl'
        refine lv_iinc (v := nI (2 + 5 * n + 5)) (lv' := [(4, .int (nI (2 + 5 * n + 5))), (0, .ref (b)), (1, .ref (a' 0)), (2, .ref (a' 100)), (3, .ref (a' 200))]) hx hb dL_law_1252 hl' (k := 4) rfl (nI_inc _ 5) (by decide) rfl (fun ls hl => ?_)
        refine lv_goto (tgt := 43) hx hb dL_law_1255 (by decide) ?_
        have h9 := ih (n + 1) lv' a' R' M' H' locs' ls (by omega) (by omega) hJ' hc' (by rw [show 2 + 5 * (n + 1) = 2 + 5 * n + 5 by omega]; exact lv_sub hl [1, 2, 3, 4, 0] rfl)
        rw [show 27 + 6 * (n + 1) = 27 + 6 * n + 6 by omega, show 1165 + 83 * (n + 1) = 1165 + 83 * n + 83 by omega] at h9
        exact h9
      have c1 : 27 + 6 * n + 6 ≤ 603072 := by omega
      have c2 : 1165 + 83 * n + 83 ≤ 7181976 := by omega
      refine lv_aload_n hx hb dL_law_52 rfl (lv_at hl 0 rfl) ?_
      refine lv_iload hx hb dL_law_53 (lv_at hl 4 rfl) ?_
      refine r_scr (j := 2 + 5 * n) hx hb hX hbl hc.2.2 (by omega) hL31 dL_law_55 ?_
      refine lv_bipush (v := nI (31)) hx hb dL_law_56 (by decide) ?_
      refine lv_iand hx hb dL_law_58 ?_
      generalize xs (2 + 5 * n) &&& nI 31 = x
      by_cases hsw : 0 ≤ x.toInt ∧ x.toInt ≤ 16
      · obtain ⟨k, hk, hk16⟩ : ∃ k : Nat, x.toInt = (k : Int) ∧ k ≤ 16 := ⟨x.toInt.toNat, by omega, by omega⟩
        rcases (show k = 0 ∨ k = 1 ∨ k = 2 ∨ k = 3 ∨ k = 4 ∨ k = 5 ∨ k = 6 ∨ k = 7 ∨ k = 8 ∨ k = 9 ∨ k = 10 ∨ k = 11 ∨ k = 12 ∨ k = 13 ∨ k = 14 ∨ k = 15 ∨ k = 16 by omega) with rfl | rfl | rfl | rfl | rfl | rfl | rfl | rfl | rfl | rfl | rfl | rfl | rfl | rfl | rfl | rfl | rfl
        · refine lv_tableIn (off := 81) (tgt := 140) hx hb dL_law_59 (by omega) (by omega) (by rw [hk]; rfl) (by decide) ?_
          exact la_kind X hJ hi hc hl c1 c2 kn
        · refine lv_tableIn (off := 173) (tgt := 232) hx hb dL_law_59 (by omega) (by omega) (by rw [hk]; rfl) (by decide) ?_
          exact la_search X hJ hi hc hl c1 c2 kn
        · refine lv_tableIn (off := 241) (tgt := 300) hx hb dL_law_59 (by omega) (by omega) (by rw [hk]; rfl) (by decide) ?_
          exact la_pattern X hJ hi hc hl c1 c2 kn
        · refine lv_tableIn (off := 321) (tgt := 380) hx hb dL_law_59 (by omega) (by omega) (by rw [hk]; rfl) (by decide) ?_
          exact la_exact X hJ hi hc hl c1 c2 kn
        · refine lv_tableIn (off := 384) (tgt := 443) hx hb dL_law_59 (by omega) (by omega) (by rw [hk]; rfl) (by decide) ?_
          exact la_bound X hJ hi hc hl c1 c2 kn
        · refine lv_tableIn (off := 440) (tgt := 499) hx hb dL_law_59 (by omega) (by omega) (by rw [hk]; rfl) (by decide) ?_
          exact la_rules X hJ hi hc hl c1 c2 kn
        · refine lv_tableIn (off := 500) (tgt := 559) hx hb dL_law_59 (by omega) (by omega) (by rw [hk]; rfl) (by decide) ?_
          exact la_pallet X hJ hi hc hl c1 c2 kn
        · refine lv_tableIn (off := 544) (tgt := 603) hx hb dL_law_59 (by omega) (by omega) (by rw [hk]; rfl) (by decide) ?_
          exact la_put X hJ hi hc hl c1 c2 kn
        · refine lv_tableIn (off := 624) (tgt := 683) hx hb dL_law_59 (by omega) (by omega) (by rw [hk]; rfl) (by decide) ?_
          exact la_fill X hJ hi hc hl c1 c2 kn
        · refine lv_tableIn (off := 704) (tgt := 763) hx hb dL_law_59 (by omega) (by omega) (by rw [hk]; rfl) (by decide) ?_
          exact la_take X hJ hi hc hl c1 c2 kn
        · refine lv_tableIn (off := 760) (tgt := 819) hx hb dL_law_59 (by omega) (by omega) (by rw [hk]; rfl) (by decide) ?_
          exact la_support X hJ hi hc hl c1 c2 kn
        · refine lv_tableIn (off := 840) (tgt := 899) hx hb dL_law_59 (by omega) (by omega) (by rw [hk]; rfl) (by decide) ?_
          exact la_told X hJ hi hc hl c1 c2 kn
        · refine lv_tableIn (off := 908) (tgt := 967) hx hb dL_law_59 (by omega) (by omega) (by rw [hk]; rfl) (by decide) ?_
          exact la_layer X hJ hi hc hl c1 c2 kn
        · refine lv_tableIn (off := 988) (tgt := 1047) hx hb dL_law_59 (by omega) (by omega) (by rw [hk]; rfl) (by decide) ?_
          exact la_truck X hJ hi hc hl c1 c2 kn
        · refine lv_tableIn (off := 1056) (tgt := 1115) hx hb dL_law_59 (by omega) (by omega) (by rw [hk]; rfl) (by decide) ?_
          exact la_unload X hJ hi hc hl c1 c2 kn
        · refine lv_tableIn (off := 1112) (tgt := 1171) hx hb dL_law_59 (by omega) (by omega) (by rw [hk]; rfl) (by decide) ?_
          exact la_order X hJ hi hc hl c1 c2 kn
        · refine lv_tableIn (off := 1168) (tgt := 1227) hx hb dL_law_59 (by omega) (by omega) (by rw [hk]; rfl) (by decide) ?_
          exact la_count X hJ hi hc hl c1 c2 kn
      · refine lv_tableOut (tgt := 1252) hx hb dL_law_59 (by omega) (by decide) ?_
        refine W.widen (k := 27 + 6 * n + 6) (n := 1165 + 83 * n + 83) (by omega) (by omega) ?_
        exact kn _ _ _ _ _ _ _ hJ hc hl
