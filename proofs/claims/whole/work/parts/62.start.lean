/-! ===== the law's start ===== -/
set_option maxRecDepth 100000 in
set_option maxHeartbeats 4000000 in
theorem st_J (R : RS) (q0 q4 q5 q6 q1 q2 q3 q100 q106 q107 q108 q109 q110 q111 q112 q113 q114 q118 q119 q120 q121 q122 q125 q126 q127 q128 q200 : Nat) {w d : Nat} (hw : 1 ≤ w ∧ w ≤ 6) (hd : 1 ≤ d ∧ d ≤ 6) : J (va_up (va_up (va_up (va_up (va_up (va_up (va_up (va_up (va_up (va_up (va_up (va_up (va_up (va_up (va_up (va_up (va_up (va_up (va_up (va_up (va_up (va_up (va_up (va_up (va_up (va_up (va_up (fun _ => false) 0 true) 4 true) 5 true) 6 true) 1 true) 2 true) 3 true) 100 true) 106 true) 107 true) 108 true) 109 true) 110 true) 111 true) 112 true) 113 true) 114 true) 118 true) 119 true) 120 true) 121 true) 122 true) 125 true) 126 true) 127 true) 128 true) 200 true) (va_up (va_up (va_up (va_up (va_up (va_up (va_up (va_up (va_up (va_up (va_up (va_up (va_up (va_up (va_up (va_up (va_up (va_up (va_up (va_up (va_up (va_up (va_up (va_up (va_up (va_up (va_up (fun _ => 0) 0 q0) 4 q4) 5 q5) 6 q6) 1 q1) 2 q2) 3 q3) 100 q100) 106 q106) 107 q107) 108 q108) 109 q109) 110 q110) 111 q111) 112 q112) 113 q113) 114 q114) 118 q118) 119 q119) 120 q120) 121 q121) 122 q122) 125 q125) 126 q126) 127 q127) 128 q128) 200 q200) (clr (sfi (sfi (sfi (sfr (clr (sfr (clr (sfr (clr (sfr (clr (sfr (clr (sfr (clr (sfr (clr (sfr (clr (sfr (clr (sfi (sfi (sfi (sfr (clr (sfr (clr (sfr (clr (sfr (clr (sfr (clr (sfr (clr (sfr (clr (sfr (clr (sfr (clr (clr (sfr (sfi (sfi (sfi (sfi (sfi (sfi (sfi (sfr (clr (sfr (clr (clr (sfi (sfi (sfi (sfi (sfi (sfi (sfi (sfi (sfr (clr (sfr (clr (sfr (clr (clr R 0) 4) 0 3 (some (q4))) 5) 0 4 (some (q5))) 6) 0 5 (some (q6))) 0 6 (nI (0))) 0 7 (nI (0))) 0 8 (nI (0))) 0 9 (nI (50))) 0 10 (nI (100))) 0 11 (nI (10000))) 0 0 (nI (w))) 0 1 (nI (d))) 1) 2) 1 3 (some (q2))) 3) 1 4 (some (q3))) 1 5 (nI (0))) 1 6 (nI (0))) 1 7 ((-1))) 1 8 (nI (0))) 1 0 (nI ((w)))) 1 1 (nI ((d)))) 1 2 (nI ((w) * (d)))) 0 2 (some (q1))) 100) 106) 100 6 (some (q106))) 107) 100 7 (some (q107))) 108) 100 8 (some (q108))) 109) 100 9 (some (q109))) 110) 100 10 (some (q110))) 111) 100 11 (some (q111))) 112) 100 12 (some (q112))) 113) 100 13 (some (q113))) 114) 100 14 (some (q114))) 100 15 (nI (50))) 100 16 (nI (100))) 100 17 (nI (10000))) 118) 100 18 (some (q118))) 119) 100 19 (some (q119))) 120) 100 20 (some (q120))) 121) 100 21 (some (q121))) 122) 100 22 (some (q122))) 125) 100 25 (some (q125))) 126) 100 26 (some (q126))) 127) 100 27 (some (q127))) 128) 100 28 (some (q128))) 100 0 (nI (w))) 100 1 (nI (d))) 100 2 (nI ((w) * (d)))) 200) (M0 w d) := by
  refine ⟨⟨⟨rfl, rfl, rfl, rfl, rfl, rfl, rfl, rfl⟩, ⟨rfl, rfl, rfl, rfl, rfl⟩, fun k hk => absurd hk (Nat.not_lt_zero _), fun p hp => absurd hp (Nat.not_lt_zero _), fun k _ => rfl, fun p _ => rfl, fun k _ hk => ?_, fun p _ hp => ?_⟩, ⟨⟨rfl, rfl, rfl, rfl, rfl, rfl, rfl, rfl, rfl⟩, ⟨rfl, rfl, rfl⟩, fun k hk => absurd hk (Nat.not_lt_zero _), fun k hk => absurd hk (Nat.not_lt_zero _), fun p hp => absurd hp (Nat.not_lt_zero _), fun p hp => absurd hp (Nat.not_lt_zero _), fun i hi => absurd hi (Nat.not_lt_zero _)⟩, ⟨⟨rfl, rfl, rfl, rfl, rfl, rfl, rfl, rfl, rfl, rfl⟩, fun k hk => absurd hk (Nat.not_lt_zero _), fun k _ _ => ⟨rfl, rfl⟩, fun k hk => absurd hk (Nat.not_lt_zero _), fun p hp => absurd hp (Nat.not_lt_zero _), fun p hp => absurd hp (Nat.not_lt_zero _), fun i hi => absurd hi (Nat.not_lt_zero _)⟩, ⟨fun i hi => ?_, fun k hk => ?_⟩, iv_0 hw hd, rfl⟩
  · rcases (show k = 0 ∨ k = 1 ∨ k = 2 ∨ k = 3 ∨ k = 4 ∨ k = 5 by omega) with rfl | rfl | rfl | rfl | rfl | rfl <;> exact ⟨rfl, rfl, rfl⟩
  · rcases (show p = 0 ∨ p = 1 ∨ p = 2 ∨ p = 3 ∨ p = 4 ∨ p = 5 ∨ p = 6 ∨ p = 7 by omega) with rfl | rfl | rfl | rfl | rfl | rfl | rfl | rfl <;> exact ⟨rfl, rfl, rfl, rfl, rfl, rfl⟩
  · simp [mN] at hi
    rcases (show i = 100 ∨ i = 106 ∨ i = 107 ∨ i = 108 ∨ i = 109 ∨ i = 110 ∨ i = 111 ∨ i = 112 ∨ i = 113 ∨ i = 114 ∨ i = 118 ∨ i = 119 ∨ i = 120 ∨ i = 121 ∨ i = 122 ∨ i = 125 ∨ i = 126 ∨ i = 127 ∨ i = 128 by omega) with rfl | rfl | rfl | rfl | rfl | rfl | rfl | rfl | rfl | rfl | rfl | rfl | rfl | rfl | rfl | rfl | rfl | rfl | rfl <;> rfl
  · simp [mRf] at hk
    rcases (show k = 6 ∨ k = 7 ∨ k = 8 ∨ k = 9 ∨ k = 10 ∨ k = 11 ∨ k = 12 ∨ k = 13 ∨ k = 14 ∨ k = 18 ∨ k = 19 ∨ k = 20 ∨ k = 21 ∨ k = 22 ∨ k = 25 ∨ k = 26 ∨ k = 27 ∨ k = 28 by omega) with rfl | rfl | rfl | rfl | rfl | rfl | rfl | rfl | rfl | rfl | rfl | rfl | rfl | rfl | rfl | rfl | rfl | rfl <;> rfl
set_option maxRecDepth 100000 in
theorem st_str : ∀ q ∈ strs, Cond.stringRef RX3 q.1 q.2 ∈ lw_tbl := by decide +kernel
set_option maxRecDepth 100000 in
theorem st_cst : ∀ E ∈ exs, Cond.castable E E ∈ lw_tbl := by decide +kernel
set_option maxRecDepth 100000 in
theorem st_dec : ∀ Y ∈ sups, Cond.declares (Bundle.initS Y) ∈ lw_tbl := by decide +kernel
set_option maxRecDepth 100000 in
theorem st_nc : ∀ E ∈ exs, ∀ E' ∈ exs, E ≠ E' → Cond.not (.castable E E') ∈ flatC (Jvm.Cond.and given_1 narrow_1) := by decide +kernel
set_option maxRecDepth 100000 in
theorem st_ex : ∀ q ∈ strs, Cond.exactly (.string RX3 q.1) "java/lang/String" ∈ flatC (Jvm.Cond.and given_1 narrow_1) := by decide +kernel
set_option maxRecDepth 100000 in
theorem st_rf : Cond.isRef (.static Bundle.tN "UNASSIGNED_STACK" Bundle.steD) ∈ flatC (Jvm.Cond.and given_1 narrow_1) ∧ Cond.isRef (.static Bundle.tN "SUPPRESSED_SENTINEL" Bundle.listD) ∈ flatC (Jvm.Cond.and given_1 narrow_1) := by decide +kernel
set_option maxRecDepth 100000 in
theorem inJ0 : ∀ w ∈ wsJ00, w ∈ lw_tbl := by decide +kernel
theorem st_arr {s : State} {args : Array Value} {ty : FieldType} (h : (Cond.arrayClass ty).before args s = true) : ∃ cA, ArrOfT s cA ty ∧ s.vm.findClass ("[" ++ ty.toString) = some cA := by
  obtain ⟨cA, kA, comp, h1, h2, h3⟩ := Cond.arrayClass_spec h
  exact ⟨cA, fun n z => ⟨fun k h => (by cases h), kA, h2, comp, h3⟩, h1⟩
theorem st_arq {s : State} {C : String} (h : va_AO C s) : ∃ cA, ArrOfT s cA (.object C) ∧ va_RA s cA (.object C) := by
  obtain ⟨comp, cA, kA, h1, h2, h3, h4, h5⟩ := Cond.arrayOver_spec h
  exact ⟨cA, fun n z => ⟨fun k h => (by cases h), kA, h3, comp, h4⟩, kA, comp, h3, h4, h1, h5⟩
set_option maxRecDepth 100000 in
set_option maxHeartbeats 4000000 in
theorem st_K {s : State} {b : Nat} (hts : ∀ w ∈ lw_tbl, w.before #[Value.ref b] s = true) (hgv : (Jvm.Cond.and given_1 narrow_1).before #[Value.ref b] s = true) : ∃ (D : va_G) (g : Nat → ClassId), rK D g s ∧ rZ (lwA s) s s.heap := by
  have hfl := flat_of_before _ hgv
  obtain ⟨c0, i0, h0⟩ := u_known (C := RJ0) (T := TJ0) (N := 2) (n := 4) hts inJ0 (hts (.instantiable RJ0 4) (by decide +kernel))
  obtain ⟨c1, i1, h1⟩ := u_known (C := RJx00060) (T := TJx00060) (N := 6) (n := 6) hts lwi_Jx00060 (hts (.instantiable RJx00060 6) (by decide +kernel))
  obtain ⟨c2, i2, h2⟩ := u_known (C := RX0) (T := TX0) (N := 11) (n := 11) hts lwi_X0 (hts (.instantiable RX0 11) (by decide +kernel))
  obtain ⟨c3, i3, h3⟩ := u_known (C := RX1) (T := TX1) (N := 10) (n := 10) hts lwi_X1 (hts (.instantiable RX1 10) (by decide +kernel))
  obtain ⟨c4, i4, h4⟩ := u_known (C := RX2) (T := TX2) (N := 9) (n := 9) hts lwi_X2 (hts (.instantiable RX2 9) (by decide +kernel))
  obtain ⟨c5, i5, h5⟩ := u_known (C := RX3) (T := TX3) (N := 12) (n := 12) hts lwi_X3 (hts (.instantiable RX3 12) (by decide +kernel))
  obtain ⟨c6, i6, h6⟩ := u_known (C := RX4) (T := TX4) (N := 33) (n := 33) hts lwi_X4 (hts (.instantiable RX4 33) (by decide +kernel))
  have hk3 : va_AO "PalletLayers$Kind" s := va_AO.of (hts (.arrayOver (.object "PalletLayers$Kind")) (by decide +kernel))
  have hk4 : va_AO "PalletLayers$Pallet" s := va_AO.of (hts (.arrayOver (.object "PalletLayers$Pallet")) (by decide +kernel))
  obtain ⟨g0, a0, b0⟩ := st_arr (hts (.arrayClass .int) (by decide +kernel))
  obtain ⟨g1, a1, b1⟩ := st_arr (hts (.arrayClass .long) (by decide +kernel))
  obtain ⟨g2, a2, b2⟩ := st_arr (hts (.arrayClass .boolean) (by decide +kernel))
  obtain ⟨g3, a3, b3⟩ := st_arq hk3
  obtain ⟨g4, a4, b4⟩ := st_arq hk4
  refine ⟨(fun k => match k with | 0 => c0 | 1 => c1 | 2 => c2 | 3 => c3 | 4 => c4 | 5 => c5 | _ => c6, fun k => match k with | 0 => i0 | 1 => i1 | 2 => i2 | 3 => i3 | 4 => i4 | 5 => i5 | _ => i6), fun k => match k with | 0 => g0 | 1 => g1 | 2 => g2 | 3 => g3 | _ => g4, ⟨⟨?_, ?_⟩, ?_, ⟨hk3, hk4⟩, ?_, ?_, ?_, ?_⟩, ?_, ?_⟩
  · intro k q hq
    match k, hq with
    | 0, hq => cases hq; exact h0
    | 1, hq => cases hq; exact h1
    | 2, hq => cases hq; exact h2
    | 3, hq => cases hq; exact h3
    | 4, hq => cases hq; exact h4
    | 5, hq => cases hq; exact h5
    | 6, hq => cases hq; exact h6
    | k + 7, hq => simp [vwCl] at hq
  · intro k q hq
    match k, hq with
    | 0, hq => cases hq; exact ⟨a0, b0⟩
    | 1, hq => cases hq; exact ⟨a1, b1⟩
    | 2, hq => cases hq; exact ⟨a2, b2⟩
    | 3, hq => cases hq; exact ⟨a3, b3⟩
    | 4, hq => cases hq; exact ⟨a4, b4⟩
    | k + 5, hq => simp [tyG] at hq
  · exact ⟨va_Nw.of rfl (hts (.methodLinkNest RX0 52 yX3_isOutside RX3) (by decide +kernel)), va_Nw.of rfl (hts (.methodLinkNest RX1 52 yX3_isOutside RX3) (by decide +kernel)), va_Nw.of rfl (hts (.methodLinkNest RX3 133 yX1_init RX3) (by decide +kernel))⟩
  · intro q hq
    obtain ⟨a2, c, cA, kA, q1, -⟩ := Cond.exactly_spec (args := #[Value.ref b]) (first := s) (o := none) (s := s) (idx := []) (t := .string RX3 q.1) (cls := "java/lang/String") (hfl _ (st_ex q hq))
    exact ⟨a2, vk_R.of (hts _ (st_str q hq)) q1⟩
  · exact fun E hE => va_Nw.of rfl (hts _ (st_cst E hE))
  · exact fun Y hY => va_Nw.of rfl (hts _ (st_dec Y hY))
  · exact fun E hE E' hE' hne => va_Nc.of (hfl _ (st_nc E hE E' hE' hne))
  · exact vx_Zqof (hts (.laysStatic Bundle.tN "UNASSIGNED_STACK" Bundle.steD) (by decide +kernel)) (hts (.initialized Bundle.tN) (by decide +kernel)) (hfl _ st_rf.1) (fun a h => Nat.not_le.mpr h)
  · exact vx_Zqof (hts (.laysStatic Bundle.tN "SUPPRESSED_SENTINEL" Bundle.listD) (by decide +kernel)) (hts (.initialized Bundle.tN) (by decide +kernel)) (hfl _ st_rf.2) (fun a h => Nat.not_le.mpr h)
section RCELL
variable {p : Program} {l : Launch} {e : Env} {s : State} {m : MethodId} {below : List Frame} {meth : Method} {c : Code} {H : Heap} {locs : List Loc} {cells slots : Nat} {Q : State → Prop} {ls : Array Slot} {D : va_G} {g : Nat → ClassId} {lv : Nat → Bool} {a : Nat → Nat} {R : RS} {b L : Nat} {xs : Nat → Int32}
theorem r_cell {pc k : Nat} {rest : List Value} (X : LX p l s m c D g b L xs) (hk : k < 2) (hc : rc D g (lwA s) s.heap lv a R H locs) (hls : ls.size = 7) (hrest : 2 * (F0 m pc ls (.int (nI k) :: .ref b :: rest)).monitorRoom + (rest.map fun v => v.category).sum ≤ 8) (h1 : cells ≤ 603072) (h2 : slots ≤ 7181976) (hdg : decode cL_law pc = .ok (.invokestatic 74, 3))
    (kk : ∀ (H1 : Heap) (locs1 : List Loc), rc D g (lwA s) s.heap lv a R H1 locs1 → W p l e room_1 s m #[Value.ref b] below meth c H1 locs1 cells slots Q (F0 m (pc + 3) ls (.int (if k < L then xs k else 0) :: rest))) : W p l e room_1 s m #[Value.ref b] below meth c H locs cells slots Q (F0 m pc ls (.int (nI k) :: .ref b :: rest)) := by
  obtain ⟨hx, hb, hml, hown, hts, hK, hZ, hX, hbl, hl9, hL31⟩ := X
  refine va_calli (va_runS (As := [.ref b, .int (nI k)]) (rest := rest) ⟨hx, hb, hml, hown, hts⟩ (c_L_cell l b L xs k hk hL31) (va_cwS 2 hts (glw gL_law_L_cell) rfl rfl rfl (by decide +kernel) ⟨Nat.le_of_ble_eq_true rfl, Nat.le_of_ble_eq_true rfl⟩) ⟨fun x U f mk h => ⟨h.1, va_X.moved (u := U) (U := U.calling f mk x) (Vm.Alike.refl U.vm) h.2⟩, fun U hU hW => ⟨rfl, by show va_X b L xs U U.heap; rw [hU]; exact (hX.kept (hc.2.2.2.1 b hbl (Nat.not_le.mpr hbl))).moved hW.alike⟩⟩ rfl rfl hls rfl hrest hdg ⟨h1, h2⟩) hc.2.2 (fun _ _ h => h.elim) (fun _ h => h.elim) (fun r u t H1 locs1 ht _ hp _ hsz hkp hS => ?_)
  rw [hp]
  exact kk H1 locs1 ⟨⟨hc.1.1, fun i hi => (hc.1.2 i hi).kept (hkp _ (hc.1.2 i hi).lt (fun h => h))⟩, hc.2.1, hS⟩
end RCELL
