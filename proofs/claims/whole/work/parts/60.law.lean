/-! ===== the law: what stands at its loop's head ===== -/
abbrev lwA (s : State) : Nat → Prop := fun q => s.heap.size ≤ q
def LX (p : Program) (l : Launch) (s : State) (m : MethodId) (c : Code) (D : va_G) (g : Nat → ClassId) (b L : Nat) (xs : Nat → Int32) : Prop :=
  p.tables.exec = Jvm.exec ∧ c.code = cL_law ∧ c.maxLocals = 7 ∧ s.vm.findClass RL = some m.cls ∧ (∀ w ∈ lw_tbl, w.before #[Value.ref b] s = true) ∧ rK D g s ∧ rZ (lwA s) s s.heap ∧ va_X b L xs s s.heap ∧ b < s.heap.size ∧ l.stackTraces = false ∧ L < 2 ^ 31
def J (lv : Nat → Bool) (a : Nat → Nat) (R : RS) (M : MS) : Prop := PCr lv a R M ∧ PC R M ∧ PM R M ∧ PMr R a lv ∧ Inv M ∧ lv 200 = true
theorem glw {ws : List Cond} (h : GoodIn wsL_law ws) : GoodIn lw_tbl ws := fun w hw => ⟨wsL_law_in w (h w hw).1, (h w hw).2⟩
theorem glwP : GoodIn lw_tbl (va_wsS RL 97 yL_pattern wsLP) := fun w hw => by
  unfold va_wsS wsLP at hw
  rw [← List.append_assoc] at hw
  rcases List.mem_append.mp hw with h | h
  · exact glw gL_law_L_pattern w h
  · exact ⟨aioW_in w h, good_of_word (List.mem_filter.mp h).2⟩
theorem r_scr {p : Program} {l : Launch} {e : Env} {R0 : Room} {s : State} {m : MethodId} {args : Array Value} {below : List Frame} {meth : Method} {c : Code} {H : Heap} {locs : List Loc} {cells slots : Nat} {Q : State → Prop} {cc : ByteArray} {pc : Nat} {ls : Array Slot} {rest : List Value} {b L : Nat} {xs : Nat → Int32} {j : Nat} (hx : p.tables.exec = Jvm.exec) (hb : c.code = cc) (hX : va_X b L xs s s.heap) (hbl : b < s.heap.size) (hS : va_S (lwA s) s.heap H locs) (hj : j < L) (hL : L < 2 ^ 31) (hdg : decode cc pc = .ok (.iaload, 1))
    (kk : W p l e R0 s m args below meth c H locs cells slots Q (F0 m (pc + 1) ls (.int (xs j) :: rest))) : W p l e R0 s m args below meth c H locs cells slots Q (F0 m pc ls (.int (nI j) :: .ref b :: rest)) :=
  va_sld hx hb hX hbl (Nat.not_le.mpr hbl) hS (nI_in hj hL) hdg (by rw [nI_clamp (by omega)]; exact kk)
theorem j_1 {lv lv1 : Nat → Bool} {a a1 : Nat → Nat} {R R1 : RS} {M : MS} {b : Bool} {o : AN} {r : Int32} (hJ : J lv a R M) (hq : LQ lv a R b o r lv1 a1 R1) : PM R1 M ∧ PMr R1 a1 lv1 ∧ lv1 200 = true ∧ a1 0 = a 0 ∧ a1 100 = a 100 ∧ a1 200 = a 200 := by
  obtain ⟨j1, j2, j3, j4, j5, j6⟩ := hJ
  obtain ⟨h1, h2, h3, h4, h5, h6⟩ := hq
  refine ⟨pm_ext j3 (fun i hi hi2 j => ?_), pmr_ext j4 (fun i hi => ⟨(h5 i hi).1, (h5 i hi).2.1⟩) (fun j => ((h5 100 (by decide)).2.2 (by decide) j).2.2.1), (h5 200 (by decide)).1.trans j6, h6, (h5 100 (by decide)).2.1, (h5 200 (by decide)).2.1⟩
  have := (h5 i hi).2.2 (by omega) j
  exact ⟨this.1, this.2.2.2.1, this.2.2.2.2.1⟩
theorem j_2 {lv lv1 : Nat → Bool} {a a1 : Nat → Nat} {R R1 R2 : RS} {b : Bool} {o : AN} {r r2 : Int32} (hq : LQ lv a R b o r lv1 a1 R1) (hI : Inv o.2.2) (h1 : PMr R1 a1 lv1) (h200 : lv1 200 = true) (hm : QM R1 o r2 R2) : J lv1 a1 R2 o.2.2 ∧ fi R2 100 5 = nI o.1 ∧ (o.1 = 0 → b = true → al R2 200 0 = (o.2.1).toInt64) := by
  obtain ⟨q1, q2, q3, q4, q5, q6⟩ := hq
  obtain ⟨m1, m2, m3, m4, m5⟩ := hm
  refine ⟨⟨pcr_ext hI q4 (fun i hi j => ?_), pc_ext hI q3 (fun i hi j => ?_), m3, pmr_ext h1 (fun _ _ => ⟨rfl, rfl⟩) m5, hI, h200⟩, m2, fun h0 hb => ((m4 200 (Or.inr (by decide)) 0).2.2.2.2.1).trans (q2 h0 hb)⟩
  · have := m4 i (Or.inl hi) j
    exact ⟨this.2.2.1, this.2.2.2.2.2⟩
  · have := m4 i (Or.inl hi) j
    exact ⟨this.1, this.2.1, this.2.2.2.1, this.2.2.2.2.1⟩
theorem j_3 {lv : Nat → Bool} {a : Nat → Nat} {R R2 : RS} {M : MS} (hJ : J lv a R M) (hm : PM R2 M) (ho : outM R R2) : J lv a R2 M := by
  obtain ⟨j1, j2, j3, j4, j5, j6⟩ := hJ
  obtain ⟨m4, m5⟩ := ho
  refine ⟨pcr_ext j5 j1 (fun i hi j => ?_), pc_ext j5 j2 (fun i hi j => ?_), hm, pmr_ext j4 (fun _ _ => ⟨rfl, rfl⟩) m5, j5, j6⟩
  · have := m4 i (Or.inl hi) j
    exact ⟨this.2.2.1, this.2.2.2.2.2⟩
  · have := m4 i (Or.inl hi) j
    exact ⟨this.1, this.2.1, this.2.2.2.1, this.2.2.2.2.1⟩
theorem ob_kind (M : MS) (x y z u : Int32) : (oKind M x y z u).1 ≤ 4 := by
  unfold oKind
  repeat' split
  all_goals exact Nat.le_of_ble_eq_true rfl
theorem ob_search (M : MS) (x y : Int32) : (oSearch M x y).1 ≤ 4 := by
  unfold oSearch
  repeat' split
  all_goals exact Nat.le_of_ble_eq_true rfl
theorem ob_pattern (M : MS) (x y z : Int32) : (oPattern M x y z).1 ≤ 4 := by
  unfold oPattern
  repeat' split
  all_goals exact Nat.le_of_ble_eq_true rfl
theorem ob_exact (M : MS) (x : Int32) : (oExact M x).1 ≤ 4 := by
  unfold oExact
  repeat' split
  all_goals exact Nat.le_of_ble_eq_true rfl
theorem ob_bound (M : MS) (x : Int32) : (oBound M x).1 ≤ 4 := by
  unfold oBound
  repeat' split
  all_goals exact Nat.le_of_ble_eq_true rfl
theorem ob_rules (M : MS) (x y z : Int32) : (oRules M x y z).1 ≤ 4 := by
  unfold oRules
  repeat' split
  all_goals exact Nat.le_of_ble_eq_true rfl
theorem ob_pallet (M : MS) : (oPallet M).1 ≤ 4 := by
  unfold oPallet
  repeat' split
  all_goals exact Nat.le_of_ble_eq_true rfl
theorem ob_put (M : MS) (x y z : Int32) : (oPut M x y z).1 ≤ 4 := by
  unfold oPut
  repeat' split
  all_goals exact Nat.le_of_ble_eq_true rfl
theorem ob_fill (M : MS) (x y z : Int32) : (oFill M x y z).1 ≤ 4 := by
  unfold oFill
  repeat' split
  all_goals exact Nat.le_of_ble_eq_true rfl
theorem ob_take (M : MS) (x : Int32) : (oTake M x).1 ≤ 4 := by
  unfold oTake
  repeat' split
  all_goals exact Nat.le_of_ble_eq_true rfl
theorem ob_support (M : MS) (x y z : Int32) : (oSupport M x y z).1 ≤ 4 := by
  unfold oSupport
  repeat' split
  all_goals exact Nat.le_of_ble_eq_true rfl
theorem ob_told (M : MS) (x y : Int32) : (oTold M x y).1 ≤ 4 := by
  unfold oTold
  repeat' split
  all_goals exact Nat.le_of_ble_eq_true rfl
theorem ob_layer (M : MS) (x y z : Int32) : (oLayer M x y z).1 ≤ 4 := by
  unfold oLayer
  repeat' split
  all_goals exact Nat.le_of_ble_eq_true rfl
theorem ob_truck (M : MS) (x y : Int32) : (oTruck M x y).1 ≤ 4 := by
  unfold oTruck
  repeat' split
  all_goals exact Nat.le_of_ble_eq_true rfl
theorem ob_unload (M : MS) (x : Int32) : (oUnload M x).1 ≤ 4 := by
  unfold oUnload
  repeat' split
  all_goals exact Nat.le_of_ble_eq_true rfl
theorem ob_order (M : MS) (x : Int32) : (oOrder M x).1 ≤ 4 := by
  unfold oOrder
  repeat' split
  all_goals exact Nat.le_of_ble_eq_true rfl
