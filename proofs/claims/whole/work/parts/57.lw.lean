/-! ===== the law's own methods: each calls the class, and says which refusal came ===== -/
section HB
variable {l : Launch} {D : va_G} {g : Nat → ClassId} {lv : Nat → Bool} {a : Nat → Nat} {R : RS}
theorem h_body {y : MethodName} {ws ws' : List Cond} {rm : Room} {av : List Value} {Qc : Nat → Array Value → State → Outcome → State → Prop} {XC : Nat → String → State → State → Prop} {mc ms : Nat} {cc : ByteArray} {maxL : Nat} {ret : Option FieldType} {hh : List (Nat × Nat × Nat × Nat)} (hy : plainName y.cls = true) (hw : ws = Cond.codeWith y cc maxL ret hh :: ws') (hal : (lg_sl av).length ≤ maxL)
    (body : ∀ p e s m below meth c ls, bE p s m meth c D g lv a R y ws cc maxL ret av.toArray → c.exceptionTable.toList = tableOf hh → lv_has ls maxL (lv_args 0 av) → W p l e rm s m av.toArray below meth c s.heap [] 0 0 (vx_MQ below (Qc s.heap.size) (XC s.heap.size) av.toArray s mc ms (rA lv a s.heap.size)) (F0 m 0 ls [])) : ∀ sz, vx_Met l y ws rm (va_Pc av (rPre D g lv a R sz)) (Qc sz) (XC sz) mc ms (rA lv a sz) := by
  intro sz
  refine vx_ofWH (cc := cc) (maxL := maxL) (ret := ret) hy hw ?_
  intro p e s m args below meth c s₁ B hml hv
  obtain ⟨rfl, hsz, hP, hK, hZ⟩ := hv
  subst hsz
  have hl := lv_entry av (n := maxL) hal
  rw [lg_entry_eq]
  exact body p e s m below meth c _ ⟨B.exec, B.bytes, B.returns, hml, findClass_of_methodNamed B.named, atoms_spec (ws := ws) B.pre, B.notSynchronized, (name_of_methodNamed B.named B.method).1, hK, hZ, ⟨hP, fun i hi => Or.inl ⟨i, hi, rfl⟩, va_S.rf⟩, fun q h => Or.inr h⟩ (vx_table (x := y) B (atoms_spec (ws := ws) B.pre _ (by rw [hw]; exact List.mem_cons_self))) hl
variable {p : Program} {e : Env} {R0 : Room} {s : State} {m : MethodId} {args : Array Value} {below : List Frame} {meth : Method} {c : Code} {H : Heap} {locs : List Loc} {cells slots : Nat} {Q : State → Prop} {A : Nat → Prop} {cc : ByteArray} {pc : Nat} {ls : Array Slot} {rest st0 : List Value} {R' : RS}
theorem r_tryI {mc ms : Nat} {av : Array Value} {post : Int32 → RS → Prop} {xp : String → RS → Prop} (hc : rc D g A s.heap lv a R H locs) (hA : ∀ q, s.heap.size ≤ q → A q) (hr : vx_Run p l e R0 s m args below meth c H locs cells slots mc ms (F0 m pc ls st0) rest (va_Qi post (cB D g lv a) (rA lv a H.size) av) (tX D g lv a xp H.size) (rA lv a H.size))
    (kx : ∀ (E : String) (ce : Cell) (q9 : Addr) (R' : RS) (H1 : Heap) (locs1 : List Loc), xp E R' → rc D g A s.heap lv a R' H1 locs1 → H1[q9]? = some ce → ce.vm = .none → s.vm.findClass E = some ce.cls → vx_W p l e R0 s m args below meth c H1 locs1 (cells + mc) (slots + ms) Q (F0 m pc ls rest) q9)
    (kk : ∀ (r : Int32) (R' : RS) (H1 : Heap) (locs1 : List Loc), post r R' → rc D g A s.heap lv a R' H1 locs1 → W p l e R0 s m args below meth c H1 locs1 (cells + mc) (slots + ms) Q (F0 m (pc + 3) ls (.int r :: rest))) : W p l e R0 s m args below meth c H locs cells slots Q (F0 m pc ls st0) :=
  vx_calli hr hc.2.2 (fun q _ h => r_nar hc hA q h) (r_nar hc hA) (fun q _ h => r_nar hc hA q h)
    (fun E ce q9 u t H1 locs1 ht _ _ hB _ _ hS h1 h2 h3 => kx E ce q9 u H1 locs1 hB.1 (rc_back hc (by rw [← ht]; exact hB.2) hS) h1 h2 h3)
    (fun r u t H1 locs1 ht _ hp hB _ _ hS => kk r u H1 locs1 hp (rc_back hc (by rw [← ht]; exact hB) hS))
theorem r_tryV {mc ms : Nat} {av : Array Value} {post : RS → Prop} {xp : String → RS → Prop} (hc : rc D g A s.heap lv a R H locs) (hA : ∀ q, s.heap.size ≤ q → A q) (hr : vx_Run p l e R0 s m args below meth c H locs cells slots mc ms (F0 m pc ls st0) rest (va_Qv post (cB D g lv a) (rA lv a H.size) av) (tX D g lv a xp H.size) (rA lv a H.size))
    (kx : ∀ (E : String) (ce : Cell) (q9 : Addr) (R' : RS) (H1 : Heap) (locs1 : List Loc), xp E R' → rc D g A s.heap lv a R' H1 locs1 → H1[q9]? = some ce → ce.vm = .none → s.vm.findClass E = some ce.cls → vx_W p l e R0 s m args below meth c H1 locs1 (cells + mc) (slots + ms) Q (F0 m pc ls rest) q9)
    (kk : ∀ (R' : RS) (H1 : Heap) (locs1 : List Loc), post R' → rc D g A s.heap lv a R' H1 locs1 → W p l e R0 s m args below meth c H1 locs1 (cells + mc) (slots + ms) Q (F0 m (pc + 3) ls rest)) : W p l e R0 s m args below meth c H locs cells slots Q (F0 m pc ls st0) :=
  vx_callv hr hc.2.2 (fun q _ h => r_nar hc hA q h) (r_nar hc hA) (fun q _ h => r_nar hc hA q h)
    (fun E ce q9 u t H1 locs1 ht _ _ hB _ _ hS h1 h2 h3 => kx E ce q9 u H1 locs1 hB.1 (rc_back hc (by rw [← ht]; exact hB.2) hS) h1 h2 h3)
    (fun u t H1 locs1 ht _ hp hB _ _ hS => kk u H1 locs1 hp (rc_back hc (by rw [← ht]; exact hB) hS))
theorem r_tryA {mc ms : Nat} {av : Array Value} {post : Int32 → (Nat → Bool) → (Nat → Nat) → RS → Prop} {xp : String → RS → Prop} (hc : rc D g A s.heap lv a R H locs) (hA : ∀ q, s.heap.size ≤ q → A q) (hr : vx_Run p l e R0 s m args below meth c H locs cells slots mc ms (F0 m pc ls st0) rest (va_Qi (fun r (u : AS) => post r u.1 u.2.1 u.2.2) (aB D g lv a H.size) (rA lv a H.size) av) (tX D g lv a xp H.size) (rA lv a H.size))
    (kx : ∀ (E : String) (ce : Cell) (q9 : Addr) (R' : RS) (H1 : Heap) (locs1 : List Loc), xp E R' → rc D g A s.heap lv a R' H1 locs1 → H1[q9]? = some ce → ce.vm = .none → s.vm.findClass E = some ce.cls → vx_W p l e R0 s m args below meth c H1 locs1 (cells + mc) (slots + ms) Q (F0 m pc ls rest) q9)
    (kk : ∀ (r : Int32) (lv1 : Nat → Bool) (a1 : Nat → Nat) (R' : RS) (H1 : Heap) (locs1 : List Loc), post r lv1 a1 R' → rc D g A s.heap lv1 a1 R' H1 locs1 → W p l e R0 s m args below meth c H1 locs1 (cells + mc) (slots + ms) Q (F0 m (pc + 3) ls (.int r :: rest))) : W p l e R0 s m args below meth c H locs cells slots Q (F0 m pc ls st0) :=
  vx_calli hr hc.2.2 (fun q _ h => r_nar hc hA q h) (r_nar hc hA) (fun q _ h => r_nar hc hA q h)
    (fun E ce q9 u t H1 locs1 ht _ _ hB _ _ hS h1 h2 h3 => kx E ce q9 u H1 locs1 hB.1 (rc_back hc (by rw [← ht]; exact hB.2) hS) h1 h2 h3)
    (fun r u t H1 locs1 ht _ hp hB _ _ hS => kk r u.1 u.2.1 u.2.2 H1 locs1 hp ⟨by rw [← ht]; exact hB.1, fun i hi => r_nar hc hA _ (hB.2 i hi), hS⟩)
end HB
/-- what a method of the law owes: which refusal, the answer in the cell 200, the class's state, all else as it was -/
def LQ (lv : Nat → Bool) (a : Nat → Nat) (R : RS) (b : Bool) (o : AN) (r : Int32) (lv' : Nat → Bool) (a' : Nat → Nat) (R' : RS) : Prop := r = nI o.1 ∧ (o.1 = 0 → b = true → al R' 200 0 = (o.2.1).toInt64) ∧ PC R' o.2.2 ∧ PCr lv' a' R' o.2.2 ∧ (∀ i, 100 ≤ i → (lv' i = lv i ∧ a' i = a i ∧ (i ≠ 200 → six R R' i))) ∧ a' 0 = a 0
theorem pc_200 {R : RS} {M : MS} {v : Int64} (h : PC R M) : PC (sal R 200 0 v) M := by
  obtain ⟨t1, t2, t3, t4, t5, t6, t7⟩ := h
  refine ⟨t1, t2, t3, t4, t5, fun p hp l hl => ?_, t7⟩
  obtain ⟨b1, b2, b3, b4, b5⟩ := t6 p hp l hl
  exact ⟨b1, b2, b3, b4, (up2_ni (by omega)).trans b5⟩
theorem pc_ext {R R' : RS} {M : MS} (hI : Inv M) (h : PC R M) (he : ∀ i, i < 100 → ∀ j, fi R' i j = fi R i j ∧ fl R' i j = fl R i j ∧ ai R' i j = ai R i j ∧ al R' i j = al R i j) : PC R' M := by
  have hb := iv_b hI
  have e1 : ∀ i, i < 100 → ∀ j, fi R' i j = fi R i j := fun i hi j => (he i hi j).1
  have e2 : ∀ i, i < 100 → ∀ j, fl R' i j = fl R i j := fun i hi j => (he i hi j).2.1
  have e3 : ∀ i, i < 100 → ∀ j, ai R' i j = ai R i j := fun i hi j => (he i hi j).2.2.1
  have e4 : ∀ i, i < 100 → ∀ j, al R' i j = al R i j := fun i hi j => (he i hi j).2.2.2
  obtain ⟨t1, t2, t3, t4, t5, t6, t7⟩ := h
  obtain ⟨a1, a2, a3, a4, a5, a6, a7, a8, a9⟩ := t1
  obtain ⟨b1, b2, b3⟩ := t2
  refine ⟨⟨(e1 0 (by decide) _).trans a1, (e1 0 (by decide) _).trans a2, (e1 0 (by decide) _).trans a3, (e1 0 (by decide) _).trans a4, (e1 0 (by decide) _).trans a5, (e1 0 (by decide) _).trans a6, (e1 0 (by decide) _).trans a7, (e1 0 (by decide) _).trans a8, (e1 1 (by decide) _).trans a9⟩, ⟨(e1 1 (by decide) _).trans b1, (e1 1 (by decide) _).trans b2, (e1 1 (by decide) _).trans b3⟩, fun k hk => ?_, fun k hk => ?_, fun p hp => ?_, fun p hp l hl => ?_, fun i hi => (e3 6 (by decide) _).trans (t7 i hi)⟩
  · obtain ⟨c1, c2, c3, c4, c5, c6, c7⟩ := t3 k hk
    have h9 : 10 + 3 * k < 100 := by omega
    exact ⟨(e1 _ h9 _).trans c1, (e1 _ h9 _).trans c2, (e1 _ h9 _).trans c3, (e1 _ h9 _).trans c4, (e1 _ h9 _).trans c5, (e2 _ h9 _).trans c6, (e2 _ h9 _).trans c7⟩
  · obtain ⟨c1, c2, c3⟩ := t4 k hk
    have h9 : 10 + 3 * k < 100 := by omega
    exact ⟨(e1 _ h9 _).trans c1, (e1 _ h9 _).trans c2, fun i hi => ⟨(e3 _ (by omega) _).trans (c3 i hi).1, (e3 _ (by omega) _).trans (c3 i hi).2⟩⟩
  · obtain ⟨c1, c2, c3, c4, c5⟩ := t5 p hp
    have h9 : 40 + 6 * p < 100 := by omega
    exact ⟨(e1 _ h9 _).trans c1, (e1 _ h9 _).trans c2, (e1 _ h9 _).trans c3, (e1 _ h9 _).trans c4, (e1 _ h9 _).trans c5⟩
  · obtain ⟨c1, c2, c3, c4, c5⟩ := t6 p hp l hl
    exact ⟨(e3 _ (by omega) _).trans c1, (e3 _ (by omega) _).trans c2, (e3 _ (by omega) _).trans c3, (e3 _ (by omega) _).trans c4, (e4 _ (by omega) _).trans c5⟩
theorem pcr_ext {lv : Nat → Bool} {a : Nat → Nat} {R R' : RS} {M : MS} (hI : Inv M) (h : PCr lv a R M) (he : ∀ i, i < 100 → ∀ j, fr R' i j = fr R i j ∧ aq R' i j = aq R i j) : PCr lv a R' M := by
  have hb := iv_b hI
  have e1 : ∀ i, i < 100 → ∀ j, fr R' i j = fr R i j := fun i hi j => (he i hi j).1
  have e2 : ∀ i, i < 100 → ∀ j, aq R' i j = aq R i j := fun i hi j => (he i hi j).2
  obtain ⟨⟨a1, a2, a3, a4, a5, a6, a7, a8⟩, ⟨b1, b2, b3, b4, b5⟩, r3, r4, r5, r6, r7, r8⟩ := h
  refine ⟨⟨a1, a2, a3, a4, (e1 0 (by decide) _).trans a5, (e1 0 (by decide) _).trans a6, (e1 0 (by decide) _).trans a7, (e1 0 (by decide) _).trans a8⟩, ⟨b1, b2, b3, (e1 1 (by decide) _).trans b4, (e1 1 (by decide) _).trans b5⟩, fun k hk => ?_, fun p hp => ?_, fun k hk => (e2 4 (by decide) _).trans (r5 k hk), fun p hp => (e2 5 (by decide) _).trans (r6 p hp), r7, r8⟩
  · obtain ⟨c1, c2, c3, c4, c5⟩ := r3 k hk
    exact ⟨c1, c2, c3, (e1 _ (by omega) _).trans c4, (e1 _ (by omega) _).trans c5⟩
  · obtain ⟨c0, c1, c2, c3, c4, c5⟩ := r4 p hp
    exact ⟨c0, (e1 _ (by omega) _).trans c1, (e1 _ (by omega) _).trans c2, (e1 _ (by omega) _).trans c3, (e1 _ (by omega) _).trans c4, (e1 _ (by omega) _).trans c5⟩
theorem pm_ext {R R' : RS} {M : MS} (h : PM R M) (he : ∀ i, 100 ≤ i → i < 200 → ∀ j, fi R' i j = fi R i j ∧ ai R' i j = ai R i j ∧ al R' i j = al R i j) : PM R' M := by
  have e1 : ∀ j, fi R' 100 j = fi R 100 j := fun j => (he 100 (by decide) (by decide) j).1
  obtain ⟨⟨a1, a2, a3, a4, a5, a6, a7, a8, a9, a10⟩, t2, t3, t4, t5, t6, t7⟩ := h
  have e3 : ∀ i, 100 ≤ i → i < 200 → ∀ j, ai R' i j = ai R i j := fun i h1 h2 j => (he i h1 h2 j).2.1
  refine ⟨⟨(e1 _).trans a1, (e1 _).trans a2, (e1 _).trans a3, (e1 _).trans a4, (e1 _).trans a5, (e1 _).trans a6, (e1 _).trans a7, (e1 _).trans a8, (e1 _).trans a9, (e1 _).trans a10⟩, fun k hk => ?_, fun k h1 h2 => ?_, fun k hk i hi => ?_, fun p hp => ?_, fun p hp l hl => ?_, fun i hi => (e3 122 (by decide) (by decide) _).trans (t7 i hi)⟩
  · obtain ⟨c1, c2, c3, c4, c5, c6⟩ := t2 k hk
    exact ⟨(e3 106 (by decide) (by decide) _).trans c1, (e3 107 (by decide) (by decide) _).trans c2, (e3 108 (by decide) (by decide) _).trans c3, (e3 109 (by decide) (by decide) _).trans c4, (e3 110 (by decide) (by decide) _).trans c5, (e3 111 (by decide) (by decide) _).trans c6⟩
  · obtain ⟨c1, c2⟩ := t3 k h1 h2
    exact ⟨(e3 110 (by decide) (by decide) _).trans c1, (e3 111 (by decide) (by decide) _).trans c2⟩
  · obtain ⟨c1, c2, c3⟩ := t4 k hk i hi
    exact ⟨(e3 113 (by decide) (by decide) _).trans c1, (e3 114 (by decide) (by decide) _).trans c2, (he 112 (by decide) (by decide) _).2.2.trans c3⟩
  · obtain ⟨c1, c2⟩ := t5 p hp
    exact ⟨(e3 118 (by decide) (by decide) _).trans c1, (e3 121 (by decide) (by decide) _).trans c2⟩
  · obtain ⟨c1, c2⟩ := t6 p hp l hl
    exact ⟨(e3 119 (by decide) (by decide) _).trans c1, (e3 120 (by decide) (by decide) _).trans c2⟩
theorem pmr_ext {lv lv' : Nat → Bool} {a a' : Nat → Nat} {R R' : RS} (h : PMr R a lv) (h1 : ∀ i, 100 ≤ i → (lv' i = lv i ∧ a' i = a i)) (h2 : ∀ j, fr R' 100 j = fr R 100 j) : PMr R' a' lv' := by
  refine ⟨fun i hi => ?_, fun k hk => ?_⟩
  · have h9 : 100 ≤ i := by
      simp [mN] at hi
      omega
    exact (h1 i h9).1.trans (h.1 i hi)
  · rw [h2, h.2 k hk, (h1 (100 + k) (by omega)).2]
/-- what a call does to the state -/
def SM (M : MS) (o : AN) : Prop := Inv o.2.2 ∧ (o.1 ≠ 0 → o.2.2 = M)
def SC (M : MS) (o : AN) : Prop := mnk o.2.2 = mnk M ∧ mnp o.2.2 = mnp M
theorem sm_eq {M : MS} {o : AN} (hI : Inv M) (h : o.2.2 = M) : SM M o ∧ SC M o := ⟨⟨by rw [h]; exact hI, fun _ => h⟩, by unfold SC; rw [h]; exact ⟨rfl, rfl⟩⟩
theorem sm_pattern {M : MS} (hI : Inv M) (x y z : Int32) : SM M (oPattern M x y z) ∧ SC M (oPattern M x y z) := by
  refine sm_eq hI ?_
  unfold oPattern
  repeat' split
  all_goals rfl
theorem sm_exact {M : MS} (hI : Inv M) (x : Int32) : SM M (oExact M x) ∧ SC M (oExact M x) := sm_eq hI (by unfold oExact; split <;> rfl)
theorem sm_bound {M : MS} (hI : Inv M) (x : Int32) : SM M (oBound M x) ∧ SC M (oBound M x) := sm_eq hI (by unfold oBound; split <;> rfl)
theorem sm_told {M : MS} (hI : Inv M) (x y : Int32) : SM M (oTold M x y) ∧ SC M (oTold M x y) := sm_eq hI (by unfold oTold; split; split <;> rfl; rfl)
theorem sm_layer {M : MS} (hI : Inv M) (x y z : Int32) : SM M (oLayer M x y z) ∧ SC M (oLayer M x y z) := sm_eq hI (by unfold oLayer; split; split <;> rfl; rfl)
theorem sm_order {M : MS} (hI : Inv M) (x : Int32) : SM M (oOrder M x) ∧ SC M (oOrder M x) := sm_eq hI (by unfold oOrder; split <;> rfl)
theorem sm_support {M : MS} (hI : Inv M) (x y z : Int32) : SM M (oSupport M x y z) ∧ SC M (oSupport M x y z) := sm_eq hI (by unfold oSupport; split; split <;> rfl; rfl)
theorem sm_of {M : MS} {o : AN} (h : o.2.2 = M ∨ (o.1 = 0 ∧ Inv o.2.2)) (hI : Inv M) : SM M o := by
  rcases h with h | ⟨h1, h2⟩
  · exact (sm_eq hI h).1
  · exact ⟨h2, fun h => absurd h1 h⟩
theorem tN_b {x : Int32} {lo hi : Nat} (h : isR x lo hi) : lo ≤ tN x ∧ tN x ≤ hi := by
  unfold tN; obtain ⟨h1, h2⟩ := h; omega
theorem tN_n {x : Int32} {n : Nat} (h : isN x n) : tN x < n := by
  unfold tN; obtain ⟨h1, h2⟩ := h; omega
theorem sm_kind {M : MS} (hI : Inv M) (x y z u : Int32) : SM M (oKind M x y z u) := sm_of (by
  have hb := iv_b hI
  unfold oKind
  split
  · split
    · split
      · split
        · split
          · exact Or.inl rfl
          · next h1 h2 h3 h4 h5 => exact Or.inr ⟨rfl, iv_kind hI (by omega) (tN_b h1) (tN_b h2) (tN_b h3) (tN_b h4).2⟩
        · exact Or.inl rfl
      · exact Or.inl rfl
    · exact Or.inl rfl
  · exact Or.inl rfl) hI
theorem sm_pallet {M : MS} (hI : Inv M) : SM M (oPallet M) := sm_of (by
  have hb := iv_b hI
  unfold oPallet
  split
  · exact Or.inl rfl
  · exact Or.inr ⟨rfl, iv_pallet hI (by omega)⟩) hI
theorem sm_both {M : MS} {o : AN} (h : o.2.2 = M ∨ (o.1 = 0 ∧ Inv o.2.2 ∧ mnk o.2.2 = mnk M ∧ mnp o.2.2 = mnp M)) (hI : Inv M) : SM M o ∧ SC M o := by
  rcases h with h | ⟨h1, h2, h3⟩
  · exact sm_eq hI h
  · exact ⟨⟨h2, fun h => absurd h1 h⟩, h3⟩
theorem sm_rules {M : MS} (hI : Inv M) (x y z : Int32) : SM M (oRules M x y z) ∧ SC M (oRules M x y z) := sm_both (by
  unfold oRules
  split
  · split
    · split
      · next h1 h2 h3 => exact Or.inr ⟨rfl, iv_rules hI (tN_b h1).2 (tN_b h2).2 (tN_b h3).2, rfl, rfl⟩
      · exact Or.inl rfl
    · exact Or.inl rfl
  · exact Or.inl rfl) hI
theorem sm_take {M : MS} (hI : Inv M) (x : Int32) : SM M (oTake M x) ∧ SC M (oTake M x) := sm_both (by
  unfold oTake
  split
  · split
    · split
      · exact Or.inl rfl
      · exact Or.inr ⟨rfl, iv_take hI, rfl, rfl⟩
    · exact Or.inl rfl
  · exact Or.inl rfl) hI
theorem sm_truck {M : MS} (hI : Inv M) (x y : Int32) : SM M (oTruck M x y) ∧ SC M (oTruck M x y) := sm_both (by
  unfold oTruck
  split
  · split
    · split
      · split
        · exact Or.inl rfl
        · split
          · exact Or.inl rfl
          · next h1 h2 h3 h4 h5 => exact Or.inr ⟨rfl, iv_truck hI (tN_n h1) h3 (tN_b h2).2, rfl, rfl⟩
      · exact Or.inl rfl
    · exact Or.inl rfl
  · exact Or.inl rfl) hI
theorem sm_search {M : MS} (hI : Inv M) (x y : Int32) : SM M (oSearch M x y) ∧ SC M (oSearch M x y) := sm_both (by
  unfold oSearch
  split
  · split
    · split
      · exact Or.inl rfl
      · next h1 h2 h3 => exact Or.inr ⟨rfl, iv_search (mx := tN y) hI (tN_n h1) (sk0_si hI (tN_n h1)) (tN_b h2).2 (by simpa using h3), rfl, rfl⟩
    · exact Or.inl rfl
  · exact Or.inl rfl) hI
theorem sm_put {M : MS} (hI : Inv M) (x y z : Int32) : SM M (oPut M x y z) ∧ SC M (oPut M x y z) := sm_both (by
  unfold oPut
  split
  · next h1 =>
    split
    · next h2 =>
      split
      · split
        · exact Or.inl rfl
        · next h4 =>
          split
          · next h5 =>
            have := (iv_p hI (tN_n h1.1)).1
            exact Or.inr ⟨rfl, iv_add hI (tN_n h1.1) (tN_n h1.2) (by omega) (tN_b h2).1 (rsn_kb h5), rfl, rfl⟩
          · exact Or.inl rfl
      · exact Or.inl rfl
    · exact Or.inl rfl
  · exact Or.inl rfl) hI
theorem fl_iv {p k : Nat} : ∀ (f r : Nat) (M : MS), Inv M → p < mnp M → k < mnk M → kb M k ≠ 0 → (Inv (flM p k f r M).2 ∧ mnk (flM p k f r M).2 = mnk M ∧ mnp (flM p k f r M).2 = mnp M) := by
  intro f
  induction f with
  | zero => intro r M hI _ _ _; exact ⟨hI, rfl, rfl⟩
  | succ f ih =>
    intro r M hI hp hk hb
    by_cases h : 0 < r ∧ pn M p < 10 ∧ rsn M p k (if r < kb M k then r else kb M k) = nI 0
    · rw [show flM p k (f + 1) r M = flM p k f (r - (if r < kb M k then r else kb M k)) (nAdd M p k (if r < kb M k then r else kb M k)) from if_pos h]
      exact ih _ (nAdd M p k _) (iv_add hI hp hk h.2.1 (by split <;> omega) (rsn_kb h.2.2)) hp hk hb
    · rw [show flM p k (f + 1) r M = (r, M) from if_neg h]
      exact ⟨hI, rfl, rfl⟩
theorem sm_fill {M : MS} (hI : Inv M) (x y z : Int32) : SM M (oFill M x y z) ∧ SC M (oFill M x y z) := sm_both (by
  unfold oFill
  split
  · next h1 =>
    split
    · split
      · split
        · exact Or.inl rfl
        · next h4 => exact Or.inr ⟨rfl, fl_iv 11 _ M hI (tN_n h1.1) (tN_n h1.2) h4⟩
      · exact Or.inl rfl
    · exact Or.inl rfl
  · exact Or.inl rfl) hI
theorem un_iv {s : Nat} : ∀ (f : Nat) (M : MS), Inv M → (Inv (nUn s f M).2 ∧ mnk (nUn s f M).2 = mnk M ∧ mnp (nUn s f M).2 = mnp M) := by
  intro f
  induction f with
  | zero => intro M hI; exact ⟨hI, rfl, rfl⟩
  | succ f ih =>
    intro M hI
    by_cases h : 0 < mna M ∧ ps M (tb M (mna M - 1)) = s + 1
    · rw [show nUn s (f + 1) M = ((nUn s f (nPop M)).1 + 1, (nUn s f (nPop M)).2) from if_pos h]
      exact ih (nPop M) (iv_pop hI h.1)
    · rw [show nUn s (f + 1) M = (0, M) from if_neg h]
      exact ⟨hI, rfl, rfl⟩
theorem sm_unload {M : MS} (hI : Inv M) (x : Int32) : SM M (oUnload M x) ∧ SC M (oUnload M x) := sm_both (by
  unfold oUnload
  split
  · split
    · exact Or.inl rfl
    · exact Or.inr ⟨rfl, un_iv 8 M hI⟩
  · exact Or.inl rfl) hI
theorem lq_ret {lv : Nat → Bool} {a : Nat → Nat} {R R' : RS} {M : MS} {o : AN} {r : Int32} {v : Int64} (hr : PCr lv a R M) (h : QC R o r R') (hs : SM M o ∧ SC M o) (hv : v = r.toInt64) : LQ lv a R true o (nI 0) lv a (sal R' 200 0 v) := by
  obtain ⟨h1, h2, h3, h4⟩ := h
  refine ⟨by rw [h1], fun _ _ => by
    show v = _
    rw [hv, h2], pc_200 h3, hr.out (fun i k => h4.2.1 i k) (fun i k => h4.2.2 i k) hs.2.1 hs.2.2, fun i hi => ⟨rfl, rfl, fun hne j => ?_⟩, rfl⟩
  obtain ⟨e1, e2, e3, e4, e5, e6⟩ := h4.1 i hi j
  exact ⟨e1, e2, e3, e4, (up2_ni hne).trans e5, e6⟩
theorem lq_retV {lv : Nat → Bool} {a : Nat → Nat} {R R' : RS} {M : MS} {o : AN} {r : Int32} (hr : PCr lv a R M) (h : QC R o r R') (hs : SM M o ∧ SC M o) : LQ lv a R false o (nI 0) lv a R' := by
  obtain ⟨h1, h2, h3, h4⟩ := h
  exact ⟨by rw [h1], fun _ h => Bool.noConfusion h, h3, hr.out (fun i k => h4.2.1 i k) (fun i k => h4.2.2 i k) hs.2.1 hs.2.2, fun i hi => ⟨rfl, rfl, fun hne j => h4.1 i hi j⟩, rfl⟩
theorem lq_retA {lv lv' : Nat → Bool} {a a' : Nat → Nat} {R R' : RS} {o : AN} {r : Int32} {v : Int64} (h : QA lv a R o r lv' a' R') (hv : v = r.toInt64) : LQ lv a R true o (nI 0) lv' a' (sal R' 200 0 v) := by
  obtain ⟨h1, h2, h3, h4, h5, h6⟩ := h
  refine ⟨by rw [h1], fun _ _ => by
    show v = _
    rw [hv, h2], pc_200 h3, h4.out (fun _ _ => rfl) (fun _ _ => rfl) rfl rfl, fun i hi => ⟨(h5 i hi).1, (h5 i hi).2.1, fun hne j => ?_⟩, h6⟩
  obtain ⟨e1, e2, e3, e4, e5, e6⟩ := (h5 i hi).2.2 j
  exact ⟨e1, e2, e3, e4, (up2_ni hne).trans e5, e6⟩
theorem lq_exc {lv : Nat → Bool} {a : Nat → Nat} {R : RS} {M : MS} {o : AN} {n : Nat} {b : Bool} (hr : PCr lv a R M) (hC : PC R M) (ho : o.1 = n + 1) (hs : SM M o) : LQ lv a R b o (nI (n + 1)) lv a R := by
  have h9 := hs.2 (by omega)
  refine ⟨by rw [ho], fun h => absurd h (by omega), by rw [h9]; exact hC, by rw [h9]; exact hr, fun i _ => ⟨rfl, rfl, fun _ j => ⟨rfl, rfl, rfl, rfl, rfl, rfl⟩⟩, rfl⟩
def wsLP : List Cond := wsL_pattern ++ aioW
theorem gLP : GoodIn wsLP (wsV RL 25 RX3 yX3_pattern wsP3) := fun w hw => by
  unfold wsV wsP3 at hw
  rw [← List.append_assoc] at hw
  rcases List.mem_append.mp hw with h | h
  · have := gL_pattern_X3_pattern w h
    exact ⟨List.mem_append_left _ this.1, this.2⟩
  · exact ⟨List.mem_append_right _ h, good_of_word (List.mem_filter.mp h).2⟩
theorem ex_01 {M : MS} (hI : Inv M) {x : Int32} (h : (oExact M x).1 = 0) : (oExact M x).2.1 = nI 0 ∨ (oExact M x).2.1 = nI 1 := by
  unfold oExact at h ⊢
  split
  · next h1 =>
    have := (iv_k hI (tN_n h1)).2.2.2.2.2.2.2.2
    rcases (show kx M (tN x) = 0 ∨ kx M (tN x) = 1 by omega) with h9 | h9
    · exact Or.inl (by rw [h9])
    · exact Or.inr (by rw [h9])
  · next h1 => rw [if_neg h1] at h; cases h
/-- the law's cell: the script's place k, 0 outside it -/
theorem c_L_cell (l : Launch) (b L : Nat) (xs : Nat → Int32) (k : Nat) (hk : k < 2) (hL : L < 2 ^ 31) : Met l yL_cell wsL_cell ({ frames := 1, cells := 0, slots := 0, locals := 20 } : Room) (va_Pc [.ref b, .int (nI k)] (fun U => va_X b L xs U U.heap)) (va_Qi (fun r (_ : Unit) => r = if k < L then xs k else 0) (fun _ _ => True) (fun _ => False)) 0 0 (fun _ => False) := by
  refine Met.ofW (cc := cL_cell) (maxL := 2) (ret := (some .int)) (by decide) rfl ?_
  intro pr en st mi args bl me co s₁ B hml hv
  obtain ⟨rfl, hX⟩ := hv
  have hx := B.exec
  have hb := B.bytes
  have hr := B.returns
  have hl := lv_entry [Value.ref b, .int (nI k)] (n := 2) (Nat.le_of_ble_eq_true rfl)
  rw [lg_entry_eq]
  generalize ((lg_sl [Value.ref b, .int (nI k)] ++ List.replicate (2 - (lg_sl [Value.ref b, .int (nI k)]).length) Slot.unset).toArray) = ls at hl ⊢
  have hl : lv_has ls 2 [(0, .ref b), (1, .int (nI k))] := hl
  have hbl : b < st.heap.size := by
    obtain ⟨scr, h1, -⟩ := hX
    exact (Array.getElem?_eq_some_iff.mp h1).1
  have hS : va_S (fun _ => False) st.heap st.heap [] := va_S.rf
  refine lv_iload_n hx hb dL_cell_0 rfl (lv_at hl 1 rfl) ?_
  refine lv_aload_n hx hb dL_cell_1 rfl (lv_at hl 0 rfl) ?_
  refine va_slen hx hb hX hbl (fun h => h) hS dL_cell_2 ?_
  refine lv_icmp_ge (tgt := 12) hx hb dL_cell_3 (by decide) (fun hq => ?_) (fun hq => ?_)
  · have hq : L ≤ k := (nI_leI (a := L) (b := k) hL (by omega)).mp hq
    refine lv_iconst (v := nI 0) hx hb dL_cell_12 (by decide) ?_
    exact W.iret hx hb hr (fun t ht _ => ⟨⟨nI 0, (), rfl, by rw [if_neg (by omega)]; rfl, trivial⟩, hS.F ht⟩) hS.2.2 dL_cell_13 B.notSynchronized
  · have hq : ¬ L ≤ k := fun z => hq ((nI_leI (a := L) (b := k) hL (by omega)).mpr z)
    refine lv_aload_n hx hb dL_cell_6 rfl (lv_at hl 0 rfl) ?_
    refine lv_iload_n hx hb dL_cell_7 rfl (lv_at hl 1 rfl) ?_
    refine va_sld hx hb hX hbl (fun h => h) hS (nI_in (by omega) hL) dL_cell_8 ?_
    refine lv_goto (tgt := 13) hx hb dL_cell_9 (by decide) ?_
    exact W.iret hx hb hr (fun t ht _ => ⟨⟨_, (), rfl, by rw [if_pos (by omega), nI_clamp (by omega)], trivial⟩, hS.F ht⟩) hS.2.2 dL_cell_13 B.notSynchronized
