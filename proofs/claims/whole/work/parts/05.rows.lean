/-! ===== the machine's rows over the store ===== -/
theorem up_ne {α : Type} {f : Nat → α} {k j : Nat} {v : α} (h : ¬ j = k) : va_up f k v j = f j := if_neg h
section RW
variable {p : Program} {l : Launch} {e : Env} {R0 : Room} {s : State} {m : MethodId} {args : Array Value} {below : List Frame} {meth : Method} {c : Code} {H : Heap} {locs : List Loc} {cells slots : Nat} {Q : State → Prop}
variable {cc : ByteArray} {pc : Nat} {ls : Array Slot} {rest : List Value} {D : va_G} {g : Nat → ClassId} {A : Nat → Prop} {H0 : Heap} {lv : Nat → Bool} {a : Nat → Nat} {R : RS}
theorem r_one {i : Nat} {x : va_E} (h : rP D g lv a R H) (hi : lv i = true) (hx : ct g R i = x) : va_P D vwCl [(a i, x)] H := by
  intro k q hk
  have hz : k < 1 := (List.getElem?_eq_some_iff.mp hk).1
  rw [show k = 0 by omega] at hk
  cases hk
  rw [← hx]
  exact h.2 i hi
theorem r_get {own ref C : String} {T : u_T} {N ci index : Nat} {Ts : List Cond} {tys : List (ClassId × FieldType)} (hexec : p.tables.exec = Jvm.exec) (hb : c.code = cc) (hts : ∀ w ∈ Ts, w.before args s = true) (hown : s.vm.findClass own = some m.cls) (hK : va_K D vwCl tys s) (hc : rc D g A H0 lv a R H locs)
    {i : Nat} (hi : lv i = true) (hs : sh i = (0, ci)) (hcl : vwCl[ci]? = some (C, T, N)) (hN : nF ci = N) (hin : ∀ w ∈ u_ws C T N, w ∈ Ts) (k : Nat) (hk : k < N) (hlink : (Cond.fieldLink own index ref (T k).2.1 (T k).2.2.1).before args s = true) (hsame : ∀ x, s.fieldFound? (T k).1 (T k).2.1 (T k).2.2.1 = some x → s.fieldFound? ref (T k).2.1 (T k).2.2.1 = some x)
    {v : Value} (hv : fv R i k (fT ci k) = v) (hdg : decode cc pc = .ok (.getfield index, 3)) (kk : W p l e R0 s m args below meth c H locs cells slots Q (F0 m (pc + 3) ls (v :: rest))) : W p l e R0 s m args below meth c H locs cells slots Q (F0 m pc ls (.ref (a i) :: rest)) :=
  va_get hexec hb hts hin hown hK (r_one hc.1 hi (ct_o hs)) 0 rfl hcl k hk hlink hsame (by rw [fds_at (by rw [hN]; exact hk), hv]) hdg kk
theorem r_put {own ref C : String} {T : u_T} {N ci index : Nat} {Ts : List Cond} {tys : List (ClassId × FieldType)} (hexec : p.tables.exec = Jvm.exec) (hb : c.code = cc) (hts : ∀ w ∈ Ts, w.before args s = true) (hown : s.vm.findClass own = some m.cls) (hK : va_K D vwCl tys s) (hc : rc D g A H0 lv a R H locs)
    {i : Nat} (hi : lv i = true) (hs : sh i = (0, ci)) (hcl : vwCl[ci]? = some (C, T, N)) (hN : nF ci = N) (hin : ∀ w ∈ u_ws C T N, w ∈ Ts) (ty0 : Nat → FieldType) (hty : ∀ k, k < N → parseFieldDescriptor (T k).2.2.1 = some (ty0 k)) (hnm : ∀ a, a < N → ∀ b, b < N → a ≠ b → (T a).2.1 ≠ (T b).2.1)
    (k : Nat) (hk : k < N) (hlink : (Cond.fieldLink own index ref (T k).2.1 (T k).2.2.1).before args s = true) (hsame : ∀ x, s.fieldFound? (T k).1 (T k).2.1 (T k).2.2.1 = some x → s.fieldFound? ref (T k).2.1 (T k).2.2.1 = some x) (hfin : (T k).2.2.2 = false) {ty : FieldType} {v : Value} (hd : parseFieldDescriptor (T k).2.2.1 = some ty) (hn : narrow ty v = v) (hfit : fits ty v = true)
    (hdg : decode cc pc = .ok (.putfield index, 3)) {R' : RS} (hR : fds R' i ci = (fds R i ci).set k v) (ho : ∀ j, j ≠ i → ct g R' j = ct g R j)
    (kk : ∀ (H1 : Heap) (locs1 : List Loc), rc D g A H0 lv a R' H1 locs1 → W p l e R0 s m args below meth c H1 locs1 cells slots Q (F0 m (pc + 3) ls rest)) : W p l e R0 s m args below meth c H locs cells slots Q (F0 m pc ls (v :: .ref (a i) :: rest)) := by
  have hap := va_apart (own := own) hts hin ty0 hty hnm hK hcl
  obtain ⟨r, h1, cell, q1, q2, q3, q4⟩ := r_one hc.1 hi (ct_o (g := g) (R := R) hs) 0 _ rfl
  have hr : r = (C, T, N) := Option.some.inj (h1.symm.trans hcl)
  subst hr
  obtain ⟨hS, hfc, kC, hkC, hkind⟩ := hK.1 ci _ hcl
  obtain ⟨cf, kf, fi9, f, hi9, hsl⟩ := hS k hk
  have hlay := hts _ (hin _ (u_in_lay hk))
  unfold u_lay at hlay
  rw [if_neg (by rw [hfin]; decide)] at hlay
  have hst := (u_facts hfc hkC (u_lays hts hin hk) hi9).1
  have h6 := u_store hfc hkC hkind hlay hi9 hd hn hfit
  refine W.putK hexec hb (f := f) ⟨hown, hlink, ⟨_, _, _, hsame _ hi9⟩, hst⟩ (by rw [q2]; exact h6) q1 q3 (by rw [hsl]; exact k2_hasslot (q4 k hk)) rfl rfl hdg fun H' e1 e2 e3 => ?_
  rw [hsl] at e1 ⊢
  refine kk H' _ (rc_set hc hi ?_ e2 e3 ho)
  rw [ct_o hs, hR]
  exact ⟨_, hcl, t_OB.to (V := updV (vp_V (fds R i ci)) k v) ⟨_, e1, q2, q3, t_set q4 hap hk v⟩ (fun j _ => vp_updV_set (by rw [fds_len, hN]; exact hk) v j)⟩
theorem r_putF {own ref C : String} {T : u_T} {N ci index : Nat} {Ts : List Cond} {tys : List (ClassId × FieldType)} (hexec : p.tables.exec = Jvm.exec) (hb : c.code = cc) (hts : ∀ w ∈ Ts, w.before args s = true) (hown : s.vm.findClass own = some m.cls) (hK : va_K D vwCl tys s) (hc : rc D g A H0 lv a R H locs)
    {i : Nat} (hi : lv i = true) (hs : sh i = (0, ci)) (hcl : vwCl[ci]? = some (C, T, N)) (hN : nF ci = N) (hin : ∀ w ∈ u_ws C T N, w ∈ Ts) (ty0 : Nat → FieldType) (hty : ∀ k, k < N → parseFieldDescriptor (T k).2.2.1 = some (ty0 k)) (hnm : ∀ a, a < N → ∀ b, b < N → a ≠ b → (T a).2.1 ≠ (T b).2.1)
    (k : Nat) (hk : k < N) (hlink : (Cond.fieldLink own index ref (T k).2.1 (T k).2.2.1).before args s = true) (hsame : ∀ x, s.fieldFound? (T k).1 (T k).2.1 (T k).2.2.1 = some x → s.fieldFound? ref (T k).2.1 (T k).2.2.1 = some x) (hfin : (T k).2.2.2 = true) (hin2 : meth.name = "<init>") (hdecl : (T k).1 = own) {ty : FieldType} {v : Value} (hd : parseFieldDescriptor (T k).2.2.1 = some ty) (hn : narrow ty v = v) (hfit : fits ty v = true)
    (hdg : decode cc pc = .ok (.putfield index, 3)) {R' : RS} (hR : fds R' i ci = (fds R i ci).set k v) (ho : ∀ j, j ≠ i → ct g R' j = ct g R j)
    (kk : ∀ (H1 : Heap) (locs1 : List Loc), rc D g A H0 lv a R' H1 locs1 → W p l e R0 s m args below meth c H1 locs1 cells slots Q (F0 m (pc + 3) ls rest)) : W p l e R0 s m args below meth c H locs cells slots Q (F0 m pc ls (v :: .ref (a i) :: rest)) := by
  have hap := va_apart (own := own) hts hin ty0 hty hnm hK hcl
  obtain ⟨r, h1, cell, q1, q2, q3, q4⟩ := r_one hc.1 hi (ct_o (g := g) (R := R) hs) 0 _ rfl
  have hr : r = (C, T, N) := Option.some.inj (h1.symm.trans hcl)
  subst hr
  obtain ⟨hS, hfc, kC, hkC, hkind⟩ := hK.1 ci _ hcl
  obtain ⟨cf, kf, fi9, f, hi9, hsl⟩ := hS k hk
  have hlay := hts _ (hin _ (u_in_lay hk))
  unfold u_lay at hlay
  rw [if_pos hfin] at hlay
  have hst := (u_facts hfc hkC (u_lays hts hin hk) hi9).1
  have hcf : m.cls = cf := by
    obtain ⟨_, _, c', _, _, _, -, -, hf', -, -, -, hown2, -⟩ := Cond.laysFinal_spec hlay
    have e1 : c' = cf := by have := hi9.symm.trans hf'; simp at this; exact this.1.symm
    rw [hdecl] at hown2
    rw [← e1]; exact Option.some.inj (hown.symm.trans hown2)
  have h6 := u_fits hfc hkC hkind (Or.inr hlay) hi9 hd hn hfit
  refine W.putFinK hexec hb hown hlink (hsame _ hi9) hst hcf hin2 (by rw [q2]; exact h6) q1 q3 (by rw [hsl]; exact k2_hasslot (q4 k hk)) rfl rfl hdg fun H' e1 e2 e3 => ?_
  rw [hsl] at e1 ⊢
  refine kk H' _ (rc_set hc hi ?_ e2 e3 ho)
  rw [ct_o hs, hR]
  exact ⟨_, hcl, t_OB.to (V := updV (vp_V (fds R i ci)) k v) ⟨_, e1, q2, q3, t_set q4 hap hk v⟩ (fun j _ => vp_updV_set (by rw [fds_len, hN]; exact hk) v j)⟩
/-! arrays: the place j is a Nat below the length, as the stack has it: nI j -/
theorem r_iald {n : Nat} (hexec : p.tables.exec = Jvm.exec) (hb : c.code = cc) (hK : va_K D vwCl (tyG g) s) (hc : rc D g A H0 lv a R H locs) {i : Nat} (hi : lv i = true) (hs : sh i = (1, n)) (hn : n < 2 ^ 31) {j : Nat} (hj : j < n) (hdg : decode cc pc = .ok (.iaload, 1)) {v : Int32} (hv : ai R i j = v)
    (kk : W p l e R0 s m args below meth c H locs cells slots Q (F0 m (pc + 1) ls (.int v :: rest))) : W p l e R0 s m args below meth c H locs cells slots Q (F0 m pc ls (.int (nI j) :: .ref (a i) :: rest)) := by
  refine va_iald hexec hb hK (r_one hc.1 hi (ct_i hs)) 0 0 rfl rfl (vp_in_nI hj hn) hdg ?_
  rw [nI_clamp (by omega), hv]
  exact kk
theorem r_lald {n : Nat} (hexec : p.tables.exec = Jvm.exec) (hb : c.code = cc) (hK : va_K D vwCl (tyG g) s) (hc : rc D g A H0 lv a R H locs) {i : Nat} (hi : lv i = true) (hs : sh i = (2, n)) (hn : n < 2 ^ 31) {j : Nat} (hj : j < n) (hdg : decode cc pc = .ok (.laload, 1)) {v : Int64} (hv : al R i j = v)
    (kk : W p l e R0 s m args below meth c H locs cells slots Q (F0 m (pc + 1) ls (.long v :: rest))) : W p l e R0 s m args below meth c H locs cells slots Q (F0 m pc ls (.int (nI j) :: .ref (a i) :: rest)) := by
  refine va_lald hexec hb hK (r_one hc.1 hi (ct_l hs)) 0 1 rfl rfl (vp_in_nI hj hn) hdg ?_
  rw [nI_clamp (by omega), hv]
  exact kk
theorem r_zald {n : Nat} (hexec : p.tables.exec = Jvm.exec) (hb : c.code = cc) (hK : va_K D vwCl (tyG g) s) (hc : rc D g A H0 lv a R H locs) {i : Nat} (hi : lv i = true) (hs : sh i = (3, n)) (hn : n < 2 ^ 31) {j : Nat} (hj : j < n) (hdg : decode cc pc = .ok (.baload, 1)) {v : Int32} (hv : ai R i j = v)
    (kk : W p l e R0 s m args below meth c H locs cells slots Q (F0 m (pc + 1) ls (.int v :: rest))) : W p l e R0 s m args below meth c H locs cells slots Q (F0 m pc ls (.int (nI j) :: .ref (a i) :: rest)) := by
  refine va_zald hexec hb hK (r_one hc.1 hi (ct_z hs)) 0 2 rfl rfl (vp_in_nI hj hn) hdg ?_
  rw [nI_clamp (by omega), hv]
  exact kk
theorem r_kald {n : Nat} (hexec : p.tables.exec = Jvm.exec) (hb : c.code = cc) (hK : va_K D vwCl (tyG g) s) (hc : rc D g A H0 lv a R H locs) {i : Nat} (hi : lv i = true) (hs : sh i = (4, n)) (hn : n < 2 ^ 31) {j : Nat} (hj : j < n) (hdg : decode cc pc = .ok (.aaload, 1)) {v : Option Nat} (hv : aq R i j = v)
    (kk : W p l e R0 s m args below meth c H locs cells slots Q (F0 m (pc + 1) ls (va_rf v :: rest))) : W p l e R0 s m args below meth c H locs cells slots Q (F0 m pc ls (.int (nI j) :: .ref (a i) :: rest)) := by
  refine va_aldq hexec hb hK (r_one hc.1 hi (ct_k hs)) 0 3 rfl rfl (vp_in_nI hj hn) hdg ?_
  rw [nI_clamp (by omega), hv]
  exact kk
theorem r_pald {n : Nat} (hexec : p.tables.exec = Jvm.exec) (hb : c.code = cc) (hK : va_K D vwCl (tyG g) s) (hc : rc D g A H0 lv a R H locs) {i : Nat} (hi : lv i = true) (hs : sh i = (5, n)) (hn : n < 2 ^ 31) {j : Nat} (hj : j < n) (hdg : decode cc pc = .ok (.aaload, 1)) {v : Option Nat} (hv : aq R i j = v)
    (kk : W p l e R0 s m args below meth c H locs cells slots Q (F0 m (pc + 1) ls (va_rf v :: rest))) : W p l e R0 s m args below meth c H locs cells slots Q (F0 m pc ls (.int (nI j) :: .ref (a i) :: rest)) := by
  refine va_aldq hexec hb hK (r_one hc.1 hi (ct_p hs)) 0 4 rfl rfl (vp_in_nI hj hn) hdg ?_
  rw [nI_clamp (by omega), hv]
  exact kk
theorem r_alen {x n t0 : Nat} {ty : FieldType} {cA : ClassId} {b : (Nat → Int32) ⊕ (Nat → Int64) ⊕ (Nat → UInt32) ⊕ (Nat → UInt64) ⊕ (Nat → Option Nat)} (hexec : p.tables.exec = Jvm.exec) (hb : c.code = cc) (hK : va_K D vwCl (tyG g) s) (hc : rc D g A H0 lv a R H locs) {i : Nat} (hi : lv i = true) (hs : sh i = (x, n)) (hct : ct g R i = .inl (cA, n, b)) (ht : (tyG g)[t0]? = some (cA, ty)) (hdg : decode cc pc = .ok (.arraylength, 1))
    (kk : W p l e R0 s m args below meth c H locs cells slots Q (F0 m (pc + 1) ls (.int (nI n) :: rest))) : W p l e R0 s m args below meth c H locs cells slots Q (F0 m pc ls (.ref (a i) :: rest)) :=
  va_alen hexec hb hK (r_one hc.1 hi hct) 0 t0 rfl ht rfl hdg kk
theorem r_iast {n : Nat} (hexec : p.tables.exec = Jvm.exec) (hb : c.code = cc) (hK : va_K D vwCl (tyG g) s) (hc : rc D g A H0 lv a R H locs) {i : Nat} (hi : lv i = true) (hs : sh i = (1, n)) (hn : n < 2 ^ 31) {j : Nat} (hj : j < n) {x : Int32} (hdg : decode cc pc = .ok (.iastore, 1))
    (kk : ∀ (H1 : Heap) (locs1 : List Loc), rc D g A H0 lv a (sai R i j x) H1 locs1 → W p l e R0 s m args below meth c H1 locs1 cells slots Q (F0 m (pc + 1) ls rest)) : W p l e R0 s m args below meth c H locs cells slots Q (F0 m pc ls (.int x :: .int (nI j) :: .ref (a i) :: rest)) := by
  have hP := r_one hc.1 hi (ct_i (g := g) (R := R) hs)
  refine W.iast hexec hb (hP 0 _ rfl) ((hK.2 0 _ rfl).1 n (fun j => .int (ai R i j))) (fun q => by cases q) (by show ¬ (nI j < 0 ∨ (arrV _ _ _).slots.size ≤ _); rw [arrV_size]; exact vp_in_nI hj hn) rfl rfl hdg fun H1 e z oq => ?_
  refine kk H1 _ (rc_set hc hi ?_ z oq (fun j hj => ct_sai hj))
  rw [ct_i hs, ai_sai]
  show H1[a i]? = some (vp_cell _ _)
  rw [e]
  rw [vp_cell_i, vp_cell_i, arrV_store]
  congr 2
  funext q
  rw [nI_clamp (by omega)]
  by_cases hq : q = j
  · subst hq
    simp [updV, upd]
  · simp [updV, upd, hq]
theorem r_last {n : Nat} (hexec : p.tables.exec = Jvm.exec) (hb : c.code = cc) (hK : va_K D vwCl (tyG g) s) (hc : rc D g A H0 lv a R H locs) {i : Nat} (hi : lv i = true) (hs : sh i = (2, n)) (hn : n < 2 ^ 31) {j : Nat} (hj : j < n) {x : Int64} (hdg : decode cc pc = .ok (.lastore, 1))
    (kk : ∀ (H1 : Heap) (locs1 : List Loc), rc D g A H0 lv a (sal R i j x) H1 locs1 → W p l e R0 s m args below meth c H1 locs1 cells slots Q (F0 m (pc + 1) ls rest)) : W p l e R0 s m args below meth c H locs cells slots Q (F0 m pc ls (.long x :: .int (nI j) :: .ref (a i) :: rest)) := by
  have hP := r_one hc.1 hi (ct_l (g := g) (R := R) hs)
  refine W.last hexec hb (hP 0 _ rfl) ((hK.2 1 _ rfl).1 n (fun j => .long (al R i j))) (fun q => by cases q) (by show ¬ (nI j < 0 ∨ (arrV _ _ _).slots.size ≤ _); rw [arrV_size]; exact vp_in_nI hj hn) rfl rfl hdg fun H1 e z oq => ?_
  refine kk H1 _ (rc_set hc hi ?_ z oq (fun j hj => ct_sal hj))
  rw [ct_l hs, al_sal]
  show H1[a i]? = some (vp_cell _ _)
  rw [e]
  rw [vp_cell_l, vp_cell_l, arrV_store]
  congr 2
  funext q
  rw [nI_clamp (by omega)]
  by_cases hq : q = j
  · subst hq
    simp [updV, vp_updL]
  · simp [updV, vp_updL, hq]
theorem r_zast {n : Nat} (hexec : p.tables.exec = Jvm.exec) (hb : c.code = cc) (hK : va_K D vwCl (tyG g) s) (hc : rc D g A H0 lv a R H locs) {i : Nat} (hi : lv i = true) (hs : sh i = (3, n)) (hn : n < 2 ^ 31) {j : Nat} (hj : j < n) {x : Int32} (hz : vp_nar .boolean x = x) (hdg : decode cc pc = .ok (.bastore, 1))
    (kk : ∀ (H1 : Heap) (locs1 : List Loc), rc D g A H0 lv a (sai R i j x) H1 locs1 → W p l e R0 s m args below meth c H1 locs1 cells slots Q (F0 m (pc + 1) ls rest)) : W p l e R0 s m args below meth c H locs cells slots Q (F0 m pc ls (.int x :: .int (nI j) :: .ref (a i) :: rest)) := by
  have hP := r_one hc.1 hi (ct_z (g := g) (R := R) hs)
  refine W.zast hexec hb (hP 0 _ rfl) ((hK.2 2 _ rfl).1 n (fun j => .int (ai R i j))) (fun q => by cases q) (by show ¬ (nI j < 0 ∨ (arrV _ _ _).slots.size ≤ _); rw [arrV_size]; exact vp_in_nI hj hn) rfl rfl hdg fun H1 e z oq => ?_
  refine kk H1 _ (rc_set hc hi ?_ z oq (fun j hj => ct_sai hj))
  rw [ct_z hs, ai_sai]
  show H1[a i]? = some (vp_cell _ _)
  rw [e]
  rw [vp_cell_i, vp_cell_i, arrV_store]
  congr 2
  funext q
  rw [nI_clamp (by omega)]
  by_cases hq : q = j
  · subst hq
    have h9 : narrow .boolean (.int x) = .int x := by
      have h8 : narrow .boolean (.int x) = .int (vp_nar .boolean x) := by simp [vp_nar, narrow]
      rw [h8, hz]
    simp [updV, upd, h9]
  · simp [updV, upd, hq]
theorem r_ast {n x t0 ci v : Nat} {r : vw_C} {cA : ClassId} (hexec : p.tables.exec = Jvm.exec) (hb : c.code = cc) (hK : va_K D vwCl (tyG g) s) (hc : rc D g A H0 lv a R H locs) {i : Nat} (hi : lv i = true) (hct : ∀ R : RS, ct g R i = .inl (cA, n, .inr (.inr (.inr (.inr (aq R i)))))) (ht : (tyG g)[t0]? = some (cA, .object r.1)) (hv : lv v = true) (hsv : sh v = (0, ci)) (hcl : vwCl[ci]? = some r) (hn : n < 2 ^ 31) {j : Nat} (hj : j < n) (hdg : decode cc pc = .ok (.aastore, 1))
    (kk : ∀ (H1 : Heap) (locs1 : List Loc), rc D g A H0 lv a (saq R i j (some (a v))) H1 locs1 → W p l e R0 s m args below meth c H1 locs1 cells slots Q (F0 m (pc + 1) ls rest)) : W p l e R0 s m args below meth c H locs cells slots Q (F0 m pc ls (.ref (a v) :: .int (nI j) :: .ref (a i) :: rest)) := by
  have hP := r_one hc.1 hi (hct R)
  obtain ⟨r', hr', cellV, g1, g2, g3, -⟩ := r_one hc.1 hv (ct_o (g := g) (R := R) hsv) 0 _ rfl
  have hcls := (hK.1 ci r hcl).2
  obtain ⟨kA, comp, k1, k2, k3, -⟩ := (hK.2 t0 _ ht).2
  have hcomp : comp = D.1 ci := Option.some.inj (k3.symm.trans hcls.1)
  subst hcomp
  obtain ⟨kC, hkC, -⟩ := hcls.2
  have h0 : ¬ nI j < 0 := nI_pos (by omega)
  refine W.aast hexec hb (hP 0 _ rfl) (fun q h => by cases h) (fun h => by cases h) k1 k2 rfl hkC ⟨h0, by show _ < (arrV _ _ _).slots.size; rw [arrV_size, nI_clamp (by omega)]; exact hj⟩ g1 (fun q h => by rw [g3] at h; cases h) (by rw [g2]; exact hkC) (by rw [g2]; exact va_assign hcls) rfl rfl hdg fun H1 e z oq => ?_
  refine kk H1 _ (rc_set hc hi ?_ z oq (fun j hj => ct_saq hj))
  rw [hct, aq_saq]
  show H1[a i]? = some (vp_cell _ _)
  rw [e]
  rw [vp_cell_q, vp_cell_q, arrV_store]
  congr 2
  funext q
  rw [nI_clamp (by omega)]
  by_cases hq : q = j
  · subst hq
    simp [updV, va_up, va_rf]
  · simp [updV, va_up, hq]
/-! what is made -/
theorem rP_new {i : Nat} {R' : RS} {H1 : Heap} (h : rP D g lv a R H) (hi : lv i = false) (he : va_at D vwCl (H.size, ct g R' i) H1) (oq : ∀ q : Nat, q < H.size → H1[q]? = H[q]?) (hne : ∀ j, j ≠ i → ct g R' j = ct g R j) : rP D g (va_up lv i true) (va_up a i H.size) R' H1 := by
  have hlt : ∀ j, lv j = true → a j < H.size := fun j hj => (h.2 j hj).lt
  refine ⟨fun x y hx hy hxy => ?_, fun j hj => ?_⟩
  · by_cases h1 : x = i
    · by_cases h2 : y = i
      · rw [h1, h2]
      · rw [h1, va_up_self, up_ne h2] at hxy
        rw [up_ne h2] at hy
        have := hlt y hy
        omega
    · by_cases h2 : y = i
      · rw [h2, va_up_self, up_ne h1] at hxy
        rw [up_ne h1] at hx
        have := hlt x hx
        omega
      · rw [up_ne h1] at hx hxy
        rw [up_ne h2] at hy hxy
        exact h.1 x y hx hy hxy
  · by_cases h1 : j = i
    · subst h1
      rw [va_up_self]
      exact he
    · rw [up_ne h1] at hj ⊢
      rw [hne j h1]
      exact (h.2 j hj).kept (oq _ (hlt j hj))
theorem rc_new {i : Nat} {R' : RS} {H1 : Heap} (h : rc D g A H0 lv a R H locs) (hA : ∀ q, H0.size ≤ q → A q) (hi : lv i = false) (he : va_at D vwCl (H.size, ct g R' i) H1) (z : H1.size = H.size + 1) (oq : ∀ q : Nat, q < H.size → H1[q]? = H[q]?) (hne : ∀ j, j ≠ i → ct g R' j = ct g R j) : rc D g A H0 (va_up lv i true) (va_up a i H.size) R' H1 locs := by
  refine ⟨rP_new h.1 hi he oq hne, fun j hj => ?_, ⟨Nat.le_trans h.2.2.1 (by omega), fun x h1 h2 => (oq x (Nat.lt_of_lt_of_le h1 h.2.2.1)).trans (h.2.2.2.1 x h1 h2), h.2.2.2.2⟩⟩
  by_cases h1 : j = i
  · subst h1
    rw [va_up_self]
    exact hA _ h.2.2.1
  · rw [up_ne h1] at hj ⊢
    exact h.2.1 j hj
theorem r_new {own C : String} {T : u_T} {N ci index : Nat} {Ts : List Cond} {tys : List (ClassId × FieldType)} (hexec : p.tables.exec = Jvm.exec) (hb : c.code = cc) (hts : ∀ w ∈ Ts, w.before args s = true) (hown : s.vm.findClass own = some m.cls) (hK : va_K D vwCl tys s) (hc : rc D g A H0 lv a R H locs) (hA : ∀ q, H0.size ≤ q → A q)
    (i : Nat) (hi : lv i = false) (hs : sh i = (0, ci)) (hcl : vwCl[ci]? = some (C, T, N)) (hN : nF ci = N) (hin : ∀ w ∈ u_ws C T N, w ∈ Ts) (ty : Nat → FieldType) (hty : ∀ k, k < N → parseFieldDescriptor (T k).2.2.1 = some (ty k)) (hcl2 : (Cond.classLink own index C).before args s = true) (hinst : (Cond.instantiable C N).before args s = true) (hini : (Cond.initialized C).before args s = true)
    (hfs : ∀ R : RS, ∀ j, j < N → defaultValue (ty j) = vp_V (fds (clr R i) i ci) j) (hcells : cells + 1 ≤ R0.cells) (hslots : slots + N ≤ R0.slots) (hdg : decode cc pc = .ok (.new index, 3))
    (kk : ∀ (q : Nat) (H1 : Heap), q = H.size → rc D g A H0 (va_up lv i true) (va_up a i q) (clr R i) H1 locs → W p l e R0 s m args below meth c H1 locs (cells + 1) (slots + N) Q (F0 m (pc + 3) ls (.ref q :: rest))) : W p l e R0 s m args below meth c H locs cells slots Q (F0 m pc ls rest) := by
  have hKn := hK.1 ci _ hcl
  refine W.newcK hexec hb hown hcl2 hinst hini rfl hdg hcells hslots hKn.2.1 rfl fun H1 kC hkC e1 z1 o1 => ?_
  refine kk H.size H1 rfl (rc_new hc hA hi ?_ z1 o1 (fun j hj => ct_clr hj))
  rw [ct_o hs]
  exact ⟨_, hcl, (u_born ty hts hin hKn hkC e1 hty).to (hfs R)⟩
theorem r_newa {atype : ArrayType} {n : Int32} {N x t0 : Nat} {ty : FieldType} {cA : ClassId} (hexec : p.tables.exec = Jvm.exec) (hb : c.code = cc) (harr : (Cond.arrayClass (newarray.typeOf atype)).before args s = true) (hty : newarray.typeOf atype = ty) (hK : va_K D vwCl (tyG g) s) (hc : rc D g A H0 lv a R H locs) (hA : ∀ q, H0.size ≤ q → A q)
    (i : Nat) (hi : lv i = false) (hs : sh i = (x, N)) (ht : (tyG g)[t0]? = some (cA, ty)) (hra : va_RA s cA ty → s.vm.findClass ("[" ++ ty.toString) = some cA) (hct : ∀ R : RS, va_at D vwCl (H.size, ct g (clr R i) i) = fun H1 => H1[H.size]? = some (arrV cA N (fun _ => defaultValue ty))) (hn : ¬ n < 0) (hN : n.toNatClampNeg = N) (hbytes : N * componentBytes ty ≤ 536870912) (hcells : cells + 1 ≤ R0.cells) (hslots : slots + N ≤ R0.slots) (hdg : decode cc pc = .ok (.newarray atype, 2))
    (kk : ∀ (q : Nat) (H1 : Heap), q = H.size → rc D g A H0 (va_up lv i true) (va_up a i q) (clr R i) H1 locs → W p l e R0 s m args below meth c H1 locs (cells + 1) (slots + N) Q (F0 m (pc + 2) ls (.ref q :: rest))) : W p l e R0 s m args below meth c H locs cells slots Q (F0 m pc ls (.int n :: rest)) := by
  subst hty
  refine va_newaK hexec hb harr rfl hdg rfl hn hN hbytes hcells hslots rfl fun H1 cA9 e1 z1 o1 hAr hNm => ?_
  have hcc : cA9 = cA := Option.some.inj (hNm.symm.trans (hra (hK.2 t0 _ ht).2))
  subst hcc
  refine kk H.size H1 rfl (rc_new hc hA hi ?_ z1 o1 (fun j hj => ct_clr hj))
  rw [hct]
  exact e1
theorem r_newq {own C : String} {index N x t0 : Nat} {n : Int32} {cA : ClassId} (hexec : p.tables.exec = Jvm.exec) (hb : c.code = cc) (hown : s.vm.findClass own = some m.cls) (hclink : (Cond.classLink own index C).before args s = true) (hover : va_AO C s) (hK : va_K D vwCl (tyG g) s) (hc : rc D g A H0 lv a R H locs) (hA : ∀ q, H0.size ≤ q → A q)
    (i : Nat) (hi : lv i = false) (hs : sh i = (x, N)) (ht : (tyG g)[t0]? = some (cA, .object C)) (hct : ∀ R : RS, ct g (clr R i) i = .inl (cA, N, .inr (.inr (.inr (.inr (fun _ => none)))))) (hn : ¬ n < 0) (hN : n.toNatClampNeg = N) (hbytes : N * 4 ≤ 536870912) (hcells : cells + 1 ≤ R0.cells) (hslots : slots + N ≤ R0.slots) (hdg : decode cc pc = .ok (.anewarray index, 3))
    (kk : ∀ (q : Nat) (H1 : Heap), q = H.size → rc D g A H0 (va_up lv i true) (va_up a i q) (clr R i) H1 locs → W p l e R0 s m args below meth c H1 locs (cells + 1) (slots + N) Q (F0 m (pc + 3) ls (.ref q :: rest))) : W p l e R0 s m args below meth c H locs cells slots Q (F0 m pc ls (.int n :: rest)) := by
  subst hN
  refine W.anew hexec hb hown hclink (va_AO.use hover) rfl hdg rfl hn hbytes hcells hslots fun cA9 kA comp f1 f2 f3 f4 => ?_
  obtain ⟨kA8, comp8, j1, j2, j3, j4⟩ := (hK.2 t0 _ ht).2
  have hcc : cA9 = cA := Option.some.inj (f1.symm.trans j4)
  subst hcc
  generalize hH1 : H.push ({ cls := cA9, slots := Array.replicate n.toNatClampNeg .null, vm := .none } : Cell) = H1
  have z1 : H1.size = H.size + 1 := by rw [← hH1, Array.size_push]
  have e1 : H1[H.size]? = some (arrV cA9 n.toNatClampNeg (fun _ => .null)) := by rw [← hH1, Array.getElem?_push_size, ← arrV_new]
  have o1 : ∀ q : Nat, q < H.size → H1[q]? = H[q]? := fun q hq => by rw [← hH1, Array.getElem?_push, if_neg (Nat.ne_of_lt hq)]
  refine kk H.size H1 rfl (rc_new hc hA hi ?_ z1 o1 (fun j hj => ct_clr hj))
  rw [hct]
  show H1[H.size]? = some (vp_cell _ _)
  rw [vp_cell_q]
  exact e1
end RW
