/-! ===== what is made: contracts, rows ===== -/
abbrev AS : Type := (Nat → Bool) × (Nat → Nat) × RS
abbrev aB (D : va_G) (g : Nat → ClassId) (lv : Nat → Bool) (a : Nat → Nat) (sz : Nat) (u : AS) (t : State) : Prop := rP D g u.1 u.2.1 u.2.2 t.heap ∧ ∀ i, u.1 i = true → rA lv a sz (u.2.1 i)
abbrev aV (l : Launch) (D : va_G) (g : Nat → ClassId) (lv : Nat → Bool) (a : Nat → Nat) (y : MethodName) (ws : List Cond) (rm : Room) (av : List Value) (R : RS) (post : (Nat → Bool) → (Nat → Nat) → RS → Prop) (mc ms : Nat) : Prop := ∀ sz, Met l y ws rm (va_Pc av (rPre D g lv a R sz)) (va_Qv (fun u : AS => post u.1 u.2.1 u.2.2) (aB D g lv a sz) (rA lv a sz)) mc ms (rA lv a sz)
abbrev xA (l : Launch) (D : va_G) (g : Nat → ClassId) (lv : Nat → Bool) (a : Nat → Nat) (y : MethodName) (ws : List Cond) (rm : Room) (av : List Value) (R : RS) (post : Int32 → (Nat → Bool) → (Nat → Nat) → RS → Prop) (xp : String → RS → Prop) (mc ms : Nat) : Prop := ∀ sz, vx_Met l y ws rm (va_Pc av (rPre D g lv a R sz)) (va_Qi (fun r (u : AS) => post r u.1 u.2.1 u.2.2) (aB D g lv a sz) (rA lv a sz)) (tX D g lv a xp sz) mc ms (rA lv a sz)
section AL
variable {l : Launch} {D : va_G} {g : Nat → ClassId} {lv lv1 : Nat → Bool} {a a1 : Nat → Nat} {R : RS}
variable {p : Program} {e : Env} {R0 : Room} {s : State} {m : MethodId} {args : Array Value} {below : List Frame} {meth : Method} {c : Code} {H : Heap} {locs : List Loc} {cells slots : Nat} {Q : State → Prop} {A : Nat → Prop} {cc : ByteArray} {pc : Nat} {ls : Array Slot} {rest st0 : List Value} {R' : RS}
theorem r_vretA {post : (Nat → Bool) → (Nat → Nat) → RS → Prop} (hexec : p.tables.exec = Jvm.exec) (hb : c.code = cc) (hr : meth.sig.returnType = none) (hlocks : meth.locks = false) (hc : rc D g (rA lv a s.heap.size) s.heap lv1 a1 R H locs) (hdg : decode cc pc = .ok (.return_, 1)) (hp : post lv1 a1 R) : W p l e R0 s m args below meth c H locs cells slots (MQ below (va_Qv (fun u : AS => post u.1 u.2.1 u.2.2) (aB D g lv a s.heap.size) (rA lv a s.heap.size)) args s cells slots (rA lv a s.heap.size)) (F0 m pc ls []) :=
  W.vret hexec hb hr (fun t ht hW => ⟨⟨(lv1, a1, R), rfl, hp, by show rP D g lv1 a1 R t.heap; rw [ht]; exact hc.1, hc.2.1⟩, hc.2.2.F ht⟩) hc.2.2.2.2 hdg
theorem r_iretA {v : Int32} {post : Int32 → (Nat → Bool) → (Nat → Nat) → RS → Prop} (hexec : p.tables.exec = Jvm.exec) (hb : c.code = cc) (hr : meth.sig.returnType = some .int) (hlocks : meth.locks = false) (hc : rc D g (rA lv a s.heap.size) s.heap lv1 a1 R H locs) (hdg : decode cc pc = .ok (.ireturn, 1)) (hp : post v lv1 a1 R) : W p l e R0 s m args below meth c H locs cells slots (MQ below (va_Qi (fun r (u : AS) => post r u.1 u.2.1 u.2.2) (aB D g lv a s.heap.size) (rA lv a s.heap.size)) args s cells slots (rA lv a s.heap.size)) (F0 m pc ls [.int v]) :=
  W.iret hexec hb hr (fun t ht hW => ⟨⟨v, (lv1, a1, R), rfl, hp, by show rP D g lv1 a1 R t.heap; rw [ht]; exact hc.1, hc.2.1⟩, hc.2.2.F ht⟩) hc.2.2.2.2 hdg
theorem r_callvA {mc ms : Nat} {av : Array Value} {post : (Nat → Bool) → (Nat → Nat) → RS → Prop} (hc : rc D g A s.heap lv a R H locs) (hA : ∀ q, s.heap.size ≤ q → A q) (hr : va_Run p l e R0 s m args below meth c H locs cells slots mc ms (F0 m pc ls st0) rest (va_Qv (fun u : AS => post u.1 u.2.1 u.2.2) (aB D g lv a H.size) (rA lv a H.size) av) (rA lv a H.size))
    (kk : ∀ (lv1 : Nat → Bool) (a1 : Nat → Nat) (R' : RS) (H1 : Heap) (locs1 : List Loc), post lv1 a1 R' → rc D g A s.heap lv1 a1 R' H1 locs1 → W p l e R0 s m args below meth c H1 locs1 (cells + mc) (slots + ms) Q (F0 m (pc + 3) ls rest)) : W p l e R0 s m args below meth c H locs cells slots Q (F0 m pc ls st0) :=
  va_callv hr hc.2.2 (fun q _ h => r_nar hc hA q h) (r_nar hc hA) (fun u t H1 locs1 ht _ hp hB _ _ hS => kk u.1 u.2.1 u.2.2 H1 locs1 hp ⟨by rw [← ht]; exact hB.1, fun i hi => r_nar hc hA _ (hB.2 i hi), hS⟩)
end AL
theorem nct_i {D : va_G} {g : Nat → ClassId} {q i n : Nat} (h : sh i = (1, n)) : ∀ R : RS, va_at D vwCl (q, ct g (clr R i) i) = fun H1 => H1[q]? = some (arrV (g 0) n (fun _ => defaultValue .int)) := fun R => by
  rw [ct_i h]
  funext H1
  show (H1[q]? = some (vp_cell (g 0) (n, .inl (ai (clr R i) i)))) = _
  rw [vp_cell_i]
  rw [show (fun j => Value.int (ai (clr R i) i j)) = fun _ => defaultValue .int from funext fun j => by show Value.int (if i = i then 0 else _) = _; rw [if_pos rfl]; rfl]
theorem nct_z {D : va_G} {g : Nat → ClassId} {q i n : Nat} (h : sh i = (3, n)) : ∀ R : RS, va_at D vwCl (q, ct g (clr R i) i) = fun H1 => H1[q]? = some (arrV (g 2) n (fun _ => defaultValue .boolean)) := fun R => by
  rw [ct_z h]
  funext H1
  show (H1[q]? = some (vp_cell (g 2) (n, .inl (ai (clr R i) i)))) = _
  rw [vp_cell_i]
  rw [show (fun j => Value.int (ai (clr R i) i j)) = fun _ => defaultValue .boolean from funext fun j => by show Value.int (if i = i then 0 else _) = _; rw [if_pos rfl]; rfl]
theorem nct_l {D : va_G} {g : Nat → ClassId} {q i n : Nat} (h : sh i = (2, n)) : ∀ R : RS, va_at D vwCl (q, ct g (clr R i) i) = fun H1 => H1[q]? = some (arrV (g 1) n (fun _ => defaultValue .long)) := fun R => by
  rw [ct_l h]
  funext H1
  show (H1[q]? = some (vp_cell (g 1) (n, .inr (.inl (al (clr R i) i))))) = _
  rw [vp_cell_l]
  rw [show (fun j => Value.long (al (clr R i) i j)) = fun _ => defaultValue .long from funext fun j => by show Value.long (if i = i then 0 else _) = _; rw [if_pos rfl]; rfl]
theorem ncq_k {g : Nat → ClassId} {i n : Nat} (h : sh i = (4, n)) : ∀ R : RS, ct g (clr R i) i = .inl (g 3, n, .inr (.inr (.inr (.inr (fun _ => none))))) := fun R => by
  rw [ct_k h]
  rw [show aq (clr R i) i = fun _ => none from funext fun j => by show (if i = i then none else _) = _; rw [if_pos rfl]]
theorem ncq_p {g : Nat → ClassId} {i n : Nat} (h : sh i = (5, n)) : ∀ R : RS, ct g (clr R i) i = .inl (g 4, n, .inr (.inr (.inr (.inr (fun _ => none))))) := fun R => by
  rw [ct_p h]
  rw [show aq (clr R i) i = fun _ => none from funext fun j => by show (if i = i then none else _) = _; rw [if_pos rfl]]
theorem nfv {R : RS} {i ci j : Nat} (hj : j < nF ci) : vp_V (fds (clr R i) i ci) j = (match fT ci j with | 0 => .int 0 | 1 => .long 0 | _ => .null) := by
  unfold vp_V
  rw [List.getD_eq_getElem?_getD, fds_at hj]
  show fv (clr R i) i j (fT ci j) = _
  unfold fv
  split
  · next h => rw [h]; show Value.int (if i = i then 0 else _) = _; rw [if_pos rfl]; rfl
  · next h => rw [h]; show Value.long (if i = i then 0 else _) = _; rw [if_pos rfl]; rfl
  · next h1 h2 => show va_rf (if i = i then none else _) = _; rw [if_pos rfl]; split <;> first | rfl | contradiction
theorem nfd_X0 : ∀ j, j < 11 → defaultValue (tyX0 j) = (match fT 2 j with | 0 => .int 0 | 1 => .long 0 | _ => .null) := by decide
theorem nf_X0 (i : Nat) (R : RS) (j : Nat) (hj : j < 11) : defaultValue (tyX0 j) = vp_V (fds (clr R i) i 2) j := (nfd_X0 j hj).trans (nfv (ci := 2) hj).symm
theorem nfd_X1 : ∀ j, j < 10 → defaultValue (tyX1 j) = (match fT 3 j with | 0 => .int 0 | 1 => .long 0 | _ => .null) := by decide
theorem nf_X1 (i : Nat) (R : RS) (j : Nat) (hj : j < 10) : defaultValue (tyX1 j) = vp_V (fds (clr R i) i 3) j := (nfd_X1 j hj).trans (nfv (ci := 3) hj).symm
theorem nfd_X2 : ∀ j, j < 9 → defaultValue (tyX2 j) = (match fT 4 j with | 0 => .int 0 | 1 => .long 0 | _ => .null) := by decide
theorem nf_X2 (i : Nat) (R : RS) (j : Nat) (hj : j < 9) : defaultValue (tyX2 j) = vp_V (fds (clr R i) i 4) j := (nfd_X2 j hj).trans (nfv (ci := 4) hj).symm
theorem nfd_X3 : ∀ j, j < 12 → defaultValue (tyX3 j) = (match fT 5 j with | 0 => .int 0 | 1 => .long 0 | _ => .null) := by decide
theorem nf_X3 (i : Nat) (R : RS) (j : Nat) (hj : j < 12) : defaultValue (tyX3 j) = vp_V (fds (clr R i) i 5) j := (nfd_X3 j hj).trans (nfv (ci := 5) hj).symm
theorem nfd_X4 : ∀ j, j < 33 → defaultValue (tyX4 j) = (match fT 6 j with | 0 => .int 0 | 1 => .long 0 | _ => .null) := by decide
theorem nf_X4 (i : Nat) (R : RS) (j : Nat) (hj : j < 33) : defaultValue (tyX4 j) = vp_V (fds (clr R i) i 6) j := (nfd_X4 j hj).trans (nfv (ci := 6) hj).symm
theorem w_st {p : Program} {l : Launch} {e : Env} {R0 : Room} {s : State} {m : MethodId} {args : Array Value} {below : List Frame} {meth : Method} {c : Code} {H : Heap} {locs : List Loc} {cells slots : Nat} {Q : State → Prop} {pc : Nat} {ls : Array Slot} {st1 st2 : List Value} (h : st1 = st2) (k : W p l e R0 s m args below meth c H locs cells slots Q (F0 m pc ls st2)) : W p l e R0 s m args below meth c H locs cells slots Q (F0 m pc ls st1) := by rw [h]; exact k
theorem q_fi_clr (R : RS) (i j q : Nat) : fi (clr R i) j q = if j = i then 0 else fi R j q := rfl
theorem q_fl_clr (R : RS) (i j q : Nat) : fl (clr R i) j q = if j = i then 0 else fl R j q := rfl
theorem q_fr_clr (R : RS) (i j q : Nat) : fr (clr R i) j q = if j = i then none else fr R j q := rfl
theorem q_ai_clr (R : RS) (i j q : Nat) : ai (clr R i) j q = if j = i then 0 else ai R j q := rfl
theorem q_al_clr (R : RS) (i j q : Nat) : al (clr R i) j q = if j = i then 0 else al R j q := rfl
theorem q_aq_clr (R : RS) (i j q : Nat) : aq (clr R i) j q = if j = i then none else aq R j q := rfl
