/-! ===== contracts over the store ===== -/
def strs : List (Nat × String) := [(74, "a box's size or weight is outside its range"), (81, "no room for another kind"), (91, "steps are outside their range"), (99, "a layer of this kind is on a pallet"), (109, "what is outside its range"), (113, "no such box in the pattern"), (129, "a rule is outside its range"), (131, "no room for another pallet"), (138, "boxes are outside their range"), (147, "no room for another layer"), (176, "no such box"), (203, "a stop is outside its range"), (208, "a pallet for an earlier stop would be barred"), (213, "a pallet for another stop stands behind"), (218, "not so many pallets on the truck"), (227, "no such kind"), (229, "no such pallet"), (231, "no such layer"), (233, "the pallet is on a truck"), (235, "the pallet has no layers")]
/-- what the tables say beside the words: classes and slots, nest mates, arrays of references, the texts of the throws -/
def rK (D : va_G) (g : Nat → ClassId) (U : State) : Prop := va_K D vwCl (tyG g) U ∧ (va_Nw (.methodLinkNest RX0 52 yX3_isOutside RX3) U ∧ va_Nw (.methodLinkNest RX1 52 yX3_isOutside RX3) U ∧ va_Nw (.methodLinkNest RX3 133 yX1_init RX3) U) ∧ (va_AO "PalletLayers$Kind" U ∧ va_AO "PalletLayers$Pallet" U) ∧ ∀ q ∈ strs, ∃ sa, vk_R RX3 q.1 q.2 sa U
def rZ (A : Nat → Prop) (U : State) (H : Heap) : Prop := vx_Zq Bundle.tN "UNASSIGNED_STACK" Bundle.steD A U H ∧ vx_Zq Bundle.tN "SUPPRESSED_SENTINEL" Bundle.listD A U H
theorem rK.warm {D : va_G} {g : Nat → ClassId} {s U : State} (hW : s.WarmedH U.vm) (h : rK D g s) : rK D g U :=
  ⟨h.1.moved hW.alike, ⟨h.2.1.1.warmM hW, h.2.1.2.1.warmM hW, h.2.1.2.2.warmM hW⟩, ⟨h.2.2.1.1.moved hW.alike, h.2.2.1.2.moved hW.alike⟩, fun q hq => by
    obtain ⟨sa, h1⟩ := h.2.2.2 q hq
    exact ⟨sa, h1.warm hW⟩⟩
theorem rK.same {D : va_G} {g : Nat → ClassId} {s U : State} (hv : U.vm = s.vm) (h : rK D g s) : rK D g U :=
  ⟨h.1.moved (by rw [hv]; exact Vm.Alike.refl _), ⟨h.2.1.1.same rfl hv.symm, h.2.1.2.1.same rfl hv.symm, h.2.1.2.2.same rfl hv.symm⟩, ⟨h.2.2.1.1.moved (by rw [hv]; exact Vm.Alike.refl _), h.2.2.1.2.moved (by rw [hv]; exact Vm.Alike.refl _)⟩, fun q hq => by
    obtain ⟨sa, h1⟩ := h.2.2.2 q hq
    exact ⟨sa, h1.same hv⟩⟩
def rPre (D : va_G) (g : Nat → ClassId) (lv : Nat → Bool) (a : Nat → Nat) (R : RS) (sz : Nat) (U : State) : Prop := U.heap.size = sz ∧ rP D g lv a R U.heap ∧ rK D g U ∧ rZ (rA lv a sz) U U.heap
theorem rPre_blind {D : va_G} {g : Nat → ClassId} {lv : Nat → Bool} {a : Nat → Nat} {R : RS} {sz : Nat} {av : List Value} : FrameBlind (va_Pc av (rPre D g lv a R sz)) := by
  intro x U f mk h
  obtain ⟨h0, h1, h2, h3, h4⟩ := h
  exact ⟨h0, h1, h2, h3.same rfl, vx_Zq.moved (u := U) (U := U.calling f mk x) (Vm.Alike.refl U.vm) h4.1, vx_Zq.moved (u := U) (U := U.calling f mk x) (Vm.Alike.refl U.vm) h4.2⟩
abbrev cB (D : va_G) (g : Nat → ClassId) (lv : Nat → Bool) (a : Nat → Nat) (R' : RS) (t : State) : Prop := rP D g lv a R' t.heap
abbrev cI (l : Launch) (D : va_G) (g : Nat → ClassId) (lv : Nat → Bool) (a : Nat → Nat) (y : MethodName) (ws : List Cond) (rm : Room) (av : List Value) (R : RS) (post : Int32 → RS → Prop) (mc ms : Nat) : Prop := ∀ sz, Met l y ws rm (va_Pc av (rPre D g lv a R sz)) (va_Qi post (cB D g lv a) (rA lv a sz)) mc ms (rA lv a sz)
abbrev cL (l : Launch) (D : va_G) (g : Nat → ClassId) (lv : Nat → Bool) (a : Nat → Nat) (y : MethodName) (ws : List Cond) (rm : Room) (av : List Value) (R : RS) (post : Int64 → RS → Prop) (mc ms : Nat) : Prop := ∀ sz, Met l y ws rm (va_Pc av (rPre D g lv a R sz)) (va_Ql post (cB D g lv a) (rA lv a sz)) mc ms (rA lv a sz)
abbrev cV (l : Launch) (D : va_G) (g : Nat → ClassId) (lv : Nat → Bool) (a : Nat → Nat) (y : MethodName) (ws : List Cond) (rm : Room) (av : List Value) (R : RS) (post : RS → Prop) (mc ms : Nat) : Prop := ∀ sz, Met l y ws rm (va_Pc av (rPre D g lv a R sz)) (va_Qv post (cB D g lv a) (rA lv a sz)) mc ms (rA lv a sz)
/-- what a body begins with -/
def bE (p : Program) (s : State) (m : MethodId) (meth : Method) (c : Code) (D : va_G) (g : Nat → ClassId) (lv : Nat → Bool) (a : Nat → Nat) (R : RS) (y : MethodName) (ws : List Cond) (cc : ByteArray) (maxL : Nat) (ret : Option FieldType) (args : Array Value) : Prop :=
  p.tables.exec = Jvm.exec ∧ c.code = cc ∧ meth.sig.returnType = ret ∧ c.maxLocals = maxL ∧ s.vm.findClass y.cls = some m.cls ∧ (∀ w ∈ ws, w.before args s = true) ∧ meth.locks = false ∧ meth.name = y.name ∧ rK D g s ∧ rZ (rA lv a s.heap.size) s s.heap ∧ rc D g (rA lv a s.heap.size) s.heap lv a R s.heap [] ∧ ∀ q, s.heap.size ≤ q → rA lv a s.heap.size q
section CB
variable {l : Launch} {D : va_G} {g : Nat → ClassId} {lv : Nat → Bool} {a : Nat → Nat} {R : RS}
theorem c_body {y : MethodName} {ws ws' : List Cond} {rm : Room} {av : List Value} {Qc : Nat → Array Value → State → Outcome → State → Prop} {mc ms : Nat} {cc : ByteArray} {maxL : Nat} {ret : Option FieldType} (hy : plainName y.cls = true) (hw : ws = Cond.code y cc maxL ret :: ws') (hal : (lg_sl av).length ≤ maxL)
    (body : ∀ p e s m below meth c ls, bE p s m meth c D g lv a R y ws cc maxL ret av.toArray → lv_has ls maxL (lv_args 0 av) → W p l e rm s m av.toArray below meth c s.heap [] 0 0 (MQ below (Qc s.heap.size) av.toArray s mc ms (rA lv a s.heap.size)) (F0 m 0 ls [])) : ∀ sz, Met l y ws rm (va_Pc av (rPre D g lv a R sz)) (Qc sz) mc ms (rA lv a sz) := by
  intro sz
  refine Met.ofW (cc := cc) (maxL := maxL) (ret := ret) hy hw ?_
  intro p e s m args below meth c s₁ B hml hv
  obtain ⟨rfl, hsz, hP, hK, hZ⟩ := hv
  subst hsz
  have hl := lv_entry av (n := maxL) hal
  rw [lg_entry_eq]
  refine body p e s m below meth c _ ⟨B.exec, B.bytes, B.returns, hml, findClass_of_methodNamed B.named, atoms_spec (ws := ws) B.pre, B.notSynchronized, (name_of_methodNamed B.named B.method).1, hK, hZ, ⟨hP, fun i hi => Or.inl ⟨i, hi, rfl⟩, va_S.rf⟩, fun q h => Or.inr h⟩ hl
variable {p : Program} {e : Env} {R0 : Room} {s : State} {m : MethodId} {args : Array Value} {below : List Frame} {meth : Method} {c : Code} {H : Heap} {locs : List Loc} {cells slots : Nat} {Q : State → Prop} {A : Nat → Prop} {cc : ByteArray} {pc : Nat} {ls : Array Slot} {rest st0 : List Value} {R' : RS}
theorem r_nar (hc : rc D g A s.heap lv a R H locs) (hA : ∀ q, s.heap.size ≤ q → A q) : ∀ q, rA lv a H.size q → A q := fun q h => h.elim (fun ⟨i, hi, e⟩ => e ▸ hc.2.1 i hi) (fun h => hA q (Nat.le_trans hc.2.2.1 h))
theorem r_preS {As : List Value} (hK : rK D g s) (hZ : rZ A s s.heap) (hc : rc D g A s.heap lv a R H locs) (hA : ∀ q, s.heap.size ≤ q → A q) : PreS s H (va_Pc As (rPre D g lv a R H.size)) As := by
  refine ⟨rPre_blind, fun U hU hW => ⟨rfl, by rw [hU], by rw [hU]; exact hc.1, hK.warm hW, ?_, ?_⟩⟩
  · rw [hU]; exact ((hZ.1.kept hc.2.2.2.1).narrow (r_nar hc hA)).moved hW.alike
  · rw [hU]; exact ((hZ.2.kept hc.2.2.2.1).narrow (r_nar hc hA)).moved hW.alike
theorem r_preV {As : List Value} {C : String} {T : u_T} {N ci i : Nat} (hK : rK D g s) (hZ : rZ A s s.heap) (hc : rc D g A s.heap lv a R H locs) (hA : ∀ q, s.heap.size ≤ q → A q) (hi : lv i = true) (hs : sh i = (0, ci)) (hcl : vwCl[ci]? = some (C, T, N)) : PreV s H C (a i) (va_Pc (.ref (a i) :: As) (rPre D g lv a R H.size)) As :=
  ⟨rPre_blind, va_recv hK.1 (r_one hc.1 hi (ct_o hs)) hcl (q0 := 0) rfl, (r_preS hK hZ hc hA (As := .ref (a i) :: As)).2⟩
theorem rc_back {H1 : Heap} {locs1 : List Loc} (hc : rc D g A s.heap lv a R H locs) (h1 : rP D g lv a R' H1) (hS : va_S A s.heap H1 locs1) : rc D g A s.heap lv a R' H1 locs1 := ⟨h1, hc.2.1, hS⟩
theorem r_calli {mc ms : Nat} {av : Array Value} {post : Int32 → RS → Prop} (hc : rc D g A s.heap lv a R H locs) (hA : ∀ q, s.heap.size ≤ q → A q) (hr : va_Run p l e R0 s m args below meth c H locs cells slots mc ms (F0 m pc ls st0) rest (va_Qi post (cB D g lv a) (rA lv a H.size) av) (rA lv a H.size))
    (kk : ∀ (r : Int32) (R' : RS) (H1 : Heap) (locs1 : List Loc), post r R' → rc D g A s.heap lv a R' H1 locs1 → W p l e R0 s m args below meth c H1 locs1 (cells + mc) (slots + ms) Q (F0 m (pc + 3) ls (.int r :: rest))) : W p l e R0 s m args below meth c H locs cells slots Q (F0 m pc ls st0) :=
  va_calli hr hc.2.2 (fun q _ h => r_nar hc hA q h) (r_nar hc hA) (fun r R' t H1 locs1 ht _ hp hB _ _ hS => kk r R' H1 locs1 hp (rc_back hc (by rw [← ht]; exact hB) hS))
theorem r_calll {mc ms : Nat} {av : Array Value} {post : Int64 → RS → Prop} (hc : rc D g A s.heap lv a R H locs) (hA : ∀ q, s.heap.size ≤ q → A q) (hr : va_Run p l e R0 s m args below meth c H locs cells slots mc ms (F0 m pc ls st0) rest (va_Ql post (cB D g lv a) (rA lv a H.size) av) (rA lv a H.size))
    (kk : ∀ (r : Int64) (R' : RS) (H1 : Heap) (locs1 : List Loc), post r R' → rc D g A s.heap lv a R' H1 locs1 → W p l e R0 s m args below meth c H1 locs1 (cells + mc) (slots + ms) Q (F0 m (pc + 3) ls (.long r :: rest))) : W p l e R0 s m args below meth c H locs cells slots Q (F0 m pc ls st0) :=
  va_calll hr hc.2.2 (fun q _ h => r_nar hc hA q h) (r_nar hc hA) (fun r R' t H1 locs1 ht _ hp hB _ _ hS => kk r R' H1 locs1 hp (rc_back hc (by rw [← ht]; exact hB) hS))
theorem r_callv {mc ms : Nat} {av : Array Value} {post : RS → Prop} (hc : rc D g A s.heap lv a R H locs) (hA : ∀ q, s.heap.size ≤ q → A q) (hr : va_Run p l e R0 s m args below meth c H locs cells slots mc ms (F0 m pc ls st0) rest (va_Qv post (cB D g lv a) (rA lv a H.size) av) (rA lv a H.size))
    (kk : ∀ (R' : RS) (H1 : Heap) (locs1 : List Loc), post R' → rc D g A s.heap lv a R' H1 locs1 → W p l e R0 s m args below meth c H1 locs1 (cells + mc) (slots + ms) Q (F0 m (pc + 3) ls rest)) : W p l e R0 s m args below meth c H locs cells slots Q (F0 m pc ls st0) :=
  va_callv hr hc.2.2 (fun q _ h => r_nar hc hA q h) (r_nar hc hA) (fun R' t H1 locs1 ht _ hp hB _ _ hS => kk R' H1 locs1 hp (rc_back hc (by rw [← ht]; exact hB) hS))
theorem r_iret {v : Int32} {post : Int32 → RS → Prop} (hexec : p.tables.exec = Jvm.exec) (hb : c.code = cc) (hr : meth.sig.returnType = some .int) (hlocks : meth.locks = false) (hc : rc D g (rA lv a s.heap.size) s.heap lv a R H locs) (hdg : decode cc pc = .ok (.ireturn, 1)) (hp : post v R) : W p l e R0 s m args below meth c H locs cells slots (MQ below (va_Qi post (cB D g lv a) (rA lv a s.heap.size)) args s cells slots (rA lv a s.heap.size)) (F0 m pc ls [.int v]) :=
  W.iret hexec hb hr (fun t ht hW => ⟨⟨v, R, rfl, hp, by show rP D g lv a R t.heap; rw [ht]; exact hc.1⟩, hc.2.2.F ht⟩) hc.2.2.2.2 hdg
theorem r_zret {v : Int32} {post : Int32 → RS → Prop} (hexec : p.tables.exec = Jvm.exec) (hb : c.code = cc) (hr : meth.sig.returnType = some .boolean) (hlocks : meth.locks = false) (hc : rc D g (rA lv a s.heap.size) s.heap lv a R H locs) (hdg : decode cc pc = .ok (.ireturn, 1)) (hn : narrow .boolean (.int v) = .int v) (hp : post v R) : W p l e R0 s m args below meth c H locs cells slots (MQ below (va_Qi post (cB D g lv a) (rA lv a s.heap.size)) args s cells slots (rA lv a s.heap.size)) (F0 m pc ls [.int v]) :=
  W.zret hexec hb hr hn (fun t ht hW => ⟨⟨v, R, rfl, hp, by show rP D g lv a R t.heap; rw [ht]; exact hc.1⟩, hc.2.2.F ht⟩) hc.2.2.2.2 hdg
theorem r_lret {v : Int64} {post : Int64 → RS → Prop} (hexec : p.tables.exec = Jvm.exec) (hb : c.code = cc) (hr : meth.sig.returnType = some .long) (hlocks : meth.locks = false) (hc : rc D g (rA lv a s.heap.size) s.heap lv a R H locs) (hdg : decode cc pc = .ok (.lreturn, 1)) (hp : post v R) : W p l e R0 s m args below meth c H locs cells slots (MQ below (va_Ql post (cB D g lv a) (rA lv a s.heap.size)) args s cells slots (rA lv a s.heap.size)) (F0 m pc ls [.long v]) :=
  W.lret hexec hb hr (fun t ht hW => ⟨⟨v, R, rfl, hp, by show rP D g lv a R t.heap; rw [ht]; exact hc.1⟩, hc.2.2.F ht⟩) hc.2.2.2.2 hdg
theorem r_vret {post : RS → Prop} (hexec : p.tables.exec = Jvm.exec) (hb : c.code = cc) (hr : meth.sig.returnType = none) (hlocks : meth.locks = false) (hc : rc D g (rA lv a s.heap.size) s.heap lv a R H locs) (hdg : decode cc pc = .ok (.return_, 1)) (hp : post R) : W p l e R0 s m args below meth c H locs cells slots (MQ below (va_Qv post (cB D g lv a) (rA lv a s.heap.size)) args s cells slots (rA lv a s.heap.size)) (F0 m pc ls []) :=
  W.vret hexec hb hr (fun t ht hW => ⟨⟨R, rfl, hp, by show rP D g lv a R t.heap; rw [ht]; exact hc.1⟩, hc.2.2.F ht⟩) hc.2.2.2.2 hdg
/-! numbers that are Nats -/
theorem nv_iadd (hexec : p.tables.exec = Jvm.exec) (hb : c.code = cc) {x y : Nat} (hdg : decode cc pc = .ok (.iadd, 1)) (k : W p l e R0 s m args below meth c H locs cells slots Q (F0 m (pc + 1) ls (.int (nI (x + y)) :: rest))) : W p l e R0 s m args below meth c H locs cells slots Q (F0 m pc ls (.int (nI y) :: .int (nI x) :: rest)) := lv_iadd hexec hb hdg (by rw [nI_add]; exact k)
theorem nv_isub (hexec : p.tables.exec = Jvm.exec) (hb : c.code = cc) {x y : Nat} (hdg : decode cc pc = .ok (.isub, 1)) (h : y ≤ x) (k : W p l e R0 s m args below meth c H locs cells slots Q (F0 m (pc + 1) ls (.int (nI (x - y)) :: rest))) : W p l e R0 s m args below meth c H locs cells slots Q (F0 m pc ls (.int (nI y) :: .int (nI x) :: rest)) := lv_isub hexec hb hdg (by rw [pk_sub h]; exact k)
theorem nv_imul (hexec : p.tables.exec = Jvm.exec) (hb : c.code = cc) {x y : Nat} (hdg : decode cc pc = .ok (.imul, 1)) (k : W p l e R0 s m args below meth c H locs cells slots Q (F0 m (pc + 1) ls (.int (nI (x * y)) :: rest))) : W p l e R0 s m args below meth c H locs cells slots Q (F0 m pc ls (.int (nI y) :: .int (nI x) :: rest)) := lv_imul hexec hb hdg (by rw [pk_mul]; exact k)
theorem nv_idiv (hexec : p.tables.exec = Jvm.exec) (hb : c.code = cc) {x y : Nat} (hdg : decode cc pc = .ok (.idiv, 1)) (h0 : 0 < y) (hx9 : x < 2 ^ 31) (hy9 : y < 2 ^ 31) (k : W p l e R0 s m args below meth c H locs cells slots Q (F0 m (pc + 1) ls (.int (nI (x / y)) :: rest))) : W p l e R0 s m args below meth c H locs cells slots Q (F0 m pc ls (.int (nI y) :: .int (nI x) :: rest)) := lv_idiv hexec hb hdg (nI_ne0 h0 hy9) (by rw [pk_div hx9 h0 hy9]; exact k)
theorem nv_irem (hexec : p.tables.exec = Jvm.exec) (hb : c.code = cc) {x y : Nat} (hdg : decode cc pc = .ok (.irem, 1)) (h0 : 0 < y) (hx9 : x < 2 ^ 31) (hy9 : y < 2 ^ 31) (k : W p l e R0 s m args below meth c H locs cells slots Q (F0 m (pc + 1) ls (.int (nI (x % y)) :: rest))) : W p l e R0 s m args below meth c H locs cells slots Q (F0 m pc ls (.int (nI y) :: .int (nI x) :: rest)) := lv_irem hexec hb hdg (nI_ne0 h0 hy9) (by rw [pk_rem hx9 h0 hy9]; exact k)
end CB
theorem nI_inc (x : Nat) (k : Nat) : nI x + Int32.ofInt (k : Int) = nI (x + k) := by
  have h : Int32.ofInt (k : Int) = nI k := by simp [nI, Int32.ofInt, Int32.ofNat]
  rw [h, nI_add]
