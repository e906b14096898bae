/-! ===== throws: contracts, bodies, rows ===== -/
abbrev tX (D : va_G) (g : Nat → ClassId) (lv : Nat → Bool) (a : Nat → Nat) (xp : String → RS → Prop) (sz : Nat) : String → State → State → Prop := vx_X (fun _ : RS => True) (fun E R' t => xp E R' ∧ rP D g lv a R' t.heap) (rA lv a sz)
/-- always throws E, and leaves the store -/
abbrev tC (l : Launch) (D : va_G) (g : Nat → ClassId) (lv : Nat → Bool) (a : Nat → Nat) (y : MethodName) (ws : List Cond) (rm : Room) (av : List Value) (R : RS) (E : String) : Prop := ∀ sz, vx_Met l y ws rm (va_Pc av (rPre D g lv a R sz)) (fun _ _ _ _ => False) (tX D g lv a (fun E' R' => E' = E ∧ R' = R) sz) 1 6 (rA lv a sz)
/-- returns or throws -/
abbrev xI (l : Launch) (D : va_G) (g : Nat → ClassId) (lv : Nat → Bool) (a : Nat → Nat) (y : MethodName) (ws : List Cond) (rm : Room) (av : List Value) (R : RS) (post : Int32 → RS → Prop) (xp : String → RS → Prop) : Prop := ∀ sz, vx_Met l y ws rm (va_Pc av (rPre D g lv a R sz)) (va_Qi post (cB D g lv a) (rA lv a sz)) (tX D g lv a xp sz) 1 6 (rA lv a sz)
abbrev xV (l : Launch) (D : va_G) (g : Nat → ClassId) (lv : Nat → Bool) (a : Nat → Nat) (y : MethodName) (ws : List Cond) (rm : Room) (av : List Value) (R : RS) (post : RS → Prop) (xp : String → RS → Prop) : Prop := ∀ sz, vx_Met l y ws rm (va_Pc av (rPre D g lv a R sz)) (va_Qv post (cB D g lv a) (rA lv a sz)) (tX D g lv a xp sz) 1 6 (rA lv a sz)
/-- answers a reference -/
abbrev cR (l : Launch) (D : va_G) (g : Nat → ClassId) (lv : Nat → Bool) (a : Nat → Nat) (y : MethodName) (ws : List Cond) (rm : Room) (av : List Value) (R : RS) (post : Nat → RS → Prop) (mc ms : Nat) : Prop := ∀ sz, Met l y ws rm (va_Pc av (rPre D g lv a R sz)) (va_Qr (fun _ : RS => True) (fun R' ra t => post ra R' ∧ rP D g lv a R' t.heap) (rA lv a sz)) mc ms (rA lv a sz)
section XB
variable {l : Launch} {D : va_G} {g : Nat → ClassId} {lv : Nat → Bool} {a : Nat → Nat} {R : RS}
theorem x_body {y : MethodName} {ws ws' : List Cond} {rm : Room} {av : List Value} {Qc : Nat → Array Value → State → Outcome → State → Prop} {XC : Nat → String → State → State → Prop} {mc ms : Nat} {cc : ByteArray} {maxL : Nat} {ret : Option FieldType} (hy : plainName y.cls = true) (hw : ws = Cond.code y cc maxL ret :: ws') (hal : (lg_sl av).length ≤ maxL)
    (body : ∀ p e s m below meth c ls, bE p s m meth c D g lv a R y ws cc maxL ret av.toArray → (∀ x ∈ c.exceptionTable.toList, False) → lv_has ls maxL (lv_args 0 av) → W p l e rm s m av.toArray below meth c s.heap [] 0 0 (vx_MQ below (Qc s.heap.size) (XC s.heap.size) av.toArray s mc ms (rA lv a s.heap.size)) (F0 m 0 ls [])) : ∀ sz, vx_Met l y ws rm (va_Pc av (rPre D g lv a R sz)) (Qc sz) (XC sz) mc ms (rA lv a sz) := by
  intro sz
  refine vx_ofW (cc := cc) (maxL := maxL) (ret := ret) hy hw ?_
  intro p e s m args below meth c s₁ B hml ht hv
  obtain ⟨rfl, hsz, hP, hK, hZ⟩ := hv
  subst hsz
  have hl := lv_entry av (n := maxL) hal
  rw [lg_entry_eq]
  refine body p e s m below meth c _ ⟨B.exec, B.bytes, B.returns, hml, findClass_of_methodNamed B.named, atoms_spec (ws := ws) B.pre, B.notSynchronized, (name_of_methodNamed B.named B.method).1, hK, hZ, ⟨hP, fun i hi => Or.inl ⟨i, hi, rfl⟩, va_S.rf⟩, fun q h => Or.inr h⟩ ht hl
variable {p : Program} {e : Env} {R0 : Room} {s : State} {m : MethodId} {args : Array Value} {below : List Frame} {meth : Method} {c : Code} {H : Heap} {locs : List Loc} {cells slots : Nat} {Q : State → Prop} {A : Nat → Prop} {cc : ByteArray} {pc : Nat} {ls : Array Slot} {rest st0 : List Value} {R' : RS}
theorem r_callr {mc ms : Nat} {av : Array Value} {post : Nat → RS → Prop} (hc : rc D g A s.heap lv a R H locs) (hA : ∀ q, s.heap.size ≤ q → A q) (hr : va_Run p l e R0 s m args below meth c H locs cells slots mc ms (F0 m pc ls st0) rest (va_Qr (fun _ : RS => True) (fun R' ra t => post ra R' ∧ rP D g lv a R' t.heap) (rA lv a H.size) av) (rA lv a H.size))
    (kk : ∀ (ra : Nat) (R' : RS) (H1 : Heap) (locs1 : List Loc), post ra R' → rc D g A s.heap lv a R' H1 locs1 → W p l e R0 s m args below meth c H1 locs1 (cells + mc) (slots + ms) Q (F0 m (pc + 3) ls (.ref ra :: rest))) : W p l e R0 s m args below meth c H locs cells slots Q (F0 m pc ls st0) :=
  va_callr hr hc.2.2 (fun q _ h => r_nar hc hA q h) (r_nar hc hA) (fun R' ra t H1 locs1 ht _ _ hB _ _ hS => kk ra R' H1 locs1 hB.1 (rc_back hc (by rw [← ht]; exact hB.2) hS))
theorem r_aret {v : Nat} {n : String} {post : Nat → RS → Prop} (hexec : p.tables.exec = Jvm.exec) (hb : c.code = cc) (hr : meth.sig.returnType = some (.object n)) (hlocks : meth.locks = false) (hc : rc D g (rA lv a s.heap.size) s.heap lv a R H locs) (hdg : decode cc pc = .ok (.areturn, 1)) (hp : post v R) : W p l e R0 s m args below meth c H locs cells slots (MQ below (va_Qr (fun _ : RS => True) (fun R' ra t => post ra R' ∧ rP D g lv a R' t.heap) (rA lv a s.heap.size)) args s cells slots (rA lv a s.heap.size)) (F0 m pc ls [.ref v]) :=
  W.aret hexec hb hr (Or.inl ⟨n, rfl⟩) (Or.inr ⟨v, rfl⟩) (fun t ht hW => ⟨⟨R, v, rfl, trivial, hp, by show rP D g lv a R t.heap; rw [ht]; exact hc.1⟩, hc.2.2.F ht⟩) hc.2.2.2.2 hdg hlocks
/-- what a throw leaves -/
theorem x_xc {xp : String → RS → Prop} {E : String} {t : State} (hc : rc D g (rA lv a s.heap.size) s.heap lv a R H locs) (h1 : H.size ≤ t.heap.size) (h2 : ∀ q : Nat, q < H.size → t.heap[q]? = H[q]?) (hx : xp E R) : tX D g lv a xp s.heap.size E s t :=
  ⟨R, trivial, ⟨hx, hc.1.1, fun i hi => (hc.1.2 i hi).kept (h2 _ (hc.1.2 i hi).lt)⟩, Nat.le_trans hc.2.2.1 h1, fun q h3 h4 => (h2 q (Nat.lt_of_lt_of_le h3 hc.2.2.1)).trans (hc.2.2.2.1 q h3 h4)⟩
/-- a callee has thrown: on to the caller -/
theorem x_thr {E : String} {xp : String → RS → Prop} {mc ms : Nat} {Qc : Array Value → State → Outcome → State → Prop} (hc : rc D g (rA lv a s.heap.size) s.heap lv a R H locs) (hA : ∀ q, s.heap.size ≤ q → rA lv a s.heap.size q) (ht : ∀ x ∈ c.exceptionTable.toList, False) (hlocks : meth.locks = false)
    (hr : vx_Run p l e R0 s m args below meth c H locs cells slots 1 6 (F0 m pc ls st0) rest (fun _ _ _ => False) (tX D g lv a (fun E' R' => E' = E ∧ R' = R) H.size) (rA lv a H.size)) (hx : xp E R) (h1 : cells + 1 ≤ mc) (h2 : slots + 6 ≤ ms) :
    W p l e R0 s m args below meth c H locs cells slots (vx_MQ below Qc (tX D g lv a xp s.heap.size) args s mc ms (rA lv a s.heap.size)) (F0 m pc ls st0) := by
  intro T hT X
  rcases hr T hT X with ⟨v, st₀, t, T', L, h0, X', hL, e1, e2, hF, st⟩ | ⟨q, st₀, t, T', L, E9, ce, h0, X', hL, e1, e2, ⟨u, -, ⟨⟨rfl, rfl⟩, hB⟩, hF⟩, hce, hcv, hcl, st⟩
  · exact hF.elim
  · obtain ⟨k1, k2, k3⟩ := vx_keep h0 e1 hc.2.2 (fun q _ h => r_nar hc hA q h) (r_nar hc hA) hL hF
    have hc2 : rc D g (rA lv a s.heap.size) s.heap lv a u T'.heap (locs ++ L) := rc_back hc (by rw [e1]; exact hB) k3
    obtain ⟨t2, a1, b1⟩ := vx_out (Qc := Qc) (XC := tX D g lv a xp s.heap.size) (free := rA lv a s.heap.size) (mc := mc) (ms := ms) (fun x hx => (ht x hx).elim) hlocks (by rw [e1]; exact hce) hcv hcl (fun t9 h9 _ => x_xc hc2 (by rw [h9]; exact Nat.le_refl _) (fun q _ => by rw [h9]) hx) hc2.2.2.2.2 h1 h2 T' rfl X'
    exact ⟨t2, st.trans a1, b1⟩
/-- what the tables' words owe of a throw of the class's own -/
def TF (ik ic : Nat) (cls : String) (names : List String) : Prop := Bundle.fit cls = true ∧ (∀ n ∈ names, Bundle.fit n = true) ∧ (∀ w ∈ (vx_atS RX3 ic cls names).filter (fun w => !goodWord w), w ∈ Cond.castable cls cls :: sups.map (fun Y => Cond.declares (Bundle.initS Y))) ∧ (∀ w ∈ Cond.classLink RX3 ik cls :: Cond.initialized cls :: vx_atS RX3 ic cls names, vx_ot w = true) ∧ cls ∈ exs
theorem x_own {cls text : String} {names : List String} {ik is ic mc ms : Nat} {Ts : List Cond} {xp : String → RS → Prop} {Qc : Array Value → State → Outcome → State → Prop} (hexec : p.tables.exec = Jvm.exec) (hb : c.code = cc) (hl : l.stackTraces = false) (hown : s.vm.findClass RX3 = some m.cls) (hts : ∀ w ∈ Ts, w.before args s = true) (hml : ls.size = c.maxLocals) (hlocks : meth.locks = false) (hK : rK D g s) (hZ : rZ (rA lv a s.heap.size) s s.heap) (hc : rc D g (rA lv a s.heap.size) s.heap lv a R H locs) (ht : ∀ x ∈ c.exceptionTable.toList, False)
    (hF : TF ik ic cls names) (hk : Cond.classLink RX3 ik cls ∈ Ts) (hini : Cond.initialized cls ∈ Ts) (hin : ∀ w ∈ (vx_atS RX3 ic cls names).filter goodWord, w ∈ Ts) (hstr : (is, text) ∈ strs)
    (d0 : decode cc pc = .ok (.new ik, 3)) (d3 : decode cc (pc + 3) = .ok (.dup, 1)) (d4 : decode cc (pc + 4) = .ok (.ldc is, 2)) (d6 : decode cc (pc + 6) = .ok (.invokespecial ic, 3)) (d9 : decode cc (pc + 9) = .ok (.athrow, 1))
    (hRf : names.length + 3 < R0.frames) (hRl : (rest.map fun v => v.category).sum + (13 * (names.length + 1) + 43) ≤ R0.locals) (hRc : cells + 1 ≤ R0.cells) (hRs : slots + 6 ≤ R0.slots) (hx : xp cls R) (h1 : cells + 1 ≤ mc) (h2 : slots + 6 ≤ ms) :
    W p l e R0 s m args below meth c H locs cells slots (vx_MQ below Qc (tX D g lv a xp s.heap.size) args s mc ms (rA lv a s.heap.size)) (F0 m pc ls rest) := by
  obtain ⟨f1, f2, f3, f4, f5⟩ := hF
  obtain ⟨sa, hsa⟩ := hK.2.2.2.1 _ hstr
  exact vx_throwS hexec hb hl hown f1 f2 (hts _ hk) (hts _ hini) hsa (vx_hat (fun w hw => hts w (hin w hw)) f3 (vx_c (va_Nw.use rfl (hK.2.2.2.2.1 cls f5)) (fun w hw => by obtain ⟨Y, hY, rfl⟩ := List.mem_map.mp hw; exact va_Nw.use rfl (hK.2.2.2.2.2.1 Y hY)))) f4 hZ.1 hZ.2 hc.2.2 hml d0 d3 d4 d6 d9 (fun x hx => (ht x hx).elim) hRf hRl hRc hRs hlocks (fun t _ h3 h4 => x_xc hc h3 h4 hx) hc.2.2.2.2 h1 h2
/-- what the tables' words owe of a NoSuchElementException of the class's own -/
def TFN : Prop := (∀ w ∈ vx_n13.filter (fun w => !goodWord w), w ∈ Cond.castable n13E n13E :: sups.map (fun Y => Cond.declares (Bundle.initS Y))) ∧ (∀ w ∈ Cond.classLink RX3 174 n13E :: Cond.initialized n13E :: vx_n13, vx_ot w = true)
theorem x_ownN {text : String} {is mc ms : Nat} {Ts : List Cond} {xp : String → RS → Prop} {Qc : Array Value → State → Outcome → State → Prop} (hexec : p.tables.exec = Jvm.exec) (hb : c.code = cc) (hl : l.stackTraces = false) (hown : s.vm.findClass RX3 = some m.cls) (hts : ∀ w ∈ Ts, w.before args s = true) (hml : ls.size = c.maxLocals) (hlocks : meth.locks = false) (hK : rK D g s) (hZ : rZ (rA lv a s.heap.size) s s.heap) (hc : rc D g (rA lv a s.heap.size) s.heap lv a R H locs) (ht : ∀ x ∈ c.exceptionTable.toList, False)
    (hF : TFN) (hk : Cond.classLink RX3 174 n13E ∈ Ts) (hini : Cond.initialized n13E ∈ Ts) (hin : ∀ w ∈ vx_n13.filter goodWord, w ∈ Ts) (hstr : (is, text) ∈ strs)
    (d0 : decode cc pc = .ok (.new 174, 3)) (d3 : decode cc (pc + 3) = .ok (.dup, 1)) (d4 : decode cc (pc + 4) = .ok (.ldc is, 2)) (d6 : decode cc (pc + 6) = .ok (.invokespecial 178, 3)) (d9 : decode cc (pc + 9) = .ok (.athrow, 1))
    (hRf : 2 + 3 < R0.frames) (hRl : (rest.map fun v => v.category).sum + (13 * (2 + 1) + 43) ≤ R0.locals) (hRc : cells + 1 ≤ R0.cells) (hRs : slots + 6 ≤ R0.slots) (hx : xp n13E R) (h1 : cells + 1 ≤ mc) (h2 : slots + 6 ≤ ms) :
    W p l e R0 s m args below meth c H locs cells slots (vx_MQ below Qc (tX D g lv a xp s.heap.size) args s mc ms (rA lv a s.heap.size)) (F0 m pc ls rest) := by
  obtain ⟨f3, f4⟩ := hF
  obtain ⟨sa, hsa⟩ := hK.2.2.2.1 _ hstr
  exact n13_throw hexec hb hl hown (hts _ hk) (hts _ hini) hsa (vx_hat (fun w hw => hts w (hin w hw)) f3 (vx_c (va_Nw.use rfl (hK.2.2.2.2.1 n13E (by decide))) (fun w hw => by obtain ⟨Y, hY, rfl⟩ := List.mem_map.mp hw; exact va_Nw.use rfl (hK.2.2.2.2.2.1 Y hY)))) f4 hZ.1 hZ.2 hc.2.2 hml d0 d3 d4 d6 d9 (fun x hx => (ht x hx).elim) hRf hRl hRc hRs hlocks (fun t _ h3 h4 => x_xc hc h3 h4 hx) hc.2.2.2.2 h1 h2
end XB
set_option maxRecDepth 100000 in
theorem tf_i : TF 72 76 "java/lang/IllegalArgumentException" ["java/lang/RuntimeException", "java/lang/Exception"] := by
  refine ⟨by decide, by decide, by decide +kernel, by decide +kernel, by decide⟩
set_option maxRecDepth 100000 in
theorem tf_u : TF 79 83 "java/lang/UnsupportedOperationException" ["java/lang/RuntimeException", "java/lang/Exception"] := by
  refine ⟨by decide, by decide, by decide +kernel, by decide +kernel, by decide⟩
set_option maxRecDepth 100000 in
theorem tf_n : TFN := by
  refine ⟨by decide +kernel, by decide +kernel⟩
set_option maxRecDepth 100000 in
theorem tf_s : TF 97 101 "java/lang/IllegalStateException" ["java/lang/RuntimeException", "java/lang/Exception"] := by
  refine ⟨by decide, by decide, by decide +kernel, by decide +kernel, by decide⟩
set_option maxRecDepth 100000 in
theorem tf_a : TF 111 115 "java/lang/ArrayIndexOutOfBoundsException" ["java/lang/IndexOutOfBoundsException", "java/lang/RuntimeException", "java/lang/Exception"] := by
  refine ⟨by decide, by decide, by decide +kernel, by decide +kernel, by decide⟩
