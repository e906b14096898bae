/-! ===== 'throw new NoSuchElementException("text")': its constructor's link is 13, not 7 ===== -/
abbrev n13E : String := "java/util/NoSuchElementException"
abbrev n13R : String := "java/lang/RuntimeException"
abbrev n13X : String := "java/lang/Exception"
/-- the words of such a throw: the bundle's, with the two that speak of the link set right -/
def n13 : List Cond := (Bundle.ownAtoms "PalletLayers" 178 n13E [n13R, n13X]).map (fun w => if w = .methodLink n13E 7 (Bundle.initS n13R) then .methodLink n13E 13 (Bundle.initS n13R) else if w = .code (Bundle.initS n13E) Bundle.six 2 none then .code (Bundle.initS n13E) prog_18_method_4_code 2 none else w)
def vx_n13 : List Cond := n13.filter vx_no
set_option maxRecDepth 100000 in
theorem n13_t : ∀ w ∈ Bundle.throwableAtoms, w ∈ n13 := by decide +kernel
set_option maxRecDepth 100000 in
theorem n13_s : ∀ w ∈ Bundle.throwableSAtoms, w ∈ n13 := by decide +kernel
set_option maxRecDepth 100000 in
theorem n13_p : ∀ w ∈ Bundle.passSAtoms n13E n13R 13 prog_18_method_4_code, w ∈ n13 := by decide +kernel
set_option maxRecDepth 100000 in
theorem n13_c : ∀ w ∈ Bundle.chainSAtoms n13R [n13X], w ∈ n13 := by decide +kernel
def n13r : List Cond := [.methodLink "PalletLayers" 178 (Bundle.initS n13E), .instantiable n13E 6, .selects n13E Bundle.tFill0 Bundle.tFill0, .selects n13E Bundle.tFill Bundle.tFill, .lays n13E Bundle.tN "cause" "Ljava/lang/Throwable;", .lays n13E Bundle.tN "stackTrace" Bundle.steD, .lays n13E Bundle.tN "suppressedExceptions" Bundle.listD, .lays n13E Bundle.tN "detailMessage" "Ljava/lang/String;", .isRef (.static Bundle.tN "UNASSIGNED_STACK" Bundle.steD), .isRef (.static Bundle.tN "SUPPRESSED_SENTINEL" Bundle.listD), .fieldLink Bundle.tN 198 Bundle.tN "backtrace" "Ljava/lang/Object;", .lays Bundle.tN Bundle.tN "backtrace" "Ljava/lang/Object;", .lays n13E Bundle.tN "backtrace" "Ljava/lang/Object;"]
set_option maxRecDepth 100000 in
theorem n13_r : ∀ w ∈ n13r, w ∈ n13 := by decide +kernel
theorem n13_0 : decode prog_18_method_4_code 0 = .ok (.aload_n 0, 1) := by decide +kernel
theorem n13_1 : decode prog_18_method_4_code 1 = .ok (.aload_n 1, 1) := by decide +kernel
theorem n13_2 : decode prog_18_method_4_code 2 = .ok (.invokespecial 13, 3) := by decide +kernel
theorem n13_5 : decode prog_18_method_4_code 5 = .ok (.return_, 1) := by decide +kernel
section N13
variable {p : Program} {l : Launch} {e : Env} {R : Room} {s : State} {m : MethodId} {args : Array Value} {below : List Frame} {meth : Method} {c : Code} {locs : List Loc} {cells slots : Nat}
set_option maxHeartbeats 2000000 in
theorem n13_ctor {W : State} (X : Stand p l e R s m args below meth c W locs cells slots) (hexec : p.tables.exec = Jvm.exec) (htr : e.platform.stackTraces = false) (hown : s.vm.findClass "PalletLayers" = some m.cls) (h : ∀ w ∈ n13, w.before args s = true) (hlocs : locs = [])
    {a : Addr} {cX : ClassId} {kX : Class} (hfX : s.vm.findClass n13E = some cX) (hkX : s.vm.classes[cX]? = some kX) (hcell : W.heap[a]? = some (freshCell cX kX)) (hnew : s.heap.size ≤ a) {msg : Value} (hmsg : msg.isRef = true)
    {g : JFrame} (hg : g.method = m) (hsize : g.locals.size = c.maxLocals) (hlocked : g.locked = none) (hentered : g.entered = []) {rest : List Value} (hstack : g.stack = msg :: .ref a :: .ref a :: rest)
    (hd6 : decode c.code g.pc = .ok (.invokespecial 178, 3)) (hd9 : decode c.code (g.pc + 3) = .ok (.athrow, 1)) (hout : ∀ x ∈ c.exceptionTable.toList, covers x (g.pc + 3) = false)
    (hRf : 2 + 3 < R.frames) (hRl : 2 * g.monitorRoom + ((Value.ref a :: rest).map fun v => v.category).sum + (13 * (2 + 1) + 42) ≤ R.locals) (hlocks : meth.locks = false) :
    ∃ U : State, Steps p.tables e below (W.setTop g) U ∧ U.status = .running ∧ Ended U below (.threw a) ∧ s.WarmedH U.vm ∧ s.sameButNew ({ U with vm := s.vm } : State) [] cells slots ∧ ∃ ce, U.heap[a]? = some ce ∧ s.vm.findClass n13E = some ce.cls ∧ ce.vm = .none := by
  subst hlocs
  have hpl : e.platform.magicAccessors = ({} : Platform).magicAccessors := by rw [X.admits.platform]
  have hq : ∀ w ∈ n13r, w.holds args s none s [] = true := fun w hw => h w (n13_r w hw)
  obtain ⟨T, Z0, L, -, Y⟩ := ThrowableC.of_atoms (args := args) (by rw [X.admits.platform]) (by rw [X.admits.platform]) hpl (fun w hw => h w (n13_t w hw))
  obtain ⟨Z, N, LZ, LN, hZ⟩ := Init0T.ofS_atoms (args := args) hpl L Y (fun w hw => h w (n13_s w hw))
  obtain ⟨P, LP, hP, hsup⟩ := PassC.ofS_atoms (args := args) (s := s) hpl (X := n13E) (Y := n13R) (by decide) (by decide) n13_0 n13_1 n13_2 n13_5 (fun w hw => h w (n13_p w hw))
  obtain ⟨P2, Ps, hlen, LP2, hLs, hP2, hs2, hon⟩ := Bundle.chainS (args := args) hpl hZ [n13X] n13R (by decide) (by decide) (fun w hw => h w (n13_c w hw))
  have hf : s.vm.findClass n13E = some P.m.cls := findClass_of_methodNamed hP
  cases Option.some.inj (hfX.symm.trans hf)
  obtain ⟨c1, k1, e1, e2, hord, -, -, e3⟩ := Cond.instantiable_spec (hq (.instantiable n13E 6) (by decide +kernel))
  cases Option.some.inj (e1.symm.trans hf)
  cases Option.some.inj (hkX.symm.trans e2)
  have hs0 : selectMethod e.platform s.vm P.m.cls T.fill0 = .method T.fill0 := by
    obtain ⟨c2, r2, m2, q1, q2, q3, q4, -⟩ := Cond.selects_spec (hq (.selects n13E Bundle.tFill0 Bundle.tFill0) (by decide +kernel))
    cases Option.some.inj (q1.symm.trans hf)
    cases Option.some.inj (q2.symm.trans (State.methodFound?_of_named Y.fill0 (by decide)))
    cases Option.some.inj (q3.symm.trans Y.fill0)
    rw [Launch.admits_selectMethod X.admits]; exact q4
  have hsF : selectMethod e.platform s.vm P.m.cls T.fill = .method T.fill := by
    obtain ⟨c2, r2, m2, q1, q2, q3, q4, -⟩ := Cond.selects_spec (hq (.selects n13E Bundle.tFill Bundle.tFill) (by decide +kernel))
    cases Option.some.inj (q1.symm.trans hf)
    cases Option.some.inj (q2.symm.trans (State.methodFound?_of_named Y.fill (by decide)))
    cases Option.some.inj (q3.symm.trans Y.fill)
    rw [Launch.admits_selectMethod X.admits]; exact q4
  obtain ⟨cS0, hcS0, hiss⟩ := Y.statics
  obtain ⟨u0, hu0⟩ := Cond.staticRefV Y.unassigned L.unassignedStatic L.statics hcS0 hiss (hq (.isRef (.static Bundle.tN "UNASSIGNED_STACK" Bundle.steD)) (by decide +kernel))
  obtain ⟨se, hse⟩ := Cond.staticRefV Y.sentinel L.sentinelStatic L.statics hcS0 hiss (hq (.isRef (.static Bundle.tN "SUPPRESSED_SENTINEL" Bundle.listD)) (by decide +kernel))
  obtain ⟨ciB, iB, fB, hkB, hgB, haB, hsB, -, hnB, htB, hfB⟩ := Cond.ownField (t := .object "java/lang/Object") Y.found L.cls (by decide +kernel) (hq (.fieldLink Bundle.tN 198 Bundle.tN "backtrace" "Ljava/lang/Object;") (by decide +kernel)) (hq (.lays Bundle.tN Bundle.tN "backtrace" "Ljava/lang/Object;") (by decide +kernel)) e.platform hpl
  obtain ⟨cS, hcS, heS, -, hkeep⟩ := X.same.2.2.2.2.2 T.aS cS0 hcS0
  have hcellS : W.heap[T.aS]? = some cS := hcS
  have hno : ∀ i, (⟨T.aS, i⟩ : Loc) ∉ ([] : List Loc) := fun i hm => nomatch hm
  have hkn : cS.vm ≠ .unknown := by
    rw [heS]; intro hu
    rw [show cS0.vm = .unknown from hu] at hiss
    cases hiss
  have hne : T.aS ≠ a := Nat.ne_of_lt (Nat.lt_of_lt_of_le (Array.getElem?_eq_some_iff.mp hcS0).1 hnew)
  obtain ⟨iM, hfM⟩ := Y.msg
  obtain ⟨tC, dC, gC, nC⟩ := Cond.laysAt hf e2 Y.cause (hq (.lays n13E Bundle.tN "cause" "Ljava/lang/Throwable;") (by decide +kernel))
  obtain ⟨tS, dS, gS, nS⟩ := Cond.laysAt hf e2 Y.stack (hq (.lays n13E Bundle.tN "stackTrace" Bundle.steD) (by decide +kernel))
  obtain ⟨tP, dP, gP, nP⟩ := Cond.laysAt hf e2 Y.supp (hq (.lays n13E Bundle.tN "suppressedExceptions" Bundle.listD) (by decide +kernel))
  obtain ⟨tM, dM, gM, nM⟩ := Cond.laysAt hf e2 hfM (hq (.lays n13E Bundle.tN "detailMessage" "Ljava/lang/String;") (by decide +kernel))
  obtain ⟨tB, dB, gB, nB⟩ := Cond.laysAt hf e2 hfB (hq (.lays n13E Bundle.tN "backtrace" "Ljava/lang/Object;") (by decide +kernel))
  have bC := Cond.laysApart gB gC nB nC (by rw [hnB, Y.causeName]; decide)
  have bS := Cond.laysApart gB gS nB nS (by rw [hnB, Y.stackName]; decide)
  have bP := Cond.laysApart gB gP nB nP (by rw [hnB, Y.suppName]; decide)
  have hskip : SkipFacts T e.platform s (fun u => u) u0 ((preparedCellV T.toThrowableT (freshCell P.m.cls kX) a u0 se).withEntry W.cur) :=
    ⟨{ ci198 := ciB, i198 := iB, fBack := fB }, ⟨hkB, hgB, haB, hsB⟩, by
      have := fresh_default (c := P.m.cls) tB
      rw [htB] at this
      simpa [preparedCellV, Cell.setSlot, Cell.withEntry, Array.getElem?_setIfInBounds, bC, bS, bP, bC.symm, bS.symm, bP.symm, defaultValue] using this, fun _ _ => rfl⟩
  obtain ⟨tm, mC, cdC, kC, vm1, hnC, -, -, -, -, -, -, -, hW1, st1⟩ := Steps.initColdS (tb := p.tables) (e := e) (below := below) (s := s) (U := W) X.here hexec X.warmed hpl hown (t := Bundle.initS n13E) rfl rfl (by decide)
    (hq (.methodLink "PalletLayers" 178 (Bundle.initS n13E)) (by decide +kernel)) (h (.instanceMethod (Bundle.initS n13E)) (n13_p _ (by decide +kernel))) (bytes := prog_18_method_4_code) (maxL := 2) (h (.code (Bundle.initS n13E) prog_18_method_4_code 2 none) (n13_p _ (by decide +kernel)))
    (f := g) hg (a := a) (msg := msg) (rest := .ref a :: rest) hstack hd6
  cases Option.some.inj (hnC.symm.trans hP)
  have X1 := X.noted hW1
  obtain ⟨vm2, X2, st2⟩ := X1.ctorMessageOffV hexec (g := { g with stack := .ref a :: rest }) hg hsize T L Z LZ N LN (P :: P2 :: Ps)
    (fun P9 h9 => by rcases List.mem_cons.mp h9 with rfl | h9; exact LP; rcases List.mem_cons.mp h9 with rfl | h9; exact LP2; exact hLs P9 h9) ⟨Option.some.inj (hsup.symm.trans hP2), hs2, hon⟩ (u0 := u0) (sen := se) (self := a) hmsg (cell := freshCell P.m.cls kX) (cellS := cS)
    hcell (fun _ => by simp) (by simp) rfl rfl hs0 hsF hcellS hne hkn (by rw [hkeep _ (hno _)]; exact hu0) (by rw [hkeep _ (hno _)]; exact hse)
    (Takes.of_laid e2 hord tC (by rw [Y.causeType]; rfl)) (Takes.of_laid e2 hord tS (by rw [Y.stackType]; exact fits_refV_array _ u0)) (Takes.of_laid e2 hord tP (by rw [Y.suppType]; exact fits_refV_object _ se))
    (Takes.of_laid e2 hord tM (by rw [Y.msgType]; exact fits_refV_object _ ⟨msg, hmsg⟩)) Y.objLocals hskip htr [] hd6
    (by simp only [List.length_cons, hlen, List.length_nil]; omega) (by simp only [List.length_cons, hlen, List.length_nil]; exact hRl)
  obtain ⟨hwalk, hrun, hended, hWU, hsame⟩ := X2.athrowLeaves hexec (g := { g with stack := .ref a :: rest, pc := g.pc + 3 }) hg hlocked hentered hout (a := a) (rest := rest) rfl hd9
  have hlt : a < ((W.setVm vm1).setVm vm2).heap.size := (Array.getElem?_eq_some_iff.mp hcell).1
  have hU := heapAt_setCell_self (s := (W.setVm vm1).setVm vm2) (plainBareV T.toThrowableT (freshCell P.m.cls kX) a u0 se msg) hlt
  refine ⟨_, st1 _ (fun acts => ?_), hrun, hended, hWU, hsame.weaken (fun y hy h9 => ?_) (Nat.le_refl _) (Nat.le_refl _), _, hU, hf, rfl⟩
  · rw [doInvoke_state]
    exact st2 _ hwalk
  · exfalso
    have hb : y.base = a := by
      simp only [List.nil_append, List.mem_cons, List.not_mem_nil, or_false] at hy
      rcases hy with rfl | rfl | rfl | rfl | rfl <;> rfl
    rw [hb] at h9
    exact Nat.not_lt.mpr hnew h9
variable {H : Heap} {Q : State → Prop} {mc ms : Nat} {free : Addr → Prop} {ls : Array Slot} {rest : List Value} {Qc : Array Value → State → Outcome → State → Prop} {XC : String → State → State → Prop}
set_option maxHeartbeats 2000000 in
/-- 'throw new NoSuchElementException("text")' -/
theorem n13_throw {cc : ByteArray} {pc : Nat} (hexec : p.tables.exec = Jvm.exec) (hb : c.code = cc) (hl : l.stackTraces = false) {text : String} {ik is sa : Nat} {A : Nat → Prop} (hown : s.vm.findClass "PalletLayers" = some m.cls)
    (hk : (Cond.classLink "PalletLayers" ik n13E).before args s = true) (hini : (Cond.initialized n13E).before args s = true) (hstr : vk_R "PalletLayers" is text sa s) (hat : ∀ w ∈ vx_n13, w.before args s = true) (hgood : ∀ w ∈ Cond.classLink "PalletLayers" ik n13E :: Cond.initialized n13E :: vx_n13, vx_ot w = true)
    (hU : vx_Zq Bundle.tN "UNASSIGNED_STACK" Bundle.steD A s s.heap) (hN : vx_Zq Bundle.tN "SUPPRESSED_SENTINEL" Bundle.listD A s s.heap) (hS : va_S A s.heap H locs) (hsize : ls.size = c.maxLocals)
    (d0 : decode cc pc = .ok (.new ik, 3)) (d3 : decode cc (pc + 3) = .ok (.dup, 1)) (d4 : decode cc (pc + 4) = .ok (.ldc is, 2)) (d6 : decode cc (pc + 6) = .ok (.invokespecial 178, 3)) (d9 : decode cc (pc + 9) = .ok (.athrow, 1))
    (hout : ∀ x ∈ c.exceptionTable.toList, covers x (pc + 9) = false) (hRf : 2 + 3 < R.frames) (hRl : (rest.map fun v => v.category).sum + (13 * (2 + 1) + 43) ≤ R.locals) (hRc : cells + 1 ≤ R.cells) (hRs : slots + 6 ≤ R.slots) (hlocks : meth.locks = false)
    (hx : ∀ t : State, s.vm.Alike t.vm → H.size ≤ t.heap.size → (∀ q : Nat, q < H.size → t.heap[q]? = H[q]?) → XC n13E s t) (hf : ∀ z ∈ locs, free z.base) (hc : cells + 1 ≤ mc) (hs : slots + 6 ≤ ms) :
    W p l e R s m args below meth c H locs cells slots (vx_MQ below Qc XC args s mc ms free) (F0 m pc ls rest) := by
  intro T hT X
  have htr : e.platform.stackTraces = false := (show e.platform.stackTraces = l.stackTraces by rw [X.admits.platform]).trans hl
  have Y := vx_rebase X (R' := { frames := R.frames, locals := R.locals, cells := 1, slots := 6 }) (Nat.le_refl _) (Nat.le_refl _) hRc hRs
  obtain ⟨s9, hA⟩ : ∃ z, z = (T.setVm s.vm).setFrames (.invoking m args :: below) := ⟨_, rfl⟩
  rw [← hA] at Y
  have hvm : s9.vm = s.vm := by rw [hA]; rfl
  have hhp : s9.heap = H := by rw [hA]; exact hT
  have hW0 : s.WarmedH s9.vm := by rw [hvm]; exact State.WarmedH.refl s
  have ha9 : ∀ w ∈ vx_n13, w.before args s9 = true := fun w hw => vx_ot_at hW0 hvm.symm (hgood w (List.mem_cons_of_mem _ (List.mem_cons_of_mem _ hw))) (hat w hw)
  have hk9 : (Cond.classLink "PalletLayers" ik n13E).before args s9 = true := vx_ot_at hW0 hvm.symm (hgood _ List.mem_cons_self) hk
  have hi9 : (Cond.initialized n13E).before args s9 = true := vx_ot_at hW0 hvm.symm (hgood _ (List.mem_cons_of_mem _ List.mem_cons_self)) hini
  have hU9 : vx_Zq Bundle.tN "UNASSIGNED_STACK" Bundle.steD A s9 s9.heap := by rw [hhp]; exact vx_Zq.moved hW0.alike (hU.kept hS.2.1)
  have hN9 : vx_Zq Bundle.tN "SUPPRESSED_SENTINEL" Bundle.listD A s9 s9.heap := by rw [hhp]; exact vx_Zq.moved hW0.alike (hN.kept hS.2.1)
  have h : ∀ w ∈ n13, w.before args s9 = true := vx_own ha9 (vx_isRefq hU9.1) (vx_isRefq hN9.1) hU9.2.word hN9.2.word
  have ho9 : s9.vm.findClass "PalletLayers" = some m.cls := by rw [hvm]; exact hown
  obtain ⟨vm1, cX, kX, hfX, hkX, -, -, X1, st1⟩ := Y.newCold hexec (own := "PalletLayers") (C := n13E) (index := ik) (n := 6) ho9 hk9 (h _ (n13_r (.instantiable n13E 6) (by decide +kernel))) hi9 (g := F0 m pc ls rest) rfl (by rw [hb]; exact d0) (Nat.le_refl _) (Nat.le_refl _)
  generalize hT1 : (T.setVm vm1).pushCell { cls := cX, slots := kX.instanceTypes.map defaultValue, vm := .none } = T1 at X1 st1
  have hcat : (Value.ref T.heap.size).category = 1 := rfl
  have hcellA : T1.heap[T.heap.size]? = some (freshCell cX kX) := by rw [← hT1]; exact State.heap_pushCell_size _ _
  have d3' : decode c.code (pc + 3) = .ok (.dup, 1) := by rw [hb]; exact d3
  have d4' : decode c.code (pc + 4) = .ok (.ldc is, 2) := by rw [hb]; exact d4
  have hs9 : vk_R "PalletLayers" is text sa s9 := vk_R.warm hW0 hstr
  obtain ⟨U, hsteps, hrun, hend, hW, hsame, ce, hce, hcl, hv⟩ := n13_ctor X1 hexec htr ho9 h rfl hfX hkX hcellA (by rw [hhp, hT]; exact Nat.le_refl _) (msg := .ref sa) rfl
    (g := { method := m, pc := pc + 6, locals := ls, stack := .ref sa :: .ref T.heap.size :: .ref T.heap.size :: rest, locked := none }) rfl hsize rfl rfl (rest := rest) rfl
    (by rw [hb]; exact d6) (by rw [hb]; exact d9) hout hRf (by simp only [List.map_cons, List.sum_cons, hcat]; omega) hlocks
  obtain ⟨f1, f2⟩ := vx_frame hsame
  rw [hhp] at f1 f2
  have hWs : s.WarmedH U.vm := State.WarmedH.trans hW0 hW
  have hcl9 : s.vm.findClass n13E = some ce.cls := by rw [hvm] at hcl; exact hcl
  have hall : s.sameButNew ({ U with vm := s.vm } : State) locs mc ms := by
    subst hA
    obtain ⟨e1, e2⟩ := hsame
    rw [State.setFrames_setFrames] at e1
    have h2 : (T.setVm s.vm).sameButNew ({ U with vm := s.vm } : State) [] (0 + 1) (0 + 6) := ⟨e1, e2⟩
    have h3 := X.same.trans h2
    rw [List.append_nil] at h3
    exact h3.mono hc hs
  refine ⟨U, ?_, .threw T.heap.size, hrun, hend, Or.inr ⟨T.heap.size, rfl, n13E, ce, locs, hx U hWs.alike f1 (fun q hq => f2 q hq (fun z hz => nomatch hz)), hce, hv, hcl9, hWs, hall, hf⟩⟩
  refine st1 _ ?_
  show Steps p.tables e below (T1.setTop { method := m, pc := pc + 3, locals := ls, stack := .ref T.heap.size :: rest, locked := none }) _
  jvm_step X1.here [X1.here.top, hexec, d3', Value.category]
  exact X1.ldcString hexec (own := "PalletLayers") (text := text) (index := is) (a := sa) ho9 hs9.1 hs9.2
    (g := { method := m, pc := pc + 4, locals := ls, stack := .ref T.heap.size :: .ref T.heap.size :: rest, locked := none }) rfl d4' _ hsteps
end N13
