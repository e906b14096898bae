section
-- ===== PART A: goes FIRST, ahead of the names: the tables' words, and 'selects' of the private methods out of them =====
/-- a private method of a class that the tables say can be made, by its rows of tables_1 -/
def lw_okq (q : MethodName × Nat) : Prop := (q.1.cls ≠ "java/lang/invoke/MethodHandle" ∧ q.1.cls ≠ "java/lang/invoke/VarHandle") ∧ Cond.instantiable q.1.cls q.2 ∈ tables_1 ∧ Cond.privateMethod q.1 ∈ tables_1 ∧ Cond.instanceMethod q.1 ∈ tables_1
theorem lw_p0 : lw_okq (⟨"PalletLayers", "boxesOnPallets", "(Z)I"⟩, 12) := ⟨⟨by decide +kernel, by decide +kernel⟩, List.mem_of_getElem? (i := 19) (by decide +kernel), List.mem_of_getElem? (i := 114) (by decide +kernel), List.mem_of_getElem? (i := 115) (by decide +kernel)⟩
theorem lw_p1 : lw_okq (⟨"java/lang/Throwable", "fillInStackTrace", "(I)Ljava/lang/Throwable;"⟩, 6) := ⟨⟨by decide +kernel, by decide +kernel⟩, List.mem_of_getElem? (i := 173) (by decide +kernel), List.mem_of_getElem? (i := 171) (by decide +kernel), List.mem_of_getElem? (i := 172) (by decide +kernel)⟩
theorem lw_p2 : lw_okq (⟨"PalletLayers", "kindNumbered", "(I)LPalletLayers$Kind;"⟩, 12) := ⟨⟨by decide +kernel, by decide +kernel⟩, List.mem_of_getElem? (i := 19) (by decide +kernel), List.mem_of_getElem? (i := 283) (by decide +kernel), List.mem_of_getElem? (i := 284) (by decide +kernel)⟩
theorem lw_p3 : lw_okq (⟨"PalletLayers", "isOnAPallet", "(I)Z"⟩, 12) := ⟨⟨by decide +kernel, by decide +kernel⟩, List.mem_of_getElem? (i := 19) (by decide +kernel), List.mem_of_getElem? (i := 304) (by decide +kernel), List.mem_of_getElem? (i := 305) (by decide +kernel)⟩
theorem lw_p4 : lw_okq (⟨"PalletLayers$PatternSearch", "goOn", "(LPalletLayers$Kind;IJI)V"⟩, 9) := ⟨⟨by decide +kernel, by decide +kernel⟩, List.mem_of_getElem? (i := 37) (by decide +kernel), List.mem_of_getElem? (i := 337) (by decide +kernel), List.mem_of_getElem? (i := 338) (by decide +kernel)⟩
theorem lw_p5 : lw_okq (⟨"PalletLayers$PatternSearch", "firstOpen", "(IJ)I"⟩, 9) := ⟨⟨by decide +kernel, by decide +kernel⟩, List.mem_of_getElem? (i := 37) (by decide +kernel), List.mem_of_getElem? (i := 341) (by decide +kernel), List.mem_of_getElem? (i := 342) (by decide +kernel)⟩
theorem lw_p6 : lw_okq (⟨"PalletLayers$PatternSearch", "keepIfBetter", "(LPalletLayers$Kind;I)V"⟩, 9) := ⟨⟨by decide +kernel, by decide +kernel⟩, List.mem_of_getElem? (i := 37) (by decide +kernel), List.mem_of_getElem? (i := 345) (by decide +kernel), List.mem_of_getElem? (i := 346) (by decide +kernel)⟩
theorem lw_p7 : lw_okq (⟨"PalletLayers$PatternSearch", "mayBeatBest", "(LPalletLayers$Kind;JI)Z"⟩, 9) := ⟨⟨by decide +kernel, by decide +kernel⟩, List.mem_of_getElem? (i := 37) (by decide +kernel), List.mem_of_getElem? (i := 349) (by decide +kernel), List.mem_of_getElem? (i := 350) (by decide +kernel)⟩
theorem lw_p8 : lw_okq (⟨"PalletLayers$PatternSearch", "tryBox", "(LPalletLayers$Kind;IIJI)V"⟩, 9) := ⟨⟨by decide +kernel, by decide +kernel⟩, List.mem_of_getElem? (i := 37) (by decide +kernel), List.mem_of_getElem? (i := 359) (by decide +kernel), List.mem_of_getElem? (i := 360) (by decide +kernel)⟩
theorem lw_p9 : lw_okq (⟨"PalletLayers$PatternSearch", "takeStep", "()Z"⟩, 9) := ⟨⟨by decide +kernel, by decide +kernel⟩, List.mem_of_getElem? (i := 37) (by decide +kernel), List.mem_of_getElem? (i := 375) (by decide +kernel), List.mem_of_getElem? (i := 376) (by decide +kernel)⟩
theorem lw_p10 : lw_okq (⟨"PalletLayers", "palletNumbered", "(I)LPalletLayers$Pallet;"⟩, 12) := ⟨⟨by decide +kernel, by decide +kernel⟩, List.mem_of_getElem? (i := 19) (by decide +kernel), List.mem_of_getElem? (i := 496) (by decide +kernel), List.mem_of_getElem? (i := 497) (by decide +kernel)⟩
theorem lw_p11 : lw_okq (⟨"PalletLayers", "whyNot", "(LPalletLayers$Pallet;LPalletLayers$Kind;I)I"⟩, 12) := ⟨⟨by decide +kernel, by decide +kernel⟩, List.mem_of_getElem? (i := 19) (by decide +kernel), List.mem_of_getElem? (i := 507) (by decide +kernel), List.mem_of_getElem? (i := 508) (by decide +kernel)⟩
theorem lw_p12 : lw_okq (⟨"PalletLayers", "palletWithLayer", "(II)LPalletLayers$Pallet;"⟩, 12) := ⟨⟨by decide +kernel, by decide +kernel⟩, List.mem_of_getElem? (i := 19) (by decide +kernel), List.mem_of_getElem? (i := 564) (by decide +kernel), List.mem_of_getElem? (i := 565) (by decide +kernel)⟩
theorem lw_p13 : lw_okq (⟨"PalletLayers", "hasLesserStopAboard", "(I)Z"⟩, 12) := ⟨⟨by decide +kernel, by decide +kernel⟩, List.mem_of_getElem? (i := 19) (by decide +kernel), List.mem_of_getElem? (i := 592) (by decide +kernel), List.mem_of_getElem? (i := 593) (by decide +kernel)⟩
theorem lw_p14 : lw_okq (⟨"PalletLayers", "isBarred", "(I)Z"⟩, 12) := ⟨⟨by decide +kernel, by decide +kernel⟩, List.mem_of_getElem? (i := 19) (by decide +kernel), List.mem_of_getElem? (i := 604) (by decide +kernel), List.mem_of_getElem? (i := 605) (by decide +kernel)⟩
theorem lw_p15 : lw_okq (⟨"PalletLayersModel", "isKind", "(I)Z"⟩, 33) := ⟨⟨by decide +kernel, by decide +kernel⟩, List.mem_of_getElem? (i := 621) (by decide +kernel), List.mem_of_getElem? (i := 746) (by decide +kernel), List.mem_of_getElem? (i := 747) (by decide +kernel)⟩
def lw_privs_1 : List (MethodName × Nat) := [(⟨"PalletLayers", "boxesOnPallets", "(Z)I"⟩, 12), (⟨"java/lang/Throwable", "fillInStackTrace", "(I)Ljava/lang/Throwable;"⟩, 6), (⟨"PalletLayers", "kindNumbered", "(I)LPalletLayers$Kind;"⟩, 12), (⟨"PalletLayers", "isOnAPallet", "(I)Z"⟩, 12), (⟨"PalletLayers$PatternSearch", "goOn", "(LPalletLayers$Kind;IJI)V"⟩, 9), (⟨"PalletLayers$PatternSearch", "firstOpen", "(IJ)I"⟩, 9), (⟨"PalletLayers$PatternSearch", "keepIfBetter", "(LPalletLayers$Kind;I)V"⟩, 9), (⟨"PalletLayers$PatternSearch", "mayBeatBest", "(LPalletLayers$Kind;JI)Z"⟩, 9), (⟨"PalletLayers$PatternSearch", "tryBox", "(LPalletLayers$Kind;IIJI)V"⟩, 9), (⟨"PalletLayers$PatternSearch", "takeStep", "()Z"⟩, 9), (⟨"PalletLayers", "palletNumbered", "(I)LPalletLayers$Pallet;"⟩, 12), (⟨"PalletLayers", "whyNot", "(LPalletLayers$Pallet;LPalletLayers$Kind;I)I"⟩, 12), (⟨"PalletLayers", "palletWithLayer", "(II)LPalletLayers$Pallet;"⟩, 12), (⟨"PalletLayers", "hasLesserStopAboard", "(I)Z"⟩, 12), (⟨"PalletLayers", "isBarred", "(I)Z"⟩, 12), (⟨"PalletLayersModel", "isKind", "(I)Z"⟩, 33)]
theorem lw_r1 : ∀ q ∈ lw_privs_1, lw_okq q := List.forall_mem_cons.mpr ⟨lw_p0, List.forall_mem_cons.mpr ⟨lw_p1, List.forall_mem_cons.mpr ⟨lw_p2, List.forall_mem_cons.mpr ⟨lw_p3, List.forall_mem_cons.mpr ⟨lw_p4, List.forall_mem_cons.mpr ⟨lw_p5, List.forall_mem_cons.mpr ⟨lw_p6, List.forall_mem_cons.mpr ⟨lw_p7, List.forall_mem_cons.mpr ⟨lw_p8, List.forall_mem_cons.mpr ⟨lw_p9, List.forall_mem_cons.mpr ⟨lw_p10, List.forall_mem_cons.mpr ⟨lw_p11, List.forall_mem_cons.mpr ⟨lw_p12, List.forall_mem_cons.mpr ⟨lw_p13, List.forall_mem_cons.mpr ⟨lw_p14, List.forall_mem_cons.mpr ⟨lw_p15, fun _ h => absurd h List.not_mem_nil⟩⟩⟩⟩⟩⟩⟩⟩⟩⟩⟩⟩⟩⟩⟩⟩
theorem lw_p16 : lw_okq (⟨"PalletLayersModel", "hasLayers", "(I)Z"⟩, 33) := ⟨⟨by decide +kernel, by decide +kernel⟩, List.mem_of_getElem? (i := 621) (by decide +kernel), List.mem_of_getElem? (i := 750) (by decide +kernel), List.mem_of_getElem? (i := 751) (by decide +kernel)⟩
theorem lw_p17 : lw_okq (⟨"PalletLayersModel", "seek", "(II)V"⟩, 33) := ⟨⟨by decide +kernel, by decide +kernel⟩, List.mem_of_getElem? (i := 621) (by decide +kernel), List.mem_of_getElem? (i := 754) (by decide +kernel), List.mem_of_getElem? (i := 755) (by decide +kernel)⟩
theorem lw_p18 : lw_okq (⟨"PalletLayersModel", "undo", "(III)V"⟩, 33) := ⟨⟨by decide +kernel, by decide +kernel⟩, List.mem_of_getElem? (i := 621) (by decide +kernel), List.mem_of_getElem? (i := 758) (by decide +kernel), List.mem_of_getElem? (i := 759) (by decide +kernel)⟩
theorem lw_p19 : lw_okq (⟨"PalletLayersModel", "cellsOf", "(III)J"⟩, 33) := ⟨⟨by decide +kernel, by decide +kernel⟩, List.mem_of_getElem? (i := 621) (by decide +kernel), List.mem_of_getElem? (i := 762) (by decide +kernel), List.mem_of_getElem? (i := 763) (by decide +kernel)⟩
theorem lw_p20 : lw_okq (⟨"PalletLayersModel", "keepBest", "(I)V"⟩, 33) := ⟨⟨by decide +kernel, by decide +kernel⟩, List.mem_of_getElem? (i := 621) (by decide +kernel), List.mem_of_getElem? (i := 767) (by decide +kernel), List.mem_of_getElem? (i := 768) (by decide +kernel)⟩
theorem lw_p21 : lw_okq (⟨"PalletLayersModel", "canBeBetter", "(I)Z"⟩, 33) := ⟨⟨by decide +kernel, by decide +kernel⟩, List.mem_of_getElem? (i := 621) (by decide +kernel), List.mem_of_getElem? (i := 771) (by decide +kernel), List.mem_of_getElem? (i := 772) (by decide +kernel)⟩
theorem lw_p22 : lw_okq (⟨"PalletLayersModel", "areaOf", "(I)I"⟩, 33) := ⟨⟨by decide +kernel, by decide +kernel⟩, List.mem_of_getElem? (i := 621) (by decide +kernel), List.mem_of_getElem? (i := 778) (by decide +kernel), List.mem_of_getElem? (i := 779) (by decide +kernel)⟩
theorem lw_p23 : lw_okq (⟨"PalletLayersModel", "canTry", "(III)Z"⟩, 33) := ⟨⟨by decide +kernel, by decide +kernel⟩, List.mem_of_getElem? (i := 621) (by decide +kernel), List.mem_of_getElem? (i := 782) (by decide +kernel), List.mem_of_getElem? (i := 783) (by decide +kernel)⟩
theorem lw_p24 : lw_okq (⟨"PalletLayersModel", "tries", "(III)V"⟩, 33) := ⟨⟨by decide +kernel, by decide +kernel⟩, List.mem_of_getElem? (i := 621) (by decide +kernel), List.mem_of_getElem? (i := 786) (by decide +kernel), List.mem_of_getElem? (i := 787) (by decide +kernel)⟩
theorem lw_p25 : lw_okq (⟨"PalletLayersModel", "firstCell", "()I"⟩, 33) := ⟨⟨by decide +kernel, by decide +kernel⟩, List.mem_of_getElem? (i := 621) (by decide +kernel), List.mem_of_getElem? (i := 790) (by decide +kernel), List.mem_of_getElem? (i := 791) (by decide +kernel)⟩
theorem lw_p26 : lw_okq (⟨"PalletLayersModel", "isPallet", "(I)Z"⟩, 33) := ⟨⟨by decide +kernel, by decide +kernel⟩, List.mem_of_getElem? (i := 621) (by decide +kernel), List.mem_of_getElem? (i := 818) (by decide +kernel), List.mem_of_getElem? (i := 819) (by decide +kernel)⟩
theorem lw_p27 : lw_okq (⟨"PalletLayersModel", "reason", "(III)I"⟩, 33) := ⟨⟨by decide +kernel, by decide +kernel⟩, List.mem_of_getElem? (i := 621) (by decide +kernel), List.mem_of_getElem? (i := 822) (by decide +kernel), List.mem_of_getElem? (i := 823) (by decide +kernel)⟩
theorem lw_p28 : lw_okq (⟨"PalletLayersModel", "supportOf", "(IIII)I"⟩, 33) := ⟨⟨by decide +kernel, by decide +kernel⟩, List.mem_of_getElem? (i := 621) (by decide +kernel), List.mem_of_getElem? (i := 826) (by decide +kernel), List.mem_of_getElem? (i := 827) (by decide +kernel)⟩
theorem lw_p29 : lw_okq (⟨"PalletLayersModel", "heightOf", "(II)I"⟩, 33) := ⟨⟨by decide +kernel, by decide +kernel⟩, List.mem_of_getElem? (i := 621) (by decide +kernel), List.mem_of_getElem? (i := 830) (by decide +kernel), List.mem_of_getElem? (i := 831) (by decide +kernel)⟩
theorem lw_p30 : lw_okq (⟨"PalletLayersModel", "weightOf", "(I)I"⟩, 33) := ⟨⟨by decide +kernel, by decide +kernel⟩, List.mem_of_getElem? (i := 621) (by decide +kernel), List.mem_of_getElem? (i := 834) (by decide +kernel), List.mem_of_getElem? (i := 835) (by decide +kernel)⟩
theorem lw_p31 : lw_okq (⟨"PalletLayersModel", "add", "(III)V"⟩, 33) := ⟨⟨by decide +kernel, by decide +kernel⟩, List.mem_of_getElem? (i := 621) (by decide +kernel), List.mem_of_getElem? (i := 838) (by decide +kernel), List.mem_of_getElem? (i := 839) (by decide +kernel)⟩
def lw_privs_2 : List (MethodName × Nat) := [(⟨"PalletLayersModel", "hasLayers", "(I)Z"⟩, 33), (⟨"PalletLayersModel", "seek", "(II)V"⟩, 33), (⟨"PalletLayersModel", "undo", "(III)V"⟩, 33), (⟨"PalletLayersModel", "cellsOf", "(III)J"⟩, 33), (⟨"PalletLayersModel", "keepBest", "(I)V"⟩, 33), (⟨"PalletLayersModel", "canBeBetter", "(I)Z"⟩, 33), (⟨"PalletLayersModel", "areaOf", "(I)I"⟩, 33), (⟨"PalletLayersModel", "canTry", "(III)Z"⟩, 33), (⟨"PalletLayersModel", "tries", "(III)V"⟩, 33), (⟨"PalletLayersModel", "firstCell", "()I"⟩, 33), (⟨"PalletLayersModel", "isPallet", "(I)Z"⟩, 33), (⟨"PalletLayersModel", "reason", "(III)I"⟩, 33), (⟨"PalletLayersModel", "supportOf", "(IIII)I"⟩, 33), (⟨"PalletLayersModel", "heightOf", "(II)I"⟩, 33), (⟨"PalletLayersModel", "weightOf", "(I)I"⟩, 33), (⟨"PalletLayersModel", "add", "(III)V"⟩, 33)]
theorem lw_r2 : ∀ q ∈ lw_privs_2, lw_okq q := List.forall_mem_cons.mpr ⟨lw_p16, List.forall_mem_cons.mpr ⟨lw_p17, List.forall_mem_cons.mpr ⟨lw_p18, List.forall_mem_cons.mpr ⟨lw_p19, List.forall_mem_cons.mpr ⟨lw_p20, List.forall_mem_cons.mpr ⟨lw_p21, List.forall_mem_cons.mpr ⟨lw_p22, List.forall_mem_cons.mpr ⟨lw_p23, List.forall_mem_cons.mpr ⟨lw_p24, List.forall_mem_cons.mpr ⟨lw_p25, List.forall_mem_cons.mpr ⟨lw_p26, List.forall_mem_cons.mpr ⟨lw_p27, List.forall_mem_cons.mpr ⟨lw_p28, List.forall_mem_cons.mpr ⟨lw_p29, List.forall_mem_cons.mpr ⟨lw_p30, List.forall_mem_cons.mpr ⟨lw_p31, fun _ h => absurd h List.not_mem_nil⟩⟩⟩⟩⟩⟩⟩⟩⟩⟩⟩⟩⟩⟩⟩⟩
theorem lw_p32 : lw_okq (⟨"PalletLayersModel", "isLayer", "(II)Z"⟩, 33) := ⟨⟨by decide +kernel, by decide +kernel⟩, List.mem_of_getElem? (i := 621) (by decide +kernel), List.mem_of_getElem? (i := 854) (by decide +kernel), List.mem_of_getElem? (i := 855) (by decide +kernel)⟩
theorem lw_p33 : lw_okq (⟨"PalletLayersModel", "boxesOn", "(I)I"⟩, 33) := ⟨⟨by decide +kernel, by decide +kernel⟩, List.mem_of_getElem? (i := 621) (by decide +kernel), List.mem_of_getElem? (i := 862) (by decide +kernel), List.mem_of_getElem? (i := 863) (by decide +kernel)⟩
def lw_privs_3 : List (MethodName × Nat) := [(⟨"PalletLayersModel", "isLayer", "(II)Z"⟩, 33), (⟨"PalletLayersModel", "boxesOn", "(I)I"⟩, 33)]
theorem lw_r3 : ∀ q ∈ lw_privs_3, lw_okq q := List.forall_mem_cons.mpr ⟨lw_p32, List.forall_mem_cons.mpr ⟨lw_p33, fun _ h => absurd h List.not_mem_nil⟩⟩
def lw_privs : List (MethodName × Nat) := lw_privs_1 ++ (lw_privs_2 ++ (lw_privs_3))
def lw_tbl : List Cond := k2_sels lw_privs ++ tables_1
theorem lw_privs_ok : ∀ q ∈ lw_privs, lw_okq q := by
  show ∀ q ∈ lw_privs_1 ++ (lw_privs_2 ++ (lw_privs_3)), lw_okq q
  exact List.forall_mem_append.mpr ⟨lw_r1, List.forall_mem_append.mpr ⟨lw_r2, lw_r3⟩⟩
end
section
/-! ===== BEGIN words of one list among another's, by their places ===== -/
theorem goodIn_r {big : List Cond} (ws : List Cond) (ps : List Nat) (hp : ws = ps.filterMap (fun i => big[i]?)) (h : ws.all goodWord = true) : GoodIn big ws := by
  intro w hw
  have h1 := List.all_eq_true.mp h w hw
  rw [hp] at hw
  obtain ⟨i, -, hi⟩ := List.mem_filterMap.mp hw
  have hm : w ∈ big := by first | exact List.mem_of_getElem? hi | exact List.getElem?_mem hi
  exact ⟨hm, good_of_word h1⟩
theorem goodIn_app {big a b : List Cond} (ha : GoodIn big a) (hb : GoodIn big b) : GoodIn big (a ++ b) := fun w h => (List.mem_append.mp h).elim (ha w) (hb w)
theorem goodIn_ca {big a b : List Cond} {c : Cond} (ha : GoodIn big (c :: a)) (hb : GoodIn big b) : GoodIn big (c :: (a ++ b)) := fun w h => (List.mem_cons.mp h).elim (fun e => ha w (List.mem_cons.mpr (Or.inl e))) (fun h => (List.mem_append.mp h).elim (fun h => ha w (List.mem_cons.mpr (Or.inr h))) (hb w))
theorem goodIn_sub {big ws : List Cond} (hm : ∀ w ∈ ws, w ∈ big) (h : ws.all goodWord = true) : GoodIn big ws := fun w hw => ⟨hm w hw, good_of_word (List.all_eq_true.mp h w hw)⟩
/-! ===== END ===== -/

/-! ===== BEGIN exceptions that leave a method, and their catching by the caller (launches without stack traces) ===== -/
section VXA
/-! The laws vx_back, vx_callV, vx_callS, vx_callSW, vx_throw0, vx_throwS follow proofs of the library, with one case more: JvmDerived/Free/Laws.lean (Back.of_free), Shelf42/LK1.lean (callV, callS), Shelf/KitTraced.lean (throwNew0V, throwNewS). -/
/-- where a method has thrown q: the class by its name, the cell, what was written, the world -/
def vx_T (XC : String → State → State → Prop) (st : State) (q : Addr) (t : State) (mc ms : Nat) (free : Addr → Prop) : Prop :=
  ∃ (E : String) (ce : Cell) (L : List Loc), XC E st t ∧ t.heap[q]? = some ce ∧ ce.vm = .none ∧ st.vm.findClass E = some ce.cls ∧ st.WarmedH t.vm ∧ st.sameButNew ({ t with vm := st.vm } : State) L mc ms ∧ ∀ z ∈ L, free z.base
def vx_Q (Qc : Array Value → State → Outcome → State → Prop) (XC : String → State → State → Prop) (mc ms : Nat) (free : Addr → Prop) : Array Value → State → Outcome → State → Prop := fun a st o t =>
  (Qc a st o t ∧ ∃ L, FrameEnd st o t L mc ms ∧ ∀ q ∈ L, free q.base) ∨ ∃ q, o = .threw q ∧ vx_T XC st q t mc ms free
/-- a callee that returns or throws -/
def vx_Met (l : Launch) (y : MethodName) (ws : List Cond) (rm : Room) (Pc : Array Value → State → Prop) (Qc : Array Value → State → Outcome → State → Prop) (XC : String → State → State → Prop) (mc ms : Nat) (free : Addr → Prop) : Prop :=
  MetFree l y (headSpec ws rm) Pc (fun _ _ _ _ _ => True) (vx_Q Qc XC mc ms free)
def vx_Post (XC : String → State → State → Prop) (mc ms : Nat) (free : Addr → Prop) : Pt → Array Value → Addr → Pt → Prop := fun A a q B =>
  ∃ (g : JFrame) (mk : MethodId) (t : State) (L : List Loc) (E : String) (ce : Cell), B.U.heap = t.heap ∧ B.U.vm = t.vm ∧ XC E (A.U.calling g mk a) t ∧ t.heap[q]? = some ce ∧ ce.vm = .none ∧ A.U.vm.findClass E = some ce.cls ∧ B.locs = A.locs ++ L ∧ (∀ z ∈ L, free z.base) ∧ B.cells = A.cells + mc ∧ B.slots = A.slots + ms
def vx_Back (l : Launch) (R : Room) (p : Program) (e : Env) (below : List Frame) (s : State) (sargs : Array Value) (y : MethodName) (len W9 : Nat)
    (Pre : Pt → Array Value → Prop) (Post : Pt → Array Value → Option Value → Pt → Prop) (PostX : Pt → Array Value → Addr → Pt → Prop) : Prop :=
  ∀ (m : MethodId) (meth : Method) (c : Code) (A : Pt) (g : JFrame) (ig : Instr) (mk : MethodId) (a : Array Value),
    Stand p l e R s m sargs below meth c A.U A.locs A.cells A.slots → g.method = m → g.locals.size = c.maxLocals → decode c.code g.pc = .ok (ig, len) →
    2 * g.monitorRoom + (g.stack.map fun v => v.category).sum ≤ W9 → A.U.methodNamed? y = some mk → Pre A a →
    (∃ (v : Option Value) (B : Pt), Stand p l e R s m sargs below meth c B.U B.locs B.cells B.slots ∧ Post A a v B ∧
      Steps p.tables e below (doInvoke e (A.U.setTop g) [] mk a).1 (B.U.setTop { g with pc := g.pc + len, stack := v.toList ++ g.stack })) ∨
    (∃ (q : Addr) (B : Pt), Stand p l e R s m sargs below meth c B.U B.locs B.cells B.slots ∧ PostX A a q B ∧
      Steps p.tables e below (doInvoke e (A.U.setTop g) [] mk a).1 ((B.U.setTop g).pushFrame (.throwing q)))
section Payer
variable {l : Launch} {R : Room} {p : Program} {e : Env} {below : List Frame} {s : State} {sargs : Array Value} {y : MethodName} {len W9 : Nat}
theorem vx_back {ws : List Cond} {rm : Room} {Pc : Array Value → State → Prop} {Qc : Array Value → State → Outcome → State → Prop} {XC : String → State → State → Prop} {mc ms : Nat} {free : Addr → Prop} {bytes : ByteArray} {maxL : Nat} {ret : Option FieldType}
    (hM : vx_Met l y ws rm Pc Qc XC mc ms free) (hblind : FrameBlind Pc) (hrc : rm.cells = mc) (hrs : rm.slots = ms)
    (hframes : rm.frames + 1 ≤ R.frames) (hlocals : W9 + (maxL + 11) + rm.locals ≤ R.locals)
    (hws : ∀ w ∈ ws, ∀ a' U, s.WarmedH U.vm → w.before a' U = true) (hcode : Cond.code y bytes maxL ret ∈ ws) (hinit : ∀ a' U, s.WarmedH U.vm → (Cond.initialized y.cls).before a' U = true) :
    vx_Back l R p e below s sargs y len W9 (PreOf R mc ms Pc) (PostOf Qc mc ms free) (vx_Post XC mc ms free) := by
  intro m meth c A g ig mk a X hg hsize hdg hW hn hp
  have h1 : (headSpec ws rm).pre.before a A.U = true := atoms_intro fun w hw => hws w hw _ _ X.warmed
  have h2 : (Cond.code y bytes maxL ret).before a A.U = true := hws _ hcode _ _ X.warmed
  have h3 : (Cond.initialized y.cls).before a A.U = true := hinit _ _ X.warmed
  have h4 : A.cells + (headSpec ws rm).room.cells ≤ R.cells := by rw [show (headSpec ws rm).room.cells = mc from hrc]; exact hp.1
  have h5 : A.slots + (headSpec ws rm).room.slots ≤ R.slots := by rw [show (headSpec ws rm).room.slots = ms from hrs]; exact hp.2.1
  have hPc : Pc a (A.U.calling g mk a) := hblind _ _ _ _ hp.2.2
  obtain ⟨U, Ls, c0, s0⟩ := A
  dsimp only [Pt.U, Pt.locs, Pt.cells, Pt.slots] at h1 h2 h3 h4 h5 X hn hPc ⊢
  obtain ⟨methY, cY, hmY, hcY, -, hlY, -, -, -, -⟩ := Cond.code_spec hn h2
  obtain ⟨kY, hkY, -⟩ := className_of_methodNamed hn
  have hinitY : kY.init = .initialized := Cond.initialized_spec (findClass_of_methodNamed hn) hkY h3
  have h : At U g.method c below := by rw [hg]; exact X.here
  have hlocals9 : W9 + (maxL + 11) + (headSpec ws rm).room.locals ≤ R.locals := hlocals
  have happ : (headSpec ws rm).appliesLoose y e.platform (U.calling g mk a) = true :=
    Spec.appliesLoose_calling (g := g) h hdg hn hkY hinitY
      (X.room_calling (g := g) (R' := (headSpec ws rm).room) hsize hmY hcY hframes (by rw [hlY]; omega) h4 h5) h1
  obtain ⟨mid, hmid⟩ := h.above
  have hfr : (U.setTop g).frames = (.java g :: mid) ++ below := by rw [State.frames_setTop' g h.top, hmid]; rfl
  obtain ⟨o, s₂, hsteps, -, hend, hq⟩ := Steps.callFree hM p X.admits X.cas X.clock (acts := []) hfr happ hPc trivial
  have hq' : vx_Q Qc XC mc ms free a (U.calling g mk a) o s₂ := hq
  rw [State.frames_setTop' g h.top] at hend
  obtain ⟨g₀, hg0⟩ := Option.isSome_iff_exists.mp h.top
  obtain ⟨r, hr⟩ := State.topJava?_eq_some.mp hg0
  have hr' : (({ U with heap := s₂.heap, slotsUsed := s₂.slotsUsed } : State).setVm s₂.vm).frames = .java g₀ :: r := hr
  rcases hq' with ⟨hqc, L, hfe, hL⟩ | ⟨q, rfl, E, ce, L, hx, hce, hcv, hcl, hW₂, hsm, hL⟩
  · obtain ⟨⟨v, rfl⟩, hW₂, e2, q2, q3, q4, q5, q6⟩ := id hfe
    have e3 : s₂ = ({ (U.calling g mk a).setFrames s₂.frames with heap := s₂.heap, slotsUsed := s₂.slotsUsed } : State).setVm s₂.vm := by
      have : s₂ = ({ s₂ with vm := (U.calling g mk a).vm } : State).setVm s₂.vm := rfl
      rw [e2] at this
      exact this
    obtain ⟨c₂, i₂, len₂, hc₂, hd₂, hf₂⟩ := hend
    have hW' : U.WarmedH s₂.vm := hW₂
    have hcc : c₂ = c := by
      have h1 : s₂.code? g.method = U.code? g.method := by
        rw [State.code?_eq, State.code?_eq, hW'.alike.method?]
      exact Option.some.inj (hc₂.symm.trans (h1.trans h.code))
    subst hcc
    have hlen : len₂ = len := by rw [hdg] at hd₂; cases hd₂; rfl
    subst hlen
    have hs₂ : s₂ = (({ U with heap := s₂.heap, slotsUsed := s₂.slotsUsed } : State).setVm s₂.vm).setTop { g with pc := g.pc + len₂, stack := v.toList ++ g.stack } := by
      refine e3.trans ?_
      rw [hf₂, State.calling_eq h.top, State.setFrames_setFrames, State.setTop_of_frames _ hr', hr]
      rfl
    have hsame : U.sameButNew ({ U with heap := s₂.heap, slotsUsed := s₂.slotsUsed } : State) L mc ms := by
      refine ⟨?_, q2, q3, q4, q5, q6⟩
      obtain ⟨t, ht, -⟩ := State.frames_cons hr
      show ({ U with heap := s₂.heap, slotsUsed := s₂.slotsUsed } : State) = { U.setFrames U.frames with heap := s₂.heap, slotsUsed := s₂.slotsUsed }
      rw [State.setFrames_self ht]
    subst hg
    refine Or.inl ⟨v, ⟨(({ U with heap := s₂.heap, slotsUsed := s₂.slotsUsed } : State).setVm s₂.vm), Ls ++ L, c0 + mc, s0 + ms⟩,
      ⟨X.admits, X.cas, X.clock, X.frames, X.room, X.hears, X.method, X.code, (X.here.setHeapUsed s₂.heap s₂.slotsUsed).setVm hW'.alike, X.tail, State.WarmedH.trans X.warmed hW', X.limits, X.bytes, X.same.trans (hsame.setVm s.vm)⟩,
      ⟨g, mk, s₂, L, rfl, rfl, hqc, rfl, hL, rfl, rfl⟩, ?_⟩
    show Steps p.tables e below _ ((({ U with heap := s₂.heap, slotsUsed := s₂.slotsUsed } : State).setVm s₂.vm).setTop { g with pc := g.pc + len₂, stack := v.toList ++ g.stack })
    rw [← hs₂]
    exact hsteps
  · obtain ⟨e2, q2, q3, q4, q5, q6⟩ := id hsm
    have e3 : s₂ = ({ (U.calling g mk a).setFrames s₂.frames with heap := s₂.heap, slotsUsed := s₂.slotsUsed } : State).setVm s₂.vm := by
      have : s₂ = ({ s₂ with vm := (U.calling g mk a).vm } : State).setVm s₂.vm := rfl
      rw [e2] at this
      exact this
    have hf₂ : s₂.frames = .throwing q :: .java g :: U.frames.tail := hend
    have hW' : U.WarmedH s₂.vm := hW₂
    have hs₂ : s₂ = ((({ U with heap := s₂.heap, slotsUsed := s₂.slotsUsed } : State).setVm s₂.vm).setTop g).pushFrame (.throwing q) := by
      refine e3.trans ?_
      rw [hf₂, State.calling_eq h.top, State.setFrames_setFrames, State.pushFrame, State.frames_setTop _ hr', State.setTop_of_frames _ hr', State.setFrames_setFrames, hr]
      rfl
    have hsame : U.sameButNew ({ U with heap := s₂.heap, slotsUsed := s₂.slotsUsed } : State) L mc ms := by
      refine ⟨?_, q2, q3, q4, q5, q6⟩
      obtain ⟨t, ht, -⟩ := State.frames_cons hr
      show ({ U with heap := s₂.heap, slotsUsed := s₂.slotsUsed } : State) = { U.setFrames U.frames with heap := s₂.heap, slotsUsed := s₂.slotsUsed }
      rw [State.setFrames_self ht]
    subst hg
    refine Or.inr ⟨q, ⟨(({ U with heap := s₂.heap, slotsUsed := s₂.slotsUsed } : State).setVm s₂.vm), Ls ++ L, c0 + mc, s0 + ms⟩,
      ⟨X.admits, X.cas, X.clock, X.frames, X.room, X.hears, X.method, X.code, (X.here.setHeapUsed s₂.heap s₂.slotsUsed).setVm hW'.alike, X.tail, State.WarmedH.trans X.warmed hW', X.limits, X.bytes, X.same.trans (hsame.setVm s.vm)⟩,
      ⟨g, mk, s₂, L, E, ce, rfl, rfl, hx, hce, hcv, hcl, rfl, hL, rfl, rfl⟩, ?_⟩
    show Steps p.tables e below _ (((({ U with heap := s₂.heap, slotsUsed := s₂.slotsUsed } : State).setVm s₂.vm).setTop g).pushFrame (.throwing q))
    rw [← hs₂]
    exact hsteps
end Payer
section Calls
variable {p : Program} {l : Launch} {e : Env} {R : Room} {s : State} {m : MethodId} {args : Array Value} {below : List Frame} {meth : Method} {c : Code} {T : State} {locs : List Loc} {cells slots : Nat}
theorem vx_callV (X : Stand p l e R s m args below meth c T locs cells slots) (hexec : p.tables.exec = Jvm.exec) {own C : String} {index : Nat} {y : MethodName} {bytes : ByteArray} {maxL : Nat} {ret : Option FieldType}
    (hown : s.vm.findClass own = some m.cls) (hlink : (Cond.methodLink own index y).before args s = true) (hinst : (Cond.instanceMethod y).before args s = true) (hsel : (Cond.selects C y y).before args s = true)
    (hcode : (Cond.code y bytes maxL ret).before args s = true) (hy : y.cls ≠ "java/lang/invoke/MethodHandle" ∧ y.cls ≠ "java/lang/invoke/VarHandle")
    {W9 : Nat} {Pre : Pt → Array Value → Prop} {Post : Pt → Array Value → Option Value → Pt → Prop} {PostX : Pt → Array Value → Addr → Pt → Prop} (hK : vx_Back l R p e below s args y 3 W9 Pre Post PostX)
    {b : Addr} {cellB : Cell} (hcell : T.heap[b]? = some cellB) (hobj : cellB.vm.isStatics = false) (hcls : s.vm.findClass C = some cellB.cls)
    {g : JFrame} (hg : g.method = m) (hsize : g.locals.size = c.maxLocals) {argsL rest : List Value} (hlen : ∀ sig, parseMethodDescriptor y.desc = some sig → argsL.length = sig.parameters.length)
    (hstack : g.stack = argsL.reverse ++ .ref b :: rest) (hW : 2 * g.monitorRoom + (rest.map fun v => v.category).sum ≤ W9) (hdg : decode c.code g.pc = .ok (.invokevirtual index, 3))
    (hpre : ∀ vm₁, s.WarmedH vm₁ → Pre ⟨T.setVm vm₁, locs, cells, slots⟩ (Value.ref b :: argsL).toArray) :
    (∃ (v : Option Value) (vm₁ : Vm) (B : Pt), s.WarmedH vm₁ ∧ Stand p l e R s m args below meth c B.U B.locs B.cells B.slots ∧ Post ⟨T.setVm vm₁, locs, cells, slots⟩ (Value.ref b :: argsL).toArray v B ∧
      ∀ target, Steps p.tables e below (B.U.setTop { g with pc := g.pc + 3, stack := v.toList ++ rest }) target → Steps p.tables e below (T.setTop g) target) ∨
    (∃ (q : Addr) (vm₁ : Vm) (B : Pt), s.WarmedH vm₁ ∧ Stand p l e R s m args below meth c B.U B.locs B.cells B.slots ∧ PostX ⟨T.setVm vm₁, locs, cells, slots⟩ (Value.ref b :: argsL).toArray q B ∧
      Steps p.tables e below (T.setTop g) ((B.U.setTop { g with stack := rest }).pushFrame (.throwing q))) := by
  obtain ⟨mk, methM, hnamed, hmethM, hstM, habM⟩ := Cond.instanceMethod_spec hinst
  obtain ⟨methM', cM, hmethM', -, -, -, -, -, -, hsigM⟩ := Cond.code_spec hnamed hcode
  cases hmethM.symm.trans hmethM'
  obtain ⟨c2, r2, m2, q1, q2, q3, q4, kP, hkP, hkPi⟩ := Cond.selects_spec hsel
  cases hcls.symm.trans q1
  cases (State.methodFound?_of_named hnamed hy).symm.trans q2
  cases hnamed.symm.trans q3
  have hselP : selectMethod e.platform s.vm cellB.cls mk = .method mk := by rw [Launch.admits_selectMethod X.admits]; exact q4
  obtain ⟨vm₁, X₁, hstep₁⟩ := X.invokevirtual hexec hown hlink hnamed hmethM hstM hkP hkPi hy (a := b) (cell := cellB) hcell
    (fun z h => by rw [h] at hobj; cases hobj) hselP hmethM habM hkP hkPi (g := g) hg (argsL := argsL) (rest := rest) (hlen _ hsigM) hstack hdg
  rcases hK m meth c ⟨T.setVm vm₁, locs, cells, slots⟩ { g with stack := rest } (.invokevirtual index) mk (Value.ref b :: argsL).toArray X₁ hg hsize hdg hW (X₁.named hnamed) (hpre vm₁ X₁.warmed) with ⟨v, B, X', hpost, hsteps⟩ | ⟨q, B, X', hpost, hsteps⟩
  · exact Or.inl ⟨v, vm₁, B, X₁.warmed, X', hpost, fun target h => hstep₁ _ fun acts => by rw [doInvoke_state]; exact hsteps.trans h⟩
  · exact Or.inr ⟨q, vm₁, B, X₁.warmed, X', hpost, hstep₁ _ fun acts => by rw [doInvoke_state]; exact hsteps⟩
theorem vx_callS (X : Stand p l e R s m args below meth c T locs cells slots) (hexec : p.tables.exec = Jvm.exec) {own : String} {index : Nat} {y : MethodName} {bytes : ByteArray} {maxL : Nat} {ret : Option FieldType}
    (hown : s.vm.findClass own = some m.cls) (hlink : (Cond.methodLink own index y).before args s = true) (hstat : (Cond.static y).before args s = true) (hinit : (Cond.initialized y.cls).before args s = true)
    (hcode : (Cond.code y bytes maxL ret).before args s = true) (hy : y.cls ≠ "java/lang/invoke/MethodHandle" ∧ y.cls ≠ "java/lang/invoke/VarHandle")
    {W9 : Nat} {Pre : Pt → Array Value → Prop} {Post : Pt → Array Value → Option Value → Pt → Prop} {PostX : Pt → Array Value → Addr → Pt → Prop} (hK : vx_Back l R p e below s args y 3 W9 Pre Post PostX)
    {g : JFrame} (hg : g.method = m) (hsize : g.locals.size = c.maxLocals) {argsL rest : List Value} (hlen : ∀ sig, parseMethodDescriptor y.desc = some sig → argsL.length = sig.parameters.length)
    (hstack : g.stack = argsL.reverse ++ rest) (hW : 2 * g.monitorRoom + (rest.map fun v => v.category).sum ≤ W9) (hdg : decode c.code g.pc = .ok (.invokestatic index, 3))
    (hpre : ∀ vm₁, s.WarmedH vm₁ → Pre ⟨T.setVm vm₁, locs, cells, slots⟩ argsL.toArray) :
    (∃ (v : Option Value) (vm₁ : Vm) (B : Pt), s.WarmedH vm₁ ∧ Stand p l e R s m args below meth c B.U B.locs B.cells B.slots ∧ Post ⟨T.setVm vm₁, locs, cells, slots⟩ argsL.toArray v B ∧
      ∀ target, Steps p.tables e below (B.U.setTop { g with pc := g.pc + 3, stack := v.toList ++ rest }) target → Steps p.tables e below (T.setTop g) target) ∨
    (∃ (q : Addr) (vm₁ : Vm) (B : Pt), s.WarmedH vm₁ ∧ Stand p l e R s m args below meth c B.U B.locs B.cells B.slots ∧ PostX ⟨T.setVm vm₁, locs, cells, slots⟩ argsL.toArray q B ∧
      Steps p.tables e below (T.setTop g) ((B.U.setTop { g with stack := rest }).pushFrame (.throwing q))) := by
  obtain ⟨mk, hnamed⟩ := Cond.code_named hcode
  obtain ⟨methM, cM, hmethM, -, -, -, -, -, -, hsigM⟩ := Cond.code_spec hnamed hcode
  have hstatic : methM.isStatic = true := Cond.static_spec hnamed hmethM hstat
  obtain ⟨kP, hkP, -⟩ := className_of_methodNamed hnamed
  have hinitP : kP.init = .initialized := Cond.initialized_spec (findClass_of_methodNamed hnamed) hkP hinit
  obtain ⟨vm₁, X₁, hstep₁⟩ := X.invokestatic hexec hown hlink hnamed hmethM hstatic hkP hinitP hy (g := g) hg (argsL := argsL) (rest := rest) (hlen _ hsigM) hstack hdg
  rcases hK m meth c ⟨T.setVm vm₁, locs, cells, slots⟩ { g with stack := rest } (.invokestatic index) mk argsL.toArray X₁ hg hsize hdg hW (X₁.named hnamed) (hpre vm₁ X₁.warmed) with ⟨v, B, X', hpost, hsteps⟩ | ⟨q, B, X', hpost, hsteps⟩
  · exact Or.inl ⟨v, vm₁, B, X₁.warmed, X', hpost, fun target h => hstep₁ _ fun acts => by rw [doInvoke_state]; exact hsteps.trans h⟩
  · exact Or.inr ⟨q, vm₁, B, X₁.warmed, X', hpost, hstep₁ _ fun acts => by rw [doInvoke_state]; exact hsteps⟩
end Calls
theorem vx_cls {s : State} {T : State} {vm₁ : Vm} {E : String} {k : ClassId} (hW : s.WarmedH vm₁) (h : (T.setVm vm₁).vm.findClass E = some k) : s.vm.findClass E = some k := by
  have h1 : vm₁.findClass E = some k := h
  rw [hW.alike.findClass] at h1
  exact h1
/-- the method's frame g, with q thrown over it -/
def vx_W (p : Program) (l : Launch) (e : Env) (R : Room) (s : State) (m : MethodId) (args : Array Value) (below : List Frame) (meth : Method) (c : Code) (H : Heap) (locs : List Loc) (cells slots : Nat) (Q : State → Prop) (g : JFrame) (q : Addr) : Prop :=
  ∀ T : State, T.heap = H → Stand p l e R s m args below meth c T locs cells slots → ∃ t, Steps p.tables e below ((T.setTop g).pushFrame (.throwing q)) t ∧ Q t
def vx_Run (p : Program) (l : Launch) (e : Env) (R : Room) (s : State) (m : MethodId) (args : Array Value) (below : List Frame) (meth : Method) (c : Code) (H : Heap) (locs : List Loc) (cells slots mc ms : Nat) (g : JFrame) (rest : List Value) (Qa : State → Outcome → State → Prop) (XC : String → State → State → Prop) (free : Addr → Prop) : Prop :=
  ∀ T : State, T.heap = H → Stand p l e R s m args below meth c T locs cells slots →
    (∃ (v : Option Value) (st₀ t T' : State) (L : List Loc), st₀.heap = H ∧ Stand p l e R s m args below meth c T' (locs ++ L) (cells + mc) (slots + ms) ∧ (∀ q ∈ L, free q.base) ∧ T'.heap = t.heap ∧ T'.vm = t.vm ∧ Qa st₀ (.returned v) t ∧
      Goes p e below T g T' { g with pc := g.pc + 3, stack := v.toList ++ rest }) ∨
    (∃ (q : Addr) (st₀ t T' : State) (L : List Loc) (E : String) (ce : Cell), st₀.heap = H ∧ Stand p l e R s m args below meth c T' (locs ++ L) (cells + mc) (slots + ms) ∧ (∀ z ∈ L, free z.base) ∧ T'.heap = t.heap ∧ T'.vm = t.vm ∧ XC E st₀ t ∧ t.heap[q]? = some ce ∧ ce.vm = .none ∧ s.vm.findClass E = some ce.cls ∧
      Steps p.tables e below (T.setTop g) ((T'.setTop { g with stack := rest }).pushFrame (.throwing q)))
def vx_X {S : Type} (px : S → Prop) (B : String → S → State → Prop) (A : Nat → Prop) : String → State → State → Prop := fun E st t => ∃ u : S, px u ∧ B E u t ∧ va_F A st t
section Runs
variable {p : Program} {l : Launch} {e : Env} {R : Room} {s : State} {m : MethodId} {args : Array Value} {below : List Frame} {meth : Method} {c : Code} {H : Heap} {locs : List Loc} {cells slots : Nat}
variable {y : MethodName} {bytes cc : ByteArray} {maxL nL mc ms n index : Nat} {ret : Option FieldType} {ws : List Cond} {rm : Room} {Pc : Array Value → State → Prop} {Qc : Array Value → State → Outcome → State → Prop} {XC : String → State → State → Prop} {free : Addr → Prop} {Ts : List Cond} {own C : String} {b : Addr} {As rest : List Value} {g : JFrame}
theorem vx_callBack (cb : CallB R s args own index y bytes maxL ret ws rm mc ms n) (hM : vx_Met l y ws rm Pc Qc XC mc ms free) (hbl : FrameBlind Pc) : vx_Back l R p e below s args y 3 8 (PreOf R mc ms Pc) (PostOf Qc mc ms free) (vx_Post XC mc ms free) := by
  obtain ⟨hrc, hrs, hfr, hlo, hws, hcw, -, hini, -⟩ := cb
  exact vx_back (bytes := bytes) (maxL := maxL) (ret := ret) hM hbl hrc hrs hfr hlo hws hcw (fun a' U hW => word_at hW (Or.inl (by first | rfl | simp [Cond.onTables, Cond.keeps, Cond.steady])) hini)
theorem vx_runV (S : CallFix p m c cc nL s args Ts own) (hM : vx_Met l y ws rm Pc Qc XC mc ms free) (cw : CallW R s args own C index y bytes maxL ret ws rm mc ms n) (hp : PreV s H C b Pc As)
    (hg : g.method = m) (hn : As.length = n) (hsize : g.locals.size = nL) (hstack : g.stack = As.reverse ++ .ref b :: rest) (hW : 2 * g.monitorRoom + (rest.map fun v => v.category).sum ≤ 8) (hdg : decode cc g.pc = .ok (.invokevirtual index, 3)) (hf : cells + mc ≤ R.cells ∧ slots + ms ≤ R.slots) :
    vx_Run p l e R s m args below meth c H locs cells slots mc ms g rest (Qc (Value.ref b :: As).toArray) XC free := by
  have hK : vx_Back l R p e below s args y 3 8 (PreOf R mc ms Pc) (PostOf Qc mc ms free) (vx_Post XC mc ms free) := vx_callBack cw.1 hM hp.1
  obtain ⟨⟨-, -, -, -, -, -, hcode, -, hy, hlen, hl⟩, hin, hse⟩ := cw
  obtain ⟨hx, hb, hml, ho, -⟩ := S
  obtain ⟨-, ⟨cellB, hcB, hoB, hclB⟩, hPc⟩ := hp
  intro T hT X
  rcases vx_callV X hx (C := C) (bytes := bytes) (maxL := maxL) (ret := ret) ho hl hin hse hcode hy hK (by rw [hT]; exact hcB) hoB hclB hg (hsize.trans hml.symm) (argsL := As) (rest := rest) (fun sig h => hn.trans (hlen sig h)) hstack hW (by rw [hb]; exact hdg)
    (fun vm₁ hW₁ => ⟨hf.1, hf.2, hPc (T.setVm vm₁) hT hW₁⟩) with ⟨v, vm₁, ⟨U', l2, c2, s2⟩, hW₁, X', ⟨g', mk, t, L, e1, e2, hq, h1, hL, h2, h3⟩, st⟩ | ⟨q, vm₁, ⟨U', l2, c2, s2⟩, hW₁, X', ⟨g', mk, t, L, E, ce, e1, e2, hq, hce, hcv, hcl, h1, hL, h2, h3⟩, st⟩
  · dsimp only [Pt.U, Pt.locs, Pt.cells, Pt.slots] at X' e1 e2 h1 h2 h3 st
    subst h1; subst h2; subst h3
    exact Or.inl ⟨v, (T.setVm vm₁).calling g' mk (Value.ref b :: As).toArray, t, U', L, hT, X', hL, e1, e2, hq, st⟩
  · dsimp only [Pt.U, Pt.locs, Pt.cells, Pt.slots] at X' e1 e2 h1 h2 h3 st hcl
    subst h1; subst h2; subst h3
    exact Or.inr ⟨q, (T.setVm vm₁).calling g' mk (Value.ref b :: As).toArray, t, U', L, E, ce, hT, X', hL, e1, e2, hq, hce, hcv, vx_cls hW₁ hcl, st⟩
theorem vx_runS (S : CallFix p m c cc nL s args Ts own) (hM : vx_Met l y ws rm Pc Qc XC mc ms free) (cw : CallB R s args own index y bytes maxL ret ws rm mc ms n ∧ (Cond.static y).before args s = true) (hp : PreS s H Pc As)
    (hg : g.method = m) (hn : As.length = n) (hsize : g.locals.size = nL) (hstack : g.stack = As.reverse ++ rest) (hW : 2 * g.monitorRoom + (rest.map fun v => v.category).sum ≤ 8) (hdg : decode cc g.pc = .ok (.invokestatic index, 3)) (hf : cells + mc ≤ R.cells ∧ slots + ms ≤ R.slots) :
    vx_Run p l e R s m args below meth c H locs cells slots mc ms g rest (Qc As.toArray) XC free := by
  have hK : vx_Back l R p e below s args y 3 8 (PreOf R mc ms Pc) (PostOf Qc mc ms free) (vx_Post XC mc ms free) := vx_callBack cw.1 hM hp.1
  obtain ⟨⟨-, -, -, -, -, -, hcode, hini, hy, hlen, hl⟩, hstt⟩ := cw
  obtain ⟨hx, hb, hml, ho, -⟩ := S
  intro T hT X
  rcases vx_callS X hx (bytes := bytes) (maxL := maxL) (ret := ret) ho hl hstt hini hcode hy hK hg (hsize.trans hml.symm) (argsL := As) (rest := rest) (fun sig h => hn.trans (hlen sig h)) hstack hW (by rw [hb]; exact hdg)
    (fun vm₁ hW₁ => ⟨hf.1, hf.2, hp.2 (T.setVm vm₁) hT hW₁⟩) with ⟨v, vm₁, ⟨U', l2, c2, s2⟩, hW₁, X', ⟨g', mk, t, L, e1, e2, hq, h1, hL, h2, h3⟩, st⟩ | ⟨q, vm₁, ⟨U', l2, c2, s2⟩, hW₁, X', ⟨g', mk, t, L, E, ce, e1, e2, hq, hce, hcv, hcl, h1, hL, h2, h3⟩, st⟩
  · dsimp only [Pt.U, Pt.locs, Pt.cells, Pt.slots] at X' e1 e2 h1 h2 h3 st
    subst h1; subst h2; subst h3
    exact Or.inl ⟨v, (T.setVm vm₁).calling g' mk As.toArray, t, U', L, hT, X', hL, e1, e2, hq, st⟩
  · dsimp only [Pt.U, Pt.locs, Pt.cells, Pt.slots] at X' e1 e2 h1 h2 h3 st hcl
    subst h1; subst h2; subst h3
    exact Or.inr ⟨q, (T.setVm vm₁).calling g' mk As.toArray, t, U', L, E, ce, hT, X', hL, e1, e2, hq, hce, hcv, vx_cls hW₁ hcl, st⟩
end Runs
section Rows
variable {p : Program} {l : Launch} {e : Env} {R : Room} {s : State} {m : MethodId} {args : Array Value} {below : List Frame} {meth : Method} {c : Code} {H : Heap} {locs : List Loc} {cells slots : Nat} {Q : State → Prop}
variable {mc ms : Nat} {free : Addr → Prop} {A0 A1 : Nat → Prop} {H0 : Heap} {a : Array Value} {pc : Nat} {ls : Array Slot} {st0 rest : List Value}
theorem vx_keep {st₀ t T' : State} {L : List Loc} (h0 : st₀.heap = H) (e1 : T'.heap = t.heap) (hS : va_S A0 H0 H locs) (hA : ∀ q, q < H.size → A1 q → A0 q) (hf : ∀ q, free q → A0 q) (hL : ∀ q ∈ L, free q.base) (hF : va_F A1 st₀ t) :
    H.size ≤ T'.heap.size ∧ (∀ q : Nat, q < H.size → ¬ A1 q → T'.heap[q]? = H[q]?) ∧ va_S A0 H0 T'.heap (locs ++ L) := by
  obtain ⟨hz, hk⟩ := hF
  rw [h0] at hz hk
  exact ⟨by rw [e1]; exact hz, fun q h1 h2 => by rw [e1]; exact hk q h1 h2,
    ⟨Nat.le_trans hS.1 (by rw [e1]; exact hz), fun q h1 h2 => by rw [e1, hk q (Nat.lt_of_lt_of_le h1 hS.1) (fun z => h2 (hA q (Nat.lt_of_lt_of_le h1 hS.1) z))]; exact hS.2.1 q h1 h2, fun q hq => by
      rcases List.mem_append.mp hq with h | h
      · exact hS.2.2 q h
      · exact hf _ (hL q h)⟩⟩
theorem vx_calli {S SX : Type} {post : Int32 → S → Prop} {px : SX → Prop} {B : S → State → Prop} {BX : String → SX → State → Prop} {AX : Nat → Prop} (hr : vx_Run p l e R s m args below meth c H locs cells slots mc ms (F0 m pc ls st0) rest (va_Qi post B A1 a) (vx_X px BX AX) free) (hS : va_S A0 H0 H locs) (hA : ∀ q, q < H.size → A1 q → A0 q) (hf : ∀ q, free q → A0 q) (hAX : ∀ q, q < H.size → AX q → A0 q)
    (kx : ∀ (E : String) (ce : Cell) (q9 : Addr) (u : SX) (t : State) (H1 : Heap) (locs1 : List Loc), t.heap = H1 → s.vm.Alike t.vm → px u → BX E u t → H.size ≤ H1.size → (∀ q : Nat, q < H.size → ¬ AX q → H1[q]? = H[q]?) → va_S A0 H0 H1 locs1 → H1[q9]? = some ce → ce.vm = .none → s.vm.findClass E = some ce.cls → vx_W p l e R s m args below meth c H1 locs1 (cells + mc) (slots + ms) Q (F0 m pc ls rest) q9)
    (kk : ∀ (r : Int32) (u : S) (t : State) (H1 : Heap) (locs1 : List Loc), t.heap = H1 → s.vm.Alike t.vm → post r u → B u t → H.size ≤ H1.size → (∀ q : Nat, q < H.size → ¬ A1 q → H1[q]? = H[q]?) → va_S A0 H0 H1 locs1 → W p l e R s m args below meth c H1 locs1 (cells + mc) (slots + ms) Q (F0 m (pc + 3) ls (.int r :: rest))) : W p l e R s m args below meth c H locs cells slots Q (F0 m pc ls st0) := by
  intro T hT X
  rcases hr T hT X with ⟨v, st₀, t, T', L, h0, X', hL, e1, e2, ⟨⟨r, u, hv, hp, hb⟩, hF⟩, st⟩ | ⟨q, st₀, t, T', L, E, ce, h0, X', hL, e1, e2, ⟨u, hp, hb, hF⟩, hce, hcv, hcl, st⟩
  · cases hv
    obtain ⟨k1, k2, k3⟩ := vx_keep h0 e1 hS hA hf hL hF
    obtain ⟨t2, a1, b1⟩ := kk r u t T'.heap (locs ++ L) e1.symm (by rw [← e2]; exact X'.warmed.alike) hp hb k1 k2 k3 T' rfl X'
    exact ⟨t2, st t2 a1, b1⟩
  · obtain ⟨k1, k2, k3⟩ := vx_keep h0 e1 hS hAX hf hL hF
    obtain ⟨t2, a1, b1⟩ := kx E ce q u t T'.heap (locs ++ L) e1.symm (by rw [← e2]; exact X'.warmed.alike) hp hb k1 k2 k3 (by rw [e1]; exact hce) hcv hcl T' rfl X'
    exact ⟨t2, st.trans a1, b1⟩
theorem vx_calll {S SX : Type} {post : Int64 → S → Prop} {px : SX → Prop} {B : S → State → Prop} {BX : String → SX → State → Prop} {AX : Nat → Prop} (hr : vx_Run p l e R s m args below meth c H locs cells slots mc ms (F0 m pc ls st0) rest (va_Ql post B A1 a) (vx_X px BX AX) free) (hS : va_S A0 H0 H locs) (hA : ∀ q, q < H.size → A1 q → A0 q) (hf : ∀ q, free q → A0 q) (hAX : ∀ q, q < H.size → AX q → A0 q)
    (kx : ∀ (E : String) (ce : Cell) (q9 : Addr) (u : SX) (t : State) (H1 : Heap) (locs1 : List Loc), t.heap = H1 → s.vm.Alike t.vm → px u → BX E u t → H.size ≤ H1.size → (∀ q : Nat, q < H.size → ¬ AX q → H1[q]? = H[q]?) → va_S A0 H0 H1 locs1 → H1[q9]? = some ce → ce.vm = .none → s.vm.findClass E = some ce.cls → vx_W p l e R s m args below meth c H1 locs1 (cells + mc) (slots + ms) Q (F0 m pc ls rest) q9)
    (kk : ∀ (r : Int64) (u : S) (t : State) (H1 : Heap) (locs1 : List Loc), t.heap = H1 → s.vm.Alike t.vm → post r u → B u t → H.size ≤ H1.size → (∀ q : Nat, q < H.size → ¬ A1 q → H1[q]? = H[q]?) → va_S A0 H0 H1 locs1 → W p l e R s m args below meth c H1 locs1 (cells + mc) (slots + ms) Q (F0 m (pc + 3) ls (.long r :: rest))) : W p l e R s m args below meth c H locs cells slots Q (F0 m pc ls st0) := by
  intro T hT X
  rcases hr T hT X with ⟨v, st₀, t, T', L, h0, X', hL, e1, e2, ⟨⟨r, u, hv, hp, hb⟩, hF⟩, st⟩ | ⟨q, st₀, t, T', L, E, ce, h0, X', hL, e1, e2, ⟨u, hp, hb, hF⟩, hce, hcv, hcl, st⟩
  · cases hv
    obtain ⟨k1, k2, k3⟩ := vx_keep h0 e1 hS hA hf hL hF
    obtain ⟨t2, a1, b1⟩ := kk r u t T'.heap (locs ++ L) e1.symm (by rw [← e2]; exact X'.warmed.alike) hp hb k1 k2 k3 T' rfl X'
    exact ⟨t2, st t2 a1, b1⟩
  · obtain ⟨k1, k2, k3⟩ := vx_keep h0 e1 hS hAX hf hL hF
    obtain ⟨t2, a1, b1⟩ := kx E ce q u t T'.heap (locs ++ L) e1.symm (by rw [← e2]; exact X'.warmed.alike) hp hb k1 k2 k3 (by rw [e1]; exact hce) hcv hcl T' rfl X'
    exact ⟨t2, st.trans a1, b1⟩
theorem vx_callf {S SX : Type} {post : UInt32 → S → Prop} {px : SX → Prop} {B : S → State → Prop} {BX : String → SX → State → Prop} {AX : Nat → Prop} (hr : vx_Run p l e R s m args below meth c H locs cells slots mc ms (F0 m pc ls st0) rest (va_Qf post B A1 a) (vx_X px BX AX) free) (hS : va_S A0 H0 H locs) (hA : ∀ q, q < H.size → A1 q → A0 q) (hf : ∀ q, free q → A0 q) (hAX : ∀ q, q < H.size → AX q → A0 q)
    (kx : ∀ (E : String) (ce : Cell) (q9 : Addr) (u : SX) (t : State) (H1 : Heap) (locs1 : List Loc), t.heap = H1 → s.vm.Alike t.vm → px u → BX E u t → H.size ≤ H1.size → (∀ q : Nat, q < H.size → ¬ AX q → H1[q]? = H[q]?) → va_S A0 H0 H1 locs1 → H1[q9]? = some ce → ce.vm = .none → s.vm.findClass E = some ce.cls → vx_W p l e R s m args below meth c H1 locs1 (cells + mc) (slots + ms) Q (F0 m pc ls rest) q9)
    (kk : ∀ (r : UInt32) (u : S) (t : State) (H1 : Heap) (locs1 : List Loc), t.heap = H1 → s.vm.Alike t.vm → post r u → B u t → H.size ≤ H1.size → (∀ q : Nat, q < H.size → ¬ A1 q → H1[q]? = H[q]?) → va_S A0 H0 H1 locs1 → W p l e R s m args below meth c H1 locs1 (cells + mc) (slots + ms) Q (F0 m (pc + 3) ls (.float r :: rest))) : W p l e R s m args below meth c H locs cells slots Q (F0 m pc ls st0) := by
  intro T hT X
  rcases hr T hT X with ⟨v, st₀, t, T', L, h0, X', hL, e1, e2, ⟨⟨r, u, hv, hp, hb⟩, hF⟩, st⟩ | ⟨q, st₀, t, T', L, E, ce, h0, X', hL, e1, e2, ⟨u, hp, hb, hF⟩, hce, hcv, hcl, st⟩
  · cases hv
    obtain ⟨k1, k2, k3⟩ := vx_keep h0 e1 hS hA hf hL hF
    obtain ⟨t2, a1, b1⟩ := kk r u t T'.heap (locs ++ L) e1.symm (by rw [← e2]; exact X'.warmed.alike) hp hb k1 k2 k3 T' rfl X'
    exact ⟨t2, st t2 a1, b1⟩
  · obtain ⟨k1, k2, k3⟩ := vx_keep h0 e1 hS hAX hf hL hF
    obtain ⟨t2, a1, b1⟩ := kx E ce q u t T'.heap (locs ++ L) e1.symm (by rw [← e2]; exact X'.warmed.alike) hp hb k1 k2 k3 (by rw [e1]; exact hce) hcv hcl T' rfl X'
    exact ⟨t2, st.trans a1, b1⟩
theorem vx_calld {S SX : Type} {post : UInt64 → S → Prop} {px : SX → Prop} {B : S → State → Prop} {BX : String → SX → State → Prop} {AX : Nat → Prop} (hr : vx_Run p l e R s m args below meth c H locs cells slots mc ms (F0 m pc ls st0) rest (va_Qd post B A1 a) (vx_X px BX AX) free) (hS : va_S A0 H0 H locs) (hA : ∀ q, q < H.size → A1 q → A0 q) (hf : ∀ q, free q → A0 q) (hAX : ∀ q, q < H.size → AX q → A0 q)
    (kx : ∀ (E : String) (ce : Cell) (q9 : Addr) (u : SX) (t : State) (H1 : Heap) (locs1 : List Loc), t.heap = H1 → s.vm.Alike t.vm → px u → BX E u t → H.size ≤ H1.size → (∀ q : Nat, q < H.size → ¬ AX q → H1[q]? = H[q]?) → va_S A0 H0 H1 locs1 → H1[q9]? = some ce → ce.vm = .none → s.vm.findClass E = some ce.cls → vx_W p l e R s m args below meth c H1 locs1 (cells + mc) (slots + ms) Q (F0 m pc ls rest) q9)
    (kk : ∀ (r : UInt64) (u : S) (t : State) (H1 : Heap) (locs1 : List Loc), t.heap = H1 → s.vm.Alike t.vm → post r u → B u t → H.size ≤ H1.size → (∀ q : Nat, q < H.size → ¬ A1 q → H1[q]? = H[q]?) → va_S A0 H0 H1 locs1 → W p l e R s m args below meth c H1 locs1 (cells + mc) (slots + ms) Q (F0 m (pc + 3) ls (.double r :: rest))) : W p l e R s m args below meth c H locs cells slots Q (F0 m pc ls st0) := by
  intro T hT X
  rcases hr T hT X with ⟨v, st₀, t, T', L, h0, X', hL, e1, e2, ⟨⟨r, u, hv, hp, hb⟩, hF⟩, st⟩ | ⟨q, st₀, t, T', L, E, ce, h0, X', hL, e1, e2, ⟨u, hp, hb, hF⟩, hce, hcv, hcl, st⟩
  · cases hv
    obtain ⟨k1, k2, k3⟩ := vx_keep h0 e1 hS hA hf hL hF
    obtain ⟨t2, a1, b1⟩ := kk r u t T'.heap (locs ++ L) e1.symm (by rw [← e2]; exact X'.warmed.alike) hp hb k1 k2 k3 T' rfl X'
    exact ⟨t2, st t2 a1, b1⟩
  · obtain ⟨k1, k2, k3⟩ := vx_keep h0 e1 hS hAX hf hL hF
    obtain ⟨t2, a1, b1⟩ := kx E ce q u t T'.heap (locs ++ L) e1.symm (by rw [← e2]; exact X'.warmed.alike) hp hb k1 k2 k3 (by rw [e1]; exact hce) hcv hcl T' rfl X'
    exact ⟨t2, st.trans a1, b1⟩
theorem vx_callv {S SX : Type} {post : S → Prop} {px : SX → Prop} {B : S → State → Prop} {BX : String → SX → State → Prop} {AX : Nat → Prop} (hr : vx_Run p l e R s m args below meth c H locs cells slots mc ms (F0 m pc ls st0) rest (va_Qv post B A1 a) (vx_X px BX AX) free) (hS : va_S A0 H0 H locs) (hA : ∀ q, q < H.size → A1 q → A0 q) (hf : ∀ q, free q → A0 q) (hAX : ∀ q, q < H.size → AX q → A0 q)
    (kx : ∀ (E : String) (ce : Cell) (q9 : Addr) (u : SX) (t : State) (H1 : Heap) (locs1 : List Loc), t.heap = H1 → s.vm.Alike t.vm → px u → BX E u t → H.size ≤ H1.size → (∀ q : Nat, q < H.size → ¬ AX q → H1[q]? = H[q]?) → va_S A0 H0 H1 locs1 → H1[q9]? = some ce → ce.vm = .none → s.vm.findClass E = some ce.cls → vx_W p l e R s m args below meth c H1 locs1 (cells + mc) (slots + ms) Q (F0 m pc ls rest) q9)
    (kk : ∀ (u : S) (t : State) (H1 : Heap) (locs1 : List Loc), t.heap = H1 → s.vm.Alike t.vm → post u → B u t → H.size ≤ H1.size → (∀ q : Nat, q < H.size → ¬ A1 q → H1[q]? = H[q]?) → va_S A0 H0 H1 locs1 → W p l e R s m args below meth c H1 locs1 (cells + mc) (slots + ms) Q (F0 m (pc + 3) ls (rest))) : W p l e R s m args below meth c H locs cells slots Q (F0 m pc ls st0) := by
  intro T hT X
  rcases hr T hT X with ⟨v, st₀, t, T', L, h0, X', hL, e1, e2, ⟨⟨u, hv, hp, hb⟩, hF⟩, st⟩ | ⟨q, st₀, t, T', L, E, ce, h0, X', hL, e1, e2, ⟨u, hp, hb, hF⟩, hce, hcv, hcl, st⟩
  · cases hv
    obtain ⟨k1, k2, k3⟩ := vx_keep h0 e1 hS hA hf hL hF
    obtain ⟨t2, a1, b1⟩ := kk u t T'.heap (locs ++ L) e1.symm (by rw [← e2]; exact X'.warmed.alike) hp hb k1 k2 k3 T' rfl X'
    exact ⟨t2, st t2 a1, b1⟩
  · obtain ⟨k1, k2, k3⟩ := vx_keep h0 e1 hS hAX hf hL hF
    obtain ⟨t2, a1, b1⟩ := kx E ce q u t T'.heap (locs ++ L) e1.symm (by rw [← e2]; exact X'.warmed.alike) hp hb k1 k2 k3 (by rw [e1]; exact hce) hcv hcl T' rfl X'
    exact ⟨t2, st.trans a1, b1⟩
/-- caught by the row x of this method's table; the rows ahead don't take it -/
theorem vx_catch {own name : String} {E : String} {ce : Cell} {q : Addr} (hown : s.vm.findClass own = some m.cls) (pre : List ExceptionTableEntry) (x : ExceptionTableEntry) (suf : List ExceptionTableEntry) (hsplit : c.exceptionTable.toList = pre ++ x :: suf)
    (hpass : ∀ z ∈ pre, covers z pc = false ∨ (z.catchType ≠ 0 ∧ ∃ nm : String, (Cond.classLink own z.catchType nm).before args s = true ∧ va_Nc E nm s)) (hx : covers x pc = true) (h0 : x.catchType ≠ 0)
    (hlink : (Cond.classLink own x.catchType name).before args s = true) (hcast : (Cond.castable E name).before args s = true) (hcell : H[q]? = some ce) (hv : ce.vm = .none) (hcl : s.vm.findClass E = some ce.cls)
    (kk : W p l e R s m args below meth c H locs cells slots Q (F0 m x.handlerPc ls [.ref q])) : vx_W p l e R s m args below meth c H locs cells slots Q (F0 m pc ls rest) q := by
  intro T hT X
  have hpl : e.platform.magicAccessors = ({} : Platform).magicAccessors := by rw [X.admits.platform]
  obtain ⟨c3, c4, hc3, hc4, hasg⟩ := Cond.castable_spec hcast
  cases Option.some.inj (hc3.symm.trans hcl)
  obtain ⟨c5, hc5, hcl5⟩ := Cond.classLink_spec hown hlink e.platform hpl
  cases Option.some.inj (hc4.symm.trans hc5)
  obtain ⟨vm', X', st⟩ := Stand.thenCaughtThrough X q (g := F0 m pc ls rest) rfl (Steps.refl _) (by rw [hT]; exact hcell) (by rw [hv]; rfl) (by obtain ⟨k9, h9, -⟩ := Vm.findClass_spec hcl; exact ⟨k9, h9⟩) pre x suf hsplit
    (fun z hz => by
      rcases hpass z hz with h | ⟨hz0, nm, hl1, hn1⟩
      · exact Or.inl h
      · obtain ⟨c6, hc6, hcl6⟩ := Cond.classLink_spec hown hl1 e.platform hpl
        obtain ⟨a8, b8, h1, h2, h3⟩ := hn1
        cases Option.some.inj (h1.symm.trans hcl)
        cases Option.some.inj (h2.symm.trans hc6)
        exact Or.inr ⟨hz0, _, hcl6, h3⟩) hx (Or.inr ⟨h0, c4, hcl5, hasg⟩)
  obtain ⟨t, a1, b1⟩ := kk (T.setVm vm') hT X'
  exact ⟨t, st.trans a1, b1⟩
end Rows
section Ends
variable {p : Program} {l : Launch} {e : Env} {R : Room} {s : State} {m : MethodId} {args : Array Value} {below : List Frame} {meth : Method} {c : Code} {H : Heap} {locs : List Loc} {cells slots : Nat} {Q : State → Prop}
variable {mc ms : Nat} {free : Addr → Prop} {A0 A1 : Nat → Prop} {H0 : Heap} {a : Array Value} {ls : Array Slot} {st0 rest : List Value}
variable {Qc : Array Value → State → Outcome → State → Prop} {XC : String → State → State → Prop}
/-- what a body that may throw owes at its end -/
def vx_MQ (below : List Frame) (Qc : Array Value → State → Outcome → State → Prop) (XC : String → State → State → Prop) (a : Array Value) (s : State) (mc ms : Nat) (free : Addr → Prop) : State → Prop := fun t =>
  ∃ o, t.status = .running ∧ Ended t below o ∧ vx_Q Qc XC mc ms free a s o t
theorem vx_ret {g : JFrame} {mc ms : Nat} (k : W p l e R s m args below meth c H locs cells slots (MQ below Qc args s mc ms free) g) : W p l e R s m args below meth c H locs cells slots (vx_MQ below Qc XC args s mc ms free) g := by
  intro T hT X
  obtain ⟨t, a1, o, b1, b2, b3, b4⟩ := k T hT X
  exact ⟨t, a1, o, b1, b2, Or.inl ⟨b3, b4⟩⟩
/-- not caught here: it goes on to the caller -/
theorem vx_widen {g : JFrame} {q : Addr} {k n : Nat} (h1 : cells ≤ k) (h2 : slots ≤ n) (kk : vx_W p l e R s m args below meth c H locs k n Q g q) : vx_W p l e R s m args below meth c H locs cells slots Q g q := fun T hT X => kk T hT (stand_widen X h1 h2)
theorem vx_out {pc : Nat} {E : String} {ce : Cell} {q : Addr} {mc ms : Nat} (hout : ∀ x ∈ c.exceptionTable.toList, covers x pc = false) (hlocks : meth.locks = false) (hcell : H[q]? = some ce) (hv : ce.vm = .none) (hcl : s.vm.findClass E = some ce.cls)
    (hx : ∀ t : State, t.heap = H → s.vm.Alike t.vm → XC E s t) (hf : ∀ z ∈ locs, free z.base) (hc : cells ≤ mc) (hs : slots ≤ ms) :
    vx_W p l e R s m args below meth c H locs cells slots (vx_MQ below Qc XC args s mc ms free) (F0 m pc ls rest) q := by
  intro T hT X
  obtain ⟨st1, hrun, hend, hW, hsm⟩ := X.leaveThrown q (g := F0 m pc ls rest) rfl rfl rfl hout hlocks
  have hcell9 : (T.setFrames (.throwing q :: below)).heap[q]? = some ce := by
    show T.heap[q]? = some ce
    rw [hT]; exact hcell
  exact ⟨_, st1, .threw q, hrun, hend, Or.inr ⟨q, rfl, E, ce, locs, hx _ hT hW.alike, hcell9, hv, hcl, hW, hsm.mono hc hs, hf⟩⟩
theorem vx_frame {U : State} {k n : Nat} (h : s.sameButNew ({ U with vm := s.vm } : State) locs k n) : s.heap.size ≤ U.heap.size ∧ ∀ q : Nat, q < s.heap.size → (∀ z ∈ locs, z.base ≠ q) → U.heap[q]? = s.heap[q]? := by
  obtain ⟨-, h2, -, -, -, h6⟩ := h
  refine ⟨h2, fun q hq hz => ?_⟩
  obtain ⟨c9, e1, e2, e3, e4⟩ := h6 q _ (Array.getElem?_eq_getElem hq)
  have hs : c9.slots = (s.heap[q]).slots := Array.ext_getElem? fun i => e4 i fun hm => hz _ hm rfl
  have h9 : c9 = s.heap[q] := by
    rw [hs] at e2
    exact e2
  have e5 : U.heap[q]? = some c9 := e1
  rw [e5, h9, Array.getElem?_eq_getElem hq]
/-- the words of a throw but the four that speak of the heap -/
def vx_no (w : Cond) : Bool := decide (w ≠ .isRef (.static Bundle.tN "UNASSIGNED_STACK" Bundle.steD)) && decide (w ≠ .isRef (.static Bundle.tN "SUPPRESSED_SENTINEL" Bundle.listD)) && decide (w ≠ .laysStatic Bundle.tN "UNASSIGNED_STACK" Bundle.steD) && decide (w ≠ .laysStatic Bundle.tN "SUPPRESSED_SENTINEL" Bundle.listD)
def vx_at0 (own : String) (ic : Nat) (X : String) (names : List String) : List Cond := (Bundle.ownAtoms0 own ic X names).filter vx_no
def vx_atS (own : String) (ic : Nat) (X : String) (names : List String) : List Cond := (Bundle.ownAtoms own ic X names).filter vx_no
/-- a word that the tables alone decide, or a good one -/
def vx_ot (w : Cond) : Bool := w.onTables || goodWord w
theorem vx_ot_at {args a' : Array Value} {s U : State} {w : Cond} (hW : s.WarmedH U.vm) (hvm : s.vm = U.vm) (hg : vx_ot w = true) (h : w.before args s = true) : w.before a' U = true := by
  simp only [vx_ot, Bool.or_eq_true] at hg
  rcases hg with hg | hg
  · exact va_tabs hg hvm h
  · exact word_at hW (good_of_word hg) h
/-- a list's words: the good ones out of the method's own list, the others by premises of their own -/
theorem vx_hat {args : Array Value} {s : State} {L B : List Cond} (h1 : ∀ w ∈ L.filter goodWord, w.before args s = true) (h2 : ∀ w ∈ L.filter (fun w => !goodWord w), w ∈ B) (h3 : ∀ w ∈ B, w.before args s = true) : ∀ w ∈ L, w.before args s = true := by
  intro w hw
  by_cases g : goodWord w = true
  · exact h1 w (List.mem_filter.mpr ⟨hw, g⟩)
  · refine h3 w (h2 w (List.mem_filter.mpr ⟨hw, ?_⟩))
    show (!goodWord w) = true
    cases hgw : goodWord w
    · rfl
    · exact absurd hgw g
theorem vx_c {args : Array Value} {s : State} {w : Cond} {B : List Cond} (h : w.before args s = true) (t : ∀ w ∈ B, w.before args s = true) : ∀ w' ∈ w :: B, w'.before args s = true := fun w' h' => (List.mem_cons.mp h').elim (fun e => by rw [e]; exact h) (t w')
theorem vx_n {args : Array Value} {s : State} : ∀ w ∈ ([] : List Cond), w.before args s = true := fun _ h => nomatch h
theorem vx_own {args : Array Value} {s : State} {L : List Cond} (h1 : ∀ w ∈ L.filter vx_no, w.before args s = true)
    (hU : (Cond.isRef (.static Bundle.tN "UNASSIGNED_STACK" Bundle.steD)).before args s = true) (hN : (Cond.isRef (.static Bundle.tN "SUPPRESSED_SENTINEL" Bundle.listD)).before args s = true)
    (lU : (Cond.laysStatic Bundle.tN "UNASSIGNED_STACK" Bundle.steD).before args s = true) (lN : (Cond.laysStatic Bundle.tN "SUPPRESSED_SENTINEL" Bundle.listD).before args s = true) : ∀ w ∈ L, w.before args s = true := by
  intro w hw
  by_cases e1 : w = .isRef (.static Bundle.tN "UNASSIGNED_STACK" Bundle.steD)
  · rw [e1]; exact hU
  · by_cases e2 : w = .isRef (.static Bundle.tN "SUPPRESSED_SENTINEL" Bundle.listD)
    · rw [e2]; exact hN
    · by_cases e3 : w = .laysStatic Bundle.tN "UNASSIGNED_STACK" Bundle.steD
      · rw [e3]; exact lU
      · by_cases e4 : w = .laysStatic Bundle.tN "SUPPRESSED_SENTINEL" Bundle.listD
        · rw [e4]; exact lN
        · exact h1 w (List.mem_filter.mpr ⟨hw, by unfold vx_no; rw [decide_eq_true e1, decide_eq_true e2, decide_eq_true e3, decide_eq_true e4]; rfl⟩)
/-- where a static field lies, its class's statics cell in H -/
def vx_L (C n d : String) (A : Nat → Prop) (U : State) (H : Heap) : Prop := ∃ (c : ClassId) (k : Class) (i : Nat) (f : Field) (a : Nat) (cell : Cell), U.vm.findClass C = some c ∧ U.fieldFound? C n d = some (c, k, i, f) ∧ f.isStatic = true ∧ k.statics = some a ∧ H[a]? = some cell ∧ cell.vm.isStatics = true ∧ cell.cls = c ∧ f.slot < cell.slots.size ∧ k.staticTypes[f.slot]? = some f.type ∧ ¬ A a
theorem vx_L.moved {C n d : String} {A : Nat → Prop} {u U : State} {H : Heap} (hvm : u.vm.Alike U.vm) (h : vx_L C n d A u H) : vx_L C n d A U H := by
  obtain ⟨c, k, i, f, a, cell, h1, h2, h3, h4, h5, h6, h7, h8, h9, h10⟩ := h
  obtain ⟨k', hi', he⟩ := State.fieldFound?_setVm hvm h2
  exact ⟨c, k', i, f, a, cell, by rw [hvm.findClass]; exact h1, hi', h3, by rw [he]; exact h4, h5, h6, h7, h8, by rw [he]; exact h9, h10⟩
theorem vx_L.kept {C n d : String} {A : Nat → Prop} {U : State} {H H1 : Heap} (h : vx_L C n d A U H) (hq : ∀ a : Nat, a < H.size → ¬ A a → H1[a]? = H[a]?) : vx_L C n d A U H1 := by
  obtain ⟨c, k, i, f, a, cell, h1, h2, h3, h4, h5, h6, h7, h8, h9, h10⟩ := h
  exact ⟨c, k, i, f, a, cell, h1, h2, h3, h4, by rw [hq a (Array.getElem?_eq_some_iff.mp h5).1 h10]; exact h5, h6, h7, h8, h9, h10⟩
theorem vx_L.narrow {C n d : String} {A B : Nat → Prop} {U : State} {H : Heap} (h : vx_L C n d A U H) (hAB : ∀ q, B q → A q) : vx_L C n d B U H := by
  obtain ⟨c, k, i, f, a, cell, h1, h2, h3, h4, h5, h6, h7, h8, h9, h10⟩ := h
  exact ⟨c, k, i, f, a, cell, h1, h2, h3, h4, h5, h6, h7, h8, h9, fun z => h10 (hAB _ z)⟩
theorem vx_L.word {C n d : String} {A : Nat → Prop} {s : State} {args : Array Value} (h : vx_L C n d A s s.heap) : (Cond.laysStatic C n d).before args s = true := by
  obtain ⟨c, k, i, f, a, cell, h1, h2, h3, h4, h5, h6, h7, h8, h9, -⟩ := h
  show (Cond.laysStatic C n d).holds args s none s [] = true
  exact Cond.laysStatic_of h1 h2 h3 h4 h5 h6 h7 h8 h9
/-- .. and what it holds: null or some reference -/
def vx_Zq (C n d : String) (A : Nat → Prop) (U : State) (H : Heap) : Prop := va_Zq C n d A U H ∧ vx_L C n d A U H
theorem vx_Zq.moved {C n d : String} {A : Nat → Prop} {u U : State} {H : Heap} (hvm : u.vm.Alike U.vm) (h : vx_Zq C n d A u H) : vx_Zq C n d A U H := ⟨va_Zq.moved hvm h.1, vx_L.moved hvm h.2⟩
theorem vx_Zq.kept {C n d : String} {A : Nat → Prop} {U : State} {H H1 : Heap} (h : vx_Zq C n d A U H) (hq : ∀ a : Nat, a < H.size → ¬ A a → H1[a]? = H[a]?) : vx_Zq C n d A U H1 := ⟨va_Zq.kept h.1 hq, vx_L.kept h.2 hq⟩
theorem vx_Zq.narrow {C n d : String} {A B : Nat → Prop} {U : State} {H : Heap} (h : vx_Zq C n d A U H) (hAB : ∀ q, B q → A q) : vx_Zq C n d B U H := ⟨va_Zq.narrow h.1 hAB, vx_L.narrow h.2 hAB⟩
theorem vx_Zqof {args : Array Value} {s : State} {C n d : String} {A : Nat → Prop} (hl : (Cond.laysStatic C n d).before args s = true) (hini : (Cond.initialized C).before args s = true) (h : (Cond.isRef (.static C n d)).before args s = true) (hA : ∀ a : Nat, a < s.heap.size → ¬ A a) : vx_Zq C n d A s s.heap := by
  refine ⟨va_Zqof hl hini h hA, ?_⟩
  obtain ⟨c, k, i, f, a, cell, h1, h2, h3, h4, h5, h6, h7, h8, h9⟩ := Cond.laysStatic_spec hl
  exact ⟨c, k, i, f, a, cell, h1, h2, h3, h4, h5, h6, h7, h8, h9, hA a (Array.getElem?_eq_some_iff.mp h5).1⟩
theorem vx_isRef {C n d : String} {v : Value} {A : Nat → Prop} {s : State} {args : Array Value} (h : va_Z C n d v A s s.heap) (hv : v.isRef = true) : (Cond.isRef (.static C n d)).before args s = true := by
  obtain ⟨cf, kf, fi, f, a, cell, h1, h2, h3, h4, h5, h6, h7, -⟩ := h
  have he : (Term.static C n d).eval args s none [] s = some v := by
    simp [Term.eval, State.fieldNamed?, h1, h2, h4, h5, h6, h7]
  simp only [Cond.before, Cond.holds, Cond.value, he]
  cases v <;> simp_all [Value.isRef]
theorem vx_isRefq {C n d : String} {A : Nat → Prop} {s : State} {args : Array Value} (h : va_Zq C n d A s s.heap) : (Cond.isRef (.static C n d)).before args s = true := by
  rcases h with h | ⟨t, h⟩
  · exact vx_isRef h rfl
  · exact vx_isRef h rfl
/-- the same frame, seen from here: as if the method were called anew in this heap -/
theorem vx_rebase {T : State} (X : Stand p l e R s m args below meth c T locs cells slots) {R' : Room} (hf : R'.frames ≤ R.frames) (hl : R'.locals ≤ R.locals) (hc : cells + R'.cells ≤ R.cells) (hs : slots + R'.slots ≤ R.slots) :
    Stand p l e R' ((T.setVm s.vm).setFrames (.invoking m args :: below)) m args below meth c T [] 0 0 := by
  have htop : (T.setVm s.vm).topJava?.isSome := X.here.top
  have hF : ((T.setVm s.vm).setFrames (.invoking m args :: below)).frames = .invoking m args :: below := State.frames_setFrames _ (State.cur_lt_of_top htop)
  obtain ⟨g₀, hg0⟩ := Option.isSome_iff_exists.mp htop
  obtain ⟨r, hr⟩ := State.topJava?_eq_some.mp hg0
  have hl9 : e.platform.stackLimits (T.setVm s.vm).me = e.platform.stackLimits s.me := X.limits
  have hb9 : (T.setVm s.vm).me.stackBytes = s.me.stackBytes := X.bytes
  refine ⟨X.admits, X.cas, X.clock, hF, ?_, X.hears, X.method, X.code, X.here, X.tail, X.warmed, ?_, ?_, ?_⟩
  · have h := X.room
    have hU : ((T.setVm s.vm).setFrames (.invoking m args :: below)).localsInUse = s.localsInUse := by
      rw [State.localsInUse_invoking hF (meth := meth) (c := c) X.method X.code, State.localsInUse_invoking X.frames X.method X.code]
    simp only [State.hasRoom, Bool.and_eq_true, decide_eq_true_eq] at h ⊢
    obtain ⟨⟨⟨⟨h1, h2, h3, h4, h5, h6⟩, h7⟩, h8⟩, h9⟩ := h
    rw [X.frames, List.length_cons] at h2 h3
    have q1 := X.heapSize
    have q2 := X.used
    simp only [hF, hU, List.length_cons, State.stackLimits_setFrames, State.stackBytes_setFrames, hl9, hb9]
    refine ⟨⟨⟨⟨by omega, by omega, by omega, by omega, by omega, h6⟩, ?_⟩, ?_⟩, X.book⟩
    · show T.heap.size + R'.cells ≤ e.platform.maxCells
      omega
    · show T.slotsUsed + R'.slots ≤ e.platform.maxSlots
      omega
  · rw [State.stackLimits_setFrames]; rfl
  · rw [State.stackBytes_setFrames]; rfl
  · refine ⟨?_, Nat.le_refl _, Nat.le_refl _, ?_, ?_, fun a c9 h9 => ⟨c9, h9, rfl, rfl, fun _ _ => rfl⟩⟩
    · obtain ⟨t, ht, -⟩ := State.frames_cons hr
      show T.setVm s.vm = { ((T.setVm s.vm).setFrames (.invoking m args :: below)).setFrames (T.setVm s.vm).frames with heap := T.heap, slotsUsed := T.slotsUsed }
      rw [State.setFrames_setFrames, State.setFrames_self ht]
      rfl
    · show T.slotsUsed = T.slotsUsed + ((T.heap.toList.drop T.heap.size).map (·.slots.size)).sum
      rw [List.drop_eq_nil_of_le (Nat.le_of_eq Array.length_toList)]
      rfl
    · show ((T.heap.toList.drop T.heap.size).map (·.slots.size)).sum ≤ 0
      rw [List.drop_eq_nil_of_le (Nat.le_of_eq Array.length_toList)]
      exact Nat.le_refl _
/-- 'throw new E()': new; dup; invokespecial; athrow -/
theorem vx_throw0 {cc : ByteArray} {pc : Nat} (hexec : p.tables.exec = Jvm.exec) (hb : c.code = cc) (hl : l.stackTraces = false) {own cls : String} {names : List String} {ik ic mc ms : Nat} {A : Nat → Prop}
    (hown : s.vm.findClass own = some m.cls) (hcls : Bundle.fit cls = true) (hnames : ∀ n ∈ names, Bundle.fit n = true)
    (hk : (Cond.classLink own ik cls).before args s = true) (hini : (Cond.initialized cls).before args s = true) (hat : ∀ w ∈ vx_at0 own ic cls names, w.before args s = true)
    (hgood : ∀ w ∈ Cond.classLink own ik cls :: Cond.initialized cls :: vx_at0 own ic cls names, vx_ot w = true)
    (hU : vx_Zq Bundle.tN "UNASSIGNED_STACK" Bundle.steD A s s.heap) (hN : vx_Zq Bundle.tN "SUPPRESSED_SENTINEL" Bundle.listD A s s.heap) (hS : va_S A s.heap H locs) (hsize : ls.size = c.maxLocals)
    (d0 : decode cc pc = .ok (.new ik, 3)) (d3 : decode cc (pc + 3) = .ok (.dup, 1)) (d4 : decode cc (pc + 4) = .ok (.invokespecial ic, 3)) (d7 : decode cc (pc + 7) = .ok (.athrow, 1))
    (hout : ∀ x ∈ c.exceptionTable.toList, covers x (pc + 7) = false)
    (hRframes : names.length + 3 < R.frames) (hRlocals : (rest.map fun v => v.category).sum + (13 * (names.length + 1) + 42) ≤ R.locals) (hRcells : cells + 1 ≤ R.cells) (hRslots : slots + 6 ≤ R.slots) (hlocks : meth.locks = false)
    (hx : ∀ t : State, s.vm.Alike t.vm → H.size ≤ t.heap.size → (∀ q : Nat, q < H.size → t.heap[q]? = H[q]?) → XC cls s t)
    (hf : ∀ z ∈ locs, free z.base) (hc : cells + 1 ≤ mc) (hs : slots + 6 ≤ ms) :
    W p l e R s m args below meth c H locs cells slots (vx_MQ below Qc XC args s mc ms free) (F0 m pc ls rest) := by
  intro T hT X
  have htr : e.platform.stackTraces = false := (show e.platform.stackTraces = l.stackTraces by rw [X.admits.platform]).trans hl
  have Y := vx_rebase X (R' := { frames := R.frames, locals := R.locals, cells := 1, slots := 6 }) (Nat.le_refl _) (Nat.le_refl _) hRcells hRslots
  obtain ⟨s', hA⟩ : ∃ z, z = (T.setVm s.vm).setFrames (.invoking m args :: below) := ⟨_, rfl⟩
  rw [← hA] at Y
  have hvm : s'.vm = s.vm := by rw [hA]; rfl
  have hhp : s'.heap = H := by rw [hA]; exact hT
  have hW0 : s.WarmedH s'.vm := by rw [hvm]; exact State.WarmedH.refl s
  have hat' : ∀ w ∈ vx_at0 own ic cls names, w.before args s' = true := fun w hw => vx_ot_at hW0 hvm.symm (hgood w (List.mem_cons_of_mem _ (List.mem_cons_of_mem _ hw))) (hat w hw)
  have hk' : (Cond.classLink own ik cls).before args s' = true := vx_ot_at hW0 hvm.symm (hgood _ List.mem_cons_self) hk
  have hini' : (Cond.initialized cls).before args s' = true := vx_ot_at hW0 hvm.symm (hgood _ (List.mem_cons_of_mem _ List.mem_cons_self)) hini
  have hU' : vx_Zq Bundle.tN "UNASSIGNED_STACK" Bundle.steD A s' s'.heap := by rw [hhp]; exact vx_Zq.moved hW0.alike (hU.kept hS.2.1)
  have hN' : vx_Zq Bundle.tN "SUPPRESSED_SENTINEL" Bundle.listD A s' s'.heap := by rw [hhp]; exact vx_Zq.moved hW0.alike (hN.kept hS.2.1)
  have h : ∀ w ∈ Bundle.ownAtoms0 own ic cls names, w.before args s' = true := vx_own hat' (vx_isRefq hU'.1) (vx_isRefq hN'.1) hU'.2.word hN'.2.word
  have hown' : s'.vm.findClass own = some m.cls := by rw [hvm]; exact hown
  have hins : (Cond.instantiable cls 6).before args s' = true := h _ (by simp [Bundle.ownAtoms0])
  obtain ⟨vm₁, cX, kX, hfX, hkX, -, -, X₁, st1⟩ := Y.newCold hexec (own := own) (C := cls) (index := ik) (n := 6) hown' hk' hins hini'
    (g := F0 m pc ls rest) rfl (by rw [hb]; exact d0) (Nat.le_refl _) (Nat.le_refl _)
  generalize hT1 : (T.setVm vm₁).pushCell { cls := cX, slots := kX.instanceTypes.map defaultValue, vm := .none } = T1 at X₁ st1
  have hcat : (Value.ref T.heap.size).category = 1 := rfl
  have hcellA : T1.heap[T.heap.size]? = some (freshCell cX kX) := by rw [← hT1]; exact State.heap_pushCell_size _ _
  have d3' : decode c.code (pc + 3) = .ok (.dup, 1) := by rw [hb]; exact d3
  obtain ⟨U, hsteps, hrun, hend, hW, hsame, ce, hce, hO⟩ := X₁.ctorThrow0 hexec htr (own := own) (cls := cls) (names := names) (ic := ic) hown' hcls hnames h (fun x hx => nomatch hx) hfX hkX hcellA (by rw [hhp, hT]; exact Nat.le_refl _)
    (g := { method := m, pc := pc + 4, locals := ls, stack := .ref T.heap.size :: .ref T.heap.size :: rest, locked := none }) rfl hsize rfl rfl (rest := rest) rfl
    (by rw [hb]; exact d4) (by rw [hb]; exact d7) hout hRframes (by simp only [List.map_cons, List.sum_cons, hcat]; omega) hlocks
  obtain ⟨f1, f2⟩ := vx_frame hsame
  rw [hhp] at f1 f2
  have hWs : s.WarmedH U.vm := State.WarmedH.trans hW0 hW
  have hcl : s.vm.findClass cls = some ce.cls := by
    have h9 := hO.cls
    rw [hvm] at h9
    exact h9
  have hall : s.sameButNew ({ U with vm := s.vm } : State) locs mc ms := by
    subst hA
    obtain ⟨e1, e2⟩ := hsame
    rw [State.setFrames_setFrames] at e1
    have h2 : (T.setVm s.vm).sameButNew ({ U with vm := s.vm } : State) [] (0 + 1) (0 + 6) := ⟨e1, e2⟩
    have h3 := X.same.trans h2
    rw [List.append_nil] at h3
    exact h3.mono hc hs
  refine ⟨U, ?_, .threw T.heap.size, hrun, hend, Or.inr ⟨T.heap.size, rfl, cls, ce, locs, hx U hWs.alike f1 (fun q hq => f2 q hq (fun z hz => nomatch hz)), hce, hO.vm, hcl, hWs, hall, hf⟩⟩
  refine st1 _ ?_
  show Steps p.tables e below (T1.setTop { method := m, pc := pc + 3, locals := ls, stack := .ref T.heap.size :: rest, locked := none }) _
  jvm_step X₁.here [X₁.here.top, hexec, d3', Value.category]
  exact hsteps
/-- 'throw new E("text")': new; dup; ldc; invokespecial; athrow -/
theorem vx_throwS {cc : ByteArray} {pc : Nat} (hexec : p.tables.exec = Jvm.exec) (hb : c.code = cc) (hl : l.stackTraces = false) {own cls text : String} {names : List String} {ik is ic mc ms sa : Nat} {A : Nat → Prop}
    (hown : s.vm.findClass own = some m.cls) (hcls : Bundle.fit cls = true) (hnames : ∀ n ∈ names, Bundle.fit n = true)
    (hk : (Cond.classLink own ik cls).before args s = true) (hini : (Cond.initialized cls).before args s = true) (hstr : vk_R own is text sa s) (hat : ∀ w ∈ vx_atS own ic cls names, w.before args s = true)
    (hgood : ∀ w ∈ Cond.classLink own ik cls :: Cond.initialized cls :: vx_atS own ic cls names, vx_ot w = true)
    (hU : vx_Zq Bundle.tN "UNASSIGNED_STACK" Bundle.steD A s s.heap) (hN : vx_Zq Bundle.tN "SUPPRESSED_SENTINEL" Bundle.listD A s s.heap) (hS : va_S A s.heap H locs) (hsize : ls.size = c.maxLocals)
    (d0 : decode cc pc = .ok (.new ik, 3)) (d3 : decode cc (pc + 3) = .ok (.dup, 1)) (d4 : decode cc (pc + 4) = .ok (.ldc is, 2)) (d6 : decode cc (pc + 6) = .ok (.invokespecial ic, 3)) (d9 : decode cc (pc + 9) = .ok (.athrow, 1))
    (hout : ∀ x ∈ c.exceptionTable.toList, covers x (pc + 9) = false)
    (hRframes : names.length + 3 < R.frames) (hRlocals : (rest.map fun v => v.category).sum + (13 * (names.length + 1) + 43) ≤ R.locals) (hRcells : cells + 1 ≤ R.cells) (hRslots : slots + 6 ≤ R.slots) (hlocks : meth.locks = false)
    (hx : ∀ t : State, s.vm.Alike t.vm → H.size ≤ t.heap.size → (∀ q : Nat, q < H.size → t.heap[q]? = H[q]?) → XC cls s t)
    (hf : ∀ z ∈ locs, free z.base) (hc : cells + 1 ≤ mc) (hs : slots + 6 ≤ ms) :
    W p l e R s m args below meth c H locs cells slots (vx_MQ below Qc XC args s mc ms free) (F0 m pc ls rest) := by
  intro T hT X
  have htr : e.platform.stackTraces = false := (show e.platform.stackTraces = l.stackTraces by rw [X.admits.platform]).trans hl
  have Y := vx_rebase X (R' := { frames := R.frames, locals := R.locals, cells := 1, slots := 6 }) (Nat.le_refl _) (Nat.le_refl _) hRcells hRslots
  obtain ⟨s', hA⟩ : ∃ z, z = (T.setVm s.vm).setFrames (.invoking m args :: below) := ⟨_, rfl⟩
  rw [← hA] at Y
  have hvm : s'.vm = s.vm := by rw [hA]; rfl
  have hhp : s'.heap = H := by rw [hA]; exact hT
  have hW0 : s.WarmedH s'.vm := by rw [hvm]; exact State.WarmedH.refl s
  have hat' : ∀ w ∈ vx_atS own ic cls names, w.before args s' = true := fun w hw => vx_ot_at hW0 hvm.symm (hgood w (List.mem_cons_of_mem _ (List.mem_cons_of_mem _ hw))) (hat w hw)
  have hk' : (Cond.classLink own ik cls).before args s' = true := vx_ot_at hW0 hvm.symm (hgood _ List.mem_cons_self) hk
  have hini' : (Cond.initialized cls).before args s' = true := vx_ot_at hW0 hvm.symm (hgood _ (List.mem_cons_of_mem _ List.mem_cons_self)) hini
  have hU' : vx_Zq Bundle.tN "UNASSIGNED_STACK" Bundle.steD A s' s'.heap := by rw [hhp]; exact vx_Zq.moved hW0.alike (hU.kept hS.2.1)
  have hN' : vx_Zq Bundle.tN "SUPPRESSED_SENTINEL" Bundle.listD A s' s'.heap := by rw [hhp]; exact vx_Zq.moved hW0.alike (hN.kept hS.2.1)
  have h : ∀ w ∈ Bundle.ownAtoms own ic cls names, w.before args s' = true := vx_own hat' (vx_isRefq hU'.1) (vx_isRefq hN'.1) hU'.2.word hN'.2.word
  have hown' : s'.vm.findClass own = some m.cls := by rw [hvm]; exact hown
  have hins : (Cond.instantiable cls 6).before args s' = true := h _ (by simp [Bundle.ownAtoms])
  obtain ⟨vm₁, cX, kX, hfX, hkX, -, -, X₁, st1⟩ := Y.newCold hexec (own := own) (C := cls) (index := ik) (n := 6) hown' hk' hins hini'
    (g := F0 m pc ls rest) rfl (by rw [hb]; exact d0) (Nat.le_refl _) (Nat.le_refl _)
  generalize hT1 : (T.setVm vm₁).pushCell { cls := cX, slots := kX.instanceTypes.map defaultValue, vm := .none } = T1 at X₁ st1
  have hcat : (Value.ref T.heap.size).category = 1 := rfl
  have hcellA : T1.heap[T.heap.size]? = some (freshCell cX kX) := by rw [← hT1]; exact State.heap_pushCell_size _ _
  have d3' : decode c.code (pc + 3) = .ok (.dup, 1) := by rw [hb]; exact d3
  have d4' : decode c.code (pc + 4) = .ok (.ldc is, 2) := by rw [hb]; exact d4
  have hstr' : vk_R own is text sa s' := vk_R.warm hW0 hstr
  obtain ⟨U, hsteps, hrun, hend, hW, hsame, ce, hce, hO⟩ := X₁.ctorThrowS hexec htr (own := own) (cls := cls) (names := names) (ic := ic) hown' hcls hnames h (fun x hx => nomatch hx) hfX hkX hcellA (by rw [hhp, hT]; exact Nat.le_refl _) (msg := .ref sa) rfl
    (g := { method := m, pc := pc + 6, locals := ls, stack := .ref sa :: .ref T.heap.size :: .ref T.heap.size :: rest, locked := none }) rfl hsize rfl rfl (rest := rest) rfl
    (by rw [hb]; exact d6) (by rw [hb]; exact d9) hout hRframes (by simp only [List.map_cons, List.sum_cons, hcat]; omega) hlocks
  obtain ⟨f1, f2⟩ := vx_frame hsame
  rw [hhp] at f1 f2
  have hWs : s.WarmedH U.vm := State.WarmedH.trans hW0 hW
  have hcl : s.vm.findClass cls = some ce.cls := by
    have h9 := hO.cls
    rw [hvm] at h9
    exact h9
  have hall : s.sameButNew ({ U with vm := s.vm } : State) locs mc ms := by
    subst hA
    obtain ⟨e1, e2⟩ := hsame
    rw [State.setFrames_setFrames] at e1
    have h2 : (T.setVm s.vm).sameButNew ({ U with vm := s.vm } : State) [] (0 + 1) (0 + 6) := ⟨e1, e2⟩
    have h3 := X.same.trans h2
    rw [List.append_nil] at h3
    exact h3.mono hc hs
  refine ⟨U, ?_, .threw T.heap.size, hrun, hend, Or.inr ⟨T.heap.size, rfl, cls, ce, locs, hx U hWs.alike f1 (fun q hq => f2 q hq (fun z hz => nomatch hz)), hce, hO.vm, hcl, hWs, hall, hf⟩⟩
  refine st1 _ ?_
  show Steps p.tables e below (T1.setTop { method := m, pc := pc + 3, locals := ls, stack := .ref T.heap.size :: rest, locked := none }) _
  jvm_step X₁.here [X₁.here.top, hexec, d3', Value.category]
  exact X₁.ldcString hexec (own := own) (text := text) (index := is) (a := sa) hown' hstr'.1 hstr'.2
    (g := { method := m, pc := pc + 4, locals := ls, stack := .ref T.heap.size :: .ref T.heap.size :: rest, locked := none }) rfl d4' _ hsteps
/-- 'throw new E("text")', the text by a wide index -/
theorem vx_throwSW {cc : ByteArray} {pc : Nat} (hexec : p.tables.exec = Jvm.exec) (hb : c.code = cc) (hl : l.stackTraces = false) {own cls text : String} {names : List String} {ik is ic mc ms sa : Nat} {A : Nat → Prop}
    (hown : s.vm.findClass own = some m.cls) (hcls : Bundle.fit cls = true) (hnames : ∀ n ∈ names, Bundle.fit n = true)
    (hk : (Cond.classLink own ik cls).before args s = true) (hini : (Cond.initialized cls).before args s = true) (hstr : vk_R own is text sa s) (hat : ∀ w ∈ vx_atS own ic cls names, w.before args s = true)
    (hgood : ∀ w ∈ Cond.classLink own ik cls :: Cond.initialized cls :: vx_atS own ic cls names, vx_ot w = true)
    (hU : vx_Zq Bundle.tN "UNASSIGNED_STACK" Bundle.steD A s s.heap) (hN : vx_Zq Bundle.tN "SUPPRESSED_SENTINEL" Bundle.listD A s s.heap) (hS : va_S A s.heap H locs) (hsize : ls.size = c.maxLocals)
    (d0 : decode cc pc = .ok (.new ik, 3)) (d3 : decode cc (pc + 3) = .ok (.dup, 1)) (d4 : decode cc (pc + 4) = .ok (.ldc_w is, 3)) (d7 : decode cc (pc + 7) = .ok (.invokespecial ic, 3)) (d10 : decode cc (pc + 10) = .ok (.athrow, 1))
    (hout : ∀ x ∈ c.exceptionTable.toList, covers x (pc + 10) = false)
    (hRframes : names.length + 3 < R.frames) (hRlocals : (rest.map fun v => v.category).sum + (13 * (names.length + 1) + 43) ≤ R.locals) (hRcells : cells + 1 ≤ R.cells) (hRslots : slots + 6 ≤ R.slots) (hlocks : meth.locks = false)
    (hx : ∀ t : State, s.vm.Alike t.vm → H.size ≤ t.heap.size → (∀ q : Nat, q < H.size → t.heap[q]? = H[q]?) → XC cls s t)
    (hf : ∀ z ∈ locs, free z.base) (hc : cells + 1 ≤ mc) (hs : slots + 6 ≤ ms) :
    W p l e R s m args below meth c H locs cells slots (vx_MQ below Qc XC args s mc ms free) (F0 m pc ls rest) := by
  intro T hT X
  have htr : e.platform.stackTraces = false := (show e.platform.stackTraces = l.stackTraces by rw [X.admits.platform]).trans hl
  have Y := vx_rebase X (R' := { frames := R.frames, locals := R.locals, cells := 1, slots := 6 }) (Nat.le_refl _) (Nat.le_refl _) hRcells hRslots
  obtain ⟨s', hA⟩ : ∃ z, z = (T.setVm s.vm).setFrames (.invoking m args :: below) := ⟨_, rfl⟩
  rw [← hA] at Y
  have hvm : s'.vm = s.vm := by rw [hA]; rfl
  have hhp : s'.heap = H := by rw [hA]; exact hT
  have hW0 : s.WarmedH s'.vm := by rw [hvm]; exact State.WarmedH.refl s
  have hat' : ∀ w ∈ vx_atS own ic cls names, w.before args s' = true := fun w hw => vx_ot_at hW0 hvm.symm (hgood w (List.mem_cons_of_mem _ (List.mem_cons_of_mem _ hw))) (hat w hw)
  have hk' : (Cond.classLink own ik cls).before args s' = true := vx_ot_at hW0 hvm.symm (hgood _ List.mem_cons_self) hk
  have hini' : (Cond.initialized cls).before args s' = true := vx_ot_at hW0 hvm.symm (hgood _ (List.mem_cons_of_mem _ List.mem_cons_self)) hini
  have hU' : vx_Zq Bundle.tN "UNASSIGNED_STACK" Bundle.steD A s' s'.heap := by rw [hhp]; exact vx_Zq.moved hW0.alike (hU.kept hS.2.1)
  have hN' : vx_Zq Bundle.tN "SUPPRESSED_SENTINEL" Bundle.listD A s' s'.heap := by rw [hhp]; exact vx_Zq.moved hW0.alike (hN.kept hS.2.1)
  have h : ∀ w ∈ Bundle.ownAtoms own ic cls names, w.before args s' = true := vx_own hat' (vx_isRefq hU'.1) (vx_isRefq hN'.1) hU'.2.word hN'.2.word
  have hown' : s'.vm.findClass own = some m.cls := by rw [hvm]; exact hown
  have hins : (Cond.instantiable cls 6).before args s' = true := h _ (by simp [Bundle.ownAtoms])
  obtain ⟨vm₁, cX, kX, hfX, hkX, -, -, X₁, st1⟩ := Y.newCold hexec (own := own) (C := cls) (index := ik) (n := 6) hown' hk' hins hini'
    (g := F0 m pc ls rest) rfl (by rw [hb]; exact d0) (Nat.le_refl _) (Nat.le_refl _)
  generalize hT1 : (T.setVm vm₁).pushCell { cls := cX, slots := kX.instanceTypes.map defaultValue, vm := .none } = T1 at X₁ st1
  have hcat : (Value.ref T.heap.size).category = 1 := rfl
  have hcellA : T1.heap[T.heap.size]? = some (freshCell cX kX) := by rw [← hT1]; exact State.heap_pushCell_size _ _
  have d3' : decode c.code (pc + 3) = .ok (.dup, 1) := by rw [hb]; exact d3
  have d4' : decode c.code (pc + 4) = .ok (.ldc_w is, 3) := by rw [hb]; exact d4
  have hstr' : vk_R own is text sa s' := vk_R.warm hW0 hstr
  obtain ⟨U, hsteps, hrun, hend, hW, hsame, ce, hce, hO⟩ := X₁.ctorThrowS hexec htr (own := own) (cls := cls) (names := names) (ic := ic) hown' hcls hnames h (fun x hx => nomatch hx) hfX hkX hcellA (by rw [hhp, hT]; exact Nat.le_refl _) (msg := .ref sa) rfl
    (g := { method := m, pc := pc + 7, locals := ls, stack := .ref sa :: .ref T.heap.size :: .ref T.heap.size :: rest, locked := none }) rfl hsize rfl rfl (rest := rest) rfl
    (by rw [hb]; exact d7) (by rw [hb]; exact d10) hout hRframes (by simp only [List.map_cons, List.sum_cons, hcat]; omega) hlocks
  obtain ⟨f1, f2⟩ := vx_frame hsame
  rw [hhp] at f1 f2
  have hWs : s.WarmedH U.vm := State.WarmedH.trans hW0 hW
  have hcl : s.vm.findClass cls = some ce.cls := by
    have h9 := hO.cls
    rw [hvm] at h9
    exact h9
  have hall : s.sameButNew ({ U with vm := s.vm } : State) locs mc ms := by
    subst hA
    obtain ⟨e1, e2⟩ := hsame
    rw [State.setFrames_setFrames] at e1
    have h2 : (T.setVm s.vm).sameButNew ({ U with vm := s.vm } : State) [] (0 + 1) (0 + 6) := ⟨e1, e2⟩
    have h3 := X.same.trans h2
    rw [List.append_nil] at h3
    exact h3.mono hc hs
  refine ⟨U, ?_, .threw T.heap.size, hrun, hend, Or.inr ⟨T.heap.size, rfl, cls, ce, locs, hx U hWs.alike f1 (fun q hq => f2 q hq (fun z hz => nomatch hz)), hce, hO.vm, hcl, hWs, hall, hf⟩⟩
  refine st1 _ ?_
  show Steps p.tables e below (T1.setTop { method := m, pc := pc + 3, locals := ls, stack := .ref T.heap.size :: rest, locked := none }) _
  jvm_step X₁.here [X₁.here.top, hexec, d3', Value.category]
  exact X₁.ldcStringW hexec (own := own) (text := text) (index := is) (a := sa) hown' hstr'.1 hstr'.2
    (g := { method := m, pc := pc + 4, locals := ls, stack := .ref T.heap.size :: .ref T.heap.size :: rest, locked := none }) rfl d4' _ hsteps
end Ends
section Bodies
variable {l : Launch}
theorem vx_ofW {y : MethodName} {ws ws' : List Cond} {rm : Room} {Pc : Array Value → State → Prop} {Qc : Array Value → State → Outcome → State → Prop} {XC : String → State → State → Prop} {mc ms : Nat} {free : Addr → Prop} {cc : ByteArray} {maxL : Nat} {ret : Option FieldType}
    (hy : plainName y.cls = true) (hw : ws = Cond.code y cc maxL ret :: ws')
    (body : ∀ p e s m args below meth c s₁, BodyLoose p l y (headSpec ws rm) cc maxL ret e s m args below meth c s₁ → c.maxLocals = maxL → (∀ x ∈ c.exceptionTable.toList, False) → Pc args s →
      W p l e (headSpec ws rm).room s m args below meth c s.heap [] 0 0 (vx_MQ below Qc XC args s mc ms free) (entryFrame m args maxL)) : vx_Met l y ws rm Pc Qc XC mc ms free := by
  refine MetFree.of_bodyS (code := cc) (maxLocals := maxL) (ret := ret) hy ?_ ?_
  · intro args s m h hn
    obtain ⟨meth, c, h1, h2, h3, h4, h5, h6, -, -⟩ := Cond.code_spec hn (atoms_spec (ws := ws) h _ (by rw [hw]; exact List.mem_cons_self))
    exact ⟨meth, c, h1, h2, h3, h4, h5, h6⟩
  · intro p e s m args below meth c s₁ B hml hP _
    have hh0 : s₁.heap = s.heap := by rw [B.state]; rfl
    have ht : ∀ x ∈ c.exceptionTable.toList, False := by
      obtain ⟨meth9, c9, h1, h2, -, -, -, -, h7, -⟩ := Cond.code_spec B.named (atoms_spec (ws := ws) B.pre _ (by rw [hw]; exact List.mem_cons_self))
      cases Option.some.inj (h1.symm.trans B.method)
      cases Option.some.inj (h2.symm.trans (Stand.of_body B).code)
      intro x hx
      rw [Array.isEmpty_iff.mp h7] at hx
      cases hx
    obtain ⟨t, a1, o, b1, b2, b3⟩ := body p e s m args below meth c s₁ B hml ht hP s₁ hh0 (Stand.of_body B)
    exact ⟨t, o, a1, b1, b2, b3⟩
/-- the table of a body with handlers -/
theorem vx_table {p : Program} {x y : MethodName} {S : Spec} {cc bytes : ByteArray} {maxL maxL' : Nat} {ret ret' : Option FieldType} {e : Env} {s s₁ : State} {m : MethodId} {args : Array Value} {below : List Frame} {meth : Method} {c : Code} {hh : List (Nat × Nat × Nat × Nat)}
    (B : BodyLoose p l y S cc maxL ret e s m args below meth c s₁) (h : (Cond.codeWith y bytes maxL' ret' hh).before args s = true) : c.exceptionTable.toList = tableOf hh := by
  obtain ⟨m9, meth9, c9, hn9, h1, h2, -, -, h6, -⟩ := Cond.codeWith_spec h
  cases Option.some.inj (hn9.symm.trans B.named)
  cases Option.some.inj (h1.symm.trans B.method)
  cases Option.some.inj (h2.symm.trans (Stand.of_body B).code)
  rw [← h6, table_eq]
end Bodies
end VXA
/-! ===== END ===== -/
/-! ===== BEGIN a static call of a method with an exception table ===== -/
section VXS
variable {p : Program} {l : Launch} {e : Env} {R : Room} {s : State} {m : MethodId} {args : Array Value} {below : List Frame} {meth : Method} {c : Code} {T : State} {H : Heap} {locs : List Loc} {cells slots : Nat}
abbrev vx_CSW (R : Room) (s : State) (args : Array Value) (own : String) (index : Nat) (y : MethodName) (bytes : ByteArray) (maxL : Nat) (ret : Option FieldType) (hh : List (Nat × Nat × Nat × Nat)) (ws : List Cond) (rm : Room) (mc ms n : Nat) : Prop :=
  (rm.cells = mc ∧ rm.slots = ms ∧ rm.frames + 1 ≤ R.frames ∧ 8 + (maxL + 11) + rm.locals ≤ R.locals ∧ (∀ w ∈ ws, ∀ (a' : Array Value) (U : State), s.WarmedH U.vm → w.before a' U = true) ∧ Cond.codeWith y bytes maxL ret hh ∈ ws) ∧
  (Cond.codeWith y bytes maxL ret hh).before args s = true ∧ (Cond.initialized y.cls).before args s = true ∧ (y.cls ≠ "java/lang/invoke/MethodHandle" ∧ y.cls ≠ "java/lang/invoke/VarHandle") ∧
  (∀ sig, parseMethodDescriptor y.desc = some sig → n = sig.parameters.length) ∧ (Cond.methodLink own index y).before args s = true ∧ (Cond.static y).before args s = true
theorem vx_cwSW {own : String} {index maxL mc ms : Nat} {y : MethodName} {bytes : ByteArray} {ret : Option FieldType} {hh : List (Nat × Nat × Nat × Nat)} {Ts ws ws' : List Cond} {rm : Room} (n : Nat) (ht : ∀ w ∈ Ts, w.before args s = true) (hT : GoodIn Ts (va_wsS own index y ws)) (hw : ws = Cond.codeWith y bytes maxL ret hh :: ws') (hrc : rm.cells = mc) (hrs : rm.slots = ms)
    (hd : y.cls ≠ "java/lang/invoke/MethodHandle" ∧ y.cls ≠ "java/lang/invoke/VarHandle" ∧ (parseMethodDescriptor y.desc).map (fun d => d.parameters.length) = some n) (hR : rm.frames + 1 ≤ R.frames ∧ 8 + (maxL + 11) + rm.locals ≤ R.locals) :
    vx_CSW R s args own index y bytes maxL ret hh ws rm mc ms n := by
  have ok : ∀ w ∈ va_wsS own index y ws, w.before args s = true := fun w h => ht w (hT w h).1
  have hG : GoodIn Ts ws := fun w h => hT w (by unfold va_wsS; exact List.mem_append_right _ h)
  have hc : Cond.codeWith y bytes maxL ret hh ∈ ws := by rw [hw]; exact List.mem_cons_self
  refine ⟨⟨hrc, hrs, hR.1, hR.2, pay_in ht hG, hc⟩, ht _ (hG _ hc).1, ok _ (by simp [va_wsS]), ⟨hd.1, hd.2.1⟩, fun sig h => ?_, ok _ (by simp [va_wsS]), ok _ (by simp [va_wsS])⟩
  have h2 := hd.2.2
  rw [h] at h2
  exact (Option.some.inj h2).symm
theorem vx_callSW (X : Stand p l e R s m args below meth c T locs cells slots) (hexec : p.tables.exec = Jvm.exec) {own : String} {index : Nat} {y : MethodName} {bytes : ByteArray} {maxL : Nat} {ret : Option FieldType} {hh : List (Nat × Nat × Nat × Nat)}
    (hown : s.vm.findClass own = some m.cls) (hlink : (Cond.methodLink own index y).before args s = true) (hstat : (Cond.static y).before args s = true) (hinit : (Cond.initialized y.cls).before args s = true)
    (hcode : (Cond.codeWith y bytes maxL ret hh).before args s = true) (hy : y.cls ≠ "java/lang/invoke/MethodHandle" ∧ y.cls ≠ "java/lang/invoke/VarHandle")
    {W9 : Nat} {Pre : Pt → Array Value → Prop} {Post : Pt → Array Value → Option Value → Pt → Prop} (hK : Back l R p e below s args y 3 W9 Pre Post)
    {g : JFrame} (hg : g.method = m) (hsize : g.locals.size = c.maxLocals) {argsL rest : List Value} (hlen : ∀ sig, parseMethodDescriptor y.desc = some sig → argsL.length = sig.parameters.length)
    (hstack : g.stack = argsL.reverse ++ rest) (hW : 2 * g.monitorRoom + (rest.map fun v => v.category).sum ≤ W9) (hdg : decode c.code g.pc = .ok (.invokestatic index, 3))
    (hpre : ∀ vm₁, s.WarmedH vm₁ → Pre ⟨T.setVm vm₁, locs, cells, slots⟩ argsL.toArray) :
    ∃ (v : Option Value) (vm₁ : Vm) (B : Pt), s.WarmedH vm₁ ∧ Stand p l e R s m args below meth c B.U B.locs B.cells B.slots ∧ Post ⟨T.setVm vm₁, locs, cells, slots⟩ argsL.toArray v B ∧
      ∀ target, Steps p.tables e below (B.U.setTop { g with pc := g.pc + 3, stack := v.toList ++ rest }) target → Steps p.tables e below (T.setTop g) target := by
  obtain ⟨mk, methM, cM, hnamed, hmethM, -, -, -, -, -, -, hsigM⟩ := Cond.codeWith_spec hcode
  have hstatic : methM.isStatic = true := Cond.static_spec hnamed hmethM hstat
  obtain ⟨kP, hkP, -⟩ := className_of_methodNamed hnamed
  have hinitP : kP.init = .initialized := Cond.initialized_spec (findClass_of_methodNamed hnamed) hkP hinit
  obtain ⟨vm₁, X₁, hstep₁⟩ := X.invokestatic hexec hown hlink hnamed hmethM hstatic hkP hinitP hy (g := g) hg (argsL := argsL) (rest := rest) (hlen _ hsigM) hstack hdg
  obtain ⟨v, B, X', hpost, hsteps⟩ := hK m meth c ⟨T.setVm vm₁, locs, cells, slots⟩ { g with stack := rest } (.invokestatic index) mk argsL.toArray X₁ hg hsize hdg hW (X₁.named hnamed) (hpre vm₁ X₁.warmed)
  exact ⟨v, vm₁, B, X₁.warmed, X', hpost, fun target h => hstep₁ _ fun acts => by rw [doInvoke_state]; exact hsteps.trans h⟩
theorem vx_runSW {y : MethodName} {bytes cc : ByteArray} {maxL nL mc ms n index : Nat} {ret : Option FieldType} {hh : List (Nat × Nat × Nat × Nat)} {ws : List Cond} {rm : Room} {Pc : Array Value → State → Prop} {Qc : Array Value → State → Outcome → State → Prop} {free : Addr → Prop} {Ts : List Cond} {own : String} {As rest : List Value} {g : JFrame}
    (S : CallFix p m c cc nL s args Ts own) (hM : Met l y ws rm Pc Qc mc ms free) (cw : vx_CSW R s args own index y bytes maxL ret hh ws rm mc ms n) (hp : PreS s H Pc As)
    (hg : g.method = m) (hn : As.length = n) (hsize : g.locals.size = nL) (hstack : g.stack = As.reverse ++ rest) (hW : 2 * g.monitorRoom + (rest.map fun v => v.category).sum ≤ 8) (hdg : decode cc g.pc = .ok (.invokestatic index, 3)) (hf : cells + mc ≤ R.cells ∧ slots + ms ≤ R.slots) :
    va_Run p l e R s m args below meth c H locs cells slots mc ms g rest (Qc As.toArray) (free) := by
  obtain ⟨⟨hrc, hrs, hfr, hlo, hws, hcw⟩, hcode, hini, hy, hlen, hl, hstt⟩ := cw
  have hK : Back l R p e below s args y 3 8 (PreOf R mc ms Pc) (PostOf Qc mc ms free) := va_backW (hh := hh) (bytes := bytes) (maxL := maxL) (ret := ret) hM hp.1 hrc hrs hfr hlo hws hcw (fun a' U hW => word_at hW (Or.inl (by first | rfl | simp [Cond.onTables, Cond.keeps, Cond.steady])) hini)
  obtain ⟨hx, hb, hml, ho, -⟩ := S
  intro T hT X
  obtain ⟨v, vm₁, ⟨U', l2, c2, s2⟩, hW₁, X', ⟨g', mk, t, L, e1, e2, hq, h1, hL, h2, h3⟩, st⟩ := vx_callSW X hx (hh := hh) (bytes := bytes) (maxL := maxL) (ret := ret) ho hl hstt hini hcode hy hK hg (hsize.trans hml.symm) (argsL := As) (rest := rest) (fun sig h => hn.trans (hlen sig h)) hstack hW (by rw [hb]; exact hdg)
    (fun vm₁ hW₁ => ⟨hf.1, hf.2, hp.2 (T.setVm vm₁) hT hW₁⟩)
  dsimp only [Pt.U, Pt.locs, Pt.cells, Pt.slots] at X' e1 e2 h1 h2 h3 st
  subst h1; subst h2; subst h3
  exact ⟨v, (T.setVm vm₁).calling g' mk As.toArray, t, U', L, hT, X', hL, e1, e2, hq, st⟩
/-- not caught here, past rows that name other classes: it goes on to the caller -/
theorem vx_outP {p : Program} {l : Launch} {e : Env} {R : Room} {s : State} {m : MethodId} {args : Array Value} {below : List Frame} {meth : Method} {c : Code} {H : Heap} {locs : List Loc} {cells slots : Nat} {free : Addr → Prop} {ls : Array Slot} {rest : List Value} {Qc : Array Value → State → Outcome → State → Prop} {XC : String → State → State → Prop}
    {pc : Nat} {own E : String} {ce : Cell} {q : Addr} {mc ms : Nat} (hown : s.vm.findClass own = some m.cls) (hlocks : meth.locks = false)
    (hpass : ∀ z ∈ c.exceptionTable.toList, covers z pc = false ∨ (z.catchType ≠ 0 ∧ ∃ nm : String, (Cond.classLink own z.catchType nm).before args s = true ∧ va_Nc E nm s)) (hcell : H[q]? = some ce) (hv : ce.vm = .none) (hcl : s.vm.findClass E = some ce.cls)
    (hx : ∀ t : State, t.heap = H → s.vm.Alike t.vm → XC E s t) (hf : ∀ z ∈ locs, free z.base) (hc : cells ≤ mc) (hs : slots ≤ ms) :
    vx_W p l e R s m args below meth c H locs cells slots (vx_MQ below Qc XC args s mc ms free) (F0 m pc ls rest) q := by
  intro T hT X
  have hpl : e.platform.magicAccessors = ({} : Platform).magicAccessors := by rw [X.admits.platform]
  obtain ⟨vm', hW', X', st⟩ := Stand.outThrough X hlocks q (g := F0 m pc ls rest) rfl rfl rfl (cell := ce) (by rw [hT]; exact hcell) (by rw [hv]; rfl)
    (by obtain ⟨k9, h9, -⟩ := Vm.findClass_spec hcl; exact ⟨k9, h9⟩) (fun z hz => by
      rcases hpass z hz with h | ⟨hz0, nm, hl1, hn1⟩
      · exact Or.inl h
      · obtain ⟨c6, hc6, hcl6⟩ := Cond.classLink_spec hown hl1 e.platform hpl
        obtain ⟨a8, b8, h1, h2, h3⟩ := hn1
        cases Option.some.inj (h1.symm.trans hcl)
        cases Option.some.inj (h2.symm.trans hc6)
        exact Or.inr ⟨hz0, _, hcl6, h3⟩)
  obtain ⟨g₀, hfr⟩ := X'.frames_eq
  have hcell9 : ((T.setVm vm').setFrames (.throwing q :: below)).heap[q]? = some ce := by
    show T.heap[q]? = some ce
    rw [hT]; exact hcell
  have hend : Ended ((T.setVm vm').setFrames (.throwing q :: below)) below (.threw q) := State.frames_setFrames _ (State.cur_lt_of_frames hfr)
  refine ⟨(T.setVm vm').setFrames (.throwing q :: below), ?_, .threw q, X'.here.running, hend, Or.inr ⟨q, rfl, E, ce, locs, hx _ hT (X'.ends _).1.alike, hcell9, hv, hcl, (X'.ends _).1, (X'.ends _).2.mono hc hs, hf⟩⟩
  rw [X.pushThrowing_eq]
  exact st
/-- a thing of a world lies in the heap -/
theorem vx_lt {D : va_G} {cl : List vw_C} {ws : va_W} {H1 : Heap} (h : va_P D cl ws H1) {k : Nat} {q : Nat × va_E} (hk : ws[k]? = some q) : q.1 < H1.size := (h k q hk).lt
end VXS
/-! ===== END ===== -/
/-! ===== BEGIN methods with a table of their own: called by a name, returning or throwing ===== -/
section VXH
/-! vx_backW, vx_callVX, vx_callSX, vx_callVW, vx_runVW, vx_runVX, vx_runSX, vx_ofWH follow the same proofs as their sisters above (Free/Laws.lean, Shelf42/LK1.lean); vx_outP calls Shelf42/NT130.lean (outThrough). -/
section
variable {l : Launch} {R : Room} {p : Program} {e : Env} {below : List Frame} {s : State} {sargs : Array Value} {y : MethodName} {len W9 : Nat}
theorem vx_backW {ws : List Cond} {rm : Room} {Pc : Array Value → State → Prop} {Qc : Array Value → State → Outcome → State → Prop} {XC : String → State → State → Prop} {mc ms : Nat} {free : Addr → Prop} {bytes : ByteArray} {maxL : Nat} {ret : Option FieldType} {hh : List (Nat × Nat × Nat × Nat)}
    (hM : vx_Met l y ws rm Pc Qc XC mc ms free) (hblind : FrameBlind Pc) (hrc : rm.cells = mc) (hrs : rm.slots = ms)
    (hframes : rm.frames + 1 ≤ R.frames) (hlocals : W9 + (maxL + 11) + rm.locals ≤ R.locals)
    (hws : ∀ w ∈ ws, ∀ a' U, s.WarmedH U.vm → w.before a' U = true) (hcode : Cond.codeWith y bytes maxL ret hh ∈ ws) (hinit : ∀ a' U, s.WarmedH U.vm → (Cond.initialized y.cls).before a' U = true) :
    vx_Back l R p e below s sargs y len W9 (PreOf R mc ms Pc) (PostOf Qc mc ms free) (vx_Post XC mc ms free) := by
  intro m meth c A g ig mk a X hg hsize hdg hW hn hp
  have h1 : (headSpec ws rm).pre.before a A.U = true := atoms_intro fun w hw => hws w hw _ _ X.warmed
  have h2 : (Cond.codeWith y bytes maxL ret hh).before a A.U = true := hws _ hcode _ _ X.warmed
  have h3 : (Cond.initialized y.cls).before a A.U = true := hinit _ _ X.warmed
  have h4 : A.cells + (headSpec ws rm).room.cells ≤ R.cells := by rw [show (headSpec ws rm).room.cells = mc from hrc]; exact hp.1
  have h5 : A.slots + (headSpec ws rm).room.slots ≤ R.slots := by rw [show (headSpec ws rm).room.slots = ms from hrs]; exact hp.2.1
  have hPc : Pc a (A.U.calling g mk a) := hblind _ _ _ _ hp.2.2
  obtain ⟨U, Ls, c0, s0⟩ := A
  dsimp only [Pt.U, Pt.locs, Pt.cells, Pt.slots] at h1 h2 h3 h4 h5 X hn hPc ⊢
  obtain ⟨m9, methY, cY, hn9, hmY, hcY, -, hlY, -⟩ := Cond.codeWith_spec h2
  cases Option.some.inj (hn9.symm.trans hn)
  obtain ⟨kY, hkY, -⟩ := className_of_methodNamed hn
  have hinitY : kY.init = .initialized := Cond.initialized_spec (findClass_of_methodNamed hn) hkY h3
  have h : At U g.method c below := by rw [hg]; exact X.here
  have hlocals9 : W9 + (maxL + 11) + (headSpec ws rm).room.locals ≤ R.locals := hlocals
  have happ : (headSpec ws rm).appliesLoose y e.platform (U.calling g mk a) = true :=
    Spec.appliesLoose_calling (g := g) h hdg hn hkY hinitY
      (X.room_calling (g := g) (R' := (headSpec ws rm).room) hsize hmY hcY hframes (by rw [hlY]; omega) h4 h5) h1
  obtain ⟨mid, hmid⟩ := h.above
  have hfr : (U.setTop g).frames = (.java g :: mid) ++ below := by rw [State.frames_setTop' g h.top, hmid]; rfl
  obtain ⟨o, s₂, hsteps, -, hend, hq⟩ := Steps.callFree hM p X.admits X.cas X.clock (acts := []) hfr happ hPc trivial
  have hq' : vx_Q Qc XC mc ms free a (U.calling g mk a) o s₂ := hq
  rw [State.frames_setTop' g h.top] at hend
  obtain ⟨g₀, hg0⟩ := Option.isSome_iff_exists.mp h.top
  obtain ⟨r, hr⟩ := State.topJava?_eq_some.mp hg0
  have hr' : (({ U with heap := s₂.heap, slotsUsed := s₂.slotsUsed } : State).setVm s₂.vm).frames = .java g₀ :: r := hr
  rcases hq' with ⟨hqc, L, hfe, hL⟩ | ⟨q, rfl, E, ce, L, hx, hce, hcv, hcl, hW₂, hsm, hL⟩
  · obtain ⟨⟨v, rfl⟩, hW₂, e2, q2, q3, q4, q5, q6⟩ := id hfe
    have e3 : s₂ = ({ (U.calling g mk a).setFrames s₂.frames with heap := s₂.heap, slotsUsed := s₂.slotsUsed } : State).setVm s₂.vm := by
      have : s₂ = ({ s₂ with vm := (U.calling g mk a).vm } : State).setVm s₂.vm := rfl
      rw [e2] at this
      exact this
    obtain ⟨c₂, i₂, len₂, hc₂, hd₂, hf₂⟩ := hend
    have hW' : U.WarmedH s₂.vm := hW₂
    have hcc : c₂ = c := by
      have h1 : s₂.code? g.method = U.code? g.method := by
        rw [State.code?_eq, State.code?_eq, hW'.alike.method?]
      exact Option.some.inj (hc₂.symm.trans (h1.trans h.code))
    subst hcc
    have hlen : len₂ = len := by rw [hdg] at hd₂; cases hd₂; rfl
    subst hlen
    have hs₂ : s₂ = (({ U with heap := s₂.heap, slotsUsed := s₂.slotsUsed } : State).setVm s₂.vm).setTop { g with pc := g.pc + len₂, stack := v.toList ++ g.stack } := by
      refine e3.trans ?_
      rw [hf₂, State.calling_eq h.top, State.setFrames_setFrames, State.setTop_of_frames _ hr', hr]
      rfl
    have hsame : U.sameButNew ({ U with heap := s₂.heap, slotsUsed := s₂.slotsUsed } : State) L mc ms := by
      refine ⟨?_, q2, q3, q4, q5, q6⟩
      obtain ⟨t, ht, -⟩ := State.frames_cons hr
      show ({ U with heap := s₂.heap, slotsUsed := s₂.slotsUsed } : State) = { U.setFrames U.frames with heap := s₂.heap, slotsUsed := s₂.slotsUsed }
      rw [State.setFrames_self ht]
    subst hg
    refine Or.inl ⟨v, ⟨(({ U with heap := s₂.heap, slotsUsed := s₂.slotsUsed } : State).setVm s₂.vm), Ls ++ L, c0 + mc, s0 + ms⟩,
      ⟨X.admits, X.cas, X.clock, X.frames, X.room, X.hears, X.method, X.code, (X.here.setHeapUsed s₂.heap s₂.slotsUsed).setVm hW'.alike, X.tail, State.WarmedH.trans X.warmed hW', X.limits, X.bytes, X.same.trans (hsame.setVm s.vm)⟩,
      ⟨g, mk, s₂, L, rfl, rfl, hqc, rfl, hL, rfl, rfl⟩, ?_⟩
    show Steps p.tables e below _ ((({ U with heap := s₂.heap, slotsUsed := s₂.slotsUsed } : State).setVm s₂.vm).setTop { g with pc := g.pc + len₂, stack := v.toList ++ g.stack })
    rw [← hs₂]
    exact hsteps
  · obtain ⟨e2, q2, q3, q4, q5, q6⟩ := id hsm
    have e3 : s₂ = ({ (U.calling g mk a).setFrames s₂.frames with heap := s₂.heap, slotsUsed := s₂.slotsUsed } : State).setVm s₂.vm := by
      have : s₂ = ({ s₂ with vm := (U.calling g mk a).vm } : State).setVm s₂.vm := rfl
      rw [e2] at this
      exact this
    have hf₂ : s₂.frames = .throwing q :: .java g :: U.frames.tail := hend
    have hW' : U.WarmedH s₂.vm := hW₂
    have hs₂ : s₂ = ((({ U with heap := s₂.heap, slotsUsed := s₂.slotsUsed } : State).setVm s₂.vm).setTop g).pushFrame (.throwing q) := by
      refine e3.trans ?_
      rw [hf₂, State.calling_eq h.top, State.setFrames_setFrames, State.pushFrame, State.frames_setTop _ hr', State.setTop_of_frames _ hr', State.setFrames_setFrames, hr]
      rfl
    have hsame : U.sameButNew ({ U with heap := s₂.heap, slotsUsed := s₂.slotsUsed } : State) L mc ms := by
      refine ⟨?_, q2, q3, q4, q5, q6⟩
      obtain ⟨t, ht, -⟩ := State.frames_cons hr
      show ({ U with heap := s₂.heap, slotsUsed := s₂.slotsUsed } : State) = { U.setFrames U.frames with heap := s₂.heap, slotsUsed := s₂.slotsUsed }
      rw [State.setFrames_self ht]
    subst hg
    refine Or.inr ⟨q, ⟨(({ U with heap := s₂.heap, slotsUsed := s₂.slotsUsed } : State).setVm s₂.vm), Ls ++ L, c0 + mc, s0 + ms⟩,
      ⟨X.admits, X.cas, X.clock, X.frames, X.room, X.hears, X.method, X.code, (X.here.setHeapUsed s₂.heap s₂.slotsUsed).setVm hW'.alike, X.tail, State.WarmedH.trans X.warmed hW', X.limits, X.bytes, X.same.trans (hsame.setVm s.vm)⟩,
      ⟨g, mk, s₂, L, E, ce, rfl, rfl, hx, hce, hcv, hcl, rfl, hL, rfl, rfl⟩, ?_⟩
    show Steps p.tables e below _ (((({ U with heap := s₂.heap, slotsUsed := s₂.slotsUsed } : State).setVm s₂.vm).setTop g).pushFrame (.throwing q))
    rw [← hs₂]
    exact hsteps
end
variable {p : Program} {l : Launch} {e : Env} {R : Room} {s : State} {m : MethodId} {args : Array Value} {below : List Frame} {meth : Method} {c : Code} {T : State} {H : Heap} {locs : List Loc} {cells slots : Nat}
theorem vx_callVX (X : Stand p l e R s m args below meth c T locs cells slots) (hexec : p.tables.exec = Jvm.exec) {own C : String} {index : Nat} {y : MethodName} {bytes : ByteArray} {maxL : Nat} {ret : Option FieldType} {hh : List (Nat × Nat × Nat × Nat)}
    (hown : s.vm.findClass own = some m.cls) (hlink : (Cond.methodLink own index y).before args s = true) (hinst : (Cond.instanceMethod y).before args s = true) (hsel : (Cond.selects C y y).before args s = true)
    (hcode : (Cond.codeWith y bytes maxL ret hh).before args s = true) (hy : y.cls ≠ "java/lang/invoke/MethodHandle" ∧ y.cls ≠ "java/lang/invoke/VarHandle")
    {W9 : Nat} {Pre : Pt → Array Value → Prop} {Post : Pt → Array Value → Option Value → Pt → Prop} {PostX : Pt → Array Value → Addr → Pt → Prop} (hK : vx_Back l R p e below s args y 3 W9 Pre Post PostX)
    {b : Addr} {cellB : Cell} (hcell : T.heap[b]? = some cellB) (hobj : cellB.vm.isStatics = false) (hcls : s.vm.findClass C = some cellB.cls)
    {g : JFrame} (hg : g.method = m) (hsize : g.locals.size = c.maxLocals) {argsL rest : List Value} (hlen : ∀ sig, parseMethodDescriptor y.desc = some sig → argsL.length = sig.parameters.length)
    (hstack : g.stack = argsL.reverse ++ .ref b :: rest) (hW : 2 * g.monitorRoom + (rest.map fun v => v.category).sum ≤ W9) (hdg : decode c.code g.pc = .ok (.invokevirtual index, 3))
    (hpre : ∀ vm₁, s.WarmedH vm₁ → Pre ⟨T.setVm vm₁, locs, cells, slots⟩ (Value.ref b :: argsL).toArray) :
    (∃ (v : Option Value) (vm₁ : Vm) (B : Pt), s.WarmedH vm₁ ∧ Stand p l e R s m args below meth c B.U B.locs B.cells B.slots ∧ Post ⟨T.setVm vm₁, locs, cells, slots⟩ (Value.ref b :: argsL).toArray v B ∧
      ∀ target, Steps p.tables e below (B.U.setTop { g with pc := g.pc + 3, stack := v.toList ++ rest }) target → Steps p.tables e below (T.setTop g) target) ∨
    (∃ (q : Addr) (vm₁ : Vm) (B : Pt), s.WarmedH vm₁ ∧ Stand p l e R s m args below meth c B.U B.locs B.cells B.slots ∧ PostX ⟨T.setVm vm₁, locs, cells, slots⟩ (Value.ref b :: argsL).toArray q B ∧
      Steps p.tables e below (T.setTop g) ((B.U.setTop { g with stack := rest }).pushFrame (.throwing q))) := by
  obtain ⟨mk, methM, hnamed, hmethM, hstM, habM⟩ := Cond.instanceMethod_spec hinst
  obtain ⟨m8, methM', cM, hn8, hmethM', -, -, -, -, -, -, hsigM⟩ := Cond.codeWith_spec hcode
  cases Option.some.inj (hn8.symm.trans hnamed)
  cases hmethM.symm.trans hmethM'
  obtain ⟨c2, r2, m2, q1, q2, q3, q4, kP, hkP, hkPi⟩ := Cond.selects_spec hsel
  cases hcls.symm.trans q1
  cases (State.methodFound?_of_named hnamed hy).symm.trans q2
  cases hnamed.symm.trans q3
  have hselP : selectMethod e.platform s.vm cellB.cls mk = .method mk := by rw [Launch.admits_selectMethod X.admits]; exact q4
  obtain ⟨vm₁, X₁, hstep₁⟩ := X.invokevirtual hexec hown hlink hnamed hmethM hstM hkP hkPi hy (a := b) (cell := cellB) hcell
    (fun z h => by rw [h] at hobj; cases hobj) hselP hmethM habM hkP hkPi (g := g) hg (argsL := argsL) (rest := rest) (hlen _ hsigM) hstack hdg
  rcases hK m meth c ⟨T.setVm vm₁, locs, cells, slots⟩ { g with stack := rest } (.invokevirtual index) mk (Value.ref b :: argsL).toArray X₁ hg hsize hdg hW (X₁.named hnamed) (hpre vm₁ X₁.warmed) with ⟨v, B, X', hpost, hsteps⟩ | ⟨q, B, X', hpost, hsteps⟩
  · exact Or.inl ⟨v, vm₁, B, X₁.warmed, X', hpost, fun target h => hstep₁ _ fun acts => by rw [doInvoke_state]; exact hsteps.trans h⟩
  · exact Or.inr ⟨q, vm₁, B, X₁.warmed, X', hpost, hstep₁ _ fun acts => by rw [doInvoke_state]; exact hsteps⟩
theorem vx_callSX (X : Stand p l e R s m args below meth c T locs cells slots) (hexec : p.tables.exec = Jvm.exec) {own : String} {index : Nat} {y : MethodName} {bytes : ByteArray} {maxL : Nat} {ret : Option FieldType} {hh : List (Nat × Nat × Nat × Nat)}
    (hown : s.vm.findClass own = some m.cls) (hlink : (Cond.methodLink own index y).before args s = true) (hstat : (Cond.static y).before args s = true) (hinit : (Cond.initialized y.cls).before args s = true)
    (hcode : (Cond.codeWith y bytes maxL ret hh).before args s = true) (hy : y.cls ≠ "java/lang/invoke/MethodHandle" ∧ y.cls ≠ "java/lang/invoke/VarHandle")
    {W9 : Nat} {Pre : Pt → Array Value → Prop} {Post : Pt → Array Value → Option Value → Pt → Prop} {PostX : Pt → Array Value → Addr → Pt → Prop} (hK : vx_Back l R p e below s args y 3 W9 Pre Post PostX)
    {g : JFrame} (hg : g.method = m) (hsize : g.locals.size = c.maxLocals) {argsL rest : List Value} (hlen : ∀ sig, parseMethodDescriptor y.desc = some sig → argsL.length = sig.parameters.length)
    (hstack : g.stack = argsL.reverse ++ rest) (hW : 2 * g.monitorRoom + (rest.map fun v => v.category).sum ≤ W9) (hdg : decode c.code g.pc = .ok (.invokestatic index, 3))
    (hpre : ∀ vm₁, s.WarmedH vm₁ → Pre ⟨T.setVm vm₁, locs, cells, slots⟩ argsL.toArray) :
    (∃ (v : Option Value) (vm₁ : Vm) (B : Pt), s.WarmedH vm₁ ∧ Stand p l e R s m args below meth c B.U B.locs B.cells B.slots ∧ Post ⟨T.setVm vm₁, locs, cells, slots⟩ argsL.toArray v B ∧
      ∀ target, Steps p.tables e below (B.U.setTop { g with pc := g.pc + 3, stack := v.toList ++ rest }) target → Steps p.tables e below (T.setTop g) target) ∨
    (∃ (q : Addr) (vm₁ : Vm) (B : Pt), s.WarmedH vm₁ ∧ Stand p l e R s m args below meth c B.U B.locs B.cells B.slots ∧ PostX ⟨T.setVm vm₁, locs, cells, slots⟩ argsL.toArray q B ∧
      Steps p.tables e below (T.setTop g) ((B.U.setTop { g with stack := rest }).pushFrame (.throwing q))) := by
  obtain ⟨mk, methM, cM, hnamed, hmethM, -, -, -, -, -, -, hsigM⟩ := Cond.codeWith_spec hcode
  have hstatic : methM.isStatic = true := Cond.static_spec hnamed hmethM hstat
  obtain ⟨kP, hkP, -⟩ := className_of_methodNamed hnamed
  have hinitP : kP.init = .initialized := Cond.initialized_spec (findClass_of_methodNamed hnamed) hkP hinit
  obtain ⟨vm₁, X₁, hstep₁⟩ := X.invokestatic hexec hown hlink hnamed hmethM hstatic hkP hinitP hy (g := g) hg (argsL := argsL) (rest := rest) (hlen _ hsigM) hstack hdg
  rcases hK m meth c ⟨T.setVm vm₁, locs, cells, slots⟩ { g with stack := rest } (.invokestatic index) mk argsL.toArray X₁ hg hsize hdg hW (X₁.named hnamed) (hpre vm₁ X₁.warmed) with ⟨v, B, X', hpost, hsteps⟩ | ⟨q, B, X', hpost, hsteps⟩
  · exact Or.inl ⟨v, vm₁, B, X₁.warmed, X', hpost, fun target h => hstep₁ _ fun acts => by rw [doInvoke_state]; exact hsteps.trans h⟩
  · exact Or.inr ⟨q, vm₁, B, X₁.warmed, X', hpost, hstep₁ _ fun acts => by rw [doInvoke_state]; exact hsteps⟩
theorem vx_callVW (X : Stand p l e R s m args below meth c T locs cells slots) (hexec : p.tables.exec = Jvm.exec) {own C : String} {index : Nat} {y : MethodName} {bytes : ByteArray} {maxL : Nat} {ret : Option FieldType} {hh : List (Nat × Nat × Nat × Nat)}
    (hown : s.vm.findClass own = some m.cls) (hlink : (Cond.methodLink own index y).before args s = true) (hinst : (Cond.instanceMethod y).before args s = true) (hsel : (Cond.selects C y y).before args s = true)
    (hcode : (Cond.codeWith y bytes maxL ret hh).before args s = true) (hy : y.cls ≠ "java/lang/invoke/MethodHandle" ∧ y.cls ≠ "java/lang/invoke/VarHandle")
    {W9 : Nat} {Pre : Pt → Array Value → Prop} {Post : Pt → Array Value → Option Value → Pt → Prop} (hK : Back l R p e below s args y 3 W9 Pre Post)
    {b : Addr} {cellB : Cell} (hcell : T.heap[b]? = some cellB) (hobj : cellB.vm.isStatics = false) (hcls : s.vm.findClass C = some cellB.cls)
    {g : JFrame} (hg : g.method = m) (hsize : g.locals.size = c.maxLocals) {argsL rest : List Value} (hlen : ∀ sig, parseMethodDescriptor y.desc = some sig → argsL.length = sig.parameters.length)
    (hstack : g.stack = argsL.reverse ++ .ref b :: rest) (hW : 2 * g.monitorRoom + (rest.map fun v => v.category).sum ≤ W9) (hdg : decode c.code g.pc = .ok (.invokevirtual index, 3))
    (hpre : ∀ vm₁, s.WarmedH vm₁ → Pre ⟨T.setVm vm₁, locs, cells, slots⟩ (Value.ref b :: argsL).toArray) :
    ∃ (v : Option Value) (vm₁ : Vm) (B : Pt), s.WarmedH vm₁ ∧ Stand p l e R s m args below meth c B.U B.locs B.cells B.slots ∧ Post ⟨T.setVm vm₁, locs, cells, slots⟩ (Value.ref b :: argsL).toArray v B ∧
      ∀ target, Steps p.tables e below (B.U.setTop { g with pc := g.pc + 3, stack := v.toList ++ rest }) target → Steps p.tables e below (T.setTop g) target := by
  obtain ⟨mk, methM, hnamed, hmethM, hstM, habM⟩ := Cond.instanceMethod_spec hinst
  obtain ⟨m8, methM', cM, hn8, hmethM', -, -, -, -, -, -, hsigM⟩ := Cond.codeWith_spec hcode
  cases Option.some.inj (hn8.symm.trans hnamed)
  cases hmethM.symm.trans hmethM'
  obtain ⟨c2, r2, m2, q1, q2, q3, q4, kP, hkP, hkPi⟩ := Cond.selects_spec hsel
  cases hcls.symm.trans q1
  cases (State.methodFound?_of_named hnamed hy).symm.trans q2
  cases hnamed.symm.trans q3
  have hselP : selectMethod e.platform s.vm cellB.cls mk = .method mk := by rw [Launch.admits_selectMethod X.admits]; exact q4
  obtain ⟨vm₁, X₁, hstep₁⟩ := X.invokevirtual hexec hown hlink hnamed hmethM hstM hkP hkPi hy (a := b) (cell := cellB) hcell
    (fun z h => by rw [h] at hobj; cases hobj) hselP hmethM habM hkP hkPi (g := g) hg (argsL := argsL) (rest := rest) (hlen _ hsigM) hstack hdg
  obtain ⟨v, B, X', hpost, hsteps⟩ := hK m meth c ⟨T.setVm vm₁, locs, cells, slots⟩ { g with stack := rest } (.invokevirtual index) mk (Value.ref b :: argsL).toArray X₁ hg hsize hdg hW (X₁.named hnamed) (hpre vm₁ X₁.warmed)
  exact ⟨v, vm₁, B, X₁.warmed, X', hpost, fun target h => hstep₁ _ fun acts => by rw [doInvoke_state]; exact hsteps.trans h⟩
abbrev vx_CVW (R : Room) (s : State) (args : Array Value) (own C : String) (index : Nat) (y : MethodName) (bytes : ByteArray) (maxL : Nat) (ret : Option FieldType) (hh : List (Nat × Nat × Nat × Nat)) (ws : List Cond) (rm : Room) (mc ms n : Nat) : Prop :=
  (rm.cells = mc ∧ rm.slots = ms ∧ rm.frames + 1 ≤ R.frames ∧ 8 + (maxL + 11) + rm.locals ≤ R.locals ∧ (∀ w ∈ ws, ∀ (a' : Array Value) (U : State), s.WarmedH U.vm → w.before a' U = true) ∧ Cond.codeWith y bytes maxL ret hh ∈ ws) ∧
  (Cond.codeWith y bytes maxL ret hh).before args s = true ∧ (Cond.initialized y.cls).before args s = true ∧ (y.cls ≠ "java/lang/invoke/MethodHandle" ∧ y.cls ≠ "java/lang/invoke/VarHandle") ∧
  (∀ sig, parseMethodDescriptor y.desc = some sig → n = sig.parameters.length) ∧ (Cond.methodLink own index y).before args s = true ∧ (Cond.instanceMethod y).before args s = true ∧ (Cond.selects C y y).before args s = true
theorem vx_cwVW {own C : String} {index maxL mc ms : Nat} {y : MethodName} {bytes : ByteArray} {ret : Option FieldType} {hh : List (Nat × Nat × Nat × Nat)} {Ts ws ws' : List Cond} {rm : Room} (n : Nat) (ht : ∀ w ∈ Ts, w.before args s = true) (hT : GoodIn Ts (wsV own index C y ws)) (hw : ws = Cond.codeWith y bytes maxL ret hh :: ws') (hrc : rm.cells = mc) (hrs : rm.slots = ms)
    (hd : y.cls = C ∧ y.cls ≠ "java/lang/invoke/MethodHandle" ∧ y.cls ≠ "java/lang/invoke/VarHandle" ∧ (parseMethodDescriptor y.desc).map (fun d => d.parameters.length) = some n) (hR : rm.frames + 1 ≤ R.frames ∧ 8 + (maxL + 11) + rm.locals ≤ R.locals) :
    vx_CVW R s args own C index y bytes maxL ret hh ws rm mc ms n := by
  obtain ⟨hC, hd⟩ := hd
  subst hC
  have ok : ∀ w ∈ wsV own index y.cls y ws, w.before args s = true := fun w h => ht w (hT w h).1
  have hG : GoodIn Ts ws := fun w h => hT w (by unfold wsV; exact List.mem_append_right _ h)
  have hc : Cond.codeWith y bytes maxL ret hh ∈ ws := by rw [hw]; exact List.mem_cons_self
  refine ⟨⟨hrc, hrs, hR.1, hR.2, pay_in ht hG, hc⟩, ht _ (hG _ hc).1, ok _ (by simp [wsV]), ⟨hd.1, hd.2.1⟩, fun sig h => ?_, ok _ (by simp [wsV]), ok _ (by simp [wsV]), ok _ (by simp [wsV])⟩
  have h2 := hd.2.2
  rw [h] at h2
  exact (Option.some.inj h2).symm
theorem vx_runVW {y : MethodName} {bytes cc : ByteArray} {maxL nL mc ms n index : Nat} {ret : Option FieldType} {hh : List (Nat × Nat × Nat × Nat)} {ws : List Cond} {rm : Room} {Pc : Array Value → State → Prop} {Qc : Array Value → State → Outcome → State → Prop} {free : Addr → Prop} {Ts : List Cond} {own C : String} {b : Addr} {As rest : List Value} {g : JFrame}
    (S : CallFix p m c cc nL s args Ts own) (hM : Met l y ws rm Pc Qc mc ms free) (cw : vx_CVW R s args own C index y bytes maxL ret hh ws rm mc ms n) (hp : PreV s H C b Pc As)
    (hg : g.method = m) (hn : As.length = n) (hsize : g.locals.size = nL) (hstack : g.stack = As.reverse ++ .ref b :: rest) (hW : 2 * g.monitorRoom + (rest.map fun v => v.category).sum ≤ 8) (hdg : decode cc g.pc = .ok (.invokevirtual index, 3)) (hf : cells + mc ≤ R.cells ∧ slots + ms ≤ R.slots) :
    va_Run p l e R s m args below meth c H locs cells slots mc ms g rest (Qc (Value.ref b :: As).toArray) free := by
  obtain ⟨⟨hrc, hrs, hfr, hlo, hws, hcw⟩, hcode, hini, hy, hlen, hl, hin, hse⟩ := cw
  have hK : Back l R p e below s args y 3 8 (PreOf R mc ms Pc) (PostOf Qc mc ms free) := va_backW (hh := hh) (bytes := bytes) (maxL := maxL) (ret := ret) hM hp.1 hrc hrs hfr hlo hws hcw (fun a' U hW => word_at hW (Or.inl (by first | rfl | simp [Cond.onTables, Cond.keeps, Cond.steady])) hini)
  obtain ⟨hx, hb, hml, ho, -⟩ := S
  obtain ⟨-, ⟨cellB, hcB, hoB, hclB⟩, hPc⟩ := hp
  intro T hT X
  obtain ⟨v, vm₁, ⟨U', l2, c2, s2⟩, hW₁, X', ⟨g', mk, t, L, e1, e2, hq, h1, hL, h2, h3⟩, st⟩ := vx_callVW X hx (C := C) (hh := hh) (bytes := bytes) (maxL := maxL) (ret := ret) ho hl hin hse hcode hy hK (by rw [hT]; exact hcB) hoB hclB hg (hsize.trans hml.symm) (argsL := As) (rest := rest) (fun sig h => hn.trans (hlen sig h)) hstack hW (by rw [hb]; exact hdg)
    (fun vm₁ hW₁ => ⟨hf.1, hf.2, hPc (T.setVm vm₁) hT hW₁⟩)
  dsimp only [Pt.U, Pt.locs, Pt.cells, Pt.slots] at X' e1 e2 h1 h2 h3 st
  subst h1; subst h2; subst h3
  exact ⟨v, (T.setVm vm₁).calling g' mk (Value.ref b :: As).toArray, t, U', L, hT, X', hL, e1, e2, hq, st⟩
section
variable {y : MethodName} {bytes cc : ByteArray} {maxL nL mc ms n index : Nat} {ret : Option FieldType} {ws : List Cond} {rm : Room} {Pc : Array Value → State → Prop} {Qc : Array Value → State → Outcome → State → Prop} {XC : String → State → State → Prop} {free : Addr → Prop} {Ts : List Cond} {own C : String} {b : Addr} {As rest : List Value} {g : JFrame}
theorem vx_runVX {hh : List (Nat × Nat × Nat × Nat)} (S : CallFix p m c cc nL s args Ts own) (hM : vx_Met l y ws rm Pc Qc XC mc ms free) (cw : vx_CVW R s args own C index y bytes maxL ret hh ws rm mc ms n) (hp : PreV s H C b Pc As)
    (hg : g.method = m) (hn : As.length = n) (hsize : g.locals.size = nL) (hstack : g.stack = As.reverse ++ .ref b :: rest) (hW : 2 * g.monitorRoom + (rest.map fun v => v.category).sum ≤ 8) (hdg : decode cc g.pc = .ok (.invokevirtual index, 3)) (hf : cells + mc ≤ R.cells ∧ slots + ms ≤ R.slots) :
    vx_Run p l e R s m args below meth c H locs cells slots mc ms g rest (Qc (Value.ref b :: As).toArray) XC free := by
  obtain ⟨⟨hrc, hrs, hfr, hlo, hws, hcw⟩, hcode, hini, hy, hlen, hl, hin, hse⟩ := cw
  have hK : vx_Back l R p e below s args y 3 8 (PreOf R mc ms Pc) (PostOf Qc mc ms free) (vx_Post XC mc ms free) := vx_backW (hh := hh) (bytes := bytes) (maxL := maxL) (ret := ret) hM hp.1 hrc hrs hfr hlo hws hcw (fun a' U hW => word_at hW (Or.inl (by first | rfl | simp [Cond.onTables, Cond.keeps, Cond.steady])) hini)
  obtain ⟨hx, hb, hml, ho, -⟩ := S
  obtain ⟨-, ⟨cellB, hcB, hoB, hclB⟩, hPc⟩ := hp
  intro T hT X
  rcases vx_callVX X hx (C := C) (hh := hh) (bytes := bytes) (maxL := maxL) (ret := ret) ho hl hin hse hcode hy hK (by rw [hT]; exact hcB) hoB hclB hg (hsize.trans hml.symm) (argsL := As) (rest := rest) (fun sig h => hn.trans (hlen sig h)) hstack hW (by rw [hb]; exact hdg)
    (fun vm₁ hW₁ => ⟨hf.1, hf.2, hPc (T.setVm vm₁) hT hW₁⟩) with ⟨v, vm₁, ⟨U', l2, c2, s2⟩, hW₁, X', ⟨g', mk, t, L, e1, e2, hq, h1, hL, h2, h3⟩, st⟩ | ⟨q, vm₁, ⟨U', l2, c2, s2⟩, hW₁, X', ⟨g', mk, t, L, E, ce, e1, e2, hq, hce, hcv, hcl, h1, hL, h2, h3⟩, st⟩
  · dsimp only [Pt.U, Pt.locs, Pt.cells, Pt.slots] at X' e1 e2 h1 h2 h3 st
    subst h1; subst h2; subst h3
    exact Or.inl ⟨v, (T.setVm vm₁).calling g' mk (Value.ref b :: As).toArray, t, U', L, hT, X', hL, e1, e2, hq, st⟩
  · dsimp only [Pt.U, Pt.locs, Pt.cells, Pt.slots] at X' e1 e2 h1 h2 h3 st hcl
    subst h1; subst h2; subst h3
    exact Or.inr ⟨q, (T.setVm vm₁).calling g' mk (Value.ref b :: As).toArray, t, U', L, E, ce, hT, X', hL, e1, e2, hq, hce, hcv, vx_cls hW₁ hcl, st⟩
theorem vx_runSX {hh : List (Nat × Nat × Nat × Nat)} (S : CallFix p m c cc nL s args Ts own) (hM : vx_Met l y ws rm Pc Qc XC mc ms free) (cw : vx_CSW R s args own index y bytes maxL ret hh ws rm mc ms n) (hp : PreS s H Pc As)
    (hg : g.method = m) (hn : As.length = n) (hsize : g.locals.size = nL) (hstack : g.stack = As.reverse ++ rest) (hW : 2 * g.monitorRoom + (rest.map fun v => v.category).sum ≤ 8) (hdg : decode cc g.pc = .ok (.invokestatic index, 3)) (hf : cells + mc ≤ R.cells ∧ slots + ms ≤ R.slots) :
    vx_Run p l e R s m args below meth c H locs cells slots mc ms g rest (Qc As.toArray) XC free := by
  obtain ⟨⟨hrc, hrs, hfr, hlo, hws, hcw⟩, hcode, hini, hy, hlen, hl, hstt⟩ := cw
  have hK : vx_Back l R p e below s args y 3 8 (PreOf R mc ms Pc) (PostOf Qc mc ms free) (vx_Post XC mc ms free) := vx_backW (hh := hh) (bytes := bytes) (maxL := maxL) (ret := ret) hM hp.1 hrc hrs hfr hlo hws hcw (fun a' U hW => word_at hW (Or.inl (by first | rfl | simp [Cond.onTables, Cond.keeps, Cond.steady])) hini)
  obtain ⟨hx, hb, hml, ho, -⟩ := S
  intro T hT X
  rcases vx_callSX X hx (hh := hh) (bytes := bytes) (maxL := maxL) (ret := ret) ho hl hstt hini hcode hy hK hg (hsize.trans hml.symm) (argsL := As) (rest := rest) (fun sig h => hn.trans (hlen sig h)) hstack hW (by rw [hb]; exact hdg)
    (fun vm₁ hW₁ => ⟨hf.1, hf.2, hp.2 (T.setVm vm₁) hT hW₁⟩) with ⟨v, vm₁, ⟨U', l2, c2, s2⟩, hW₁, X', ⟨g', mk, t, L, e1, e2, hq, h1, hL, h2, h3⟩, st⟩ | ⟨q, vm₁, ⟨U', l2, c2, s2⟩, hW₁, X', ⟨g', mk, t, L, E, ce, e1, e2, hq, hce, hcv, hcl, h1, hL, h2, h3⟩, st⟩
  · dsimp only [Pt.U, Pt.locs, Pt.cells, Pt.slots] at X' e1 e2 h1 h2 h3 st
    subst h1; subst h2; subst h3
    exact Or.inl ⟨v, (T.setVm vm₁).calling g' mk As.toArray, t, U', L, hT, X', hL, e1, e2, hq, st⟩
  · dsimp only [Pt.U, Pt.locs, Pt.cells, Pt.slots] at X' e1 e2 h1 h2 h3 st hcl
    subst h1; subst h2; subst h3
    exact Or.inr ⟨q, (T.setVm vm₁).calling g' mk As.toArray, t, U', L, E, ce, hT, X', hL, e1, e2, hq, hce, hcv, vx_cls hW₁ hcl, st⟩
end
end VXH
theorem vx_ofWH {l : Launch} {y : MethodName} {ws ws' : List Cond} {rm : Room} {Pc : Array Value → State → Prop} {Qc : Array Value → State → Outcome → State → Prop} {XC : String → State → State → Prop} {mc ms : Nat} {free : Addr → Prop} {cc : ByteArray} {maxL : Nat} {ret : Option FieldType} {hh : List (Nat × Nat × Nat × Nat)}
    (hy : plainName y.cls = true) (hw : ws = Cond.codeWith y cc maxL ret hh :: ws')
    (body : ∀ p e s m args below meth c s₁, BodyLoose p l y (headSpec ws rm) cc maxL ret e s m args below meth c s₁ → c.maxLocals = maxL → Pc args s →
      W p l e (headSpec ws rm).room s m args below meth c s.heap [] 0 0 (vx_MQ below Qc XC args s mc ms free) (entryFrame m args maxL)) : vx_Met l y ws rm Pc Qc XC mc ms free := by
  refine MetFree.of_bodyS (code := cc) (maxLocals := maxL) (ret := ret) hy ?_ ?_
  · intro args s m h hn
    obtain ⟨m9, meth, c, hn9, h1, h2, h3, h4, -, h5, h6, -⟩ := Cond.codeWith_spec (atoms_spec (ws := ws) h _ (by rw [hw]; exact List.mem_cons_self))
    cases hn.symm.trans hn9
    exact ⟨meth, c, h1, h2, h3, h4, h5, h6⟩
  · intro p e s m args below meth c s₁ B hml hP _
    have hh0 : s₁.heap = s.heap := by rw [B.state]; rfl
    obtain ⟨t, a1, o, b1, b2, b3⟩ := body p e s m args below meth c s₁ B hml hP s₁ hh0 (Stand.of_body B)
    exact ⟨t, o, a1, b1, b2, b3⟩
/-! ===== END ===== -/

def vx_atN (n : Nat) : List Cond := (Bundle.npeArmAtoms n).filter vx_no
def vx_atM (X : String) (names : List String) : List Cond := (Bundle.messageArmAtoms X names).filter vx_no
end
section
/-! ===== BEGIN printed: names, fields, word lists, decode rows ===== -/
def RX0 : String := "PalletLayers$Kind"
def TX0 : u_T := fun k => match k with
  | 0 => ("PalletLayers$Kind", "width", "I", true)
  | 1 => ("PalletLayers$Kind", "depth", "I", true)
  | 2 => ("PalletLayers$Kind", "height", "I", true)
  | 3 => ("PalletLayers$Kind", "weight", "I", true)
  | 4 => ("PalletLayers$Kind", "area", "I", true)
  | 5 => ("PalletLayers$Kind", "straightShape", "J", true)
  | 6 => ("PalletLayers$Kind", "turnedShape", "J", true)
  | 7 => ("PalletLayers$Kind", "corners", "[I", true)
  | 8 => ("PalletLayers$Kind", "ways", "[I", true)
  | 9 => ("PalletLayers$Kind", "boxes", "I", false)
  | _ => ("PalletLayers$Kind", "soughtExactly", "Z", false)
def tyX0 : Nat → FieldType := fun k => match k with
  | 0 => .int
  | 1 => .int
  | 2 => .int
  | 3 => .int
  | 4 => .int
  | 5 => .long
  | 6 => .long
  | 7 => .array .int
  | 8 => .array .int
  | 9 => .int
  | _ => .boolean
abbrev wsX00 : List Cond := u_ws RX0 TX0 11
theorem nmX0 : ∀ a, a < 11 → ∀ b, b < 11 → a ≠ b → (TX0 a).2.1 ≠ (TX0 b).2.1 := by decide +kernel
theorem tyX0_ok : ∀ k, k < 11 → parseFieldDescriptor (TX0 k).2.2.1 = some (tyX0 k) := by decide +kernel
abbrev cX0_init : ByteArray := prog_2_method_1_code
def yX0_init : MethodName := ⟨RX0, "<init>", "(IIIII)V"⟩
abbrev cX0_shape : ByteArray := prog_2_method_2_code
def yX0_shape : MethodName := ⟨RX0, "shape", "(III)J"⟩
abbrev cX0_across : ByteArray := prog_2_method_3_code
def yX0_across : MethodName := ⟨RX0, "across", "(I)I"⟩
abbrev cX0_along : ByteArray := prog_2_method_4_code
def yX0_along : MethodName := ⟨RX0, "along", "(I)I"⟩
abbrev cX0_cellsAt : ByteArray := prog_2_method_5_code
def yX0_cellsAt : MethodName := ⟨RX0, "cellsAt", "(II)J"⟩
abbrev cX0_cellsOfBox : ByteArray := prog_2_method_6_code
def yX0_cellsOfBox : MethodName := ⟨RX0, "cellsOfBox", "(I)J"⟩
abbrev cX0_cellsOfFirst : ByteArray := prog_2_method_7_code
def yX0_cellsOfFirst : MethodName := ⟨RX0, "cellsOfFirst", "(I)J"⟩
abbrev cX0_keepPattern : ByteArray := prog_2_method_8_code
def yX0_keepPattern : MethodName := ⟨RX0, "keepPattern", "([I[II)V"⟩
def RX1 : String := "PalletLayers$Pallet"
def TX1 : u_T := fun k => match k with
  | 0 => ("PalletLayers$Pallet", "kindOf", "[I", true)
  | 1 => ("PalletLayers$Pallet", "boxesOf", "[I", true)
  | 2 => ("PalletLayers$Pallet", "bottomOf", "[I", true)
  | 3 => ("PalletLayers$Pallet", "weightOf", "[I", true)
  | 4 => ("PalletLayers$Pallet", "coveredOf", "[J", true)
  | 5 => ("PalletLayers$Pallet", "layers", "I", false)
  | 6 => ("PalletLayers$Pallet", "height", "I", false)
  | 7 => ("PalletLayers$Pallet", "weight", "I", false)
  | 8 => ("PalletLayers$Pallet", "boxes", "I", false)
  | _ => ("PalletLayers$Pallet", "stop", "I", false)
def tyX1 : Nat → FieldType := fun k => match k with
  | 0 => .array .int
  | 1 => .array .int
  | 2 => .array .int
  | 3 => .array .int
  | 4 => .array .long
  | 5 => .int
  | 6 => .int
  | 7 => .int
  | 8 => .int
  | _ => .int
abbrev wsX10 : List Cond := u_ws RX1 TX1 10
theorem nmX1 : ∀ a, a < 10 → ∀ b, b < 10 → a ≠ b → (TX1 a).2.1 ≠ (TX1 b).2.1 := by decide +kernel
theorem tyX1_ok : ∀ k, k < 10 → parseFieldDescriptor (TX1 k).2.2.1 = some (tyX1 k) := by decide +kernel
abbrev cX1_init : ByteArray := prog_3_method_1_code
def yX1_init : MethodName := ⟨RX1, "<init>", "()V"⟩
abbrev cX1_lay : ByteArray := prog_3_method_2_code
def yX1_lay : MethodName := ⟨RX1, "lay", "(ILPalletLayers$Kind;I)V"⟩
abbrev cX1_liftTop : ByteArray := prog_3_method_3_code
def yX1_liftTop : MethodName := ⟨RX1, "liftTop", "()I"⟩
abbrev cX1_clear : ByteArray := prog_3_method_4_code
def yX1_clear : MethodName := ⟨RX1, "clear", "()V"⟩
abbrev cX1_coveredIn : ByteArray := prog_3_method_5_code
def yX1_coveredIn : MethodName := ⟨RX1, "coveredIn", "(I)J"⟩
abbrev cX1_kindBits : ByteArray := prog_3_method_6_code
def yX1_kindBits : MethodName := ⟨RX1, "kindBits", "()I"⟩
def RX2 : String := "PalletLayers$PatternSearch"
def TX2 : u_T := fun k => match k with
  | 0 => ("PalletLayers$PatternSearch", "areaWidth", "I", true)
  | 1 => ("PalletLayers$PatternSearch", "areaDepth", "I", true)
  | 2 => ("PalletLayers$PatternSearch", "cellCount", "I", true)
  | 3 => ("PalletLayers$PatternSearch", "corners", "[I", true)
  | 4 => ("PalletLayers$PatternSearch", "ways", "[I", true)
  | 5 => ("PalletLayers$PatternSearch", "mostSteps", "I", false)
  | 6 => ("PalletLayers$PatternSearch", "stepsMade", "I", false)
  | 7 => ("PalletLayers$PatternSearch", "best", "I", false)
  | _ => ("PalletLayers$PatternSearch", "lackedSteps", "Z", false)
def tyX2 : Nat → FieldType := fun k => match k with
  | 0 => .int
  | 1 => .int
  | 2 => .int
  | 3 => .array .int
  | 4 => .array .int
  | 5 => .int
  | 6 => .int
  | 7 => .int
  | _ => .boolean
abbrev wsX20 : List Cond := u_ws RX2 TX2 9
theorem nmX2 : ∀ a, a < 9 → ∀ b, b < 9 → a ≠ b → (TX2 a).2.1 ≠ (TX2 b).2.1 := by decide +kernel
theorem tyX2_ok : ∀ k, k < 9 → parseFieldDescriptor (TX2 k).2.2.1 = some (tyX2 k) := by decide +kernel
abbrev cX2_init : ByteArray := prog_4_method_1_code
def yX2_init : MethodName := ⟨RX2, "<init>", "(II)V"⟩
abbrev cX2_seek : ByteArray := prog_4_method_2_code
def yX2_seek : MethodName := ⟨RX2, "seek", "(LPalletLayers$Kind;I)V"⟩
abbrev cX2_goOn : ByteArray := prog_4_method_3_code
def yX2_goOn : MethodName := ⟨RX2, "goOn", "(LPalletLayers$Kind;IJI)V"⟩
abbrev cX2_tryBox : ByteArray := prog_4_method_4_code
def yX2_tryBox : MethodName := ⟨RX2, "tryBox", "(LPalletLayers$Kind;IIJI)V"⟩
abbrev cX2_firstOpen : ByteArray := prog_4_method_5_code
def yX2_firstOpen : MethodName := ⟨RX2, "firstOpen", "(IJ)I"⟩
abbrev cX2_mayBeatBest : ByteArray := prog_4_method_6_code
def yX2_mayBeatBest : MethodName := ⟨RX2, "mayBeatBest", "(LPalletLayers$Kind;JI)Z"⟩
abbrev cX2_takeStep : ByteArray := prog_4_method_7_code
def yX2_takeStep : MethodName := ⟨RX2, "takeStep", "()Z"⟩
abbrev cX2_keepIfBetter : ByteArray := prog_4_method_8_code
def yX2_keepIfBetter : MethodName := ⟨RX2, "keepIfBetter", "(LPalletLayers$Kind;I)V"⟩
def RX3 : String := "PalletLayers"
def TX3 : u_T := fun k => match k with
  | 0 => ("PalletLayers", "areaWidth", "I", true)
  | 1 => ("PalletLayers", "areaDepth", "I", true)
  | 2 => ("PalletLayers", "seeker", "LPalletLayers$PatternSearch;", true)
  | 3 => ("PalletLayers", "kinds", "[LPalletLayers$Kind;", true)
  | 4 => ("PalletLayers", "pallets", "[LPalletLayers$Pallet;", true)
  | 5 => ("PalletLayers", "aboard", "[I", true)
  | 6 => ("PalletLayers", "kindCount", "I", false)
  | 7 => ("PalletLayers", "palletCount", "I", false)
  | 8 => ("PalletLayers", "aboardCount", "I", false)
  | 9 => ("PalletLayers", "share", "I", false)
  | 10 => ("PalletLayers", "door", "I", false)
  | _ => ("PalletLayers", "load", "I", false)
def tyX3 : Nat → FieldType := fun k => match k with
  | 0 => .int
  | 1 => .int
  | 2 => .object "PalletLayers$PatternSearch"
  | 3 => .array (.object "PalletLayers$Kind")
  | 4 => .array (.object "PalletLayers$Pallet")
  | 5 => .array .int
  | 6 => .int
  | 7 => .int
  | 8 => .int
  | 9 => .int
  | 10 => .int
  | _ => .int
abbrev wsX30 : List Cond := u_ws RX3 TX3 12
theorem nmX3 : ∀ a, a < 12 → ∀ b, b < 12 → a ≠ b → (TX3 a).2.1 ≠ (TX3 b).2.1 := by decide +kernel
theorem tyX3_ok : ∀ k, k < 12 → parseFieldDescriptor (TX3 k).2.2.1 = some (tyX3 k) := by decide +kernel
abbrev cX3_init : ByteArray := prog_1_method_1_code
def yX3_init : MethodName := ⟨RX3, "<init>", "(II)V"⟩
abbrev cX3_kind : ByteArray := prog_1_method_2_code
def yX3_kind : MethodName := ⟨RX3, "kind", "(IIII)I"⟩
abbrev cX3_search : ByteArray := prog_1_method_3_code
def yX3_search : MethodName := ⟨RX3, "search", "(II)I"⟩
abbrev cX3_pattern : ByteArray := prog_1_method_4_code
def yX3_pattern : MethodName := ⟨RX3, "pattern", "(III)I"⟩
abbrev cX3_exact : ByteArray := prog_1_method_5_code
def yX3_exact : MethodName := ⟨RX3, "exact", "(I)Z"⟩
abbrev cX3_bound : ByteArray := prog_1_method_6_code
def yX3_bound : MethodName := ⟨RX3, "bound", "(I)I"⟩
abbrev cX3_rules : ByteArray := prog_1_method_7_code
def yX3_rules : MethodName := ⟨RX3, "rules", "(III)V"⟩
abbrev cX3_pallet : ByteArray := prog_1_method_8_code
def yX3_pallet : MethodName := ⟨RX3, "pallet", "()I"⟩
abbrev cX3_put : ByteArray := prog_1_method_9_code
def yX3_put : MethodName := ⟨RX3, "put", "(III)I"⟩
abbrev cX3_fill : ByteArray := prog_1_method_10_code
def yX3_fill : MethodName := ⟨RX3, "fill", "(III)I"⟩
abbrev cX3_take : ByteArray := prog_1_method_11_code
def yX3_take : MethodName := ⟨RX3, "take", "(I)I"⟩
abbrev cX3_support : ByteArray := prog_1_method_12_code
def yX3_support : MethodName := ⟨RX3, "support", "(III)I"⟩
abbrev cX3_told : ByteArray := prog_1_method_13_code
def yX3_told : MethodName := ⟨RX3, "told", "(II)I"⟩
abbrev cX3_layer : ByteArray := prog_1_method_14_code
def yX3_layer : MethodName := ⟨RX3, "layer", "(III)I"⟩
abbrev cX3_truck : ByteArray := prog_1_method_15_code
def yX3_truck : MethodName := ⟨RX3, "truck", "(II)I"⟩
abbrev cX3_unload : ByteArray := prog_1_method_16_code
def yX3_unload : MethodName := ⟨RX3, "unload", "(I)I"⟩
abbrev cX3_order : ByteArray := prog_1_method_17_code
def yX3_order : MethodName := ⟨RX3, "order", "(I)I"⟩
abbrev cX3_count : ByteArray := prog_1_method_18_code
def yX3_count : MethodName := ⟨RX3, "count", "(I)I"⟩
abbrev cX3_isOutside : ByteArray := prog_1_method_19_code
def yX3_isOutside : MethodName := ⟨RX3, "isOutside", "(III)Z"⟩
abbrev cX3_kindNumbered : ByteArray := prog_1_method_20_code
def yX3_kindNumbered : MethodName := ⟨RX3, "kindNumbered", "(I)LPalletLayers$Kind;"⟩
abbrev cX3_palletNumbered : ByteArray := prog_1_method_21_code
def yX3_palletNumbered : MethodName := ⟨RX3, "palletNumbered", "(I)LPalletLayers$Pallet;"⟩
abbrev cX3_palletWithLayer : ByteArray := prog_1_method_22_code
def yX3_palletWithLayer : MethodName := ⟨RX3, "palletWithLayer", "(II)LPalletLayers$Pallet;"⟩
abbrev cX3_refuseOnTruck : ByteArray := prog_1_method_23_code
def yX3_refuseOnTruck : MethodName := ⟨RX3, "refuseOnTruck", "(LPalletLayers$Pallet;)V"⟩
abbrev cX3_refuseEmpty : ByteArray := prog_1_method_24_code
def yX3_refuseEmpty : MethodName := ⟨RX3, "refuseEmpty", "(LPalletLayers$Pallet;)V"⟩
abbrev cX3_isOnAPallet : ByteArray := prog_1_method_25_code
def yX3_isOnAPallet : MethodName := ⟨RX3, "isOnAPallet", "(I)Z"⟩
abbrev cX3_boxesOnPallets : ByteArray := prog_1_method_26_code
def yX3_boxesOnPallets : MethodName := ⟨RX3, "boxesOnPallets", "(Z)I"⟩
abbrev cX3_whyNot : ByteArray := prog_1_method_27_code
def yX3_whyNot : MethodName := ⟨RX3, "whyNot", "(LPalletLayers$Pallet;LPalletLayers$Kind;I)I"⟩
abbrev cX3_supportedCells : ByteArray := prog_1_method_28_code
def yX3_supportedCells : MethodName := ⟨RX3, "supportedCells", "(LPalletLayers$Pallet;IJ)I"⟩
abbrev cX3_hasLesserStopAboard : ByteArray := prog_1_method_29_code
def yX3_hasLesserStopAboard : MethodName := ⟨RX3, "hasLesserStopAboard", "(I)Z"⟩
abbrev cX3_isBarred : ByteArray := prog_1_method_30_code
def yX3_isBarred : MethodName := ⟨RX3, "isBarred", "(I)Z"⟩
def RX4 : String := "PalletLayersModel"
def TX4 : u_T := fun k => match k with
  | 0 => ("PalletLayersModel", "width", "I", true)
  | 1 => ("PalletLayersModel", "depth", "I", true)
  | 2 => ("PalletLayersModel", "cells", "I", true)
  | 3 => ("PalletLayersModel", "kinds", "I", false)
  | 4 => ("PalletLayersModel", "pallets", "I", false)
  | 5 => ("PalletLayersModel", "thrown", "I", false)
  | 6 => ("PalletLayersModel", "wide", "[I", true)
  | 7 => ("PalletLayersModel", "deep", "[I", true)
  | 8 => ("PalletLayersModel", "high", "[I", true)
  | 9 => ("PalletLayersModel", "heavy", "[I", true)
  | 10 => ("PalletLayersModel", "boxes", "[I", true)
  | 11 => ("PalletLayersModel", "exact", "[Z", true)
  | 12 => ("PalletLayersModel", "box", "[J", true)
  | 13 => ("PalletLayersModel", "corner", "[I", true)
  | 14 => ("PalletLayersModel", "way", "[I", true)
  | 15 => ("PalletLayersModel", "share", "I", false)
  | 16 => ("PalletLayersModel", "door", "I", false)
  | 17 => ("PalletLayersModel", "load", "I", false)
  | 18 => ("PalletLayersModel", "layers", "[I", true)
  | 19 => ("PalletLayersModel", "layerKind", "[I", true)
  | 20 => ("PalletLayersModel", "layerBoxes", "[I", true)
  | 21 => ("PalletLayersModel", "stop", "[I", true)
  | 22 => ("PalletLayersModel", "truck", "[I", true)
  | 23 => ("PalletLayersModel", "onTruck", "I", false)
  | 24 => ("PalletLayersModel", "steps", "I", false)
  | 25 => ("PalletLayersModel", "cellAt", "[I", true)
  | 26 => ("PalletLayersModel", "trial", "[I", true)
  | 27 => ("PalletLayersModel", "corners", "[I", true)
  | 28 => ("PalletLayersModel", "ways", "[I", true)
  | 29 => ("PalletLayersModel", "taken", "J", false)
  | 30 => ("PalletLayersModel", "left", "J", false)
  | 31 => ("PalletLayersModel", "placed", "I", false)
  | _ => ("PalletLayersModel", "most", "I", false)
def tyX4 : Nat → FieldType := fun k => match k with
  | 0 => .int
  | 1 => .int
  | 2 => .int
  | 3 => .int
  | 4 => .int
  | 5 => .int
  | 6 => .array .int
  | 7 => .array .int
  | 8 => .array .int
  | 9 => .array .int
  | 10 => .array .int
  | 11 => .array .boolean
  | 12 => .array .long
  | 13 => .array .int
  | 14 => .array .int
  | 15 => .int
  | 16 => .int
  | 17 => .int
  | 18 => .array .int
  | 19 => .array .int
  | 20 => .array .int
  | 21 => .array .int
  | 22 => .array .int
  | 23 => .int
  | 24 => .int
  | 25 => .array .int
  | 26 => .array .int
  | 27 => .array .int
  | 28 => .array .int
  | 29 => .long
  | 30 => .long
  | 31 => .int
  | _ => .int
abbrev wsX40 : List Cond := u_ws RX4 TX4 33
theorem nmX4 : ∀ a, a < 33 → ∀ b, b < 33 → a ≠ b → (TX4 a).2.1 ≠ (TX4 b).2.1 := by decide +kernel
theorem tyX4_ok : ∀ k, k < 33 → parseFieldDescriptor (TX4 k).2.2.1 = some (tyX4 k) := by decide +kernel
abbrev cX4_init : ByteArray := prog_6_method_1_code
def yX4_init : MethodName := ⟨RX4, "<init>", "(II)V"⟩
abbrev cX4_thrown : ByteArray := prog_6_method_2_code
def yX4_thrown : MethodName := ⟨RX4, "thrown", "()I"⟩
abbrev cX4_held : ByteArray := prog_6_method_3_code
def yX4_held : MethodName := ⟨RX4, "held", "(I)I"⟩
abbrev cX4_within : ByteArray := prog_6_method_4_code
def yX4_within : MethodName := ⟨RX4, "within", "(III)Z"⟩
abbrev cX4_isKind : ByteArray := prog_6_method_5_code
def yX4_isKind : MethodName := ⟨RX4, "isKind", "(I)Z"⟩
abbrev cX4_isPallet : ByteArray := prog_6_method_6_code
def yX4_isPallet : MethodName := ⟨RX4, "isPallet", "(I)Z"⟩
abbrev cX4_kind : ByteArray := prog_6_method_7_code
def yX4_kind : MethodName := ⟨RX4, "kind", "(IIII)I"⟩
abbrev cX4_areaOf : ByteArray := prog_6_method_8_code
def yX4_areaOf : MethodName := ⟨RX4, "areaOf", "(I)I"⟩
abbrev cX4_cellsOf : ByteArray := prog_6_method_9_code
def yX4_cellsOf : MethodName := ⟨RX4, "cellsOf", "(III)J"⟩
abbrev cX4_count : ByteArray := prog_6_method_10_code
def yX4_count : MethodName := ⟨RX4, "count", "(J)I"⟩
abbrev cX4_firstCell : ByteArray := prog_6_method_11_code
def yX4_firstCell : MethodName := ⟨RX4, "firstCell", "()I"⟩
abbrev cX4_canBeBetter : ByteArray := prog_6_method_12_code
def yX4_canBeBetter : MethodName := ⟨RX4, "canBeBetter", "(I)Z"⟩
abbrev cX4_keepBest : ByteArray := prog_6_method_13_code
def yX4_keepBest : MethodName := ⟨RX4, "keepBest", "(I)V"⟩
abbrev cX4_undo : ByteArray := prog_6_method_14_code
def yX4_undo : MethodName := ⟨RX4, "undo", "(III)V"⟩
abbrev cX4_canTry : ByteArray := prog_6_method_15_code
def yX4_canTry : MethodName := ⟨RX4, "canTry", "(III)Z"⟩
abbrev cX4_tries : ByteArray := prog_6_method_16_code
def yX4_tries : MethodName := ⟨RX4, "tries", "(III)V"⟩
abbrev cX4_seek : ByteArray := prog_6_method_17_code
def yX4_seek : MethodName := ⟨RX4, "seek", "(II)V"⟩
abbrev cX4_hasLayers : ByteArray := prog_6_method_18_code
def yX4_hasLayers : MethodName := ⟨RX4, "hasLayers", "(I)Z"⟩
abbrev cX4_search : ByteArray := prog_6_method_19_code
def yX4_search : MethodName := ⟨RX4, "search", "(II)I"⟩
abbrev cX4_pattern : ByteArray := prog_6_method_20_code
def yX4_pattern : MethodName := ⟨RX4, "pattern", "(III)I"⟩
abbrev cX4_exact : ByteArray := prog_6_method_21_code
def yX4_exact : MethodName := ⟨RX4, "exact", "(I)Z"⟩
abbrev cX4_bound : ByteArray := prog_6_method_22_code
def yX4_bound : MethodName := ⟨RX4, "bound", "(I)I"⟩
abbrev cX4_rules : ByteArray := prog_6_method_23_code
def yX4_rules : MethodName := ⟨RX4, "rules", "(III)V"⟩
abbrev cX4_pallet : ByteArray := prog_6_method_24_code
def yX4_pallet : MethodName := ⟨RX4, "pallet", "()I"⟩
abbrev cX4_heightOf : ByteArray := prog_6_method_25_code
def yX4_heightOf : MethodName := ⟨RX4, "heightOf", "(II)I"⟩
abbrev cX4_weightOf : ByteArray := prog_6_method_26_code
def yX4_weightOf : MethodName := ⟨RX4, "weightOf", "(I)I"⟩
abbrev cX4_boxesOn : ByteArray := prog_6_method_27_code
def yX4_boxesOn : MethodName := ⟨RX4, "boxesOn", "(I)I"⟩
abbrev cX4_supportOf : ByteArray := prog_6_method_28_code
def yX4_supportOf : MethodName := ⟨RX4, "supportOf", "(IIII)I"⟩
abbrev cX4_reason : ByteArray := prog_6_method_29_code
def yX4_reason : MethodName := ⟨RX4, "reason", "(III)I"⟩
abbrev cX4_add : ByteArray := prog_6_method_30_code
def yX4_add : MethodName := ⟨RX4, "add", "(III)V"⟩
abbrev cX4_put : ByteArray := prog_6_method_31_code
def yX4_put : MethodName := ⟨RX4, "put", "(III)I"⟩
abbrev cX4_fill : ByteArray := prog_6_method_32_code
def yX4_fill : MethodName := ⟨RX4, "fill", "(III)I"⟩
abbrev cX4_take : ByteArray := prog_6_method_33_code
def yX4_take : MethodName := ⟨RX4, "take", "(I)I"⟩
abbrev cX4_isLayer : ByteArray := prog_6_method_34_code
def yX4_isLayer : MethodName := ⟨RX4, "isLayer", "(II)Z"⟩
abbrev cX4_support : ByteArray := prog_6_method_35_code
def yX4_support : MethodName := ⟨RX4, "support", "(III)I"⟩
abbrev cX4_told : ByteArray := prog_6_method_36_code
def yX4_told : MethodName := ⟨RX4, "told", "(II)I"⟩
abbrev cX4_layer : ByteArray := prog_6_method_37_code
def yX4_layer : MethodName := ⟨RX4, "layer", "(III)I"⟩
abbrev cX4_truck : ByteArray := prog_6_method_38_code
def yX4_truck : MethodName := ⟨RX4, "truck", "(II)I"⟩
abbrev cX4_unload : ByteArray := prog_6_method_39_code
def yX4_unload : MethodName := ⟨RX4, "unload", "(I)I"⟩
abbrev cX4_order : ByteArray := prog_6_method_40_code
def yX4_order : MethodName := ⟨RX4, "order", "(I)I"⟩
abbrev cX4_count_ : ByteArray := prog_6_method_41_code
def yX4_count_ : MethodName := ⟨RX4, "count", "(I)I"⟩
def RJx00060 : String := "java/lang/ArrayIndexOutOfBoundsException"
def TJx00060 : u_T := fun k => match k with
  | 0 => ("java/lang/Throwable", "backtrace", "Ljava/lang/Object;", false)
  | 1 => ("java/lang/Throwable", "detailMessage", "Ljava/lang/String;", false)
  | 2 => ("java/lang/Throwable", "cause", "Ljava/lang/Throwable;", false)
  | 3 => ("java/lang/Throwable", "stackTrace", "[Ljava/lang/StackTraceElement;", false)
  | 4 => ("java/lang/Throwable", "depth", "I", false)
  | _ => ("java/lang/Throwable", "suppressedExceptions", "Ljava/util/List;", false)
def tyJx00060 : Nat → FieldType := fun k => match k with
  | 0 => .object "java/lang/Object"
  | 1 => .object "java/lang/String"
  | 2 => .object "java/lang/Throwable"
  | 3 => .array (.object "java/lang/StackTraceElement")
  | 4 => .int
  | _ => .object "java/util/List"
abbrev wsJx000600 : List Cond := u_ws RJx00060 TJx00060 6
theorem nmJx00060 : ∀ a, a < 6 → ∀ b, b < 6 → a ≠ b → (TJx00060 a).2.1 ≠ (TJx00060 b).2.1 := by decide +kernel
theorem tyJx00060_ok : ∀ k, k < 6 → parseFieldDescriptor (TJx00060 k).2.2.1 = some (tyJx00060 k) := by decide +kernel
abbrev cJx00060_init_a7421 : ByteArray := prog_7_method_2_code
def yJx00060_init_a7421 : MethodName := ⟨RJx00060, "<init>", "(Ljava/lang/String;)V"⟩
def RJ13 : String := "java/lang/Long"
def TJ13 : u_T := fun k => match k with
  | _ => ("", "", "", false)
def tyJ13 : Nat → FieldType := fun k => match k with
  | _ => .int
abbrev wsJ130 : List Cond := u_ws RJ13 TJ13 0
theorem nmJ13 : ∀ a, a < 0 → ∀ b, b < 0 → a ≠ b → (TJ13 a).2.1 ≠ (TJ13 b).2.1 := by decide +kernel
theorem tyJ13_ok : ∀ k, k < 0 → parseFieldDescriptor (TJ13 k).2.2.1 = some (tyJ13 k) := by decide +kernel
abbrev cJ13_bitCount_95d88 : ByteArray := prog_12_method_50_code
def yJ13_bitCount_95d88 : MethodName := ⟨RJ13, "bitCount", "(J)I"⟩
def RJ9 : String := "java/lang/Math"
def TJ9 : u_T := fun k => match k with
  | _ => ("", "", "", false)
def tyJ9 : Nat → FieldType := fun k => match k with
  | _ => .int
abbrev wsJ90 : List Cond := u_ws RJ9 TJ9 0
theorem nmJ9 : ∀ a, a < 0 → ∀ b, b < 0 → a ≠ b → (TJ9 a).2.1 ≠ (TJ9 b).2.1 := by decide +kernel
theorem tyJ9_ok : ∀ k, k < 0 → parseFieldDescriptor (TJ9 k).2.2.1 = some (tyJ9 k) := by decide +kernel
abbrev cJ9_max_7cf53 : ByteArray := prog_13_method_65_code
def yJ9_max_7cf53 : MethodName := ⟨RJ9, "max", "(II)I"⟩
abbrev cJ9_min_7cf53 : ByteArray := prog_13_method_69_code
def yJ9_min_7cf53 : MethodName := ⟨RJ9, "min", "(II)I"⟩
def RJ0 : String := "java/lang/String"
def TJ0 : u_T := fun k => match k with
  | 0 => ("java/lang/String", "value", "[B", true)
  | _ => ("java/lang/String", "coder", "B", true)
def tyJ0 : Nat → FieldType := fun k => match k with
  | 0 => .array .byte
  | _ => .byte
abbrev wsJ00 : List Cond := u_ws RJ0 TJ0 2
theorem nmJ0 : ∀ a, a < 2 → ∀ b, b < 2 → a ≠ b → (TJ0 a).2.1 ≠ (TJ0 b).2.1 := by decide +kernel
theorem tyJ0_ok : ∀ k, k < 2 → parseFieldDescriptor (TJ0 k).2.2.1 = some (tyJ0 k) := by decide +kernel
def RL : String := "PalletLayersLaw"
abbrev cL_cell : ByteArray := method_2_code
def yL_cell : MethodName := ⟨RL, "cell", "([II)I"⟩
abbrev cL_kind : ByteArray := method_3_code
def yL_kind : MethodName := ⟨RL, "kind", "(LPalletLayers;IIII[J)I"⟩
abbrev cL_search : ByteArray := method_4_code
def yL_search : MethodName := ⟨RL, "search", "(LPalletLayers;II[J)I"⟩
abbrev cL_pattern : ByteArray := method_5_code
def yL_pattern : MethodName := ⟨RL, "pattern", "(LPalletLayers;III[J)I"⟩
abbrev cL_exact : ByteArray := method_6_code
def yL_exact : MethodName := ⟨RL, "exact", "(LPalletLayers;I[J)I"⟩
abbrev cL_bound : ByteArray := method_7_code
def yL_bound : MethodName := ⟨RL, "bound", "(LPalletLayers;I[J)I"⟩
abbrev cL_rules : ByteArray := method_8_code
def yL_rules : MethodName := ⟨RL, "rules", "(LPalletLayers;III)I"⟩
abbrev cL_pallet : ByteArray := method_9_code
def yL_pallet : MethodName := ⟨RL, "pallet", "(LPalletLayers;[J)I"⟩
abbrev cL_put : ByteArray := method_10_code
def yL_put : MethodName := ⟨RL, "put", "(LPalletLayers;III[J)I"⟩
abbrev cL_fill : ByteArray := method_11_code
def yL_fill : MethodName := ⟨RL, "fill", "(LPalletLayers;III[J)I"⟩
abbrev cL_take : ByteArray := method_12_code
def yL_take : MethodName := ⟨RL, "take", "(LPalletLayers;I[J)I"⟩
abbrev cL_support : ByteArray := method_13_code
def yL_support : MethodName := ⟨RL, "support", "(LPalletLayers;III[J)I"⟩
abbrev cL_told : ByteArray := method_14_code
def yL_told : MethodName := ⟨RL, "told", "(LPalletLayers;II[J)I"⟩
abbrev cL_layer : ByteArray := method_15_code
def yL_layer : MethodName := ⟨RL, "layer", "(LPalletLayers;III[J)I"⟩
abbrev cL_truck : ByteArray := method_16_code
def yL_truck : MethodName := ⟨RL, "truck", "(LPalletLayers;II[J)I"⟩
abbrev cL_unload : ByteArray := method_17_code
def yL_unload : MethodName := ⟨RL, "unload", "(LPalletLayers;I[J)I"⟩
abbrev cL_order : ByteArray := method_18_code
def yL_order : MethodName := ⟨RL, "order", "(LPalletLayers;I[J)I"⟩
abbrev cL_law : ByteArray := code
def yL_law : MethodName := ⟨RL, "law", "([I)Z"⟩
def wsX0_shape : List Cond := .code yX0_shape cX0_shape 8 (some .long) :: ([])
def wsX0_init : List Cond := .code yX0_init cX0_init 6 none :: ([.methodLink RX0 3 objectInit, .instanceMethod objectInit, .code objectInit ⟨#[0xb1]⟩ 1 none, .arrayClass .int, .fieldLink RX0 9 "PalletLayers$Kind" "corners" "[I", .fieldLink RX0 15 "PalletLayers$Kind" "ways" "[I", .fieldLink RX0 18 "PalletLayers$Kind" "boxes" "I", .fieldLink RX0 22 "PalletLayers$Kind" "soughtExactly" "Z", .fieldLink RX0 26 "PalletLayers$Kind" "width" "I", .fieldLink RX0 29 "PalletLayers$Kind" "depth" "I", .fieldLink RX0 32 "PalletLayers$Kind" "height" "I", .fieldLink RX0 35 "PalletLayers$Kind" "weight" "I", .fieldLink RX0 38 "PalletLayers$Kind" "area" "I", .fieldLink RX0 45 "PalletLayers$Kind" "straightShape" "J", .fieldLink RX0 49 "PalletLayers$Kind" "turnedShape" "J", .methodLink RX0 41 yX0_shape, .static yX0_shape, .initialized RX0, .code yX0_shape cX0_shape 8 (some .long)] ++ wsX00)
def wsX0_across : List Cond := .code yX0_across cX0_across 2 (some .int) :: ([.fieldLink RX0 26 "PalletLayers$Kind" "width" "I", .fieldLink RX0 29 "PalletLayers$Kind" "depth" "I"] ++ wsX00)
def wsX0_along : List Cond := .code yX0_along cX0_along 2 (some .int) :: ([.fieldLink RX0 29 "PalletLayers$Kind" "depth" "I", .fieldLink RX0 26 "PalletLayers$Kind" "width" "I"] ++ wsX00)
def wsX0_cellsAt : List Cond := .code yX0_cellsAt cX0_cellsAt 3 (some .long) :: ([.fieldLink RX0 45 "PalletLayers$Kind" "straightShape" "J", .fieldLink RX0 49 "PalletLayers$Kind" "turnedShape" "J"] ++ wsX00)
def wsX3_isOutside : List Cond := .code yX3_isOutside cX3_isOutside 3 (some .boolean) :: ([])
def wsX0_cellsOfBox : List Cond := .code yX0_cellsOfBox cX0_cellsOfBox 2 (some .long) :: ([.fieldLink RX0 18 "PalletLayers$Kind" "boxes" "I", .fieldLink RX0 9 "PalletLayers$Kind" "corners" "[I", .fieldLink RX0 15 "PalletLayers$Kind" "ways" "[I", .static yX3_isOutside, .initialized RX3, .code yX3_isOutside cX3_isOutside 3 (some .boolean), .methodLink RX0 56 yX0_cellsAt, .instanceMethod yX0_cellsAt, .selects RX0 yX0_cellsAt yX0_cellsAt, .initialized RX0, .code yX0_cellsAt cX0_cellsAt 3 (some .long), .fieldLink RX0 45 "PalletLayers$Kind" "straightShape" "J", .fieldLink RX0 49 "PalletLayers$Kind" "turnedShape" "J"] ++ wsX00 ++ (vx_atM "java/lang/ArrayIndexOutOfBoundsException" ["java/lang/IndexOutOfBoundsException", "java/lang/RuntimeException", "java/lang/Exception"]).filter goodWord)
def wsX0_cellsOfFirst : List Cond := .code yX0_cellsOfFirst cX0_cellsOfFirst 5 (some .long) :: ([.methodLink RX0 60 yX0_cellsOfBox, .instanceMethod yX0_cellsOfBox, .selects RX0 yX0_cellsOfBox yX0_cellsOfBox, .initialized RX0, .code yX0_cellsOfBox cX0_cellsOfBox 2 (some .long), .fieldLink RX0 18 "PalletLayers$Kind" "boxes" "I", .fieldLink RX0 9 "PalletLayers$Kind" "corners" "[I", .fieldLink RX0 15 "PalletLayers$Kind" "ways" "[I", .static yX3_isOutside, .initialized RX3, .code yX3_isOutside cX3_isOutside 3 (some .boolean), .methodLink RX0 56 yX0_cellsAt, .instanceMethod yX0_cellsAt, .selects RX0 yX0_cellsAt yX0_cellsAt, .code yX0_cellsAt cX0_cellsAt 3 (some .long), .fieldLink RX0 45 "PalletLayers$Kind" "straightShape" "J", .fieldLink RX0 49 "PalletLayers$Kind" "turnedShape" "J"] ++ wsX00 ++ (vx_atM "java/lang/ArrayIndexOutOfBoundsException" ["java/lang/IndexOutOfBoundsException", "java/lang/RuntimeException", "java/lang/Exception"]).filter goodWord)
def wsX0_keepPattern : List Cond := .code yX0_keepPattern cX0_keepPattern 5 none :: ([.methodLink RX0 64 Lib.Math.min.name, .static Lib.Math.min.name, .initialized "java/lang/Math", .code Lib.Math.min.name Lib.Math.min.code 2 (some .int), .fieldLink RX0 18 "PalletLayers$Kind" "boxes" "I", .fieldLink RX0 9 "PalletLayers$Kind" "corners" "[I", .fieldLink RX0 15 "PalletLayers$Kind" "ways" "[I"] ++ wsX00 ++ (vx_atM "java/lang/ArrayIndexOutOfBoundsException" ["java/lang/IndexOutOfBoundsException", "java/lang/RuntimeException", "java/lang/Exception"]).filter goodWord)
def wsX1_init : List Cond := .code yX1_init cX1_init 1 none :: ([.methodLink RX1 3 objectInit, .instanceMethod objectInit, .code objectInit ⟨#[0xb1]⟩ 1 none, .arrayClass .int, .fieldLink RX1 9 "PalletLayers$Pallet" "kindOf" "[I", .fieldLink RX1 15 "PalletLayers$Pallet" "boxesOf" "[I", .fieldLink RX1 18 "PalletLayers$Pallet" "bottomOf" "[I", .fieldLink RX1 21 "PalletLayers$Pallet" "weightOf" "[I", .arrayClass .long, .fieldLink RX1 24 "PalletLayers$Pallet" "coveredOf" "[J", .fieldLink RX1 28 "PalletLayers$Pallet" "layers" "I", .fieldLink RX1 32 "PalletLayers$Pallet" "height" "I", .fieldLink RX1 35 "PalletLayers$Pallet" "weight" "I", .fieldLink RX1 38 "PalletLayers$Pallet" "boxes" "I", .fieldLink RX1 41 "PalletLayers$Pallet" "stop" "I"] ++ wsX10)
def wsX1_lay_r1 : List Cond := [Cond.fieldLink RX1 28 "PalletLayers$Pallet" "layers" "I", Cond.fieldLink RX1 9 "PalletLayers$Pallet" "kindOf" "[I", Cond.fieldLink RX1 15 "PalletLayers$Pallet" "boxesOf" "[I", Cond.fieldLink RX1 18 "PalletLayers$Pallet" "bottomOf" "[I", Cond.fieldLink RX1 32 "PalletLayers$Pallet" "height" "I", Cond.fieldLink RX1 21 "PalletLayers$Pallet" "weightOf" "[I", Cond.fieldLink RX1 44 "PalletLayers$Kind" "weight" "I", Cond.fieldLink RX1 24 "PalletLayers$Pallet" "coveredOf" "[J", Cond.fieldLink RX1 51 "PalletLayers$Kind" "height" "I", Cond.fieldLink RX1 35 "PalletLayers$Pallet" "weight" "I", Cond.fieldLink RX1 38 "PalletLayers$Pallet" "boxes" "I", Cond.methodLink RX1 47 yX0_cellsOfFirst, Cond.instanceMethod yX0_cellsOfFirst, Cond.selects RX0 yX0_cellsOfFirst yX0_cellsOfFirst, Cond.initialized RX0, Cond.code yX0_cellsOfFirst cX0_cellsOfFirst 5 (some .long), Cond.methodLink RX0 60 yX0_cellsOfBox, Cond.instanceMethod yX0_cellsOfBox, Cond.selects RX0 yX0_cellsOfBox yX0_cellsOfBox, Cond.code yX0_cellsOfBox cX0_cellsOfBox 2 (some .long), Cond.fieldLink RX0 18 "PalletLayers$Kind" "boxes" "I", Cond.fieldLink RX0 9 "PalletLayers$Kind" "corners" "[I", Cond.fieldLink RX0 15 "PalletLayers$Kind" "ways" "[I", Cond.static yX3_isOutside]
def wsX1_lay_r2 : List Cond := [Cond.initialized RX3, Cond.code yX3_isOutside cX3_isOutside 3 (some .boolean), Cond.methodLink RX0 56 yX0_cellsAt, Cond.instanceMethod yX0_cellsAt, Cond.selects RX0 yX0_cellsAt yX0_cellsAt, Cond.code yX0_cellsAt cX0_cellsAt 3 (some .long), Cond.fieldLink RX0 45 "PalletLayers$Kind" "straightShape" "J", Cond.fieldLink RX0 49 "PalletLayers$Kind" "turnedShape" "J"]
def wsX1_lay : List Cond := .code yX1_lay cX1_lay 4 none :: ((wsX1_lay_r1 ++ wsX1_lay_r2) ++ wsX10 ++ wsX00 ++ (vx_atM "java/lang/ArrayIndexOutOfBoundsException" ["java/lang/IndexOutOfBoundsException", "java/lang/RuntimeException", "java/lang/Exception"]).filter goodWord)
def wsX1_liftTop : List Cond := .code yX1_liftTop cX1_liftTop 1 (some .int) :: ([.fieldLink RX1 28 "PalletLayers$Pallet" "layers" "I", .fieldLink RX1 18 "PalletLayers$Pallet" "bottomOf" "[I", .fieldLink RX1 32 "PalletLayers$Pallet" "height" "I", .fieldLink RX1 35 "PalletLayers$Pallet" "weight" "I", .fieldLink RX1 21 "PalletLayers$Pallet" "weightOf" "[I", .fieldLink RX1 38 "PalletLayers$Pallet" "boxes" "I", .fieldLink RX1 15 "PalletLayers$Pallet" "boxesOf" "[I"] ++ wsX10 ++ (vx_atM "java/lang/ArrayIndexOutOfBoundsException" ["java/lang/IndexOutOfBoundsException", "java/lang/RuntimeException", "java/lang/Exception"]).filter goodWord)
def wsX1_clear : List Cond := .code yX1_clear cX1_clear 1 none :: ([.fieldLink RX1 28 "PalletLayers$Pallet" "layers" "I", .fieldLink RX1 32 "PalletLayers$Pallet" "height" "I", .fieldLink RX1 35 "PalletLayers$Pallet" "weight" "I", .fieldLink RX1 38 "PalletLayers$Pallet" "boxes" "I", .fieldLink RX1 41 "PalletLayers$Pallet" "stop" "I"] ++ wsX10)
def wsX1_coveredIn : List Cond := .code yX1_coveredIn cX1_coveredIn 2 (some .long) :: ([.fieldLink RX1 28 "PalletLayers$Pallet" "layers" "I", .fieldLink RX1 24 "PalletLayers$Pallet" "coveredOf" "[J", .static yX3_isOutside, .initialized RX3, .code yX3_isOutside cX3_isOutside 3 (some .boolean)] ++ wsX10 ++ (vx_atM "java/lang/ArrayIndexOutOfBoundsException" ["java/lang/IndexOutOfBoundsException", "java/lang/RuntimeException", "java/lang/Exception"]).filter goodWord)
def wsX1_kindBits : List Cond := .code yX1_kindBits cX1_kindBits 3 (some .int) :: ([.fieldLink RX1 28 "PalletLayers$Pallet" "layers" "I", .fieldLink RX1 9 "PalletLayers$Pallet" "kindOf" "[I"] ++ wsX10 ++ (vx_atM "java/lang/ArrayIndexOutOfBoundsException" ["java/lang/IndexOutOfBoundsException", "java/lang/RuntimeException", "java/lang/Exception"]).filter goodWord)
def wsX2_init : List Cond := .code yX2_init cX2_init 3 none :: ([.methodLink RX2 3 objectInit, .instanceMethod objectInit, .code objectInit ⟨#[0xb1]⟩ 1 none, .arrayClass .int, .fieldLink RX2 9 "PalletLayers$PatternSearch" "corners" "[I", .fieldLink RX2 15 "PalletLayers$PatternSearch" "ways" "[I", .fieldLink RX2 18 "PalletLayers$PatternSearch" "mostSteps" "I", .fieldLink RX2 22 "PalletLayers$PatternSearch" "stepsMade" "I", .fieldLink RX2 25 "PalletLayers$PatternSearch" "best" "I", .fieldLink RX2 28 "PalletLayers$PatternSearch" "lackedSteps" "Z", .fieldLink RX2 32 "PalletLayers$PatternSearch" "areaWidth" "I", .fieldLink RX2 35 "PalletLayers$PatternSearch" "areaDepth" "I", .fieldLink RX2 38 "PalletLayers$PatternSearch" "cellCount" "I"] ++ wsX20)
def wsX2_firstOpen : List Cond := .code yX2_firstOpen cX2_firstOpen 5 (some .int) :: ([.fieldLink RX2 38 "PalletLayers$PatternSearch" "cellCount" "I"] ++ wsX20)
def wsX2_keepIfBetter : List Cond := .code yX2_keepIfBetter cX2_keepIfBetter 3 none :: ([.fieldLink RX2 25 "PalletLayers$PatternSearch" "best" "I", .fieldLink RX2 9 "PalletLayers$PatternSearch" "corners" "[I", .fieldLink RX2 15 "PalletLayers$PatternSearch" "ways" "[I", .methodLink RX2 41 yX0_keepPattern, .instanceMethod yX0_keepPattern, .selects RX0 yX0_keepPattern yX0_keepPattern, .initialized RX0, .code yX0_keepPattern cX0_keepPattern 5 none, .methodLink RX0 64 Lib.Math.min.name, .static Lib.Math.min.name, .initialized "java/lang/Math", .code Lib.Math.min.name Lib.Math.min.code 2 (some .int), .fieldLink RX0 18 "PalletLayers$Kind" "boxes" "I", .fieldLink RX0 9 "PalletLayers$Kind" "corners" "[I", .fieldLink RX0 15 "PalletLayers$Kind" "ways" "[I"] ++ wsX20 ++ wsX00 ++ (vx_atM "java/lang/ArrayIndexOutOfBoundsException" ["java/lang/IndexOutOfBoundsException", "java/lang/RuntimeException", "java/lang/Exception"]).filter goodWord)
def wsJ13_bitCount_95d88 : List Cond := .code yJ13_bitCount_95d88 cJ13_bitCount_95d88 2 (some .int) :: ([.constantLong RJ13 314 (6148914691236517205), .constantLong RJ13 316 (3689348814741910323), .constantLong RJ13 318 (1085102592571150095)])
def wsX2_mayBeatBest : List Cond := .code yX2_mayBeatBest cX2_mayBeatBest 6 (some .boolean) :: ([.fieldLink RX2 38 "PalletLayers$PatternSearch" "cellCount" "I", .fieldLink RX2 97 "PalletLayers$Kind" "area" "I", .fieldLink RX2 25 "PalletLayers$PatternSearch" "best" "I", .methodLink RX2 91 yJ13_bitCount_95d88, .static yJ13_bitCount_95d88, .initialized RJ13, .code yJ13_bitCount_95d88 cJ13_bitCount_95d88 2 (some .int), .constantLong RJ13 314 (6148914691236517205), .constantLong RJ13 316 (3689348814741910323), .constantLong RJ13 318 (1085102592571150095)] ++ wsX20 ++ wsX00)
def wsX2_takeStep : List Cond := .code yX2_takeStep cX2_takeStep 1 (some .boolean) :: ([.fieldLink RX2 22 "PalletLayers$PatternSearch" "stepsMade" "I", .fieldLink RX2 18 "PalletLayers$PatternSearch" "mostSteps" "I", .fieldLink RX2 28 "PalletLayers$PatternSearch" "lackedSteps" "Z"] ++ wsX20)
def wsX2_goOn_r1 : List Cond := [Cond.fieldLink RX2 38 "PalletLayers$PatternSearch" "cellCount" "I", Cond.fieldLink RX2 70 "PalletLayers$Kind" "width" "I", Cond.fieldLink RX2 73 "PalletLayers$Kind" "depth" "I", Cond.methodLink RX2 54 yX2_firstOpen, Cond.instanceMethod yX2_firstOpen, Cond.selects RX2 yX2_firstOpen yX2_firstOpen, Cond.initialized RX2, Cond.code yX2_firstOpen cX2_firstOpen 5 (some .int), Cond.methodLink RX2 58 yX2_keepIfBetter, Cond.instanceMethod yX2_keepIfBetter, Cond.selects RX2 yX2_keepIfBetter yX2_keepIfBetter, Cond.code yX2_keepIfBetter cX2_keepIfBetter 3 none, Cond.fieldLink RX2 25 "PalletLayers$PatternSearch" "best" "I", Cond.fieldLink RX2 9 "PalletLayers$PatternSearch" "corners" "[I", Cond.fieldLink RX2 15 "PalletLayers$PatternSearch" "ways" "[I", Cond.methodLink RX2 41 yX0_keepPattern, Cond.instanceMethod yX0_keepPattern, Cond.selects RX0 yX0_keepPattern yX0_keepPattern, Cond.initialized RX0, Cond.code yX0_keepPattern cX0_keepPattern 5 none, Cond.methodLink RX0 64 Lib.Math.min.name, Cond.static Lib.Math.min.name, Cond.initialized "java/lang/Math", Cond.code Lib.Math.min.name Lib.Math.min.code 2 (some .int)]
def wsX2_goOn_r2 : List Cond := [Cond.fieldLink RX0 18 "PalletLayers$Kind" "boxes" "I", Cond.fieldLink RX0 9 "PalletLayers$Kind" "corners" "[I", Cond.fieldLink RX0 15 "PalletLayers$Kind" "ways" "[I", Cond.methodLink RX2 62 yX2_mayBeatBest, Cond.instanceMethod yX2_mayBeatBest, Cond.selects RX2 yX2_mayBeatBest yX2_mayBeatBest, Cond.code yX2_mayBeatBest cX2_mayBeatBest 6 (some .boolean), Cond.fieldLink RX2 97 "PalletLayers$Kind" "area" "I", Cond.methodLink RX2 91 yJ13_bitCount_95d88, Cond.static yJ13_bitCount_95d88, Cond.initialized RJ13, Cond.code yJ13_bitCount_95d88 cJ13_bitCount_95d88 2 (some .int), Cond.constantLong RJ13 314 (6148914691236517205), Cond.constantLong RJ13 316 (3689348814741910323), Cond.constantLong RJ13 318 (1085102592571150095), Cond.methodLink RX2 66 yX2_tryBox, Cond.instanceMethod yX2_tryBox, Cond.selects RX2 yX2_tryBox yX2_tryBox, Cond.methodLink RX2 76 yX2_takeStep, Cond.instanceMethod yX2_takeStep, Cond.selects RX2 yX2_takeStep yX2_takeStep, Cond.code yX2_takeStep cX2_takeStep 1 (some .boolean), Cond.fieldLink RX2 22 "PalletLayers$PatternSearch" "stepsMade" "I", Cond.fieldLink RX2 18 "PalletLayers$PatternSearch" "mostSteps" "I"]
def wsX2_goOn_r3 : List Cond := [Cond.fieldLink RX2 28 "PalletLayers$PatternSearch" "lackedSteps" "Z", Cond.methodLink RX2 47 yX2_goOn, Cond.instanceMethod yX2_goOn, Cond.selects RX2 yX2_goOn yX2_goOn, Cond.code yX2_tryBox cX2_tryBox 10 none, Cond.fieldLink RX2 32 "PalletLayers$PatternSearch" "areaWidth" "I", Cond.fieldLink RX2 35 "PalletLayers$PatternSearch" "areaDepth" "I", Cond.methodLink RX2 80 yX0_cellsAt, Cond.instanceMethod yX0_cellsAt, Cond.selects RX0 yX0_cellsAt yX0_cellsAt, Cond.code yX0_cellsAt cX0_cellsAt 3 (some .long), Cond.fieldLink RX0 45 "PalletLayers$Kind" "straightShape" "J", Cond.fieldLink RX0 49 "PalletLayers$Kind" "turnedShape" "J", Cond.methodLink RX2 84 yX0_across, Cond.instanceMethod yX0_across, Cond.selects RX0 yX0_across yX0_across, Cond.code yX0_across cX0_across 2 (some .int), Cond.fieldLink RX0 26 "PalletLayers$Kind" "width" "I", Cond.fieldLink RX0 29 "PalletLayers$Kind" "depth" "I", Cond.methodLink RX2 88 yX0_along, Cond.instanceMethod yX0_along, Cond.selects RX0 yX0_along yX0_along, Cond.code yX0_along cX0_along 2 (some .int)]
def wsX2_goOn : List Cond := .code yX2_goOn cX2_goOn 7 none :: ((wsX2_goOn_r1 ++ (wsX2_goOn_r2 ++ wsX2_goOn_r3)) ++ wsX20 ++ wsX00 ++ (vx_atM "java/lang/ArrayIndexOutOfBoundsException" ["java/lang/IndexOutOfBoundsException", "java/lang/RuntimeException", "java/lang/Exception"]).filter goodWord)
def wsX2_tryBox_r1 : List Cond := [Cond.fieldLink RX2 32 "PalletLayers$PatternSearch" "areaWidth" "I", Cond.fieldLink RX2 35 "PalletLayers$PatternSearch" "areaDepth" "I", Cond.fieldLink RX2 9 "PalletLayers$PatternSearch" "corners" "[I", Cond.fieldLink RX2 15 "PalletLayers$PatternSearch" "ways" "[I", Cond.methodLink RX2 80 yX0_cellsAt, Cond.instanceMethod yX0_cellsAt, Cond.selects RX0 yX0_cellsAt yX0_cellsAt, Cond.initialized RX0, Cond.code yX0_cellsAt cX0_cellsAt 3 (some .long), Cond.fieldLink RX0 45 "PalletLayers$Kind" "straightShape" "J", Cond.fieldLink RX0 49 "PalletLayers$Kind" "turnedShape" "J", Cond.methodLink RX2 84 yX0_across, Cond.instanceMethod yX0_across, Cond.selects RX0 yX0_across yX0_across, Cond.code yX0_across cX0_across 2 (some .int), Cond.fieldLink RX0 26 "PalletLayers$Kind" "width" "I", Cond.fieldLink RX0 29 "PalletLayers$Kind" "depth" "I", Cond.methodLink RX2 88 yX0_along, Cond.instanceMethod yX0_along, Cond.selects RX0 yX0_along yX0_along, Cond.code yX0_along cX0_along 2 (some .int), Cond.methodLink RX2 76 yX2_takeStep, Cond.instanceMethod yX2_takeStep, Cond.selects RX2 yX2_takeStep yX2_takeStep]
def wsX2_tryBox_r2 : List Cond := [Cond.initialized RX2, Cond.code yX2_takeStep cX2_takeStep 1 (some .boolean), Cond.fieldLink RX2 22 "PalletLayers$PatternSearch" "stepsMade" "I", Cond.fieldLink RX2 18 "PalletLayers$PatternSearch" "mostSteps" "I", Cond.fieldLink RX2 28 "PalletLayers$PatternSearch" "lackedSteps" "Z", Cond.methodLink RX2 47 yX2_goOn, Cond.instanceMethod yX2_goOn, Cond.selects RX2 yX2_goOn yX2_goOn, Cond.code yX2_goOn cX2_goOn 7 none, Cond.fieldLink RX2 38 "PalletLayers$PatternSearch" "cellCount" "I", Cond.fieldLink RX2 70 "PalletLayers$Kind" "width" "I", Cond.fieldLink RX2 73 "PalletLayers$Kind" "depth" "I", Cond.methodLink RX2 54 yX2_firstOpen, Cond.instanceMethod yX2_firstOpen, Cond.selects RX2 yX2_firstOpen yX2_firstOpen, Cond.code yX2_firstOpen cX2_firstOpen 5 (some .int), Cond.methodLink RX2 58 yX2_keepIfBetter, Cond.instanceMethod yX2_keepIfBetter, Cond.selects RX2 yX2_keepIfBetter yX2_keepIfBetter, Cond.code yX2_keepIfBetter cX2_keepIfBetter 3 none, Cond.fieldLink RX2 25 "PalletLayers$PatternSearch" "best" "I", Cond.methodLink RX2 41 yX0_keepPattern, Cond.instanceMethod yX0_keepPattern, Cond.selects RX0 yX0_keepPattern yX0_keepPattern]
def wsX2_tryBox_r3 : List Cond := [Cond.code yX0_keepPattern cX0_keepPattern 5 none, Cond.methodLink RX0 64 Lib.Math.min.name, Cond.static Lib.Math.min.name, Cond.initialized "java/lang/Math", Cond.code Lib.Math.min.name Lib.Math.min.code 2 (some .int), Cond.fieldLink RX0 18 "PalletLayers$Kind" "boxes" "I", Cond.fieldLink RX0 9 "PalletLayers$Kind" "corners" "[I", Cond.fieldLink RX0 15 "PalletLayers$Kind" "ways" "[I", Cond.methodLink RX2 62 yX2_mayBeatBest, Cond.instanceMethod yX2_mayBeatBest, Cond.selects RX2 yX2_mayBeatBest yX2_mayBeatBest, Cond.code yX2_mayBeatBest cX2_mayBeatBest 6 (some .boolean), Cond.fieldLink RX2 97 "PalletLayers$Kind" "area" "I", Cond.methodLink RX2 91 yJ13_bitCount_95d88, Cond.static yJ13_bitCount_95d88, Cond.initialized RJ13, Cond.code yJ13_bitCount_95d88 cJ13_bitCount_95d88 2 (some .int), Cond.constantLong RJ13 314 (6148914691236517205), Cond.constantLong RJ13 316 (3689348814741910323), Cond.constantLong RJ13 318 (1085102592571150095), Cond.methodLink RX2 66 yX2_tryBox, Cond.instanceMethod yX2_tryBox, Cond.selects RX2 yX2_tryBox yX2_tryBox]
def wsX2_tryBox : List Cond := .code yX2_tryBox cX2_tryBox 10 none :: ((wsX2_tryBox_r1 ++ (wsX2_tryBox_r2 ++ wsX2_tryBox_r3)) ++ wsX20 ++ wsX00 ++ (vx_atM "java/lang/ArrayIndexOutOfBoundsException" ["java/lang/IndexOutOfBoundsException", "java/lang/RuntimeException", "java/lang/Exception"]).filter goodWord)
def wsX2_seek_r1 : List Cond := [Cond.fieldLink RX2 18 "PalletLayers$PatternSearch" "mostSteps" "I", Cond.fieldLink RX2 22 "PalletLayers$PatternSearch" "stepsMade" "I", Cond.fieldLink RX2 25 "PalletLayers$PatternSearch" "best" "I", Cond.fieldLink RX2 28 "PalletLayers$PatternSearch" "lackedSteps" "Z", Cond.fieldLink RX2 9 "PalletLayers$PatternSearch" "corners" "[I", Cond.fieldLink RX2 15 "PalletLayers$PatternSearch" "ways" "[I", Cond.fieldLink RX2 51 "PalletLayers$Kind" "soughtExactly" "Z", Cond.methodLink RX2 41 yX0_keepPattern, Cond.instanceMethod yX0_keepPattern, Cond.selects RX0 yX0_keepPattern yX0_keepPattern, Cond.initialized RX0, Cond.code yX0_keepPattern cX0_keepPattern 5 none, Cond.methodLink RX0 64 Lib.Math.min.name, Cond.static Lib.Math.min.name, Cond.initialized "java/lang/Math", Cond.code Lib.Math.min.name Lib.Math.min.code 2 (some .int), Cond.fieldLink RX0 18 "PalletLayers$Kind" "boxes" "I", Cond.fieldLink RX0 9 "PalletLayers$Kind" "corners" "[I", Cond.fieldLink RX0 15 "PalletLayers$Kind" "ways" "[I", Cond.methodLink RX2 47 yX2_goOn, Cond.instanceMethod yX2_goOn, Cond.selects RX2 yX2_goOn yX2_goOn, Cond.initialized RX2, Cond.code yX2_goOn cX2_goOn 7 none]
def wsX2_seek_r2 : List Cond := [Cond.fieldLink RX2 38 "PalletLayers$PatternSearch" "cellCount" "I", Cond.fieldLink RX2 70 "PalletLayers$Kind" "width" "I", Cond.fieldLink RX2 73 "PalletLayers$Kind" "depth" "I", Cond.methodLink RX2 54 yX2_firstOpen, Cond.instanceMethod yX2_firstOpen, Cond.selects RX2 yX2_firstOpen yX2_firstOpen, Cond.code yX2_firstOpen cX2_firstOpen 5 (some .int), Cond.methodLink RX2 58 yX2_keepIfBetter, Cond.instanceMethod yX2_keepIfBetter, Cond.selects RX2 yX2_keepIfBetter yX2_keepIfBetter, Cond.code yX2_keepIfBetter cX2_keepIfBetter 3 none, Cond.methodLink RX2 62 yX2_mayBeatBest, Cond.instanceMethod yX2_mayBeatBest, Cond.selects RX2 yX2_mayBeatBest yX2_mayBeatBest, Cond.code yX2_mayBeatBest cX2_mayBeatBest 6 (some .boolean), Cond.fieldLink RX2 97 "PalletLayers$Kind" "area" "I", Cond.methodLink RX2 91 yJ13_bitCount_95d88, Cond.static yJ13_bitCount_95d88, Cond.initialized RJ13, Cond.code yJ13_bitCount_95d88 cJ13_bitCount_95d88 2 (some .int), Cond.constantLong RJ13 314 (6148914691236517205), Cond.constantLong RJ13 316 (3689348814741910323), Cond.constantLong RJ13 318 (1085102592571150095), Cond.methodLink RX2 66 yX2_tryBox]
def wsX2_seek_r3 : List Cond := [Cond.instanceMethod yX2_tryBox, Cond.selects RX2 yX2_tryBox yX2_tryBox, Cond.methodLink RX2 76 yX2_takeStep, Cond.instanceMethod yX2_takeStep, Cond.selects RX2 yX2_takeStep yX2_takeStep, Cond.code yX2_takeStep cX2_takeStep 1 (some .boolean), Cond.code yX2_tryBox cX2_tryBox 10 none, Cond.fieldLink RX2 32 "PalletLayers$PatternSearch" "areaWidth" "I", Cond.fieldLink RX2 35 "PalletLayers$PatternSearch" "areaDepth" "I", Cond.methodLink RX2 80 yX0_cellsAt, Cond.instanceMethod yX0_cellsAt, Cond.selects RX0 yX0_cellsAt yX0_cellsAt, Cond.code yX0_cellsAt cX0_cellsAt 3 (some .long), Cond.fieldLink RX0 45 "PalletLayers$Kind" "straightShape" "J", Cond.fieldLink RX0 49 "PalletLayers$Kind" "turnedShape" "J", Cond.methodLink RX2 84 yX0_across, Cond.instanceMethod yX0_across, Cond.selects RX0 yX0_across yX0_across, Cond.code yX0_across cX0_across 2 (some .int), Cond.fieldLink RX0 26 "PalletLayers$Kind" "width" "I", Cond.fieldLink RX0 29 "PalletLayers$Kind" "depth" "I", Cond.methodLink RX2 88 yX0_along, Cond.instanceMethod yX0_along, Cond.selects RX0 yX0_along yX0_along]
def wsX2_seek_r4 : List Cond := [Cond.code yX0_along cX0_along 2 (some .int)]
def wsX2_seek : List Cond := .code yX2_seek cX2_seek 3 none :: ((wsX2_seek_r1 ++ (wsX2_seek_r2 ++ (wsX2_seek_r3 ++ wsX2_seek_r4))) ++ wsX20 ++ wsX00 ++ (vx_atM "java/lang/ArrayIndexOutOfBoundsException" ["java/lang/IndexOutOfBoundsException", "java/lang/RuntimeException", "java/lang/Exception"]).filter goodWord)
def wsX3_init_r1 : List Cond := [Cond.methodLink RX3 3 objectInit, Cond.instanceMethod objectInit, Cond.code objectInit ⟨#[0xb1]⟩ 1 none, Cond.classLink RX3 9 RX0, Cond.fieldLink RX3 11 "PalletLayers" "kinds" "[LPalletLayers$Kind;", Cond.classLink RX3 15 RX1, Cond.fieldLink RX3 17 "PalletLayers" "pallets" "[LPalletLayers$Pallet;", Cond.arrayClass .int, Cond.fieldLink RX3 21 "PalletLayers" "aboard" "[I", Cond.fieldLink RX3 25 "PalletLayers" "kindCount" "I", Cond.fieldLink RX3 29 "PalletLayers" "palletCount" "I", Cond.fieldLink RX3 32 "PalletLayers" "aboardCount" "I", Cond.fieldLink RX3 35 "PalletLayers" "share" "I", Cond.fieldLink RX3 38 "PalletLayers" "door" "I", Cond.fieldLink RX3 41 "PalletLayers" "load" "I", Cond.methodLink RX3 44 Lib.Math.min.name, Cond.static Lib.Math.min.name, Cond.initialized "java/lang/Math", Cond.code Lib.Math.min.name Lib.Math.min.code 2 (some .int), Cond.methodLink RX3 50 Lib.Math.max.name, Cond.static Lib.Math.max.name, Cond.code Lib.Math.max.name Lib.Math.max.code 2 (some .int), Cond.fieldLink RX3 53 "PalletLayers" "areaWidth" "I", Cond.fieldLink RX3 56 "PalletLayers" "areaDepth" "I"]
def wsX3_init_r2 : List Cond := [Cond.classLink RX3 59 RX2, Cond.instantiable RX2 9, Cond.initialized RX2, Cond.fieldLink RX3 64 "PalletLayers" "seeker" "LPalletLayers$PatternSearch;", Cond.methodLink RX3 61 yX2_init, Cond.instanceMethod yX2_init, Cond.code yX2_init cX2_init 3 none, Cond.methodLink RX2 3 objectInit, Cond.fieldLink RX2 9 "PalletLayers$PatternSearch" "corners" "[I", Cond.fieldLink RX2 15 "PalletLayers$PatternSearch" "ways" "[I", Cond.fieldLink RX2 18 "PalletLayers$PatternSearch" "mostSteps" "I", Cond.fieldLink RX2 22 "PalletLayers$PatternSearch" "stepsMade" "I", Cond.fieldLink RX2 25 "PalletLayers$PatternSearch" "best" "I", Cond.fieldLink RX2 28 "PalletLayers$PatternSearch" "lackedSteps" "Z", Cond.fieldLink RX2 32 "PalletLayers$PatternSearch" "areaWidth" "I", Cond.fieldLink RX2 35 "PalletLayers$PatternSearch" "areaDepth" "I", Cond.fieldLink RX2 38 "PalletLayers$PatternSearch" "cellCount" "I"]
def wsX3_init : List Cond := .code yX3_init cX3_init 3 none :: ((wsX3_init_r1 ++ wsX3_init_r2) ++ wsX30 ++ wsX20)
def wsX3_kind_r1 : List Cond := [Cond.classLink RX3 72 "java/lang/IllegalArgumentException", Cond.initialized "java/lang/IllegalArgumentException", Cond.classLink RX3 79 "java/lang/UnsupportedOperationException", Cond.initialized "java/lang/UnsupportedOperationException", Cond.fieldLink RX3 25 "PalletLayers" "kindCount" "I", Cond.fieldLink RX3 11 "PalletLayers" "kinds" "[LPalletLayers$Kind;", Cond.classLink RX3 9 RX0, Cond.instantiable RX0 11, Cond.initialized RX0, Cond.fieldLink RX3 53 "PalletLayers" "areaWidth" "I", Cond.methodLink RX3 68 yX3_isOutside, Cond.static yX3_isOutside, Cond.initialized RX3, Cond.code yX3_isOutside cX3_isOutside 3 (some .boolean), Cond.methodLink RX3 84 yX0_init, Cond.instanceMethod yX0_init, Cond.code yX0_init cX0_init 6 none, Cond.methodLink RX0 3 objectInit, Cond.instanceMethod objectInit, Cond.code objectInit ⟨#[0xb1]⟩ 1 none, Cond.arrayClass .int, Cond.fieldLink RX0 9 "PalletLayers$Kind" "corners" "[I", Cond.fieldLink RX0 15 "PalletLayers$Kind" "ways" "[I", Cond.fieldLink RX0 18 "PalletLayers$Kind" "boxes" "I"]
def wsX3_kind_r2 : List Cond := [Cond.fieldLink RX0 22 "PalletLayers$Kind" "soughtExactly" "Z", Cond.fieldLink RX0 26 "PalletLayers$Kind" "width" "I", Cond.fieldLink RX0 29 "PalletLayers$Kind" "depth" "I", Cond.fieldLink RX0 32 "PalletLayers$Kind" "height" "I", Cond.fieldLink RX0 35 "PalletLayers$Kind" "weight" "I", Cond.fieldLink RX0 38 "PalletLayers$Kind" "area" "I", Cond.fieldLink RX0 45 "PalletLayers$Kind" "straightShape" "J", Cond.fieldLink RX0 49 "PalletLayers$Kind" "turnedShape" "J", Cond.methodLink RX0 41 yX0_shape, Cond.static yX0_shape, Cond.code yX0_shape cX0_shape 8 (some .long)]
def wsX3_kind : List Cond := .code yX3_kind cX3_kind 5 (some .int) :: ((wsX3_kind_r1 ++ wsX3_kind_r2) ++ wsX30 ++ wsX00 ++ (vx_atS RX3 76 "java/lang/IllegalArgumentException" ["java/lang/RuntimeException", "java/lang/Exception"]).filter goodWord ++ (vx_atS RX3 83 "java/lang/UnsupportedOperationException" ["java/lang/RuntimeException", "java/lang/Exception"]).filter goodWord)
def wsX3_kindNumbered : List Cond := .code yX3_kindNumbered cX3_kindNumbered 3 (some (.object "PalletLayers$Kind")) :: ([.classLink RX3 174 "java/util/NoSuchElementException", .initialized "java/util/NoSuchElementException", .fieldLink RX3 11 "PalletLayers" "kinds" "[LPalletLayers$Kind;", .methodLink RX3 68 yX3_isOutside, .static yX3_isOutside, .initialized RX3, .code yX3_isOutside cX3_isOutside 3 (some .boolean)] ++ wsX30 ++ (vx_atS RX3 178 "java/util/NoSuchElementException" ["java/lang/RuntimeException", "java/lang/Exception"]).filter goodWord)
def wsX3_isOnAPallet : List Cond := .code yX3_isOnAPallet cX3_isOnAPallet 6 (some .boolean) :: ([.fieldLink RX3 17 "PalletLayers" "pallets" "[LPalletLayers$Pallet;", .methodLink RX3 197 yX1_kindBits, .instanceMethod yX1_kindBits, .selects RX1 yX1_kindBits yX1_kindBits, .initialized RX1, .code yX1_kindBits cX1_kindBits 3 (some .int), .fieldLink RX1 28 "PalletLayers$Pallet" "layers" "I", .fieldLink RX1 9 "PalletLayers$Pallet" "kindOf" "[I"] ++ wsX30 ++ wsX10 ++ (vx_atM "java/lang/ArrayIndexOutOfBoundsException" ["java/lang/IndexOutOfBoundsException", "java/lang/RuntimeException", "java/lang/Exception"]).filter goodWord)
def wsX3_search_r1 : List Cond := [Cond.classLink RX3 72 "java/lang/IllegalArgumentException", Cond.initialized "java/lang/IllegalArgumentException", Cond.classLink RX3 97 "java/lang/IllegalStateException", Cond.initialized "java/lang/IllegalStateException", Cond.fieldLink RX3 64 "PalletLayers" "seeker" "LPalletLayers$PatternSearch;", Cond.fieldLink RX3 106 "PalletLayers$Kind" "boxes" "I", Cond.methodLink RX3 87 yX3_kindNumbered, Cond.instanceMethod yX3_kindNumbered, Cond.selects RX3 yX3_kindNumbered yX3_kindNumbered, Cond.initialized RX3, Cond.code yX3_kindNumbered cX3_kindNumbered 3 (some (.object "PalletLayers$Kind")), Cond.classLink RX3 174 "java/util/NoSuchElementException", Cond.initialized "java/util/NoSuchElementException", Cond.fieldLink RX3 11 "PalletLayers" "kinds" "[LPalletLayers$Kind;", Cond.methodLink RX3 68 yX3_isOutside, Cond.static yX3_isOutside, Cond.code yX3_isOutside cX3_isOutside 3 (some .boolean), Cond.methodLink RX3 93 yX3_isOnAPallet, Cond.instanceMethod yX3_isOnAPallet, Cond.selects RX3 yX3_isOnAPallet yX3_isOnAPallet, Cond.code yX3_isOnAPallet cX3_isOnAPallet 6 (some .boolean), Cond.fieldLink RX3 17 "PalletLayers" "pallets" "[LPalletLayers$Pallet;", Cond.methodLink RX3 197 yX1_kindBits, Cond.instanceMethod yX1_kindBits]
def wsX3_search_r2 : List Cond := [Cond.selects RX1 yX1_kindBits yX1_kindBits, Cond.initialized RX1, Cond.code yX1_kindBits cX1_kindBits 3 (some .int), Cond.fieldLink RX1 28 "PalletLayers$Pallet" "layers" "I", Cond.fieldLink RX1 9 "PalletLayers$Pallet" "kindOf" "[I", Cond.methodLink RX3 102 yX2_seek, Cond.instanceMethod yX2_seek, Cond.selects RX2 yX2_seek yX2_seek, Cond.initialized RX2, Cond.code yX2_seek cX2_seek 3 none, Cond.fieldLink RX2 18 "PalletLayers$PatternSearch" "mostSteps" "I", Cond.fieldLink RX2 22 "PalletLayers$PatternSearch" "stepsMade" "I", Cond.fieldLink RX2 25 "PalletLayers$PatternSearch" "best" "I", Cond.fieldLink RX2 28 "PalletLayers$PatternSearch" "lackedSteps" "Z", Cond.fieldLink RX2 9 "PalletLayers$PatternSearch" "corners" "[I", Cond.fieldLink RX2 15 "PalletLayers$PatternSearch" "ways" "[I", Cond.fieldLink RX2 51 "PalletLayers$Kind" "soughtExactly" "Z", Cond.methodLink RX2 41 yX0_keepPattern, Cond.instanceMethod yX0_keepPattern, Cond.selects RX0 yX0_keepPattern yX0_keepPattern, Cond.initialized RX0, Cond.code yX0_keepPattern cX0_keepPattern 5 none, Cond.methodLink RX0 64 Lib.Math.min.name, Cond.static Lib.Math.min.name]
def wsX3_search_r3 : List Cond := [Cond.initialized "java/lang/Math", Cond.code Lib.Math.min.name Lib.Math.min.code 2 (some .int), Cond.fieldLink RX0 18 "PalletLayers$Kind" "boxes" "I", Cond.fieldLink RX0 9 "PalletLayers$Kind" "corners" "[I", Cond.fieldLink RX0 15 "PalletLayers$Kind" "ways" "[I", Cond.methodLink RX2 47 yX2_goOn, Cond.instanceMethod yX2_goOn, Cond.selects RX2 yX2_goOn yX2_goOn, Cond.code yX2_goOn cX2_goOn 7 none, Cond.fieldLink RX2 38 "PalletLayers$PatternSearch" "cellCount" "I", Cond.fieldLink RX2 70 "PalletLayers$Kind" "width" "I", Cond.fieldLink RX2 73 "PalletLayers$Kind" "depth" "I", Cond.methodLink RX2 54 yX2_firstOpen, Cond.instanceMethod yX2_firstOpen, Cond.selects RX2 yX2_firstOpen yX2_firstOpen, Cond.code yX2_firstOpen cX2_firstOpen 5 (some .int), Cond.methodLink RX2 58 yX2_keepIfBetter, Cond.instanceMethod yX2_keepIfBetter, Cond.selects RX2 yX2_keepIfBetter yX2_keepIfBetter, Cond.code yX2_keepIfBetter cX2_keepIfBetter 3 none, Cond.methodLink RX2 62 yX2_mayBeatBest, Cond.instanceMethod yX2_mayBeatBest, Cond.selects RX2 yX2_mayBeatBest yX2_mayBeatBest, Cond.code yX2_mayBeatBest cX2_mayBeatBest 6 (some .boolean)]
def wsX3_search_r4 : List Cond := [Cond.fieldLink RX2 97 "PalletLayers$Kind" "area" "I", Cond.methodLink RX2 91 yJ13_bitCount_95d88, Cond.static yJ13_bitCount_95d88, Cond.initialized RJ13, Cond.code yJ13_bitCount_95d88 cJ13_bitCount_95d88 2 (some .int), Cond.constantLong RJ13 314 (6148914691236517205), Cond.constantLong RJ13 316 (3689348814741910323), Cond.constantLong RJ13 318 (1085102592571150095), Cond.methodLink RX2 66 yX2_tryBox, Cond.instanceMethod yX2_tryBox, Cond.selects RX2 yX2_tryBox yX2_tryBox, Cond.methodLink RX2 76 yX2_takeStep, Cond.instanceMethod yX2_takeStep, Cond.selects RX2 yX2_takeStep yX2_takeStep, Cond.code yX2_takeStep cX2_takeStep 1 (some .boolean), Cond.code yX2_tryBox cX2_tryBox 10 none, Cond.fieldLink RX2 32 "PalletLayers$PatternSearch" "areaWidth" "I", Cond.fieldLink RX2 35 "PalletLayers$PatternSearch" "areaDepth" "I", Cond.methodLink RX2 80 yX0_cellsAt, Cond.instanceMethod yX0_cellsAt, Cond.selects RX0 yX0_cellsAt yX0_cellsAt, Cond.code yX0_cellsAt cX0_cellsAt 3 (some .long), Cond.fieldLink RX0 45 "PalletLayers$Kind" "straightShape" "J", Cond.fieldLink RX0 49 "PalletLayers$Kind" "turnedShape" "J"]
def wsX3_search_r5 : List Cond := [Cond.methodLink RX2 84 yX0_across, Cond.instanceMethod yX0_across, Cond.selects RX0 yX0_across yX0_across, Cond.code yX0_across cX0_across 2 (some .int), Cond.fieldLink RX0 26 "PalletLayers$Kind" "width" "I", Cond.fieldLink RX0 29 "PalletLayers$Kind" "depth" "I", Cond.methodLink RX2 88 yX0_along, Cond.instanceMethod yX0_along, Cond.selects RX0 yX0_along yX0_along, Cond.code yX0_along cX0_along 2 (some .int)]
def wsX3_search : List Cond := .code yX3_search cX3_search 4 (some .int) :: ((wsX3_search_r1 ++ (wsX3_search_r2 ++ (wsX3_search_r3 ++ (wsX3_search_r4 ++ wsX3_search_r5)))) ++ wsX30 ++ wsX00 ++ wsX10 ++ wsX20 ++ (vx_atS RX3 76 "java/lang/IllegalArgumentException" ["java/lang/RuntimeException", "java/lang/Exception"]).filter goodWord ++ (vx_atS RX3 101 "java/lang/IllegalStateException" ["java/lang/RuntimeException", "java/lang/Exception"]).filter goodWord ++ (vx_atS RX3 178 "java/util/NoSuchElementException" ["java/lang/RuntimeException", "java/lang/Exception"]).filter goodWord ++ (vx_atM "java/lang/ArrayIndexOutOfBoundsException" ["java/lang/IndexOutOfBoundsException", "java/lang/RuntimeException", "java/lang/Exception"]).filter goodWord)
def wsX3_pattern : List Cond := .code yX3_pattern cX3_pattern 5 (some .int) :: ([.classLink RX3 72 "java/lang/IllegalArgumentException", .initialized "java/lang/IllegalArgumentException", .fieldLink RX3 106 "PalletLayers$Kind" "boxes" "I", .classLink RX3 111 RJx00060, .instantiable RJx00060 6, .initialized RJx00060, .fieldLink RX3 116 "PalletLayers$Kind" "corners" "[I", .fieldLink RX3 53 "PalletLayers" "areaWidth" "I", .fieldLink RX3 119 "PalletLayers$Kind" "ways" "[I", .methodLink RX3 87 yX3_kindNumbered, .instanceMethod yX3_kindNumbered, .selects RX3 yX3_kindNumbered yX3_kindNumbered, .initialized RX3, .code yX3_kindNumbered cX3_kindNumbered 3 (some (.object "PalletLayers$Kind")), .classLink RX3 174 "java/util/NoSuchElementException", .initialized "java/util/NoSuchElementException", .fieldLink RX3 11 "PalletLayers" "kinds" "[LPalletLayers$Kind;", .methodLink RX3 68 yX3_isOutside, .static yX3_isOutside, .code yX3_isOutside cX3_isOutside 3 (some .boolean)] ++ wsX00 ++ wsJx000600 ++ wsX30 ++ (vx_atS RX3 76 "java/lang/IllegalArgumentException" ["java/lang/RuntimeException", "java/lang/Exception"]).filter goodWord ++ (vx_atM "java/lang/ArrayIndexOutOfBoundsException" ["java/lang/IndexOutOfBoundsException", "java/lang/RuntimeException", "java/lang/Exception"]).filter goodWord ++ (vx_atS RX3 178 "java/util/NoSuchElementException" ["java/lang/RuntimeException", "java/lang/Exception"]).filter goodWord)
def wsX3_exact : List Cond := .code yX3_exact cX3_exact 2 (some .boolean) :: ([.fieldLink RX3 122 "PalletLayers$Kind" "soughtExactly" "Z", .methodLink RX3 87 yX3_kindNumbered, .instanceMethod yX3_kindNumbered, .selects RX3 yX3_kindNumbered yX3_kindNumbered, .initialized RX3, .code yX3_kindNumbered cX3_kindNumbered 3 (some (.object "PalletLayers$Kind")), .classLink RX3 174 "java/util/NoSuchElementException", .initialized "java/util/NoSuchElementException", .fieldLink RX3 11 "PalletLayers" "kinds" "[LPalletLayers$Kind;", .methodLink RX3 68 yX3_isOutside, .static yX3_isOutside, .code yX3_isOutside cX3_isOutside 3 (some .boolean)] ++ wsX00 ++ wsX30 ++ (vx_atS RX3 178 "java/util/NoSuchElementException" ["java/lang/RuntimeException", "java/lang/Exception"]).filter goodWord)
def wsX3_bound : List Cond := .code yX3_bound cX3_bound 2 (some .int) :: ([.fieldLink RX3 53 "PalletLayers" "areaWidth" "I", .fieldLink RX3 56 "PalletLayers" "areaDepth" "I", .fieldLink RX3 126 "PalletLayers$Kind" "area" "I", .methodLink RX3 87 yX3_kindNumbered, .instanceMethod yX3_kindNumbered, .selects RX3 yX3_kindNumbered yX3_kindNumbered, .initialized RX3, .code yX3_kindNumbered cX3_kindNumbered 3 (some (.object "PalletLayers$Kind")), .classLink RX3 174 "java/util/NoSuchElementException", .initialized "java/util/NoSuchElementException", .fieldLink RX3 11 "PalletLayers" "kinds" "[LPalletLayers$Kind;", .methodLink RX3 68 yX3_isOutside, .static yX3_isOutside, .code yX3_isOutside cX3_isOutside 3 (some .boolean)] ++ wsX30 ++ wsX00 ++ (vx_atS RX3 178 "java/util/NoSuchElementException" ["java/lang/RuntimeException", "java/lang/Exception"]).filter goodWord)
def wsX3_rules : List Cond := .code yX3_rules cX3_rules 4 none :: ([.classLink RX3 72 "java/lang/IllegalArgumentException", .initialized "java/lang/IllegalArgumentException", .fieldLink RX3 35 "PalletLayers" "share" "I", .fieldLink RX3 38 "PalletLayers" "door" "I", .fieldLink RX3 41 "PalletLayers" "load" "I", .methodLink RX3 68 yX3_isOutside, .static yX3_isOutside, .initialized RX3, .code yX3_isOutside cX3_isOutside 3 (some .boolean)] ++ wsX30 ++ (vx_atS RX3 76 "java/lang/IllegalArgumentException" ["java/lang/RuntimeException", "java/lang/Exception"]).filter goodWord)
def wsX3_pallet : List Cond := .code yX3_pallet cX3_pallet 1 (some .int) :: ([.classLink RX3 79 "java/lang/UnsupportedOperationException", .initialized "java/lang/UnsupportedOperationException", .fieldLink RX3 29 "PalletLayers" "palletCount" "I", .fieldLink RX3 17 "PalletLayers" "pallets" "[LPalletLayers$Pallet;", .classLink RX3 15 RX1, .instantiable RX1 10, .initialized RX1, .instanceMethod yX1_init, .code yX1_init cX1_init 1 none, .methodLink RX1 3 objectInit, .instanceMethod objectInit, .code objectInit ⟨#[0xb1]⟩ 1 none, .arrayClass .int, .fieldLink RX1 9 "PalletLayers$Pallet" "kindOf" "[I", .fieldLink RX1 15 "PalletLayers$Pallet" "boxesOf" "[I", .fieldLink RX1 18 "PalletLayers$Pallet" "bottomOf" "[I", .fieldLink RX1 21 "PalletLayers$Pallet" "weightOf" "[I", .arrayClass .long, .fieldLink RX1 24 "PalletLayers$Pallet" "coveredOf" "[J", .fieldLink RX1 28 "PalletLayers$Pallet" "layers" "I", .fieldLink RX1 32 "PalletLayers$Pallet" "height" "I", .fieldLink RX1 35 "PalletLayers$Pallet" "weight" "I", .fieldLink RX1 38 "PalletLayers$Pallet" "boxes" "I", .fieldLink RX1 41 "PalletLayers$Pallet" "stop" "I"] ++ wsX30 ++ wsX10 ++ (vx_atS RX3 83 "java/lang/UnsupportedOperationException" ["java/lang/RuntimeException", "java/lang/Exception"]).filter goodWord)
def wsX3_palletNumbered : List Cond := .code yX3_palletNumbered cX3_palletNumbered 3 (some (.object "PalletLayers$Pallet")) :: ([.classLink RX3 174 "java/util/NoSuchElementException", .initialized "java/util/NoSuchElementException", .fieldLink RX3 17 "PalletLayers" "pallets" "[LPalletLayers$Pallet;", .methodLink RX3 68 yX3_isOutside, .static yX3_isOutside, .initialized RX3, .code yX3_isOutside cX3_isOutside 3 (some .boolean)] ++ wsX30 ++ (vx_atS RX3 178 "java/util/NoSuchElementException" ["java/lang/RuntimeException", "java/lang/Exception"]).filter goodWord)
def wsX3_refuseOnTruck : List Cond := .code yX3_refuseOnTruck cX3_refuseOnTruck 1 none :: ([.classLink RX3 97 "java/lang/IllegalStateException", .initialized "java/lang/IllegalStateException", .fieldLink RX3 194 "PalletLayers$Pallet" "stop" "I"] ++ wsX10 ++ (vx_atS RX3 101 "java/lang/IllegalStateException" ["java/lang/RuntimeException", "java/lang/Exception"]).filter goodWord)
def wsX3_supportedCells : List Cond := .code yX3_supportedCells cX3_supportedCells 6 (some .int) :: ([.methodLink RX3 239 yX1_coveredIn, .instanceMethod yX1_coveredIn, .selects RX1 yX1_coveredIn yX1_coveredIn, .initialized RX1, .code yX1_coveredIn cX1_coveredIn 2 (some .long), .fieldLink RX1 28 "PalletLayers$Pallet" "layers" "I", .fieldLink RX1 24 "PalletLayers$Pallet" "coveredOf" "[J", .static yX3_isOutside, .initialized RX3, .code yX3_isOutside cX3_isOutside 3 (some .boolean), .methodLink RX3 242 yJ13_bitCount_95d88, .static yJ13_bitCount_95d88, .initialized RJ13, .code yJ13_bitCount_95d88 cJ13_bitCount_95d88 2 (some .int), .constantLong RJ13 314 (6148914691236517205), .constantLong RJ13 316 (3689348814741910323), .constantLong RJ13 318 (1085102592571150095)] ++ wsX10 ++ (vx_atM "java/lang/ArrayIndexOutOfBoundsException" ["java/lang/IndexOutOfBoundsException", "java/lang/RuntimeException", "java/lang/Exception"]).filter goodWord)
def wsX3_whyNot_r1 : List Cond := [Cond.fieldLink RX3 106 "PalletLayers$Kind" "boxes" "I", Cond.fieldLink RX3 144 "PalletLayers$Pallet" "layers" "I", Cond.fieldLink RX3 35 "PalletLayers" "share" "I", Cond.fieldLink RX3 126 "PalletLayers$Kind" "area" "I", Cond.fieldLink RX3 187 "PalletLayers$Pallet" "height" "I", Cond.fieldLink RX3 237 "PalletLayers$Kind" "height" "I", Cond.fieldLink RX3 38 "PalletLayers" "door" "I", Cond.fieldLink RX3 190 "PalletLayers$Pallet" "weight" "I", Cond.fieldLink RX3 238 "PalletLayers$Kind" "weight" "I", Cond.fieldLink RX3 41 "PalletLayers" "load" "I", Cond.methodLink RX3 179 yX0_cellsOfBox, Cond.instanceMethod yX0_cellsOfBox, Cond.selects RX0 yX0_cellsOfBox yX0_cellsOfBox, Cond.initialized RX0, Cond.code yX0_cellsOfBox cX0_cellsOfBox 2 (some .long), Cond.fieldLink RX0 18 "PalletLayers$Kind" "boxes" "I", Cond.fieldLink RX0 9 "PalletLayers$Kind" "corners" "[I", Cond.fieldLink RX0 15 "PalletLayers$Kind" "ways" "[I", Cond.static yX3_isOutside, Cond.initialized RX3, Cond.code yX3_isOutside cX3_isOutside 3 (some .boolean), Cond.methodLink RX0 56 yX0_cellsAt, Cond.instanceMethod yX0_cellsAt, Cond.selects RX0 yX0_cellsAt yX0_cellsAt]
def wsX3_whyNot_r2 : List Cond := [Cond.code yX0_cellsAt cX0_cellsAt 3 (some .long), Cond.fieldLink RX0 45 "PalletLayers$Kind" "straightShape" "J", Cond.fieldLink RX0 49 "PalletLayers$Kind" "turnedShape" "J", Cond.methodLink RX3 183 yX3_supportedCells, Cond.static yX3_supportedCells, Cond.code yX3_supportedCells cX3_supportedCells 6 (some .int), Cond.methodLink RX3 239 yX1_coveredIn, Cond.instanceMethod yX1_coveredIn, Cond.selects RX1 yX1_coveredIn yX1_coveredIn, Cond.initialized RX1, Cond.code yX1_coveredIn cX1_coveredIn 2 (some .long), Cond.fieldLink RX1 28 "PalletLayers$Pallet" "layers" "I", Cond.fieldLink RX1 24 "PalletLayers$Pallet" "coveredOf" "[J", Cond.methodLink RX3 242 yJ13_bitCount_95d88, Cond.static yJ13_bitCount_95d88, Cond.initialized RJ13, Cond.code yJ13_bitCount_95d88 cJ13_bitCount_95d88 2 (some .int), Cond.constantLong RJ13 314 (6148914691236517205), Cond.constantLong RJ13 316 (3689348814741910323), Cond.constantLong RJ13 318 (1085102592571150095)]
def wsX3_whyNot : List Cond := .code yX3_whyNot cX3_whyNot 6 (some .int) :: ((wsX3_whyNot_r1 ++ wsX3_whyNot_r2) ++ wsX00 ++ wsX10 ++ wsX30 ++ (vx_atM "java/lang/ArrayIndexOutOfBoundsException" ["java/lang/IndexOutOfBoundsException", "java/lang/RuntimeException", "java/lang/Exception"]).filter goodWord)
def wsX3_put_r1 : List Cond := [Cond.classLink RX3 72 "java/lang/IllegalArgumentException", Cond.initialized "java/lang/IllegalArgumentException", Cond.classLink RX3 79 "java/lang/UnsupportedOperationException", Cond.initialized "java/lang/UnsupportedOperationException", Cond.fieldLink RX3 144 "PalletLayers$Pallet" "layers" "I", Cond.methodLink RX3 134 yX3_palletNumbered, Cond.instanceMethod yX3_palletNumbered, Cond.selects RX3 yX3_palletNumbered yX3_palletNumbered, Cond.initialized RX3, Cond.code yX3_palletNumbered cX3_palletNumbered 3 (some (.object "PalletLayers$Pallet")), Cond.classLink RX3 174 "java/util/NoSuchElementException", Cond.initialized "java/util/NoSuchElementException", Cond.fieldLink RX3 17 "PalletLayers" "pallets" "[LPalletLayers$Pallet;", Cond.methodLink RX3 68 yX3_isOutside, Cond.static yX3_isOutside, Cond.code yX3_isOutside cX3_isOutside 3 (some .boolean), Cond.methodLink RX3 87 yX3_kindNumbered, Cond.instanceMethod yX3_kindNumbered, Cond.selects RX3 yX3_kindNumbered yX3_kindNumbered, Cond.code yX3_kindNumbered cX3_kindNumbered 3 (some (.object "PalletLayers$Kind")), Cond.fieldLink RX3 11 "PalletLayers" "kinds" "[LPalletLayers$Kind;", Cond.methodLink RX3 140 yX3_refuseOnTruck, Cond.static yX3_refuseOnTruck, Cond.code yX3_refuseOnTruck cX3_refuseOnTruck 1 none]
def wsX3_put_r2 : List Cond := [Cond.classLink RX3 97 "java/lang/IllegalStateException", Cond.initialized "java/lang/IllegalStateException", Cond.fieldLink RX3 194 "PalletLayers$Pallet" "stop" "I", Cond.methodLink RX3 149 yX3_whyNot, Cond.instanceMethod yX3_whyNot, Cond.selects RX3 yX3_whyNot yX3_whyNot, Cond.code yX3_whyNot cX3_whyNot 6 (some .int), Cond.fieldLink RX3 106 "PalletLayers$Kind" "boxes" "I", Cond.fieldLink RX3 35 "PalletLayers" "share" "I", Cond.fieldLink RX3 126 "PalletLayers$Kind" "area" "I", Cond.fieldLink RX3 187 "PalletLayers$Pallet" "height" "I", Cond.fieldLink RX3 237 "PalletLayers$Kind" "height" "I", Cond.fieldLink RX3 38 "PalletLayers" "door" "I", Cond.fieldLink RX3 190 "PalletLayers$Pallet" "weight" "I", Cond.fieldLink RX3 238 "PalletLayers$Kind" "weight" "I", Cond.fieldLink RX3 41 "PalletLayers" "load" "I", Cond.methodLink RX3 179 yX0_cellsOfBox, Cond.instanceMethod yX0_cellsOfBox, Cond.selects RX0 yX0_cellsOfBox yX0_cellsOfBox, Cond.initialized RX0, Cond.code yX0_cellsOfBox cX0_cellsOfBox 2 (some .long), Cond.fieldLink RX0 18 "PalletLayers$Kind" "boxes" "I", Cond.fieldLink RX0 9 "PalletLayers$Kind" "corners" "[I", Cond.fieldLink RX0 15 "PalletLayers$Kind" "ways" "[I"]
def wsX3_put_r3 : List Cond := [Cond.methodLink RX0 56 yX0_cellsAt, Cond.instanceMethod yX0_cellsAt, Cond.selects RX0 yX0_cellsAt yX0_cellsAt, Cond.code yX0_cellsAt cX0_cellsAt 3 (some .long), Cond.fieldLink RX0 45 "PalletLayers$Kind" "straightShape" "J", Cond.fieldLink RX0 49 "PalletLayers$Kind" "turnedShape" "J", Cond.methodLink RX3 183 yX3_supportedCells, Cond.static yX3_supportedCells, Cond.code yX3_supportedCells cX3_supportedCells 6 (some .int), Cond.methodLink RX3 239 yX1_coveredIn, Cond.instanceMethod yX1_coveredIn, Cond.selects RX1 yX1_coveredIn yX1_coveredIn, Cond.initialized RX1, Cond.code yX1_coveredIn cX1_coveredIn 2 (some .long), Cond.fieldLink RX1 28 "PalletLayers$Pallet" "layers" "I", Cond.fieldLink RX1 24 "PalletLayers$Pallet" "coveredOf" "[J", Cond.methodLink RX3 242 yJ13_bitCount_95d88, Cond.static yJ13_bitCount_95d88, Cond.initialized RJ13, Cond.code yJ13_bitCount_95d88 cJ13_bitCount_95d88 2 (some .int), Cond.constantLong RJ13 314 (6148914691236517205), Cond.constantLong RJ13 316 (3689348814741910323), Cond.constantLong RJ13 318 (1085102592571150095), Cond.methodLink RX3 153 yX1_lay]
def wsX3_put_r4 : List Cond := [Cond.instanceMethod yX1_lay, Cond.selects RX1 yX1_lay yX1_lay, Cond.code yX1_lay cX1_lay 4 none, Cond.fieldLink RX1 9 "PalletLayers$Pallet" "kindOf" "[I", Cond.fieldLink RX1 15 "PalletLayers$Pallet" "boxesOf" "[I", Cond.fieldLink RX1 18 "PalletLayers$Pallet" "bottomOf" "[I", Cond.fieldLink RX1 32 "PalletLayers$Pallet" "height" "I", Cond.fieldLink RX1 21 "PalletLayers$Pallet" "weightOf" "[I", Cond.fieldLink RX1 44 "PalletLayers$Kind" "weight" "I", Cond.fieldLink RX1 51 "PalletLayers$Kind" "height" "I", Cond.fieldLink RX1 35 "PalletLayers$Pallet" "weight" "I", Cond.fieldLink RX1 38 "PalletLayers$Pallet" "boxes" "I", Cond.methodLink RX1 47 yX0_cellsOfFirst, Cond.instanceMethod yX0_cellsOfFirst, Cond.selects RX0 yX0_cellsOfFirst yX0_cellsOfFirst, Cond.code yX0_cellsOfFirst cX0_cellsOfFirst 5 (some .long), Cond.methodLink RX0 60 yX0_cellsOfBox]
def wsX3_put : List Cond := .code yX3_put cX3_put 7 (some .int) :: ((wsX3_put_r1 ++ (wsX3_put_r2 ++ (wsX3_put_r3 ++ wsX3_put_r4))) ++ wsX10 ++ wsX30 ++ wsX00 ++ (vx_atS RX3 76 "java/lang/IllegalArgumentException" ["java/lang/RuntimeException", "java/lang/Exception"]).filter goodWord ++ (vx_atS RX3 83 "java/lang/UnsupportedOperationException" ["java/lang/RuntimeException", "java/lang/Exception"]).filter goodWord ++ (vx_atS RX3 178 "java/util/NoSuchElementException" ["java/lang/RuntimeException", "java/lang/Exception"]).filter goodWord ++ (vx_atS RX3 101 "java/lang/IllegalStateException" ["java/lang/RuntimeException", "java/lang/Exception"]).filter goodWord ++ (vx_atM "java/lang/ArrayIndexOutOfBoundsException" ["java/lang/IndexOutOfBoundsException", "java/lang/RuntimeException", "java/lang/Exception"]).filter goodWord)
def wsX3_fill_r1 : List Cond := [Cond.classLink RX3 72 "java/lang/IllegalArgumentException", Cond.initialized "java/lang/IllegalArgumentException", Cond.fieldLink RX3 106 "PalletLayers$Kind" "boxes" "I", Cond.fieldLink RX3 144 "PalletLayers$Pallet" "layers" "I", Cond.methodLink RX3 44 Lib.Math.min.name, Cond.static Lib.Math.min.name, Cond.initialized "java/lang/Math", Cond.code Lib.Math.min.name Lib.Math.min.code 2 (some .int), Cond.methodLink RX3 134 yX3_palletNumbered, Cond.instanceMethod yX3_palletNumbered, Cond.selects RX3 yX3_palletNumbered yX3_palletNumbered, Cond.initialized RX3, Cond.code yX3_palletNumbered cX3_palletNumbered 3 (some (.object "PalletLayers$Pallet")), Cond.classLink RX3 174 "java/util/NoSuchElementException", Cond.initialized "java/util/NoSuchElementException", Cond.fieldLink RX3 17 "PalletLayers" "pallets" "[LPalletLayers$Pallet;", Cond.methodLink RX3 68 yX3_isOutside, Cond.static yX3_isOutside, Cond.code yX3_isOutside cX3_isOutside 3 (some .boolean), Cond.methodLink RX3 87 yX3_kindNumbered, Cond.instanceMethod yX3_kindNumbered, Cond.selects RX3 yX3_kindNumbered yX3_kindNumbered, Cond.code yX3_kindNumbered cX3_kindNumbered 3 (some (.object "PalletLayers$Kind")), Cond.fieldLink RX3 11 "PalletLayers" "kinds" "[LPalletLayers$Kind;"]
def wsX3_fill_r2 : List Cond := [Cond.methodLink RX3 140 yX3_refuseOnTruck, Cond.static yX3_refuseOnTruck, Cond.code yX3_refuseOnTruck cX3_refuseOnTruck 1 none, Cond.classLink RX3 97 "java/lang/IllegalStateException", Cond.initialized "java/lang/IllegalStateException", Cond.fieldLink RX3 194 "PalletLayers$Pallet" "stop" "I", Cond.methodLink RX3 149 yX3_whyNot, Cond.instanceMethod yX3_whyNot, Cond.selects RX3 yX3_whyNot yX3_whyNot, Cond.code yX3_whyNot cX3_whyNot 6 (some .int), Cond.fieldLink RX3 35 "PalletLayers" "share" "I", Cond.fieldLink RX3 126 "PalletLayers$Kind" "area" "I", Cond.fieldLink RX3 187 "PalletLayers$Pallet" "height" "I", Cond.fieldLink RX3 237 "PalletLayers$Kind" "height" "I", Cond.fieldLink RX3 38 "PalletLayers" "door" "I", Cond.fieldLink RX3 190 "PalletLayers$Pallet" "weight" "I", Cond.fieldLink RX3 238 "PalletLayers$Kind" "weight" "I", Cond.fieldLink RX3 41 "PalletLayers" "load" "I", Cond.methodLink RX3 179 yX0_cellsOfBox, Cond.instanceMethod yX0_cellsOfBox, Cond.selects RX0 yX0_cellsOfBox yX0_cellsOfBox, Cond.initialized RX0, Cond.code yX0_cellsOfBox cX0_cellsOfBox 2 (some .long), Cond.fieldLink RX0 18 "PalletLayers$Kind" "boxes" "I"]
def wsX3_fill_r3 : List Cond := [Cond.fieldLink RX0 9 "PalletLayers$Kind" "corners" "[I", Cond.fieldLink RX0 15 "PalletLayers$Kind" "ways" "[I", Cond.methodLink RX0 56 yX0_cellsAt, Cond.instanceMethod yX0_cellsAt, Cond.selects RX0 yX0_cellsAt yX0_cellsAt, Cond.code yX0_cellsAt cX0_cellsAt 3 (some .long), Cond.fieldLink RX0 45 "PalletLayers$Kind" "straightShape" "J", Cond.fieldLink RX0 49 "PalletLayers$Kind" "turnedShape" "J", Cond.methodLink RX3 183 yX3_supportedCells, Cond.static yX3_supportedCells, Cond.code yX3_supportedCells cX3_supportedCells 6 (some .int), Cond.methodLink RX3 239 yX1_coveredIn, Cond.instanceMethod yX1_coveredIn, Cond.selects RX1 yX1_coveredIn yX1_coveredIn, Cond.initialized RX1, Cond.code yX1_coveredIn cX1_coveredIn 2 (some .long), Cond.fieldLink RX1 28 "PalletLayers$Pallet" "layers" "I", Cond.fieldLink RX1 24 "PalletLayers$Pallet" "coveredOf" "[J", Cond.methodLink RX3 242 yJ13_bitCount_95d88, Cond.static yJ13_bitCount_95d88, Cond.initialized RJ13, Cond.code yJ13_bitCount_95d88 cJ13_bitCount_95d88 2 (some .int), Cond.constantLong RJ13 314 (6148914691236517205), Cond.constantLong RJ13 316 (3689348814741910323)]
def wsX3_fill_r4 : List Cond := [Cond.constantLong RJ13 318 (1085102592571150095), Cond.methodLink RX3 153 yX1_lay, Cond.instanceMethod yX1_lay, Cond.selects RX1 yX1_lay yX1_lay, Cond.code yX1_lay cX1_lay 4 none, Cond.fieldLink RX1 9 "PalletLayers$Pallet" "kindOf" "[I", Cond.fieldLink RX1 15 "PalletLayers$Pallet" "boxesOf" "[I", Cond.fieldLink RX1 18 "PalletLayers$Pallet" "bottomOf" "[I", Cond.fieldLink RX1 32 "PalletLayers$Pallet" "height" "I", Cond.fieldLink RX1 21 "PalletLayers$Pallet" "weightOf" "[I", Cond.fieldLink RX1 44 "PalletLayers$Kind" "weight" "I", Cond.fieldLink RX1 51 "PalletLayers$Kind" "height" "I", Cond.fieldLink RX1 35 "PalletLayers$Pallet" "weight" "I", Cond.fieldLink RX1 38 "PalletLayers$Pallet" "boxes" "I", Cond.methodLink RX1 47 yX0_cellsOfFirst, Cond.instanceMethod yX0_cellsOfFirst, Cond.selects RX0 yX0_cellsOfFirst yX0_cellsOfFirst, Cond.code yX0_cellsOfFirst cX0_cellsOfFirst 5 (some .long), Cond.methodLink RX0 60 yX0_cellsOfBox]
def wsX3_fill : List Cond := .code yX3_fill cX3_fill 9 (some .int) :: ((wsX3_fill_r1 ++ (wsX3_fill_r2 ++ (wsX3_fill_r3 ++ wsX3_fill_r4))) ++ wsX00 ++ wsX10 ++ wsX30 ++ (vx_atS RX3 76 "java/lang/IllegalArgumentException" ["java/lang/RuntimeException", "java/lang/Exception"]).filter goodWord ++ (vx_atS RX3 178 "java/util/NoSuchElementException" ["java/lang/RuntimeException", "java/lang/Exception"]).filter goodWord ++ (vx_atS RX3 101 "java/lang/IllegalStateException" ["java/lang/RuntimeException", "java/lang/Exception"]).filter goodWord ++ (vx_atM "java/lang/ArrayIndexOutOfBoundsException" ["java/lang/IndexOutOfBoundsException", "java/lang/RuntimeException", "java/lang/Exception"]).filter goodWord)
def wsX3_refuseEmpty : List Cond := .code yX3_refuseEmpty cX3_refuseEmpty 1 none :: ([.classLink RX3 97 "java/lang/IllegalStateException", .initialized "java/lang/IllegalStateException", .fieldLink RX3 144 "PalletLayers$Pallet" "layers" "I"] ++ wsX10 ++ (vx_atS RX3 101 "java/lang/IllegalStateException" ["java/lang/RuntimeException", "java/lang/Exception"]).filter goodWord)
def wsX3_take_r1 : List Cond := [Cond.methodLink RX3 134 yX3_palletNumbered, Cond.instanceMethod yX3_palletNumbered, Cond.selects RX3 yX3_palletNumbered yX3_palletNumbered, Cond.initialized RX3, Cond.code yX3_palletNumbered cX3_palletNumbered 3 (some (.object "PalletLayers$Pallet")), Cond.classLink RX3 174 "java/util/NoSuchElementException", Cond.initialized "java/util/NoSuchElementException", Cond.fieldLink RX3 17 "PalletLayers" "pallets" "[LPalletLayers$Pallet;", Cond.methodLink RX3 68 yX3_isOutside, Cond.static yX3_isOutside, Cond.code yX3_isOutside cX3_isOutside 3 (some .boolean), Cond.methodLink RX3 140 yX3_refuseOnTruck, Cond.static yX3_refuseOnTruck, Cond.code yX3_refuseOnTruck cX3_refuseOnTruck 1 none, Cond.classLink RX3 97 "java/lang/IllegalStateException", Cond.initialized "java/lang/IllegalStateException", Cond.fieldLink RX3 194 "PalletLayers$Pallet" "stop" "I", Cond.methodLink RX3 157 yX3_refuseEmpty, Cond.static yX3_refuseEmpty, Cond.code yX3_refuseEmpty cX3_refuseEmpty 1 none, Cond.fieldLink RX3 144 "PalletLayers$Pallet" "layers" "I", Cond.methodLink RX3 160 yX1_liftTop, Cond.instanceMethod yX1_liftTop, Cond.selects RX1 yX1_liftTop yX1_liftTop]
def wsX3_take_r2 : List Cond := [Cond.initialized RX1, Cond.code yX1_liftTop cX1_liftTop 1 (some .int), Cond.fieldLink RX1 28 "PalletLayers$Pallet" "layers" "I", Cond.fieldLink RX1 18 "PalletLayers$Pallet" "bottomOf" "[I", Cond.fieldLink RX1 32 "PalletLayers$Pallet" "height" "I", Cond.fieldLink RX1 35 "PalletLayers$Pallet" "weight" "I", Cond.fieldLink RX1 21 "PalletLayers$Pallet" "weightOf" "[I", Cond.fieldLink RX1 38 "PalletLayers$Pallet" "boxes" "I", Cond.fieldLink RX1 15 "PalletLayers$Pallet" "boxesOf" "[I"]
def wsX3_take : List Cond := .code yX3_take cX3_take 3 (some .int) :: ((wsX3_take_r1 ++ wsX3_take_r2) ++ wsX30 ++ wsX10 ++ (vx_atS RX3 178 "java/util/NoSuchElementException" ["java/lang/RuntimeException", "java/lang/Exception"]).filter goodWord ++ (vx_atS RX3 101 "java/lang/IllegalStateException" ["java/lang/RuntimeException", "java/lang/Exception"]).filter goodWord ++ (vx_atM "java/lang/ArrayIndexOutOfBoundsException" ["java/lang/IndexOutOfBoundsException", "java/lang/RuntimeException", "java/lang/Exception"]).filter goodWord)
def wsX3_palletWithLayer : List Cond := .code yX3_palletWithLayer cX3_palletWithLayer 4 (some (.object "PalletLayers$Pallet")) :: ([.classLink RX3 174 "java/util/NoSuchElementException", .initialized "java/util/NoSuchElementException", .fieldLink RX3 144 "PalletLayers$Pallet" "layers" "I", .methodLink RX3 134 yX3_palletNumbered, .instanceMethod yX3_palletNumbered, .selects RX3 yX3_palletNumbered yX3_palletNumbered, .initialized RX3, .code yX3_palletNumbered cX3_palletNumbered 3 (some (.object "PalletLayers$Pallet")), .fieldLink RX3 17 "PalletLayers" "pallets" "[LPalletLayers$Pallet;", .methodLink RX3 68 yX3_isOutside, .static yX3_isOutside, .code yX3_isOutside cX3_isOutside 3 (some .boolean)] ++ wsX10 ++ wsX30 ++ (vx_atS RX3 178 "java/util/NoSuchElementException" ["java/lang/RuntimeException", "java/lang/Exception"]).filter goodWord)
def wsX3_support_r1 : List Cond := [Cond.classLink RX3 174 "java/util/NoSuchElementException", Cond.initialized "java/util/NoSuchElementException", Cond.fieldLink RX3 168 "PalletLayers$Pallet" "kindOf" "[I", Cond.fieldLink RX3 171 "PalletLayers$Pallet" "boxesOf" "[I", Cond.fieldLink RX3 126 "PalletLayers$Kind" "area" "I", Cond.methodLink RX3 164 yX3_palletWithLayer, Cond.instanceMethod yX3_palletWithLayer, Cond.selects RX3 yX3_palletWithLayer yX3_palletWithLayer, Cond.initialized RX3, Cond.code yX3_palletWithLayer cX3_palletWithLayer 4 (some (.object "PalletLayers$Pallet")), Cond.fieldLink RX3 144 "PalletLayers$Pallet" "layers" "I", Cond.methodLink RX3 134 yX3_palletNumbered, Cond.instanceMethod yX3_palletNumbered, Cond.selects RX3 yX3_palletNumbered yX3_palletNumbered, Cond.code yX3_palletNumbered cX3_palletNumbered 3 (some (.object "PalletLayers$Pallet")), Cond.fieldLink RX3 17 "PalletLayers" "pallets" "[LPalletLayers$Pallet;", Cond.methodLink RX3 68 yX3_isOutside, Cond.static yX3_isOutside, Cond.code yX3_isOutside cX3_isOutside 3 (some .boolean), Cond.methodLink RX3 87 yX3_kindNumbered, Cond.instanceMethod yX3_kindNumbered, Cond.selects RX3 yX3_kindNumbered yX3_kindNumbered, Cond.code yX3_kindNumbered cX3_kindNumbered 3 (some (.object "PalletLayers$Kind")), Cond.fieldLink RX3 11 "PalletLayers" "kinds" "[LPalletLayers$Kind;"]
def wsX3_support_r2 : List Cond := [Cond.methodLink RX3 179 yX0_cellsOfBox, Cond.instanceMethod yX0_cellsOfBox, Cond.selects RX0 yX0_cellsOfBox yX0_cellsOfBox, Cond.initialized RX0, Cond.code yX0_cellsOfBox cX0_cellsOfBox 2 (some .long), Cond.fieldLink RX0 18 "PalletLayers$Kind" "boxes" "I", Cond.fieldLink RX0 9 "PalletLayers$Kind" "corners" "[I", Cond.fieldLink RX0 15 "PalletLayers$Kind" "ways" "[I", Cond.methodLink RX0 56 yX0_cellsAt, Cond.instanceMethod yX0_cellsAt, Cond.selects RX0 yX0_cellsAt yX0_cellsAt, Cond.code yX0_cellsAt cX0_cellsAt 3 (some .long), Cond.fieldLink RX0 45 "PalletLayers$Kind" "straightShape" "J", Cond.fieldLink RX0 49 "PalletLayers$Kind" "turnedShape" "J", Cond.methodLink RX3 183 yX3_supportedCells, Cond.static yX3_supportedCells, Cond.code yX3_supportedCells cX3_supportedCells 6 (some .int), Cond.methodLink RX3 239 yX1_coveredIn, Cond.instanceMethod yX1_coveredIn, Cond.selects RX1 yX1_coveredIn yX1_coveredIn, Cond.initialized RX1, Cond.code yX1_coveredIn cX1_coveredIn 2 (some .long), Cond.fieldLink RX1 28 "PalletLayers$Pallet" "layers" "I", Cond.fieldLink RX1 24 "PalletLayers$Pallet" "coveredOf" "[J"]
def wsX3_support_r3 : List Cond := [Cond.methodLink RX3 242 yJ13_bitCount_95d88, Cond.static yJ13_bitCount_95d88, Cond.initialized RJ13, Cond.code yJ13_bitCount_95d88 cJ13_bitCount_95d88 2 (some .int), Cond.constantLong RJ13 314 (6148914691236517205), Cond.constantLong RJ13 316 (3689348814741910323), Cond.constantLong RJ13 318 (1085102592571150095)]
def wsX3_support : List Cond := .code yX3_support cX3_support 6 (some .int) :: ((wsX3_support_r1 ++ (wsX3_support_r2 ++ wsX3_support_r3)) ++ wsX10 ++ wsX00 ++ wsX30 ++ (vx_atM "java/lang/ArrayIndexOutOfBoundsException" ["java/lang/IndexOutOfBoundsException", "java/lang/RuntimeException", "java/lang/Exception"]).filter goodWord ++ (vx_atS RX3 178 "java/util/NoSuchElementException" ["java/lang/RuntimeException", "java/lang/Exception"]).filter goodWord)
def wsX3_told_r1 : List Cond := [Cond.classLink RX3 72 "java/lang/IllegalArgumentException", Cond.initialized "java/lang/IllegalArgumentException", Cond.fieldLink RX3 187 "PalletLayers$Pallet" "height" "I", Cond.fieldLink RX3 190 "PalletLayers$Pallet" "weight" "I", Cond.fieldLink RX3 144 "PalletLayers$Pallet" "layers" "I", Cond.fieldLink RX3 193 "PalletLayers$Pallet" "boxes" "I", Cond.fieldLink RX3 194 "PalletLayers$Pallet" "stop" "I", Cond.methodLink RX3 134 yX3_palletNumbered, Cond.instanceMethod yX3_palletNumbered, Cond.selects RX3 yX3_palletNumbered yX3_palletNumbered, Cond.initialized RX3, Cond.code yX3_palletNumbered cX3_palletNumbered 3 (some (.object "PalletLayers$Pallet")), Cond.classLink RX3 174 "java/util/NoSuchElementException", Cond.initialized "java/util/NoSuchElementException", Cond.fieldLink RX3 17 "PalletLayers" "pallets" "[LPalletLayers$Pallet;", Cond.methodLink RX3 68 yX3_isOutside, Cond.static yX3_isOutside, Cond.code yX3_isOutside cX3_isOutside 3 (some .boolean), Cond.methodLink RX3 197 yX1_kindBits, Cond.instanceMethod yX1_kindBits, Cond.selects RX1 yX1_kindBits yX1_kindBits, Cond.initialized RX1, Cond.code yX1_kindBits cX1_kindBits 3 (some .int), Cond.fieldLink RX1 28 "PalletLayers$Pallet" "layers" "I"]
def wsX3_told_r2 : List Cond := [Cond.fieldLink RX1 9 "PalletLayers$Pallet" "kindOf" "[I"]
def wsX3_told : List Cond := .code yX3_told cX3_told 4 (some .int) :: ((wsX3_told_r1 ++ wsX3_told_r2) ++ wsX10 ++ wsX30 ++ (vx_atS RX3 76 "java/lang/IllegalArgumentException" ["java/lang/RuntimeException", "java/lang/Exception"]).filter goodWord ++ (vx_atS RX3 178 "java/util/NoSuchElementException" ["java/lang/RuntimeException", "java/lang/Exception"]).filter goodWord ++ (vx_atM "java/lang/ArrayIndexOutOfBoundsException" ["java/lang/IndexOutOfBoundsException", "java/lang/RuntimeException", "java/lang/Exception"]).filter goodWord)
def wsX3_layer_r1 : List Cond := [Cond.classLink RX3 72 "java/lang/IllegalArgumentException", Cond.initialized "java/lang/IllegalArgumentException", Cond.fieldLink RX3 168 "PalletLayers$Pallet" "kindOf" "[I", Cond.fieldLink RX3 171 "PalletLayers$Pallet" "boxesOf" "[I", Cond.fieldLink RX3 200 "PalletLayers$Pallet" "bottomOf" "[I", Cond.fieldLink RX3 106 "PalletLayers$Kind" "boxes" "I", Cond.methodLink RX3 164 yX3_palletWithLayer, Cond.instanceMethod yX3_palletWithLayer, Cond.selects RX3 yX3_palletWithLayer yX3_palletWithLayer, Cond.initialized RX3, Cond.code yX3_palletWithLayer cX3_palletWithLayer 4 (some (.object "PalletLayers$Pallet")), Cond.classLink RX3 174 "java/util/NoSuchElementException", Cond.initialized "java/util/NoSuchElementException", Cond.fieldLink RX3 144 "PalletLayers$Pallet" "layers" "I", Cond.methodLink RX3 134 yX3_palletNumbered, Cond.instanceMethod yX3_palletNumbered, Cond.selects RX3 yX3_palletNumbered yX3_palletNumbered, Cond.code yX3_palletNumbered cX3_palletNumbered 3 (some (.object "PalletLayers$Pallet")), Cond.fieldLink RX3 17 "PalletLayers" "pallets" "[LPalletLayers$Pallet;", Cond.methodLink RX3 68 yX3_isOutside, Cond.static yX3_isOutside, Cond.code yX3_isOutside cX3_isOutside 3 (some .boolean), Cond.methodLink RX3 87 yX3_kindNumbered, Cond.instanceMethod yX3_kindNumbered]
def wsX3_layer_r2 : List Cond := [Cond.selects RX3 yX3_kindNumbered yX3_kindNumbered, Cond.code yX3_kindNumbered cX3_kindNumbered 3 (some (.object "PalletLayers$Kind")), Cond.fieldLink RX3 11 "PalletLayers" "kinds" "[LPalletLayers$Kind;"]
def wsX3_layer : List Cond := .code yX3_layer cX3_layer 5 (some .int) :: ((wsX3_layer_r1 ++ wsX3_layer_r2) ++ wsX10 ++ wsX00 ++ wsX30 ++ (vx_atM "java/lang/ArrayIndexOutOfBoundsException" ["java/lang/IndexOutOfBoundsException", "java/lang/RuntimeException", "java/lang/Exception"]).filter goodWord ++ (vx_atS RX3 76 "java/lang/IllegalArgumentException" ["java/lang/RuntimeException", "java/lang/Exception"]).filter goodWord ++ (vx_atS RX3 178 "java/util/NoSuchElementException" ["java/lang/RuntimeException", "java/lang/Exception"]).filter goodWord)
def wsX3_hasLesserStopAboard : List Cond := .code yX3_hasLesserStopAboard cX3_hasLesserStopAboard 3 (some .boolean) :: ([.fieldLink RX3 32 "PalletLayers" "aboardCount" "I", .fieldLink RX3 21 "PalletLayers" "aboard" "[I", .fieldLink RX3 194 "PalletLayers$Pallet" "stop" "I", .methodLink RX3 134 yX3_palletNumbered, .instanceMethod yX3_palletNumbered, .selects RX3 yX3_palletNumbered yX3_palletNumbered, .initialized RX3, .code yX3_palletNumbered cX3_palletNumbered 3 (some (.object "PalletLayers$Pallet")), .classLink RX3 174 "java/util/NoSuchElementException", .initialized "java/util/NoSuchElementException", .fieldLink RX3 17 "PalletLayers" "pallets" "[LPalletLayers$Pallet;", .methodLink RX3 68 yX3_isOutside, .static yX3_isOutside, .code yX3_isOutside cX3_isOutside 3 (some .boolean)] ++ wsX30 ++ wsX10 ++ (vx_atM "java/lang/ArrayIndexOutOfBoundsException" ["java/lang/IndexOutOfBoundsException", "java/lang/RuntimeException", "java/lang/Exception"]).filter goodWord ++ (vx_atS RX3 178 "java/util/NoSuchElementException" ["java/lang/RuntimeException", "java/lang/Exception"]).filter goodWord)
def wsX3_truck_r1 : List Cond := [Cond.classLink RX3 72 "java/lang/IllegalArgumentException", Cond.initialized "java/lang/IllegalArgumentException", Cond.classLink RX3 97 "java/lang/IllegalStateException", Cond.initialized "java/lang/IllegalStateException", Cond.fieldLink RX3 32 "PalletLayers" "aboardCount" "I", Cond.fieldLink RX3 21 "PalletLayers" "aboard" "[I", Cond.fieldLink RX3 194 "PalletLayers$Pallet" "stop" "I", Cond.methodLink RX3 134 yX3_palletNumbered, Cond.instanceMethod yX3_palletNumbered, Cond.selects RX3 yX3_palletNumbered yX3_palletNumbered, Cond.initialized RX3, Cond.code yX3_palletNumbered cX3_palletNumbered 3 (some (.object "PalletLayers$Pallet")), Cond.classLink RX3 174 "java/util/NoSuchElementException", Cond.initialized "java/util/NoSuchElementException", Cond.fieldLink RX3 17 "PalletLayers" "pallets" "[LPalletLayers$Pallet;", Cond.methodLink RX3 68 yX3_isOutside, Cond.static yX3_isOutside, Cond.code yX3_isOutside cX3_isOutside 3 (some .boolean), Cond.methodLink RX3 140 yX3_refuseOnTruck, Cond.static yX3_refuseOnTruck, Cond.code yX3_refuseOnTruck cX3_refuseOnTruck 1 none, Cond.methodLink RX3 157 yX3_refuseEmpty, Cond.static yX3_refuseEmpty, Cond.code yX3_refuseEmpty cX3_refuseEmpty 1 none]
def wsX3_truck_r2 : List Cond := [Cond.fieldLink RX3 144 "PalletLayers$Pallet" "layers" "I", Cond.methodLink RX3 205 yX3_hasLesserStopAboard, Cond.instanceMethod yX3_hasLesserStopAboard, Cond.selects RX3 yX3_hasLesserStopAboard yX3_hasLesserStopAboard, Cond.code yX3_hasLesserStopAboard cX3_hasLesserStopAboard 3 (some .boolean)]
def wsX3_truck : List Cond := .code yX3_truck cX3_truck 4 (some .int) :: ((wsX3_truck_r1 ++ wsX3_truck_r2) ++ wsX30 ++ wsX10 ++ (vx_atS RX3 76 "java/lang/IllegalArgumentException" ["java/lang/RuntimeException", "java/lang/Exception"]).filter goodWord ++ (vx_atS RX3 101 "java/lang/IllegalStateException" ["java/lang/RuntimeException", "java/lang/Exception"]).filter goodWord ++ (vx_atM "java/lang/ArrayIndexOutOfBoundsException" ["java/lang/IndexOutOfBoundsException", "java/lang/RuntimeException", "java/lang/Exception"]).filter goodWord ++ (vx_atS RX3 178 "java/util/NoSuchElementException" ["java/lang/RuntimeException", "java/lang/Exception"]).filter goodWord)
def wsX3_isBarred : List Cond := .code yX3_isBarred cX3_isBarred 4 (some .boolean) :: ([.fieldLink RX3 32 "PalletLayers" "aboardCount" "I", .fieldLink RX3 21 "PalletLayers" "aboard" "[I", .fieldLink RX3 194 "PalletLayers$Pallet" "stop" "I", .methodLink RX3 134 yX3_palletNumbered, .instanceMethod yX3_palletNumbered, .selects RX3 yX3_palletNumbered yX3_palletNumbered, .initialized RX3, .code yX3_palletNumbered cX3_palletNumbered 3 (some (.object "PalletLayers$Pallet")), .classLink RX3 174 "java/util/NoSuchElementException", .initialized "java/util/NoSuchElementException", .fieldLink RX3 17 "PalletLayers" "pallets" "[LPalletLayers$Pallet;", .methodLink RX3 68 yX3_isOutside, .static yX3_isOutside, .code yX3_isOutside cX3_isOutside 3 (some .boolean)] ++ wsX30 ++ wsX10 ++ (vx_atM "java/lang/ArrayIndexOutOfBoundsException" ["java/lang/IndexOutOfBoundsException", "java/lang/RuntimeException", "java/lang/Exception"]).filter goodWord ++ (vx_atS RX3 178 "java/util/NoSuchElementException" ["java/lang/RuntimeException", "java/lang/Exception"]).filter goodWord)
def wsX3_unload_r1 : List Cond := [Cond.classLink RX3 72 "java/lang/IllegalArgumentException", Cond.initialized "java/lang/IllegalArgumentException", Cond.classLink RX3 97 "java/lang/IllegalStateException", Cond.initialized "java/lang/IllegalStateException", Cond.fieldLink RX3 32 "PalletLayers" "aboardCount" "I", Cond.fieldLink RX3 21 "PalletLayers" "aboard" "[I", Cond.fieldLink RX3 194 "PalletLayers$Pallet" "stop" "I", Cond.methodLink RX3 68 yX3_isOutside, Cond.static yX3_isOutside, Cond.initialized RX3, Cond.code yX3_isOutside cX3_isOutside 3 (some .boolean), Cond.methodLink RX3 210 yX3_isBarred, Cond.instanceMethod yX3_isBarred, Cond.selects RX3 yX3_isBarred yX3_isBarred, Cond.code yX3_isBarred cX3_isBarred 4 (some .boolean), Cond.methodLink RX3 134 yX3_palletNumbered, Cond.instanceMethod yX3_palletNumbered, Cond.selects RX3 yX3_palletNumbered yX3_palletNumbered, Cond.code yX3_palletNumbered cX3_palletNumbered 3 (some (.object "PalletLayers$Pallet")), Cond.classLink RX3 174 "java/util/NoSuchElementException", Cond.initialized "java/util/NoSuchElementException", Cond.fieldLink RX3 17 "PalletLayers" "pallets" "[LPalletLayers$Pallet;", Cond.methodLink RX3 215 yX1_clear, Cond.instanceMethod yX1_clear]
def wsX3_unload_r2 : List Cond := [Cond.selects RX1 yX1_clear yX1_clear, Cond.initialized RX1, Cond.code yX1_clear cX1_clear 1 none, Cond.fieldLink RX1 28 "PalletLayers$Pallet" "layers" "I", Cond.fieldLink RX1 32 "PalletLayers$Pallet" "height" "I", Cond.fieldLink RX1 35 "PalletLayers$Pallet" "weight" "I", Cond.fieldLink RX1 38 "PalletLayers$Pallet" "boxes" "I", Cond.fieldLink RX1 41 "PalletLayers$Pallet" "stop" "I"]
def wsX3_unload : List Cond := .code yX3_unload cX3_unload 5 (some .int) :: ((wsX3_unload_r1 ++ wsX3_unload_r2) ++ wsX30 ++ wsX10 ++ (vx_atS RX3 76 "java/lang/IllegalArgumentException" ["java/lang/RuntimeException", "java/lang/Exception"]).filter goodWord ++ (vx_atS RX3 101 "java/lang/IllegalStateException" ["java/lang/RuntimeException", "java/lang/Exception"]).filter goodWord ++ (vx_atM "java/lang/ArrayIndexOutOfBoundsException" ["java/lang/IndexOutOfBoundsException", "java/lang/RuntimeException", "java/lang/Exception"]).filter goodWord ++ (vx_atS RX3 178 "java/util/NoSuchElementException" ["java/lang/RuntimeException", "java/lang/Exception"]).filter goodWord)
def wsX3_order : List Cond := .code yX3_order cX3_order 2 (some .int) :: ([.classLink RX3 174 "java/util/NoSuchElementException", .initialized "java/util/NoSuchElementException", .fieldLink RX3 32 "PalletLayers" "aboardCount" "I", .fieldLink RX3 21 "PalletLayers" "aboard" "[I", .methodLink RX3 68 yX3_isOutside, .static yX3_isOutside, .initialized RX3, .code yX3_isOutside cX3_isOutside 3 (some .boolean)] ++ wsX30 ++ (vx_atS RX3 178 "java/util/NoSuchElementException" ["java/lang/RuntimeException", "java/lang/Exception"]).filter goodWord ++ (vx_atM "java/lang/ArrayIndexOutOfBoundsException" ["java/lang/IndexOutOfBoundsException", "java/lang/RuntimeException", "java/lang/Exception"]).filter goodWord)
def wsX3_boxesOnPallets : List Cond := .code yX3_boxesOnPallets cX3_boxesOnPallets 7 (some .int) :: ([.fieldLink RX3 17 "PalletLayers" "pallets" "[LPalletLayers$Pallet;", .fieldLink RX3 194 "PalletLayers$Pallet" "stop" "I", .fieldLink RX3 193 "PalletLayers$Pallet" "boxes" "I"] ++ wsX30 ++ wsX10)
def wsX3_count : List Cond := .code yX3_count cX3_count 2 (some .int) :: ([.fieldLink RX3 25 "PalletLayers" "kindCount" "I", .fieldLink RX3 29 "PalletLayers" "palletCount" "I", .fieldLink RX3 32 "PalletLayers" "aboardCount" "I", .fieldLink RX3 64 "PalletLayers" "seeker" "LPalletLayers$PatternSearch;", .fieldLink RX3 224 "PalletLayers$PatternSearch" "stepsMade" "I", .methodLink RX3 220 yX3_boxesOnPallets, .instanceMethod yX3_boxesOnPallets, .selects RX3 yX3_boxesOnPallets yX3_boxesOnPallets, .initialized RX3, .code yX3_boxesOnPallets cX3_boxesOnPallets 7 (some .int), .fieldLink RX3 17 "PalletLayers" "pallets" "[LPalletLayers$Pallet;", .fieldLink RX3 194 "PalletLayers$Pallet" "stop" "I", .fieldLink RX3 193 "PalletLayers$Pallet" "boxes" "I"] ++ wsX30 ++ wsX20 ++ wsX10)
def wsX4_held : List Cond := .code yX4_held cX4_held 1 (some .int) :: ([])
def wsX4_init_r1 : List Cond := [Cond.methodLink RX4 1 objectInit, Cond.instanceMethod objectInit, Cond.code objectInit ⟨#[0xb1]⟩ 1 none, Cond.arrayClass .int, Cond.fieldLink RX4 7 "PalletLayersModel" "wide" "[I", Cond.fieldLink RX4 13 "PalletLayersModel" "deep" "[I", Cond.fieldLink RX4 16 "PalletLayersModel" "high" "[I", Cond.fieldLink RX4 19 "PalletLayersModel" "heavy" "[I", Cond.fieldLink RX4 22 "PalletLayersModel" "boxes" "[I", Cond.arrayClass .boolean, Cond.fieldLink RX4 25 "PalletLayersModel" "exact" "[Z", Cond.arrayClass .long, Cond.fieldLink RX4 29 "PalletLayersModel" "box" "[J", Cond.fieldLink RX4 33 "PalletLayersModel" "corner" "[I", Cond.fieldLink RX4 36 "PalletLayersModel" "way" "[I", Cond.fieldLink RX4 39 "PalletLayersModel" "share" "I", Cond.fieldLink RX4 43 "PalletLayersModel" "door" "I", Cond.fieldLink RX4 46 "PalletLayersModel" "load" "I", Cond.fieldLink RX4 49 "PalletLayersModel" "layers" "[I", Cond.fieldLink RX4 52 "PalletLayersModel" "layerKind" "[I", Cond.fieldLink RX4 55 "PalletLayersModel" "layerBoxes" "[I", Cond.fieldLink RX4 58 "PalletLayersModel" "stop" "[I", Cond.fieldLink RX4 61 "PalletLayersModel" "truck" "[I", Cond.fieldLink RX4 64 "PalletLayersModel" "cellAt" "[I"]
def wsX4_init_r2 : List Cond := [Cond.fieldLink RX4 67 "PalletLayersModel" "trial" "[I", Cond.fieldLink RX4 70 "PalletLayersModel" "corners" "[I", Cond.fieldLink RX4 73 "PalletLayersModel" "ways" "[I", Cond.fieldLink RX4 80 "PalletLayersModel" "width" "I", Cond.fieldLink RX4 83 "PalletLayersModel" "depth" "I", Cond.fieldLink RX4 86 "PalletLayersModel" "cells" "I", Cond.methodLink RX4 76 yX4_held, Cond.static yX4_held, Cond.initialized RX4, Cond.code yX4_held cX4_held 1 (some .int)]
def wsX4_init : List Cond := .code yX4_init cX4_init 3 none :: ((wsX4_init_r1 ++ wsX4_init_r2) ++ wsX40)
def wsX4_thrown : List Cond := .code yX4_thrown cX4_thrown 1 (some .int) :: ([.fieldLink RX4 89 "PalletLayersModel" "thrown" "I"] ++ wsX40)
def wsX4_within : List Cond := .code yX4_within cX4_within 3 (some .boolean) :: ([])
def wsX4_isKind : List Cond := .code yX4_isKind cX4_isKind 2 (some .boolean) :: ([.fieldLink RX4 92 "PalletLayersModel" "kinds" "I", .methodLink RX4 95 yX4_within, .static yX4_within, .initialized RX4, .code yX4_within cX4_within 3 (some .boolean)] ++ wsX40)
def wsX4_isPallet : List Cond := .code yX4_isPallet cX4_isPallet 2 (some .boolean) :: ([.fieldLink RX4 99 "PalletLayersModel" "pallets" "I", .methodLink RX4 95 yX4_within, .static yX4_within, .initialized RX4, .code yX4_within cX4_within 3 (some .boolean)] ++ wsX40)
def wsX4_kind : List Cond := .code yX4_kind cX4_kind 6 (some .int) :: ([.fieldLink RX4 92 "PalletLayersModel" "kinds" "I", .fieldLink RX4 89 "PalletLayersModel" "thrown" "I", .fieldLink RX4 7 "PalletLayersModel" "wide" "[I", .fieldLink RX4 13 "PalletLayersModel" "deep" "[I", .fieldLink RX4 16 "PalletLayersModel" "high" "[I", .fieldLink RX4 19 "PalletLayersModel" "heavy" "[I", .methodLink RX4 95 yX4_within, .static yX4_within, .initialized RX4, .code yX4_within cX4_within 3 (some .boolean)] ++ wsX40 ++ (vx_atM "java/lang/ArrayIndexOutOfBoundsException" ["java/lang/IndexOutOfBoundsException", "java/lang/RuntimeException", "java/lang/Exception"]).filter goodWord)
def wsX4_areaOf : List Cond := .code yX4_areaOf cX4_areaOf 2 (some .int) :: ([.fieldLink RX4 7 "PalletLayersModel" "wide" "[I", .fieldLink RX4 13 "PalletLayersModel" "deep" "[I"] ++ wsX40 ++ (vx_atM "java/lang/ArrayIndexOutOfBoundsException" ["java/lang/IndexOutOfBoundsException", "java/lang/RuntimeException", "java/lang/Exception"]).filter goodWord)
def wsX4_cellsOf : List Cond := .code yX4_cellsOf cX4_cellsOf 13 (some .long) :: ([.fieldLink RX4 7 "PalletLayersModel" "wide" "[I", .fieldLink RX4 13 "PalletLayersModel" "deep" "[I", .fieldLink RX4 80 "PalletLayersModel" "width" "I", .fieldLink RX4 83 "PalletLayersModel" "depth" "I"] ++ wsX40 ++ (vx_atM "java/lang/ArrayIndexOutOfBoundsException" ["java/lang/IndexOutOfBoundsException", "java/lang/RuntimeException", "java/lang/Exception"]).filter goodWord)
def wsX4_count : List Cond := .code yX4_count cX4_count 5 (some .int) :: ([])
def wsX4_firstCell : List Cond := .code yX4_firstCell cX4_firstCell 2 (some .int) :: ([.fieldLink RX4 86 "PalletLayersModel" "cells" "I", .fieldLink RX4 102 "PalletLayersModel" "taken" "J", .fieldLink RX4 106 "PalletLayersModel" "left" "J"] ++ wsX40)
def wsX4_canBeBetter : List Cond := .code yX4_canBeBetter cX4_canBeBetter 2 (some .boolean) :: ([.fieldLink RX4 109 "PalletLayersModel" "most" "I", .fieldLink RX4 112 "PalletLayersModel" "placed" "I", .fieldLink RX4 86 "PalletLayersModel" "cells" "I", .fieldLink RX4 102 "PalletLayersModel" "taken" "J", .fieldLink RX4 106 "PalletLayersModel" "left" "J", .methodLink RX4 115 yX4_count, .static yX4_count, .initialized RX4, .code yX4_count cX4_count 5 (some .int), .methodLink RX4 119 yX4_areaOf, .instanceMethod yX4_areaOf, .selects RX4 yX4_areaOf yX4_areaOf, .code yX4_areaOf cX4_areaOf 2 (some .int), .fieldLink RX4 7 "PalletLayersModel" "wide" "[I", .fieldLink RX4 13 "PalletLayersModel" "deep" "[I"] ++ wsX40 ++ (vx_atM "java/lang/ArrayIndexOutOfBoundsException" ["java/lang/IndexOutOfBoundsException", "java/lang/RuntimeException", "java/lang/Exception"]).filter goodWord)
def wsX4_keepBest : List Cond := .code yX4_keepBest cX4_keepBest 3 none :: ([.fieldLink RX4 112 "PalletLayersModel" "placed" "I", .fieldLink RX4 109 "PalletLayersModel" "most" "I", .fieldLink RX4 22 "PalletLayersModel" "boxes" "[I", .fieldLink RX4 33 "PalletLayersModel" "corner" "[I", .fieldLink RX4 70 "PalletLayersModel" "corners" "[I", .fieldLink RX4 36 "PalletLayersModel" "way" "[I", .fieldLink RX4 73 "PalletLayersModel" "ways" "[I", .fieldLink RX4 29 "PalletLayersModel" "box" "[J", .methodLink RX4 122 yX4_cellsOf, .instanceMethod yX4_cellsOf, .selects RX4 yX4_cellsOf yX4_cellsOf, .initialized RX4, .code yX4_cellsOf cX4_cellsOf 13 (some .long), .fieldLink RX4 7 "PalletLayersModel" "wide" "[I", .fieldLink RX4 13 "PalletLayersModel" "deep" "[I", .fieldLink RX4 80 "PalletLayersModel" "width" "I", .fieldLink RX4 83 "PalletLayersModel" "depth" "I"] ++ wsX40 ++ (vx_atM "java/lang/ArrayIndexOutOfBoundsException" ["java/lang/IndexOutOfBoundsException", "java/lang/RuntimeException", "java/lang/Exception"]).filter goodWord)
def wsX4_undo : List Cond := .code yX4_undo cX4_undo 4 none :: ([.fieldLink RX4 112 "PalletLayersModel" "placed" "I", .fieldLink RX4 102 "PalletLayersModel" "taken" "J", .constantLong RX4 126 (-1), .fieldLink RX4 106 "PalletLayersModel" "left" "J", .methodLink RX4 122 yX4_cellsOf, .instanceMethod yX4_cellsOf, .selects RX4 yX4_cellsOf yX4_cellsOf, .initialized RX4, .code yX4_cellsOf cX4_cellsOf 13 (some .long), .fieldLink RX4 7 "PalletLayersModel" "wide" "[I", .fieldLink RX4 13 "PalletLayersModel" "deep" "[I", .fieldLink RX4 80 "PalletLayersModel" "width" "I", .fieldLink RX4 83 "PalletLayersModel" "depth" "I"] ++ wsX40 ++ (vx_atM "java/lang/ArrayIndexOutOfBoundsException" ["java/lang/IndexOutOfBoundsException", "java/lang/RuntimeException", "java/lang/Exception"]).filter goodWord)
def wsX4_canTry : List Cond := .code yX4_canTry cX4_canTry 6 (some .boolean) :: ([.fieldLink RX4 7 "PalletLayersModel" "wide" "[I", .fieldLink RX4 13 "PalletLayersModel" "deep" "[I", .fieldLink RX4 102 "PalletLayersModel" "taken" "J", .methodLink RX4 122 yX4_cellsOf, .instanceMethod yX4_cellsOf, .selects RX4 yX4_cellsOf yX4_cellsOf, .initialized RX4, .code yX4_cellsOf cX4_cellsOf 13 (some .long), .fieldLink RX4 80 "PalletLayersModel" "width" "I", .fieldLink RX4 83 "PalletLayersModel" "depth" "I"] ++ wsX40 ++ (vx_atM "java/lang/ArrayIndexOutOfBoundsException" ["java/lang/IndexOutOfBoundsException", "java/lang/RuntimeException", "java/lang/Exception"]).filter goodWord)
def wsX4_tries : List Cond := .code yX4_tries cX4_tries 4 none :: ([.fieldLink RX4 106 "PalletLayersModel" "left" "J", .fieldLink RX4 102 "PalletLayersModel" "taken" "J", .fieldLink RX4 70 "PalletLayersModel" "corners" "[I", .fieldLink RX4 112 "PalletLayersModel" "placed" "I", .fieldLink RX4 73 "PalletLayersModel" "ways" "[I", .methodLink RX4 122 yX4_cellsOf, .instanceMethod yX4_cellsOf, .selects RX4 yX4_cellsOf yX4_cellsOf, .initialized RX4, .code yX4_cellsOf cX4_cellsOf 13 (some .long), .fieldLink RX4 7 "PalletLayersModel" "wide" "[I", .fieldLink RX4 13 "PalletLayersModel" "deep" "[I", .fieldLink RX4 80 "PalletLayersModel" "width" "I", .fieldLink RX4 83 "PalletLayersModel" "depth" "I"] ++ wsX40 ++ (vx_atM "java/lang/ArrayIndexOutOfBoundsException" ["java/lang/IndexOutOfBoundsException", "java/lang/RuntimeException", "java/lang/Exception"]).filter goodWord)
def wsX4_seek_r1 : List Cond := [Cond.fieldLink RX4 102 "PalletLayersModel" "taken" "J", Cond.fieldLink RX4 106 "PalletLayersModel" "left" "J", Cond.fieldLink RX4 112 "PalletLayersModel" "placed" "I", Cond.fieldLink RX4 109 "PalletLayersModel" "most" "I", Cond.fieldLink RX4 128 "PalletLayersModel" "steps" "I", Cond.fieldLink RX4 25 "PalletLayersModel" "exact" "[Z", Cond.fieldLink RX4 22 "PalletLayersModel" "boxes" "[I", Cond.fieldLink RX4 64 "PalletLayersModel" "cellAt" "[I", Cond.fieldLink RX4 67 "PalletLayersModel" "trial" "[I", Cond.fieldLink RX4 86 "PalletLayersModel" "cells" "I", Cond.methodLink RX4 131 yX4_undo, Cond.instanceMethod yX4_undo, Cond.selects RX4 yX4_undo yX4_undo, Cond.initialized RX4, Cond.code yX4_undo cX4_undo 4 none, Cond.constantLong RX4 126 (-1), Cond.methodLink RX4 122 yX4_cellsOf, Cond.instanceMethod yX4_cellsOf, Cond.selects RX4 yX4_cellsOf yX4_cellsOf, Cond.code yX4_cellsOf cX4_cellsOf 13 (some .long), Cond.fieldLink RX4 7 "PalletLayersModel" "wide" "[I", Cond.fieldLink RX4 13 "PalletLayersModel" "deep" "[I", Cond.fieldLink RX4 80 "PalletLayersModel" "width" "I", Cond.fieldLink RX4 83 "PalletLayersModel" "depth" "I"]
def wsX4_seek_r2 : List Cond := [Cond.methodLink RX4 135 yX4_keepBest, Cond.instanceMethod yX4_keepBest, Cond.selects RX4 yX4_keepBest yX4_keepBest, Cond.code yX4_keepBest cX4_keepBest 3 none, Cond.fieldLink RX4 33 "PalletLayersModel" "corner" "[I", Cond.fieldLink RX4 70 "PalletLayersModel" "corners" "[I", Cond.fieldLink RX4 36 "PalletLayersModel" "way" "[I", Cond.fieldLink RX4 73 "PalletLayersModel" "ways" "[I", Cond.fieldLink RX4 29 "PalletLayersModel" "box" "[J", Cond.methodLink RX4 139 yX4_canBeBetter, Cond.instanceMethod yX4_canBeBetter, Cond.selects RX4 yX4_canBeBetter yX4_canBeBetter, Cond.code yX4_canBeBetter cX4_canBeBetter 2 (some .boolean), Cond.methodLink RX4 115 yX4_count, Cond.static yX4_count, Cond.code yX4_count cX4_count 5 (some .int), Cond.methodLink RX4 119 yX4_areaOf, Cond.instanceMethod yX4_areaOf, Cond.selects RX4 yX4_areaOf yX4_areaOf, Cond.code yX4_areaOf cX4_areaOf 2 (some .int), Cond.methodLink RX4 143 yX4_canTry, Cond.instanceMethod yX4_canTry, Cond.selects RX4 yX4_canTry yX4_canTry, Cond.code yX4_canTry cX4_canTry 6 (some .boolean)]
def wsX4_seek_r3 : List Cond := [Cond.methodLink RX4 146 yX4_tries, Cond.instanceMethod yX4_tries, Cond.selects RX4 yX4_tries yX4_tries, Cond.code yX4_tries cX4_tries 4 none, Cond.methodLink RX4 149 yX4_firstCell, Cond.instanceMethod yX4_firstCell, Cond.selects RX4 yX4_firstCell yX4_firstCell, Cond.code yX4_firstCell cX4_firstCell 2 (some .int)]
def wsX4_seek : List Cond := .code yX4_seek cX4_seek 8 none :: ((wsX4_seek_r1 ++ (wsX4_seek_r2 ++ wsX4_seek_r3)) ++ wsX40 ++ (vx_atM "java/lang/ArrayIndexOutOfBoundsException" ["java/lang/IndexOutOfBoundsException", "java/lang/RuntimeException", "java/lang/Exception"]).filter goodWord)
def wsX4_hasLayers : List Cond := .code yX4_hasLayers cX4_hasLayers 4 (some .boolean) :: ([.fieldLink RX4 99 "PalletLayersModel" "pallets" "I", .fieldLink RX4 49 "PalletLayersModel" "layers" "[I", .fieldLink RX4 52 "PalletLayersModel" "layerKind" "[I"] ++ wsX40 ++ (vx_atM "java/lang/ArrayIndexOutOfBoundsException" ["java/lang/IndexOutOfBoundsException", "java/lang/RuntimeException", "java/lang/Exception"]).filter goodWord)
def wsX4_search_r1 : List Cond := [Cond.fieldLink RX4 89 "PalletLayersModel" "thrown" "I", Cond.fieldLink RX4 22 "PalletLayersModel" "boxes" "[I", Cond.methodLink RX4 153 yX4_isKind, Cond.instanceMethod yX4_isKind, Cond.selects RX4 yX4_isKind yX4_isKind, Cond.initialized RX4, Cond.code yX4_isKind cX4_isKind 2 (some .boolean), Cond.fieldLink RX4 92 "PalletLayersModel" "kinds" "I", Cond.methodLink RX4 95 yX4_within, Cond.static yX4_within, Cond.code yX4_within cX4_within 3 (some .boolean), Cond.methodLink RX4 156 yX4_hasLayers, Cond.instanceMethod yX4_hasLayers, Cond.selects RX4 yX4_hasLayers yX4_hasLayers, Cond.code yX4_hasLayers cX4_hasLayers 4 (some .boolean), Cond.fieldLink RX4 99 "PalletLayersModel" "pallets" "I", Cond.fieldLink RX4 49 "PalletLayersModel" "layers" "[I", Cond.fieldLink RX4 52 "PalletLayersModel" "layerKind" "[I", Cond.methodLink RX4 159 yX4_seek, Cond.instanceMethod yX4_seek, Cond.selects RX4 yX4_seek yX4_seek, Cond.code yX4_seek cX4_seek 8 none, Cond.fieldLink RX4 102 "PalletLayersModel" "taken" "J", Cond.fieldLink RX4 106 "PalletLayersModel" "left" "J"]
def wsX4_search_r2 : List Cond := [Cond.fieldLink RX4 112 "PalletLayersModel" "placed" "I", Cond.fieldLink RX4 109 "PalletLayersModel" "most" "I", Cond.fieldLink RX4 128 "PalletLayersModel" "steps" "I", Cond.fieldLink RX4 25 "PalletLayersModel" "exact" "[Z", Cond.fieldLink RX4 64 "PalletLayersModel" "cellAt" "[I", Cond.fieldLink RX4 67 "PalletLayersModel" "trial" "[I", Cond.fieldLink RX4 86 "PalletLayersModel" "cells" "I", Cond.methodLink RX4 131 yX4_undo, Cond.instanceMethod yX4_undo, Cond.selects RX4 yX4_undo yX4_undo, Cond.code yX4_undo cX4_undo 4 none, Cond.constantLong RX4 126 (-1), Cond.methodLink RX4 122 yX4_cellsOf, Cond.instanceMethod yX4_cellsOf, Cond.selects RX4 yX4_cellsOf yX4_cellsOf, Cond.code yX4_cellsOf cX4_cellsOf 13 (some .long), Cond.fieldLink RX4 7 "PalletLayersModel" "wide" "[I", Cond.fieldLink RX4 13 "PalletLayersModel" "deep" "[I", Cond.fieldLink RX4 80 "PalletLayersModel" "width" "I", Cond.fieldLink RX4 83 "PalletLayersModel" "depth" "I", Cond.methodLink RX4 135 yX4_keepBest, Cond.instanceMethod yX4_keepBest, Cond.selects RX4 yX4_keepBest yX4_keepBest, Cond.code yX4_keepBest cX4_keepBest 3 none]
def wsX4_search_r3 : List Cond := [Cond.fieldLink RX4 33 "PalletLayersModel" "corner" "[I", Cond.fieldLink RX4 70 "PalletLayersModel" "corners" "[I", Cond.fieldLink RX4 36 "PalletLayersModel" "way" "[I", Cond.fieldLink RX4 73 "PalletLayersModel" "ways" "[I", Cond.fieldLink RX4 29 "PalletLayersModel" "box" "[J", Cond.methodLink RX4 139 yX4_canBeBetter, Cond.instanceMethod yX4_canBeBetter, Cond.selects RX4 yX4_canBeBetter yX4_canBeBetter, Cond.code yX4_canBeBetter cX4_canBeBetter 2 (some .boolean), Cond.methodLink RX4 115 yX4_count, Cond.static yX4_count, Cond.code yX4_count cX4_count 5 (some .int), Cond.methodLink RX4 119 yX4_areaOf, Cond.instanceMethod yX4_areaOf, Cond.selects RX4 yX4_areaOf yX4_areaOf, Cond.code yX4_areaOf cX4_areaOf 2 (some .int), Cond.methodLink RX4 143 yX4_canTry, Cond.instanceMethod yX4_canTry, Cond.selects RX4 yX4_canTry yX4_canTry, Cond.code yX4_canTry cX4_canTry 6 (some .boolean), Cond.methodLink RX4 146 yX4_tries, Cond.instanceMethod yX4_tries, Cond.selects RX4 yX4_tries yX4_tries, Cond.code yX4_tries cX4_tries 4 none]
def wsX4_search_r4 : List Cond := [Cond.methodLink RX4 149 yX4_firstCell, Cond.instanceMethod yX4_firstCell, Cond.selects RX4 yX4_firstCell yX4_firstCell, Cond.code yX4_firstCell cX4_firstCell 2 (some .int)]
def wsX4_search : List Cond := .code yX4_search cX4_search 3 (some .int) :: ((wsX4_search_r1 ++ (wsX4_search_r2 ++ (wsX4_search_r3 ++ wsX4_search_r4))) ++ wsX40 ++ (vx_atM "java/lang/ArrayIndexOutOfBoundsException" ["java/lang/IndexOutOfBoundsException", "java/lang/RuntimeException", "java/lang/Exception"]).filter goodWord)
def wsX4_pattern : List Cond := .code yX4_pattern cX4_pattern 5 (some .int) :: ([.fieldLink RX4 22 "PalletLayersModel" "boxes" "[I", .fieldLink RX4 89 "PalletLayersModel" "thrown" "I", .fieldLink RX4 33 "PalletLayersModel" "corner" "[I", .fieldLink RX4 80 "PalletLayersModel" "width" "I", .fieldLink RX4 36 "PalletLayersModel" "way" "[I", .methodLink RX4 153 yX4_isKind, .instanceMethod yX4_isKind, .selects RX4 yX4_isKind yX4_isKind, .initialized RX4, .code yX4_isKind cX4_isKind 2 (some .boolean), .fieldLink RX4 92 "PalletLayersModel" "kinds" "I", .methodLink RX4 95 yX4_within, .static yX4_within, .code yX4_within cX4_within 3 (some .boolean)] ++ wsX40 ++ (vx_atM "java/lang/ArrayIndexOutOfBoundsException" ["java/lang/IndexOutOfBoundsException", "java/lang/RuntimeException", "java/lang/Exception"]).filter goodWord)
def wsX4_exact : List Cond := .code yX4_exact cX4_exact 2 (some .boolean) :: ([.fieldLink RX4 89 "PalletLayersModel" "thrown" "I", .fieldLink RX4 25 "PalletLayersModel" "exact" "[Z", .methodLink RX4 153 yX4_isKind, .instanceMethod yX4_isKind, .selects RX4 yX4_isKind yX4_isKind, .initialized RX4, .code yX4_isKind cX4_isKind 2 (some .boolean), .fieldLink RX4 92 "PalletLayersModel" "kinds" "I", .methodLink RX4 95 yX4_within, .static yX4_within, .code yX4_within cX4_within 3 (some .boolean)] ++ wsX40 ++ (vx_atM "java/lang/ArrayIndexOutOfBoundsException" ["java/lang/IndexOutOfBoundsException", "java/lang/RuntimeException", "java/lang/Exception"]).filter goodWord)
def wsX4_bound : List Cond := .code yX4_bound cX4_bound 2 (some .int) :: ([.fieldLink RX4 89 "PalletLayersModel" "thrown" "I", .fieldLink RX4 86 "PalletLayersModel" "cells" "I", .methodLink RX4 153 yX4_isKind, .instanceMethod yX4_isKind, .selects RX4 yX4_isKind yX4_isKind, .initialized RX4, .code yX4_isKind cX4_isKind 2 (some .boolean), .fieldLink RX4 92 "PalletLayersModel" "kinds" "I", .methodLink RX4 95 yX4_within, .static yX4_within, .code yX4_within cX4_within 3 (some .boolean), .methodLink RX4 119 yX4_areaOf, .instanceMethod yX4_areaOf, .selects RX4 yX4_areaOf yX4_areaOf, .code yX4_areaOf cX4_areaOf 2 (some .int), .fieldLink RX4 7 "PalletLayersModel" "wide" "[I", .fieldLink RX4 13 "PalletLayersModel" "deep" "[I"] ++ wsX40 ++ (vx_atM "java/lang/ArrayIndexOutOfBoundsException" ["java/lang/IndexOutOfBoundsException", "java/lang/RuntimeException", "java/lang/Exception"]).filter goodWord)
def wsX4_rules : List Cond := .code yX4_rules cX4_rules 4 none :: ([.fieldLink RX4 89 "PalletLayersModel" "thrown" "I", .fieldLink RX4 39 "PalletLayersModel" "share" "I", .fieldLink RX4 43 "PalletLayersModel" "door" "I", .fieldLink RX4 46 "PalletLayersModel" "load" "I", .methodLink RX4 95 yX4_within, .static yX4_within, .initialized RX4, .code yX4_within cX4_within 3 (some .boolean)] ++ wsX40)
def wsX4_pallet : List Cond := .code yX4_pallet cX4_pallet 1 (some .int) :: ([.fieldLink RX4 99 "PalletLayersModel" "pallets" "I", .fieldLink RX4 89 "PalletLayersModel" "thrown" "I", .fieldLink RX4 49 "PalletLayersModel" "layers" "[I", .fieldLink RX4 58 "PalletLayersModel" "stop" "[I"] ++ wsX40 ++ (vx_atM "java/lang/ArrayIndexOutOfBoundsException" ["java/lang/IndexOutOfBoundsException", "java/lang/RuntimeException", "java/lang/Exception"]).filter goodWord)
def wsX4_heightOf : List Cond := .code yX4_heightOf cX4_heightOf 5 (some .int) :: ([.fieldLink RX4 16 "PalletLayersModel" "high" "[I", .fieldLink RX4 52 "PalletLayersModel" "layerKind" "[I"] ++ wsX40 ++ (vx_atM "java/lang/ArrayIndexOutOfBoundsException" ["java/lang/IndexOutOfBoundsException", "java/lang/RuntimeException", "java/lang/Exception"]).filter goodWord)
def wsX4_weightOf : List Cond := .code yX4_weightOf cX4_weightOf 4 (some .int) :: ([.fieldLink RX4 49 "PalletLayersModel" "layers" "[I", .fieldLink RX4 19 "PalletLayersModel" "heavy" "[I", .fieldLink RX4 52 "PalletLayersModel" "layerKind" "[I", .fieldLink RX4 55 "PalletLayersModel" "layerBoxes" "[I"] ++ wsX40 ++ (vx_atM "java/lang/ArrayIndexOutOfBoundsException" ["java/lang/IndexOutOfBoundsException", "java/lang/RuntimeException", "java/lang/Exception"]).filter goodWord)
def wsX4_boxesOn : List Cond := .code yX4_boxesOn cX4_boxesOn 4 (some .int) :: ([.fieldLink RX4 49 "PalletLayersModel" "layers" "[I", .fieldLink RX4 55 "PalletLayersModel" "layerBoxes" "[I"] ++ wsX40 ++ (vx_atM "java/lang/ArrayIndexOutOfBoundsException" ["java/lang/IndexOutOfBoundsException", "java/lang/RuntimeException", "java/lang/Exception"]).filter goodWord)
def wsX4_supportOf : List Cond := .code yX4_supportOf cX4_supportOf 8 (some .int) :: ([.fieldLink RX4 52 "PalletLayersModel" "layerKind" "[I", .fieldLink RX4 55 "PalletLayersModel" "layerBoxes" "[I", .fieldLink RX4 29 "PalletLayersModel" "box" "[J", .methodLink RX4 119 yX4_areaOf, .instanceMethod yX4_areaOf, .selects RX4 yX4_areaOf yX4_areaOf, .initialized RX4, .code yX4_areaOf cX4_areaOf 2 (some .int), .fieldLink RX4 7 "PalletLayersModel" "wide" "[I", .fieldLink RX4 13 "PalletLayersModel" "deep" "[I", .methodLink RX4 115 yX4_count, .static yX4_count, .code yX4_count cX4_count 5 (some .int)] ++ wsX40 ++ (vx_atM "java/lang/ArrayIndexOutOfBoundsException" ["java/lang/IndexOutOfBoundsException", "java/lang/RuntimeException", "java/lang/Exception"]).filter goodWord)
def wsX4_reason_r1 : List Cond := [Cond.fieldLink RX4 22 "PalletLayersModel" "boxes" "[I", Cond.fieldLink RX4 49 "PalletLayersModel" "layers" "[I", Cond.fieldLink RX4 39 "PalletLayersModel" "share" "I", Cond.fieldLink RX4 16 "PalletLayersModel" "high" "[I", Cond.fieldLink RX4 43 "PalletLayersModel" "door" "I", Cond.fieldLink RX4 19 "PalletLayersModel" "heavy" "[I", Cond.fieldLink RX4 46 "PalletLayersModel" "load" "I", Cond.methodLink RX4 163 yX4_supportOf, Cond.instanceMethod yX4_supportOf, Cond.selects RX4 yX4_supportOf yX4_supportOf, Cond.initialized RX4, Cond.code yX4_supportOf cX4_supportOf 8 (some .int), Cond.fieldLink RX4 52 "PalletLayersModel" "layerKind" "[I", Cond.fieldLink RX4 55 "PalletLayersModel" "layerBoxes" "[I", Cond.fieldLink RX4 29 "PalletLayersModel" "box" "[J", Cond.methodLink RX4 119 yX4_areaOf, Cond.instanceMethod yX4_areaOf, Cond.selects RX4 yX4_areaOf yX4_areaOf, Cond.code yX4_areaOf cX4_areaOf 2 (some .int), Cond.fieldLink RX4 7 "PalletLayersModel" "wide" "[I", Cond.fieldLink RX4 13 "PalletLayersModel" "deep" "[I", Cond.methodLink RX4 115 yX4_count, Cond.static yX4_count, Cond.code yX4_count cX4_count 5 (some .int)]
def wsX4_reason_r2 : List Cond := [Cond.methodLink RX4 167 yX4_heightOf, Cond.instanceMethod yX4_heightOf, Cond.selects RX4 yX4_heightOf yX4_heightOf, Cond.code yX4_heightOf cX4_heightOf 5 (some .int), Cond.methodLink RX4 171 yX4_weightOf, Cond.instanceMethod yX4_weightOf, Cond.selects RX4 yX4_weightOf yX4_weightOf, Cond.code yX4_weightOf cX4_weightOf 4 (some .int)]
def wsX4_reason : List Cond := .code yX4_reason cX4_reason 5 (some .int) :: ((wsX4_reason_r1 ++ wsX4_reason_r2) ++ wsX40 ++ (vx_atM "java/lang/ArrayIndexOutOfBoundsException" ["java/lang/IndexOutOfBoundsException", "java/lang/RuntimeException", "java/lang/Exception"]).filter goodWord)
def wsX4_add : List Cond := .code yX4_add cX4_add 4 none :: ([.fieldLink RX4 52 "PalletLayersModel" "layerKind" "[I", .fieldLink RX4 49 "PalletLayersModel" "layers" "[I", .fieldLink RX4 55 "PalletLayersModel" "layerBoxes" "[I"] ++ wsX40 ++ (vx_atM "java/lang/ArrayIndexOutOfBoundsException" ["java/lang/IndexOutOfBoundsException", "java/lang/RuntimeException", "java/lang/Exception"]).filter goodWord)
def wsX4_put_r1 : List Cond := [Cond.fieldLink RX4 58 "PalletLayersModel" "stop" "[I", Cond.fieldLink RX4 49 "PalletLayersModel" "layers" "[I", Cond.fieldLink RX4 89 "PalletLayersModel" "thrown" "I", Cond.methodLink RX4 174 yX4_isPallet, Cond.instanceMethod yX4_isPallet, Cond.selects RX4 yX4_isPallet yX4_isPallet, Cond.initialized RX4, Cond.code yX4_isPallet cX4_isPallet 2 (some .boolean), Cond.fieldLink RX4 99 "PalletLayersModel" "pallets" "I", Cond.methodLink RX4 95 yX4_within, Cond.static yX4_within, Cond.code yX4_within cX4_within 3 (some .boolean), Cond.methodLink RX4 153 yX4_isKind, Cond.instanceMethod yX4_isKind, Cond.selects RX4 yX4_isKind yX4_isKind, Cond.code yX4_isKind cX4_isKind 2 (some .boolean), Cond.fieldLink RX4 92 "PalletLayersModel" "kinds" "I", Cond.methodLink RX4 177 yX4_reason, Cond.instanceMethod yX4_reason, Cond.selects RX4 yX4_reason yX4_reason, Cond.code yX4_reason cX4_reason 5 (some .int), Cond.fieldLink RX4 22 "PalletLayersModel" "boxes" "[I", Cond.fieldLink RX4 39 "PalletLayersModel" "share" "I", Cond.fieldLink RX4 16 "PalletLayersModel" "high" "[I"]
def wsX4_put_r2 : List Cond := [Cond.fieldLink RX4 43 "PalletLayersModel" "door" "I", Cond.fieldLink RX4 19 "PalletLayersModel" "heavy" "[I", Cond.fieldLink RX4 46 "PalletLayersModel" "load" "I", Cond.methodLink RX4 163 yX4_supportOf, Cond.instanceMethod yX4_supportOf, Cond.selects RX4 yX4_supportOf yX4_supportOf, Cond.code yX4_supportOf cX4_supportOf 8 (some .int), Cond.fieldLink RX4 52 "PalletLayersModel" "layerKind" "[I", Cond.fieldLink RX4 55 "PalletLayersModel" "layerBoxes" "[I", Cond.fieldLink RX4 29 "PalletLayersModel" "box" "[J", Cond.methodLink RX4 119 yX4_areaOf, Cond.instanceMethod yX4_areaOf, Cond.selects RX4 yX4_areaOf yX4_areaOf, Cond.code yX4_areaOf cX4_areaOf 2 (some .int), Cond.fieldLink RX4 7 "PalletLayersModel" "wide" "[I", Cond.fieldLink RX4 13 "PalletLayersModel" "deep" "[I", Cond.methodLink RX4 115 yX4_count, Cond.static yX4_count, Cond.code yX4_count cX4_count 5 (some .int), Cond.methodLink RX4 167 yX4_heightOf, Cond.instanceMethod yX4_heightOf, Cond.selects RX4 yX4_heightOf yX4_heightOf, Cond.code yX4_heightOf cX4_heightOf 5 (some .int), Cond.methodLink RX4 171 yX4_weightOf]
def wsX4_put_r3 : List Cond := [Cond.instanceMethod yX4_weightOf, Cond.selects RX4 yX4_weightOf yX4_weightOf, Cond.code yX4_weightOf cX4_weightOf 4 (some .int), Cond.methodLink RX4 181 yX4_add, Cond.instanceMethod yX4_add, Cond.selects RX4 yX4_add yX4_add, Cond.code yX4_add cX4_add 4 none]
def wsX4_put : List Cond := .code yX4_put cX4_put 5 (some .int) :: ((wsX4_put_r1 ++ (wsX4_put_r2 ++ wsX4_put_r3)) ++ wsX40 ++ (vx_atM "java/lang/ArrayIndexOutOfBoundsException" ["java/lang/IndexOutOfBoundsException", "java/lang/RuntimeException", "java/lang/Exception"]).filter goodWord)
def wsX4_fill_r1 : List Cond := [Cond.fieldLink RX4 58 "PalletLayersModel" "stop" "[I", Cond.fieldLink RX4 89 "PalletLayersModel" "thrown" "I", Cond.fieldLink RX4 22 "PalletLayersModel" "boxes" "[I", Cond.fieldLink RX4 49 "PalletLayersModel" "layers" "[I", Cond.methodLink RX4 174 yX4_isPallet, Cond.instanceMethod yX4_isPallet, Cond.selects RX4 yX4_isPallet yX4_isPallet, Cond.initialized RX4, Cond.code yX4_isPallet cX4_isPallet 2 (some .boolean), Cond.fieldLink RX4 99 "PalletLayersModel" "pallets" "I", Cond.methodLink RX4 95 yX4_within, Cond.static yX4_within, Cond.code yX4_within cX4_within 3 (some .boolean), Cond.methodLink RX4 153 yX4_isKind, Cond.instanceMethod yX4_isKind, Cond.selects RX4 yX4_isKind yX4_isKind, Cond.code yX4_isKind cX4_isKind 2 (some .boolean), Cond.fieldLink RX4 92 "PalletLayersModel" "kinds" "I", Cond.methodLink RX4 177 yX4_reason, Cond.instanceMethod yX4_reason, Cond.selects RX4 yX4_reason yX4_reason, Cond.code yX4_reason cX4_reason 5 (some .int), Cond.fieldLink RX4 39 "PalletLayersModel" "share" "I", Cond.fieldLink RX4 16 "PalletLayersModel" "high" "[I"]
def wsX4_fill_r2 : List Cond := [Cond.fieldLink RX4 43 "PalletLayersModel" "door" "I", Cond.fieldLink RX4 19 "PalletLayersModel" "heavy" "[I", Cond.fieldLink RX4 46 "PalletLayersModel" "load" "I", Cond.methodLink RX4 163 yX4_supportOf, Cond.instanceMethod yX4_supportOf, Cond.selects RX4 yX4_supportOf yX4_supportOf, Cond.code yX4_supportOf cX4_supportOf 8 (some .int), Cond.fieldLink RX4 52 "PalletLayersModel" "layerKind" "[I", Cond.fieldLink RX4 55 "PalletLayersModel" "layerBoxes" "[I", Cond.fieldLink RX4 29 "PalletLayersModel" "box" "[J", Cond.methodLink RX4 119 yX4_areaOf, Cond.instanceMethod yX4_areaOf, Cond.selects RX4 yX4_areaOf yX4_areaOf, Cond.code yX4_areaOf cX4_areaOf 2 (some .int), Cond.fieldLink RX4 7 "PalletLayersModel" "wide" "[I", Cond.fieldLink RX4 13 "PalletLayersModel" "deep" "[I", Cond.methodLink RX4 115 yX4_count, Cond.static yX4_count, Cond.code yX4_count cX4_count 5 (some .int), Cond.methodLink RX4 167 yX4_heightOf, Cond.instanceMethod yX4_heightOf, Cond.selects RX4 yX4_heightOf yX4_heightOf, Cond.code yX4_heightOf cX4_heightOf 5 (some .int), Cond.methodLink RX4 171 yX4_weightOf]
def wsX4_fill_r3 : List Cond := [Cond.instanceMethod yX4_weightOf, Cond.selects RX4 yX4_weightOf yX4_weightOf, Cond.code yX4_weightOf cX4_weightOf 4 (some .int), Cond.methodLink RX4 181 yX4_add, Cond.instanceMethod yX4_add, Cond.selects RX4 yX4_add yX4_add, Cond.code yX4_add cX4_add 4 none]
def wsX4_fill : List Cond := .code yX4_fill cX4_fill 7 (some .int) :: ((wsX4_fill_r1 ++ (wsX4_fill_r2 ++ wsX4_fill_r3)) ++ wsX40 ++ (vx_atM "java/lang/ArrayIndexOutOfBoundsException" ["java/lang/IndexOutOfBoundsException", "java/lang/RuntimeException", "java/lang/Exception"]).filter goodWord)
def wsX4_take : List Cond := .code yX4_take cX4_take 2 (some .int) :: ([.fieldLink RX4 58 "PalletLayersModel" "stop" "[I", .fieldLink RX4 49 "PalletLayersModel" "layers" "[I", .fieldLink RX4 89 "PalletLayersModel" "thrown" "I", .fieldLink RX4 55 "PalletLayersModel" "layerBoxes" "[I", .methodLink RX4 174 yX4_isPallet, .instanceMethod yX4_isPallet, .selects RX4 yX4_isPallet yX4_isPallet, .initialized RX4, .code yX4_isPallet cX4_isPallet 2 (some .boolean), .fieldLink RX4 99 "PalletLayersModel" "pallets" "I", .methodLink RX4 95 yX4_within, .static yX4_within, .code yX4_within cX4_within 3 (some .boolean)] ++ wsX40 ++ (vx_atM "java/lang/ArrayIndexOutOfBoundsException" ["java/lang/IndexOutOfBoundsException", "java/lang/RuntimeException", "java/lang/Exception"]).filter goodWord)
def wsX4_isLayer : List Cond := .code yX4_isLayer cX4_isLayer 3 (some .boolean) :: ([.fieldLink RX4 49 "PalletLayersModel" "layers" "[I", .methodLink RX4 174 yX4_isPallet, .instanceMethod yX4_isPallet, .selects RX4 yX4_isPallet yX4_isPallet, .initialized RX4, .code yX4_isPallet cX4_isPallet 2 (some .boolean), .fieldLink RX4 99 "PalletLayersModel" "pallets" "I", .methodLink RX4 95 yX4_within, .static yX4_within, .code yX4_within cX4_within 3 (some .boolean)] ++ wsX40 ++ (vx_atM "java/lang/ArrayIndexOutOfBoundsException" ["java/lang/IndexOutOfBoundsException", "java/lang/RuntimeException", "java/lang/Exception"]).filter goodWord)
def wsX4_support_r1 : List Cond := [Cond.fieldLink RX4 55 "PalletLayersModel" "layerBoxes" "[I", Cond.fieldLink RX4 89 "PalletLayersModel" "thrown" "I", Cond.fieldLink RX4 52 "PalletLayersModel" "layerKind" "[I", Cond.methodLink RX4 184 yX4_isLayer, Cond.instanceMethod yX4_isLayer, Cond.selects RX4 yX4_isLayer yX4_isLayer, Cond.initialized RX4, Cond.code yX4_isLayer cX4_isLayer 3 (some .boolean), Cond.fieldLink RX4 49 "PalletLayersModel" "layers" "[I", Cond.methodLink RX4 174 yX4_isPallet, Cond.instanceMethod yX4_isPallet, Cond.selects RX4 yX4_isPallet yX4_isPallet, Cond.code yX4_isPallet cX4_isPallet 2 (some .boolean), Cond.fieldLink RX4 99 "PalletLayersModel" "pallets" "I", Cond.methodLink RX4 95 yX4_within, Cond.static yX4_within, Cond.code yX4_within cX4_within 3 (some .boolean), Cond.methodLink RX4 163 yX4_supportOf, Cond.instanceMethod yX4_supportOf, Cond.selects RX4 yX4_supportOf yX4_supportOf, Cond.code yX4_supportOf cX4_supportOf 8 (some .int), Cond.fieldLink RX4 29 "PalletLayersModel" "box" "[J", Cond.methodLink RX4 119 yX4_areaOf, Cond.instanceMethod yX4_areaOf]
def wsX4_support_r2 : List Cond := [Cond.selects RX4 yX4_areaOf yX4_areaOf, Cond.code yX4_areaOf cX4_areaOf 2 (some .int), Cond.fieldLink RX4 7 "PalletLayersModel" "wide" "[I", Cond.fieldLink RX4 13 "PalletLayersModel" "deep" "[I", Cond.methodLink RX4 115 yX4_count, Cond.static yX4_count, Cond.code yX4_count cX4_count 5 (some .int)]
def wsX4_support : List Cond := .code yX4_support cX4_support 5 (some .int) :: ((wsX4_support_r1 ++ wsX4_support_r2) ++ wsX40 ++ (vx_atM "java/lang/ArrayIndexOutOfBoundsException" ["java/lang/IndexOutOfBoundsException", "java/lang/RuntimeException", "java/lang/Exception"]).filter goodWord)
def wsX4_told_r1 : List Cond := [Cond.fieldLink RX4 89 "PalletLayersModel" "thrown" "I", Cond.fieldLink RX4 49 "PalletLayersModel" "layers" "[I", Cond.fieldLink RX4 58 "PalletLayersModel" "stop" "[I", Cond.fieldLink RX4 52 "PalletLayersModel" "layerKind" "[I", Cond.methodLink RX4 174 yX4_isPallet, Cond.instanceMethod yX4_isPallet, Cond.selects RX4 yX4_isPallet yX4_isPallet, Cond.initialized RX4, Cond.code yX4_isPallet cX4_isPallet 2 (some .boolean), Cond.fieldLink RX4 99 "PalletLayersModel" "pallets" "I", Cond.methodLink RX4 95 yX4_within, Cond.static yX4_within, Cond.code yX4_within cX4_within 3 (some .boolean), Cond.methodLink RX4 167 yX4_heightOf, Cond.instanceMethod yX4_heightOf, Cond.selects RX4 yX4_heightOf yX4_heightOf, Cond.code yX4_heightOf cX4_heightOf 5 (some .int), Cond.fieldLink RX4 16 "PalletLayersModel" "high" "[I", Cond.methodLink RX4 171 yX4_weightOf, Cond.instanceMethod yX4_weightOf, Cond.selects RX4 yX4_weightOf yX4_weightOf, Cond.code yX4_weightOf cX4_weightOf 4 (some .int), Cond.fieldLink RX4 19 "PalletLayersModel" "heavy" "[I", Cond.fieldLink RX4 55 "PalletLayersModel" "layerBoxes" "[I"]
def wsX4_told_r2 : List Cond := [Cond.methodLink RX4 188 yX4_boxesOn, Cond.instanceMethod yX4_boxesOn, Cond.selects RX4 yX4_boxesOn yX4_boxesOn, Cond.code yX4_boxesOn cX4_boxesOn 4 (some .int)]
def wsX4_told : List Cond := .code yX4_told cX4_told 5 (some .int) :: ((wsX4_told_r1 ++ wsX4_told_r2) ++ wsX40 ++ (vx_atM "java/lang/ArrayIndexOutOfBoundsException" ["java/lang/IndexOutOfBoundsException", "java/lang/RuntimeException", "java/lang/Exception"]).filter goodWord)
def wsX4_layer : List Cond := .code yX4_layer cX4_layer 6 (some .int) :: ([.fieldLink RX4 89 "PalletLayersModel" "thrown" "I", .fieldLink RX4 52 "PalletLayersModel" "layerKind" "[I", .fieldLink RX4 55 "PalletLayersModel" "layerBoxes" "[I", .fieldLink RX4 22 "PalletLayersModel" "boxes" "[I", .methodLink RX4 184 yX4_isLayer, .instanceMethod yX4_isLayer, .selects RX4 yX4_isLayer yX4_isLayer, .initialized RX4, .code yX4_isLayer cX4_isLayer 3 (some .boolean), .fieldLink RX4 49 "PalletLayersModel" "layers" "[I", .methodLink RX4 174 yX4_isPallet, .instanceMethod yX4_isPallet, .selects RX4 yX4_isPallet yX4_isPallet, .code yX4_isPallet cX4_isPallet 2 (some .boolean), .fieldLink RX4 99 "PalletLayersModel" "pallets" "I", .methodLink RX4 95 yX4_within, .static yX4_within, .code yX4_within cX4_within 3 (some .boolean), .methodLink RX4 167 yX4_heightOf, .instanceMethod yX4_heightOf, .selects RX4 yX4_heightOf yX4_heightOf, .code yX4_heightOf cX4_heightOf 5 (some .int), .fieldLink RX4 16 "PalletLayersModel" "high" "[I"] ++ wsX40 ++ (vx_atM "java/lang/ArrayIndexOutOfBoundsException" ["java/lang/IndexOutOfBoundsException", "java/lang/RuntimeException", "java/lang/Exception"]).filter goodWord)
def wsX4_truck : List Cond := .code yX4_truck cX4_truck 4 (some .int) :: ([.fieldLink RX4 58 "PalletLayersModel" "stop" "[I", .fieldLink RX4 49 "PalletLayersModel" "layers" "[I", .fieldLink RX4 89 "PalletLayersModel" "thrown" "I", .fieldLink RX4 191 "PalletLayersModel" "onTruck" "I", .fieldLink RX4 61 "PalletLayersModel" "truck" "[I", .methodLink RX4 174 yX4_isPallet, .instanceMethod yX4_isPallet, .selects RX4 yX4_isPallet yX4_isPallet, .initialized RX4, .code yX4_isPallet cX4_isPallet 2 (some .boolean), .fieldLink RX4 99 "PalletLayersModel" "pallets" "I", .methodLink RX4 95 yX4_within, .static yX4_within, .code yX4_within cX4_within 3 (some .boolean)] ++ wsX40 ++ (vx_atM "java/lang/ArrayIndexOutOfBoundsException" ["java/lang/IndexOutOfBoundsException", "java/lang/RuntimeException", "java/lang/Exception"]).filter goodWord)
def wsX4_unload : List Cond := .code yX4_unload cX4_unload 5 (some .int) :: ([.fieldLink RX4 89 "PalletLayersModel" "thrown" "I", .fieldLink RX4 191 "PalletLayersModel" "onTruck" "I", .fieldLink RX4 58 "PalletLayersModel" "stop" "[I", .fieldLink RX4 61 "PalletLayersModel" "truck" "[I", .fieldLink RX4 49 "PalletLayersModel" "layers" "[I", .methodLink RX4 95 yX4_within, .static yX4_within, .initialized RX4, .code yX4_within cX4_within 3 (some .boolean)] ++ wsX40 ++ (vx_atM "java/lang/ArrayIndexOutOfBoundsException" ["java/lang/IndexOutOfBoundsException", "java/lang/RuntimeException", "java/lang/Exception"]).filter goodWord)
def wsX4_order : List Cond := .code yX4_order cX4_order 2 (some .int) :: ([.fieldLink RX4 191 "PalletLayersModel" "onTruck" "I", .fieldLink RX4 89 "PalletLayersModel" "thrown" "I", .fieldLink RX4 61 "PalletLayersModel" "truck" "[I", .methodLink RX4 95 yX4_within, .static yX4_within, .initialized RX4, .code yX4_within cX4_within 3 (some .boolean)] ++ wsX40 ++ (vx_atM "java/lang/ArrayIndexOutOfBoundsException" ["java/lang/IndexOutOfBoundsException", "java/lang/RuntimeException", "java/lang/Exception"]).filter goodWord)
def wsX4_count_ : List Cond := .code yX4_count_ cX4_count_ 4 (some .int) :: ([.fieldLink RX4 89 "PalletLayersModel" "thrown" "I", .fieldLink RX4 92 "PalletLayersModel" "kinds" "I", .fieldLink RX4 99 "PalletLayersModel" "pallets" "I", .fieldLink RX4 191 "PalletLayersModel" "onTruck" "I", .fieldLink RX4 58 "PalletLayersModel" "stop" "[I", .fieldLink RX4 128 "PalletLayersModel" "steps" "I", .methodLink RX4 188 yX4_boxesOn, .instanceMethod yX4_boxesOn, .selects RX4 yX4_boxesOn yX4_boxesOn, .initialized RX4, .code yX4_boxesOn cX4_boxesOn 4 (some .int), .fieldLink RX4 49 "PalletLayersModel" "layers" "[I", .fieldLink RX4 55 "PalletLayersModel" "layerBoxes" "[I"] ++ wsX40 ++ (vx_atM "java/lang/ArrayIndexOutOfBoundsException" ["java/lang/IndexOutOfBoundsException", "java/lang/RuntimeException", "java/lang/Exception"]).filter goodWord)
def wsJx00060_init_a7421 : List Cond := .code yJx00060_init_a7421 cJx00060_init_a7421 2 none :: ([])
def wsJ9_max_7cf53 : List Cond := .code yJ9_max_7cf53 cJ9_max_7cf53 2 (some .int) :: ([])
def wsJ9_min_7cf53 : List Cond := .code yJ9_min_7cf53 cJ9_min_7cf53 2 (some .int) :: ([])
def wsL_cell : List Cond := .code yL_cell cL_cell 2 (some .int) :: ([] ++ (vx_atM "java/lang/ArrayIndexOutOfBoundsException" ["java/lang/IndexOutOfBoundsException", "java/lang/RuntimeException", "java/lang/Exception"]).filter goodWord)
def wsL_kind_r1 : List Cond := [Cond.classLink RL 13 "java/lang/IllegalArgumentException", Cond.classLink RL 15 "java/lang/UnsupportedOperationException", Cond.methodLink RL 7 yX3_kind, Cond.instanceMethod yX3_kind, Cond.selects RX3 yX3_kind yX3_kind, Cond.initialized RX3, Cond.code yX3_kind cX3_kind 5 (some .int), Cond.classLink RX3 72 "java/lang/IllegalArgumentException", Cond.initialized "java/lang/IllegalArgumentException", Cond.classLink RX3 79 "java/lang/UnsupportedOperationException", Cond.initialized "java/lang/UnsupportedOperationException", Cond.fieldLink RX3 25 "PalletLayers" "kindCount" "I", Cond.fieldLink RX3 11 "PalletLayers" "kinds" "[LPalletLayers$Kind;", Cond.classLink RX3 9 RX0, Cond.instantiable RX0 11, Cond.initialized RX0, Cond.fieldLink RX3 53 "PalletLayers" "areaWidth" "I", Cond.methodLink RX3 68 yX3_isOutside, Cond.static yX3_isOutside, Cond.code yX3_isOutside cX3_isOutside 3 (some .boolean), Cond.methodLink RX3 84 yX0_init, Cond.instanceMethod yX0_init, Cond.code yX0_init cX0_init 6 none, Cond.methodLink RX0 3 objectInit]
def wsL_kind_r2 : List Cond := [Cond.instanceMethod objectInit, Cond.code objectInit ⟨#[0xb1]⟩ 1 none, Cond.arrayClass .int, Cond.fieldLink RX0 9 "PalletLayers$Kind" "corners" "[I", Cond.fieldLink RX0 15 "PalletLayers$Kind" "ways" "[I", Cond.fieldLink RX0 18 "PalletLayers$Kind" "boxes" "I", Cond.fieldLink RX0 22 "PalletLayers$Kind" "soughtExactly" "Z", Cond.fieldLink RX0 26 "PalletLayers$Kind" "width" "I", Cond.fieldLink RX0 29 "PalletLayers$Kind" "depth" "I", Cond.fieldLink RX0 32 "PalletLayers$Kind" "height" "I", Cond.fieldLink RX0 35 "PalletLayers$Kind" "weight" "I", Cond.fieldLink RX0 38 "PalletLayers$Kind" "area" "I", Cond.fieldLink RX0 45 "PalletLayers$Kind" "straightShape" "J", Cond.fieldLink RX0 49 "PalletLayers$Kind" "turnedShape" "J", Cond.methodLink RX0 41 yX0_shape, Cond.static yX0_shape, Cond.code yX0_shape cX0_shape 8 (some .long)]
def wsL_kind : List Cond := .codeWith yL_kind cL_kind 7 (some .int) [(0, 14, 17, 13), (0, 14, 21, 15)] :: ((wsL_kind_r1 ++ wsL_kind_r2) ++ wsX30 ++ wsX00 ++ (vx_atM "java/lang/ArrayIndexOutOfBoundsException" ["java/lang/IndexOutOfBoundsException", "java/lang/RuntimeException", "java/lang/Exception"]).filter goodWord ++ (vx_atS RX3 76 "java/lang/IllegalArgumentException" ["java/lang/RuntimeException", "java/lang/Exception"]).filter goodWord ++ (vx_atS RX3 83 "java/lang/UnsupportedOperationException" ["java/lang/RuntimeException", "java/lang/Exception"]).filter goodWord)
def wsL_search_r1 : List Cond := [Cond.classLink RL 21 "java/util/NoSuchElementException", Cond.classLink RL 13 "java/lang/IllegalArgumentException", Cond.classLink RL 23 "java/lang/IllegalStateException", Cond.methodLink RL 17 yX3_search, Cond.instanceMethod yX3_search, Cond.selects RX3 yX3_search yX3_search, Cond.initialized RX3, Cond.code yX3_search cX3_search 4 (some .int), Cond.classLink RX3 72 "java/lang/IllegalArgumentException", Cond.initialized "java/lang/IllegalArgumentException", Cond.classLink RX3 97 "java/lang/IllegalStateException", Cond.initialized "java/lang/IllegalStateException", Cond.fieldLink RX3 64 "PalletLayers" "seeker" "LPalletLayers$PatternSearch;", Cond.fieldLink RX3 106 "PalletLayers$Kind" "boxes" "I", Cond.methodLink RX3 87 yX3_kindNumbered, Cond.instanceMethod yX3_kindNumbered, Cond.selects RX3 yX3_kindNumbered yX3_kindNumbered, Cond.code yX3_kindNumbered cX3_kindNumbered 3 (some (.object "PalletLayers$Kind")), Cond.classLink RX3 174 "java/util/NoSuchElementException", Cond.initialized "java/util/NoSuchElementException", Cond.fieldLink RX3 11 "PalletLayers" "kinds" "[LPalletLayers$Kind;", Cond.methodLink RX3 68 yX3_isOutside, Cond.static yX3_isOutside, Cond.code yX3_isOutside cX3_isOutside 3 (some .boolean)]
def wsL_search_r2 : List Cond := [Cond.methodLink RX3 93 yX3_isOnAPallet, Cond.instanceMethod yX3_isOnAPallet, Cond.selects RX3 yX3_isOnAPallet yX3_isOnAPallet, Cond.code yX3_isOnAPallet cX3_isOnAPallet 6 (some .boolean), Cond.fieldLink RX3 17 "PalletLayers" "pallets" "[LPalletLayers$Pallet;", Cond.methodLink RX3 197 yX1_kindBits, Cond.instanceMethod yX1_kindBits, Cond.selects RX1 yX1_kindBits yX1_kindBits, Cond.initialized RX1, Cond.code yX1_kindBits cX1_kindBits 3 (some .int), Cond.fieldLink RX1 28 "PalletLayers$Pallet" "layers" "I", Cond.fieldLink RX1 9 "PalletLayers$Pallet" "kindOf" "[I", Cond.methodLink RX3 102 yX2_seek, Cond.instanceMethod yX2_seek, Cond.selects RX2 yX2_seek yX2_seek, Cond.initialized RX2, Cond.code yX2_seek cX2_seek 3 none, Cond.fieldLink RX2 18 "PalletLayers$PatternSearch" "mostSteps" "I", Cond.fieldLink RX2 22 "PalletLayers$PatternSearch" "stepsMade" "I", Cond.fieldLink RX2 25 "PalletLayers$PatternSearch" "best" "I", Cond.fieldLink RX2 28 "PalletLayers$PatternSearch" "lackedSteps" "Z", Cond.fieldLink RX2 9 "PalletLayers$PatternSearch" "corners" "[I", Cond.fieldLink RX2 15 "PalletLayers$PatternSearch" "ways" "[I", Cond.fieldLink RX2 51 "PalletLayers$Kind" "soughtExactly" "Z"]
def wsL_search_r3 : List Cond := [Cond.methodLink RX2 41 yX0_keepPattern, Cond.instanceMethod yX0_keepPattern, Cond.selects RX0 yX0_keepPattern yX0_keepPattern, Cond.initialized RX0, Cond.code yX0_keepPattern cX0_keepPattern 5 none, Cond.methodLink RX0 64 Lib.Math.min.name, Cond.static Lib.Math.min.name, Cond.initialized "java/lang/Math", Cond.code Lib.Math.min.name Lib.Math.min.code 2 (some .int), Cond.fieldLink RX0 18 "PalletLayers$Kind" "boxes" "I", Cond.fieldLink RX0 9 "PalletLayers$Kind" "corners" "[I", Cond.fieldLink RX0 15 "PalletLayers$Kind" "ways" "[I", Cond.methodLink RX2 47 yX2_goOn, Cond.instanceMethod yX2_goOn, Cond.selects RX2 yX2_goOn yX2_goOn, Cond.code yX2_goOn cX2_goOn 7 none, Cond.fieldLink RX2 38 "PalletLayers$PatternSearch" "cellCount" "I", Cond.fieldLink RX2 70 "PalletLayers$Kind" "width" "I", Cond.fieldLink RX2 73 "PalletLayers$Kind" "depth" "I", Cond.methodLink RX2 54 yX2_firstOpen, Cond.instanceMethod yX2_firstOpen, Cond.selects RX2 yX2_firstOpen yX2_firstOpen, Cond.code yX2_firstOpen cX2_firstOpen 5 (some .int), Cond.methodLink RX2 58 yX2_keepIfBetter]
def wsL_search_r4 : List Cond := [Cond.instanceMethod yX2_keepIfBetter, Cond.selects RX2 yX2_keepIfBetter yX2_keepIfBetter, Cond.code yX2_keepIfBetter cX2_keepIfBetter 3 none, Cond.methodLink RX2 62 yX2_mayBeatBest, Cond.instanceMethod yX2_mayBeatBest, Cond.selects RX2 yX2_mayBeatBest yX2_mayBeatBest, Cond.code yX2_mayBeatBest cX2_mayBeatBest 6 (some .boolean), Cond.fieldLink RX2 97 "PalletLayers$Kind" "area" "I", Cond.methodLink RX2 91 yJ13_bitCount_95d88, Cond.static yJ13_bitCount_95d88, Cond.initialized RJ13, Cond.code yJ13_bitCount_95d88 cJ13_bitCount_95d88 2 (some .int), Cond.constantLong RJ13 314 (6148914691236517205), Cond.constantLong RJ13 316 (3689348814741910323), Cond.constantLong RJ13 318 (1085102592571150095), Cond.methodLink RX2 66 yX2_tryBox, Cond.instanceMethod yX2_tryBox, Cond.selects RX2 yX2_tryBox yX2_tryBox, Cond.methodLink RX2 76 yX2_takeStep, Cond.instanceMethod yX2_takeStep, Cond.selects RX2 yX2_takeStep yX2_takeStep, Cond.code yX2_takeStep cX2_takeStep 1 (some .boolean), Cond.code yX2_tryBox cX2_tryBox 10 none, Cond.fieldLink RX2 32 "PalletLayers$PatternSearch" "areaWidth" "I"]
def wsL_search_r5 : List Cond := [Cond.fieldLink RX2 35 "PalletLayers$PatternSearch" "areaDepth" "I", Cond.methodLink RX2 80 yX0_cellsAt, Cond.instanceMethod yX0_cellsAt, Cond.selects RX0 yX0_cellsAt yX0_cellsAt, Cond.code yX0_cellsAt cX0_cellsAt 3 (some .long), Cond.fieldLink RX0 45 "PalletLayers$Kind" "straightShape" "J", Cond.fieldLink RX0 49 "PalletLayers$Kind" "turnedShape" "J", Cond.methodLink RX2 84 yX0_across, Cond.instanceMethod yX0_across, Cond.selects RX0 yX0_across yX0_across, Cond.code yX0_across cX0_across 2 (some .int), Cond.fieldLink RX0 26 "PalletLayers$Kind" "width" "I", Cond.fieldLink RX0 29 "PalletLayers$Kind" "depth" "I", Cond.methodLink RX2 88 yX0_along, Cond.instanceMethod yX0_along, Cond.selects RX0 yX0_along yX0_along, Cond.code yX0_along cX0_along 2 (some .int)]
def wsL_search : List Cond := .codeWith yL_search cL_search 5 (some .int) [(0, 10, 13, 21), (0, 10, 17, 13), (0, 10, 21, 23)] :: ((wsL_search_r1 ++ (wsL_search_r2 ++ (wsL_search_r3 ++ (wsL_search_r4 ++ wsL_search_r5)))) ++ wsX30 ++ wsX00 ++ wsX10 ++ wsX20 ++ (vx_atM "java/lang/ArrayIndexOutOfBoundsException" ["java/lang/IndexOutOfBoundsException", "java/lang/RuntimeException", "java/lang/Exception"]).filter goodWord ++ (vx_atS RX3 76 "java/lang/IllegalArgumentException" ["java/lang/RuntimeException", "java/lang/Exception"]).filter goodWord ++ (vx_atS RX3 101 "java/lang/IllegalStateException" ["java/lang/RuntimeException", "java/lang/Exception"]).filter goodWord ++ (vx_atS RX3 178 "java/util/NoSuchElementException" ["java/lang/RuntimeException", "java/lang/Exception"]).filter goodWord)
def wsL_pattern_r1 : List Cond := [Cond.classLink RL 21 "java/util/NoSuchElementException", Cond.classLink RL 13 "java/lang/IllegalArgumentException", Cond.classLink RL 29 "java/lang/ArrayIndexOutOfBoundsException", Cond.methodLink RL 25 yX3_pattern, Cond.instanceMethod yX3_pattern, Cond.selects RX3 yX3_pattern yX3_pattern, Cond.initialized RX3, Cond.code yX3_pattern cX3_pattern 5 (some .int), Cond.classLink RX3 72 "java/lang/IllegalArgumentException", Cond.initialized "java/lang/IllegalArgumentException", Cond.fieldLink RX3 106 "PalletLayers$Kind" "boxes" "I", Cond.classLink RX3 111 RJx00060, Cond.instantiable RJx00060 6, Cond.initialized RJx00060, Cond.fieldLink RX3 116 "PalletLayers$Kind" "corners" "[I", Cond.fieldLink RX3 53 "PalletLayers" "areaWidth" "I", Cond.fieldLink RX3 119 "PalletLayers$Kind" "ways" "[I", Cond.methodLink RX3 87 yX3_kindNumbered, Cond.instanceMethod yX3_kindNumbered, Cond.selects RX3 yX3_kindNumbered yX3_kindNumbered, Cond.code yX3_kindNumbered cX3_kindNumbered 3 (some (.object "PalletLayers$Kind")), Cond.classLink RX3 174 "java/util/NoSuchElementException", Cond.initialized "java/util/NoSuchElementException", Cond.fieldLink RX3 11 "PalletLayers" "kinds" "[LPalletLayers$Kind;"]
def wsL_pattern_r2 : List Cond := [Cond.methodLink RX3 68 yX3_isOutside, Cond.static yX3_isOutside, Cond.code yX3_isOutside cX3_isOutside 3 (some .boolean)]
def wsL_pattern : List Cond := .codeWith yL_pattern cL_pattern 6 (some .int) [(0, 12, 15, 21), (0, 12, 19, 13), (0, 12, 23, 29)] :: ((wsL_pattern_r1 ++ wsL_pattern_r2) ++ wsX00 ++ wsJx000600 ++ wsX30 ++ (vx_atM "java/lang/ArrayIndexOutOfBoundsException" ["java/lang/IndexOutOfBoundsException", "java/lang/RuntimeException", "java/lang/Exception"]).filter goodWord ++ (vx_atS RX3 76 "java/lang/IllegalArgumentException" ["java/lang/RuntimeException", "java/lang/Exception"]).filter goodWord ++ (vx_atS RX3 178 "java/util/NoSuchElementException" ["java/lang/RuntimeException", "java/lang/Exception"]).filter goodWord)
def wsL_exact : List Cond := .codeWith yL_exact cL_exact 4 (some .int) [(0, 16, 19, 21)] :: ([.classLink RL 21 "java/util/NoSuchElementException", .methodLink RL 31 yX3_exact, .instanceMethod yX3_exact, .selects RX3 yX3_exact yX3_exact, .initialized RX3, .code yX3_exact cX3_exact 2 (some .boolean), .fieldLink RX3 122 "PalletLayers$Kind" "soughtExactly" "Z", .methodLink RX3 87 yX3_kindNumbered, .instanceMethod yX3_kindNumbered, .selects RX3 yX3_kindNumbered yX3_kindNumbered, .code yX3_kindNumbered cX3_kindNumbered 3 (some (.object "PalletLayers$Kind")), .classLink RX3 174 "java/util/NoSuchElementException", .initialized "java/util/NoSuchElementException", .fieldLink RX3 11 "PalletLayers" "kinds" "[LPalletLayers$Kind;", .methodLink RX3 68 yX3_isOutside, .static yX3_isOutside, .code yX3_isOutside cX3_isOutside 3 (some .boolean)] ++ wsX00 ++ wsX30 ++ (vx_atM "java/lang/ArrayIndexOutOfBoundsException" ["java/lang/IndexOutOfBoundsException", "java/lang/RuntimeException", "java/lang/Exception"]).filter goodWord ++ (vx_atS RX3 178 "java/util/NoSuchElementException" ["java/lang/RuntimeException", "java/lang/Exception"]).filter goodWord)
def wsL_bound : List Cond := .codeWith yL_bound cL_bound 4 (some .int) [(0, 9, 12, 21)] :: ([.classLink RL 21 "java/util/NoSuchElementException", .methodLink RL 35 yX3_bound, .instanceMethod yX3_bound, .selects RX3 yX3_bound yX3_bound, .initialized RX3, .code yX3_bound cX3_bound 2 (some .int), .fieldLink RX3 53 "PalletLayers" "areaWidth" "I", .fieldLink RX3 56 "PalletLayers" "areaDepth" "I", .fieldLink RX3 126 "PalletLayers$Kind" "area" "I", .methodLink RX3 87 yX3_kindNumbered, .instanceMethod yX3_kindNumbered, .selects RX3 yX3_kindNumbered yX3_kindNumbered, .code yX3_kindNumbered cX3_kindNumbered 3 (some (.object "PalletLayers$Kind")), .classLink RX3 174 "java/util/NoSuchElementException", .initialized "java/util/NoSuchElementException", .fieldLink RX3 11 "PalletLayers" "kinds" "[LPalletLayers$Kind;", .methodLink RX3 68 yX3_isOutside, .static yX3_isOutside, .code yX3_isOutside cX3_isOutside 3 (some .boolean)] ++ wsX30 ++ wsX00 ++ (vx_atM "java/lang/ArrayIndexOutOfBoundsException" ["java/lang/IndexOutOfBoundsException", "java/lang/RuntimeException", "java/lang/Exception"]).filter goodWord ++ (vx_atS RX3 178 "java/util/NoSuchElementException" ["java/lang/RuntimeException", "java/lang/Exception"]).filter goodWord)
def wsL_rules : List Cond := .codeWith yL_rules cL_rules 5 (some .int) [(0, 7, 10, 13)] :: ([.classLink RL 13 "java/lang/IllegalArgumentException", .methodLink RL 39 yX3_rules, .instanceMethod yX3_rules, .selects RX3 yX3_rules yX3_rules, .initialized RX3, .code yX3_rules cX3_rules 4 none, .classLink RX3 72 "java/lang/IllegalArgumentException", .initialized "java/lang/IllegalArgumentException", .fieldLink RX3 35 "PalletLayers" "share" "I", .fieldLink RX3 38 "PalletLayers" "door" "I", .fieldLink RX3 41 "PalletLayers" "load" "I", .methodLink RX3 68 yX3_isOutside, .static yX3_isOutside, .code yX3_isOutside cX3_isOutside 3 (some .boolean)] ++ wsX30 ++ (vx_atS RX3 76 "java/lang/IllegalArgumentException" ["java/lang/RuntimeException", "java/lang/Exception"]).filter goodWord)
def wsL_pallet_r1 : List Cond := [Cond.classLink RL 15 "java/lang/UnsupportedOperationException", Cond.methodLink RL 43 yX3_pallet, Cond.instanceMethod yX3_pallet, Cond.selects RX3 yX3_pallet yX3_pallet, Cond.initialized RX3, Cond.code yX3_pallet cX3_pallet 1 (some .int), Cond.classLink RX3 79 "java/lang/UnsupportedOperationException", Cond.initialized "java/lang/UnsupportedOperationException", Cond.fieldLink RX3 29 "PalletLayers" "palletCount" "I", Cond.fieldLink RX3 17 "PalletLayers" "pallets" "[LPalletLayers$Pallet;", Cond.classLink RX3 15 RX1, Cond.instantiable RX1 10, Cond.initialized RX1, Cond.instanceMethod yX1_init, Cond.code yX1_init cX1_init 1 none, Cond.methodLink RX1 3 objectInit, Cond.instanceMethod objectInit, Cond.code objectInit ⟨#[0xb1]⟩ 1 none, Cond.arrayClass .int, Cond.fieldLink RX1 9 "PalletLayers$Pallet" "kindOf" "[I", Cond.fieldLink RX1 15 "PalletLayers$Pallet" "boxesOf" "[I", Cond.fieldLink RX1 18 "PalletLayers$Pallet" "bottomOf" "[I", Cond.fieldLink RX1 21 "PalletLayers$Pallet" "weightOf" "[I", Cond.arrayClass .long]
def wsL_pallet_r2 : List Cond := [Cond.fieldLink RX1 24 "PalletLayers$Pallet" "coveredOf" "[J", Cond.fieldLink RX1 28 "PalletLayers$Pallet" "layers" "I", Cond.fieldLink RX1 32 "PalletLayers$Pallet" "height" "I", Cond.fieldLink RX1 35 "PalletLayers$Pallet" "weight" "I", Cond.fieldLink RX1 38 "PalletLayers$Pallet" "boxes" "I", Cond.fieldLink RX1 41 "PalletLayers$Pallet" "stop" "I"]
def wsL_pallet : List Cond := .codeWith yL_pallet cL_pallet 3 (some .int) [(0, 8, 11, 15)] :: ((wsL_pallet_r1 ++ wsL_pallet_r2) ++ wsX30 ++ wsX10 ++ (vx_atM "java/lang/ArrayIndexOutOfBoundsException" ["java/lang/IndexOutOfBoundsException", "java/lang/RuntimeException", "java/lang/Exception"]).filter goodWord ++ (vx_atS RX3 83 "java/lang/UnsupportedOperationException" ["java/lang/RuntimeException", "java/lang/Exception"]).filter goodWord)
def wsL_put_r1 : List Cond := [Cond.classLink RL 21 "java/util/NoSuchElementException", Cond.classLink RL 13 "java/lang/IllegalArgumentException", Cond.classLink RL 23 "java/lang/IllegalStateException", Cond.classLink RL 15 "java/lang/UnsupportedOperationException", Cond.methodLink RL 47 yX3_put, Cond.instanceMethod yX3_put, Cond.selects RX3 yX3_put yX3_put, Cond.initialized RX3, Cond.code yX3_put cX3_put 7 (some .int), Cond.classLink RX3 72 "java/lang/IllegalArgumentException", Cond.initialized "java/lang/IllegalArgumentException", Cond.classLink RX3 79 "java/lang/UnsupportedOperationException", Cond.initialized "java/lang/UnsupportedOperationException", Cond.fieldLink RX3 144 "PalletLayers$Pallet" "layers" "I", Cond.methodLink RX3 134 yX3_palletNumbered, Cond.instanceMethod yX3_palletNumbered, Cond.selects RX3 yX3_palletNumbered yX3_palletNumbered, Cond.code yX3_palletNumbered cX3_palletNumbered 3 (some (.object "PalletLayers$Pallet")), Cond.classLink RX3 174 "java/util/NoSuchElementException", Cond.initialized "java/util/NoSuchElementException", Cond.fieldLink RX3 17 "PalletLayers" "pallets" "[LPalletLayers$Pallet;", Cond.methodLink RX3 68 yX3_isOutside, Cond.static yX3_isOutside, Cond.code yX3_isOutside cX3_isOutside 3 (some .boolean)]
def wsL_put_r2 : List Cond := [Cond.methodLink RX3 87 yX3_kindNumbered, Cond.instanceMethod yX3_kindNumbered, Cond.selects RX3 yX3_kindNumbered yX3_kindNumbered, Cond.code yX3_kindNumbered cX3_kindNumbered 3 (some (.object "PalletLayers$Kind")), Cond.fieldLink RX3 11 "PalletLayers" "kinds" "[LPalletLayers$Kind;", Cond.methodLink RX3 140 yX3_refuseOnTruck, Cond.static yX3_refuseOnTruck, Cond.code yX3_refuseOnTruck cX3_refuseOnTruck 1 none, Cond.classLink RX3 97 "java/lang/IllegalStateException", Cond.initialized "java/lang/IllegalStateException", Cond.fieldLink RX3 194 "PalletLayers$Pallet" "stop" "I", Cond.methodLink RX3 149 yX3_whyNot, Cond.instanceMethod yX3_whyNot, Cond.selects RX3 yX3_whyNot yX3_whyNot, Cond.code yX3_whyNot cX3_whyNot 6 (some .int), Cond.fieldLink RX3 106 "PalletLayers$Kind" "boxes" "I", Cond.fieldLink RX3 35 "PalletLayers" "share" "I", Cond.fieldLink RX3 126 "PalletLayers$Kind" "area" "I", Cond.fieldLink RX3 187 "PalletLayers$Pallet" "height" "I", Cond.fieldLink RX3 237 "PalletLayers$Kind" "height" "I", Cond.fieldLink RX3 38 "PalletLayers" "door" "I", Cond.fieldLink RX3 190 "PalletLayers$Pallet" "weight" "I", Cond.fieldLink RX3 238 "PalletLayers$Kind" "weight" "I", Cond.fieldLink RX3 41 "PalletLayers" "load" "I"]
def wsL_put_r3 : List Cond := [Cond.methodLink RX3 179 yX0_cellsOfBox, Cond.instanceMethod yX0_cellsOfBox, Cond.selects RX0 yX0_cellsOfBox yX0_cellsOfBox, Cond.initialized RX0, Cond.code yX0_cellsOfBox cX0_cellsOfBox 2 (some .long), Cond.fieldLink RX0 18 "PalletLayers$Kind" "boxes" "I", Cond.fieldLink RX0 9 "PalletLayers$Kind" "corners" "[I", Cond.fieldLink RX0 15 "PalletLayers$Kind" "ways" "[I", Cond.methodLink RX0 56 yX0_cellsAt, Cond.instanceMethod yX0_cellsAt, Cond.selects RX0 yX0_cellsAt yX0_cellsAt, Cond.code yX0_cellsAt cX0_cellsAt 3 (some .long), Cond.fieldLink RX0 45 "PalletLayers$Kind" "straightShape" "J", Cond.fieldLink RX0 49 "PalletLayers$Kind" "turnedShape" "J", Cond.methodLink RX3 183 yX3_supportedCells, Cond.static yX3_supportedCells, Cond.code yX3_supportedCells cX3_supportedCells 6 (some .int), Cond.methodLink RX3 239 yX1_coveredIn, Cond.instanceMethod yX1_coveredIn, Cond.selects RX1 yX1_coveredIn yX1_coveredIn, Cond.initialized RX1, Cond.code yX1_coveredIn cX1_coveredIn 2 (some .long), Cond.fieldLink RX1 28 "PalletLayers$Pallet" "layers" "I", Cond.fieldLink RX1 24 "PalletLayers$Pallet" "coveredOf" "[J"]
def wsL_put_r4 : List Cond := [Cond.methodLink RX3 242 yJ13_bitCount_95d88, Cond.static yJ13_bitCount_95d88, Cond.initialized RJ13, Cond.code yJ13_bitCount_95d88 cJ13_bitCount_95d88 2 (some .int), Cond.constantLong RJ13 314 (6148914691236517205), Cond.constantLong RJ13 316 (3689348814741910323), Cond.constantLong RJ13 318 (1085102592571150095), Cond.methodLink RX3 153 yX1_lay, Cond.instanceMethod yX1_lay, Cond.selects RX1 yX1_lay yX1_lay, Cond.code yX1_lay cX1_lay 4 none, Cond.fieldLink RX1 9 "PalletLayers$Pallet" "kindOf" "[I", Cond.fieldLink RX1 15 "PalletLayers$Pallet" "boxesOf" "[I", Cond.fieldLink RX1 18 "PalletLayers$Pallet" "bottomOf" "[I", Cond.fieldLink RX1 32 "PalletLayers$Pallet" "height" "I", Cond.fieldLink RX1 21 "PalletLayers$Pallet" "weightOf" "[I", Cond.fieldLink RX1 44 "PalletLayers$Kind" "weight" "I", Cond.fieldLink RX1 51 "PalletLayers$Kind" "height" "I", Cond.fieldLink RX1 35 "PalletLayers$Pallet" "weight" "I", Cond.fieldLink RX1 38 "PalletLayers$Pallet" "boxes" "I", Cond.methodLink RX1 47 yX0_cellsOfFirst, Cond.instanceMethod yX0_cellsOfFirst, Cond.selects RX0 yX0_cellsOfFirst yX0_cellsOfFirst, Cond.code yX0_cellsOfFirst cX0_cellsOfFirst 5 (some .long)]
def wsL_put_r5 : List Cond := [Cond.methodLink RX0 60 yX0_cellsOfBox]
def wsL_put : List Cond := .codeWith yL_put cL_put 6 (some .int) [(0, 12, 15, 21), (0, 12, 19, 13), (0, 12, 23, 23), (0, 12, 27, 15)] :: ((wsL_put_r1 ++ (wsL_put_r2 ++ (wsL_put_r3 ++ (wsL_put_r4 ++ wsL_put_r5)))) ++ wsX10 ++ wsX30 ++ wsX00 ++ (vx_atM "java/lang/ArrayIndexOutOfBoundsException" ["java/lang/IndexOutOfBoundsException", "java/lang/RuntimeException", "java/lang/Exception"]).filter goodWord ++ (vx_atS RX3 76 "java/lang/IllegalArgumentException" ["java/lang/RuntimeException", "java/lang/Exception"]).filter goodWord ++ (vx_atS RX3 83 "java/lang/UnsupportedOperationException" ["java/lang/RuntimeException", "java/lang/Exception"]).filter goodWord ++ (vx_atS RX3 178 "java/util/NoSuchElementException" ["java/lang/RuntimeException", "java/lang/Exception"]).filter goodWord ++ (vx_atS RX3 101 "java/lang/IllegalStateException" ["java/lang/RuntimeException", "java/lang/Exception"]).filter goodWord)
def wsL_fill_r1 : List Cond := [Cond.classLink RL 21 "java/util/NoSuchElementException", Cond.classLink RL 13 "java/lang/IllegalArgumentException", Cond.classLink RL 23 "java/lang/IllegalStateException", Cond.methodLink RL 50 yX3_fill, Cond.instanceMethod yX3_fill, Cond.selects RX3 yX3_fill yX3_fill, Cond.initialized RX3, Cond.code yX3_fill cX3_fill 9 (some .int), Cond.classLink RX3 72 "java/lang/IllegalArgumentException", Cond.initialized "java/lang/IllegalArgumentException", Cond.fieldLink RX3 106 "PalletLayers$Kind" "boxes" "I", Cond.fieldLink RX3 144 "PalletLayers$Pallet" "layers" "I", Cond.methodLink RX3 44 Lib.Math.min.name, Cond.static Lib.Math.min.name, Cond.initialized "java/lang/Math", Cond.code Lib.Math.min.name Lib.Math.min.code 2 (some .int), Cond.methodLink RX3 134 yX3_palletNumbered, Cond.instanceMethod yX3_palletNumbered, Cond.selects RX3 yX3_palletNumbered yX3_palletNumbered, Cond.code yX3_palletNumbered cX3_palletNumbered 3 (some (.object "PalletLayers$Pallet")), Cond.classLink RX3 174 "java/util/NoSuchElementException", Cond.initialized "java/util/NoSuchElementException", Cond.fieldLink RX3 17 "PalletLayers" "pallets" "[LPalletLayers$Pallet;", Cond.methodLink RX3 68 yX3_isOutside]
def wsL_fill_r2 : List Cond := [Cond.static yX3_isOutside, Cond.code yX3_isOutside cX3_isOutside 3 (some .boolean), Cond.methodLink RX3 87 yX3_kindNumbered, Cond.instanceMethod yX3_kindNumbered, Cond.selects RX3 yX3_kindNumbered yX3_kindNumbered, Cond.code yX3_kindNumbered cX3_kindNumbered 3 (some (.object "PalletLayers$Kind")), Cond.fieldLink RX3 11 "PalletLayers" "kinds" "[LPalletLayers$Kind;", Cond.methodLink RX3 140 yX3_refuseOnTruck, Cond.static yX3_refuseOnTruck, Cond.code yX3_refuseOnTruck cX3_refuseOnTruck 1 none, Cond.classLink RX3 97 "java/lang/IllegalStateException", Cond.initialized "java/lang/IllegalStateException", Cond.fieldLink RX3 194 "PalletLayers$Pallet" "stop" "I", Cond.methodLink RX3 149 yX3_whyNot, Cond.instanceMethod yX3_whyNot, Cond.selects RX3 yX3_whyNot yX3_whyNot, Cond.code yX3_whyNot cX3_whyNot 6 (some .int), Cond.fieldLink RX3 35 "PalletLayers" "share" "I", Cond.fieldLink RX3 126 "PalletLayers$Kind" "area" "I", Cond.fieldLink RX3 187 "PalletLayers$Pallet" "height" "I", Cond.fieldLink RX3 237 "PalletLayers$Kind" "height" "I", Cond.fieldLink RX3 38 "PalletLayers" "door" "I", Cond.fieldLink RX3 190 "PalletLayers$Pallet" "weight" "I", Cond.fieldLink RX3 238 "PalletLayers$Kind" "weight" "I"]
def wsL_fill_r3 : List Cond := [Cond.fieldLink RX3 41 "PalletLayers" "load" "I", Cond.methodLink RX3 179 yX0_cellsOfBox, Cond.instanceMethod yX0_cellsOfBox, Cond.selects RX0 yX0_cellsOfBox yX0_cellsOfBox, Cond.initialized RX0, Cond.code yX0_cellsOfBox cX0_cellsOfBox 2 (some .long), Cond.fieldLink RX0 18 "PalletLayers$Kind" "boxes" "I", Cond.fieldLink RX0 9 "PalletLayers$Kind" "corners" "[I", Cond.fieldLink RX0 15 "PalletLayers$Kind" "ways" "[I", Cond.methodLink RX0 56 yX0_cellsAt, Cond.instanceMethod yX0_cellsAt, Cond.selects RX0 yX0_cellsAt yX0_cellsAt, Cond.code yX0_cellsAt cX0_cellsAt 3 (some .long), Cond.fieldLink RX0 45 "PalletLayers$Kind" "straightShape" "J", Cond.fieldLink RX0 49 "PalletLayers$Kind" "turnedShape" "J", Cond.methodLink RX3 183 yX3_supportedCells, Cond.static yX3_supportedCells, Cond.code yX3_supportedCells cX3_supportedCells 6 (some .int), Cond.methodLink RX3 239 yX1_coveredIn, Cond.instanceMethod yX1_coveredIn, Cond.selects RX1 yX1_coveredIn yX1_coveredIn, Cond.initialized RX1, Cond.code yX1_coveredIn cX1_coveredIn 2 (some .long), Cond.fieldLink RX1 28 "PalletLayers$Pallet" "layers" "I"]
def wsL_fill_r4 : List Cond := [Cond.fieldLink RX1 24 "PalletLayers$Pallet" "coveredOf" "[J", Cond.methodLink RX3 242 yJ13_bitCount_95d88, Cond.static yJ13_bitCount_95d88, Cond.initialized RJ13, Cond.code yJ13_bitCount_95d88 cJ13_bitCount_95d88 2 (some .int), Cond.constantLong RJ13 314 (6148914691236517205), Cond.constantLong RJ13 316 (3689348814741910323), Cond.constantLong RJ13 318 (1085102592571150095), Cond.methodLink RX3 153 yX1_lay, Cond.instanceMethod yX1_lay, Cond.selects RX1 yX1_lay yX1_lay, Cond.code yX1_lay cX1_lay 4 none, Cond.fieldLink RX1 9 "PalletLayers$Pallet" "kindOf" "[I", Cond.fieldLink RX1 15 "PalletLayers$Pallet" "boxesOf" "[I", Cond.fieldLink RX1 18 "PalletLayers$Pallet" "bottomOf" "[I", Cond.fieldLink RX1 32 "PalletLayers$Pallet" "height" "I", Cond.fieldLink RX1 21 "PalletLayers$Pallet" "weightOf" "[I", Cond.fieldLink RX1 44 "PalletLayers$Kind" "weight" "I", Cond.fieldLink RX1 51 "PalletLayers$Kind" "height" "I", Cond.fieldLink RX1 35 "PalletLayers$Pallet" "weight" "I", Cond.fieldLink RX1 38 "PalletLayers$Pallet" "boxes" "I", Cond.methodLink RX1 47 yX0_cellsOfFirst, Cond.instanceMethod yX0_cellsOfFirst, Cond.selects RX0 yX0_cellsOfFirst yX0_cellsOfFirst]
def wsL_fill_r5 : List Cond := [Cond.code yX0_cellsOfFirst cX0_cellsOfFirst 5 (some .long), Cond.methodLink RX0 60 yX0_cellsOfBox]
def wsL_fill : List Cond := .codeWith yL_fill cL_fill 6 (some .int) [(0, 12, 15, 21), (0, 12, 19, 13), (0, 12, 23, 23)] :: ((wsL_fill_r1 ++ (wsL_fill_r2 ++ (wsL_fill_r3 ++ (wsL_fill_r4 ++ wsL_fill_r5)))) ++ wsX00 ++ wsX10 ++ wsX30 ++ (vx_atM "java/lang/ArrayIndexOutOfBoundsException" ["java/lang/IndexOutOfBoundsException", "java/lang/RuntimeException", "java/lang/Exception"]).filter goodWord ++ (vx_atS RX3 76 "java/lang/IllegalArgumentException" ["java/lang/RuntimeException", "java/lang/Exception"]).filter goodWord ++ (vx_atS RX3 178 "java/util/NoSuchElementException" ["java/lang/RuntimeException", "java/lang/Exception"]).filter goodWord ++ (vx_atS RX3 101 "java/lang/IllegalStateException" ["java/lang/RuntimeException", "java/lang/Exception"]).filter goodWord)
def wsL_take_r1 : List Cond := [Cond.classLink RL 21 "java/util/NoSuchElementException", Cond.classLink RL 23 "java/lang/IllegalStateException", Cond.methodLink RL 53 yX3_take, Cond.instanceMethod yX3_take, Cond.selects RX3 yX3_take yX3_take, Cond.initialized RX3, Cond.code yX3_take cX3_take 3 (some .int), Cond.methodLink RX3 134 yX3_palletNumbered, Cond.instanceMethod yX3_palletNumbered, Cond.selects RX3 yX3_palletNumbered yX3_palletNumbered, Cond.code yX3_palletNumbered cX3_palletNumbered 3 (some (.object "PalletLayers$Pallet")), Cond.classLink RX3 174 "java/util/NoSuchElementException", Cond.initialized "java/util/NoSuchElementException", Cond.fieldLink RX3 17 "PalletLayers" "pallets" "[LPalletLayers$Pallet;", Cond.methodLink RX3 68 yX3_isOutside, Cond.static yX3_isOutside, Cond.code yX3_isOutside cX3_isOutside 3 (some .boolean), Cond.methodLink RX3 140 yX3_refuseOnTruck, Cond.static yX3_refuseOnTruck, Cond.code yX3_refuseOnTruck cX3_refuseOnTruck 1 none, Cond.classLink RX3 97 "java/lang/IllegalStateException", Cond.initialized "java/lang/IllegalStateException", Cond.fieldLink RX3 194 "PalletLayers$Pallet" "stop" "I", Cond.methodLink RX3 157 yX3_refuseEmpty]
def wsL_take_r2 : List Cond := [Cond.static yX3_refuseEmpty, Cond.code yX3_refuseEmpty cX3_refuseEmpty 1 none, Cond.fieldLink RX3 144 "PalletLayers$Pallet" "layers" "I", Cond.methodLink RX3 160 yX1_liftTop, Cond.instanceMethod yX1_liftTop, Cond.selects RX1 yX1_liftTop yX1_liftTop, Cond.initialized RX1, Cond.code yX1_liftTop cX1_liftTop 1 (some .int), Cond.fieldLink RX1 28 "PalletLayers$Pallet" "layers" "I", Cond.fieldLink RX1 18 "PalletLayers$Pallet" "bottomOf" "[I", Cond.fieldLink RX1 32 "PalletLayers$Pallet" "height" "I", Cond.fieldLink RX1 35 "PalletLayers$Pallet" "weight" "I", Cond.fieldLink RX1 21 "PalletLayers$Pallet" "weightOf" "[I", Cond.fieldLink RX1 38 "PalletLayers$Pallet" "boxes" "I", Cond.fieldLink RX1 15 "PalletLayers$Pallet" "boxesOf" "[I"]
def wsL_take : List Cond := .codeWith yL_take cL_take 4 (some .int) [(0, 9, 12, 21), (0, 9, 15, 23)] :: ((wsL_take_r1 ++ wsL_take_r2) ++ wsX30 ++ wsX10 ++ (vx_atM "java/lang/ArrayIndexOutOfBoundsException" ["java/lang/IndexOutOfBoundsException", "java/lang/RuntimeException", "java/lang/Exception"]).filter goodWord ++ (vx_atS RX3 178 "java/util/NoSuchElementException" ["java/lang/RuntimeException", "java/lang/Exception"]).filter goodWord ++ (vx_atS RX3 101 "java/lang/IllegalStateException" ["java/lang/RuntimeException", "java/lang/Exception"]).filter goodWord)
def wsL_support_r1 : List Cond := [Cond.classLink RL 21 "java/util/NoSuchElementException", Cond.methodLink RL 56 yX3_support, Cond.instanceMethod yX3_support, Cond.selects RX3 yX3_support yX3_support, Cond.initialized RX3, Cond.code yX3_support cX3_support 6 (some .int), Cond.classLink RX3 174 "java/util/NoSuchElementException", Cond.initialized "java/util/NoSuchElementException", Cond.fieldLink RX3 168 "PalletLayers$Pallet" "kindOf" "[I", Cond.fieldLink RX3 171 "PalletLayers$Pallet" "boxesOf" "[I", Cond.fieldLink RX3 126 "PalletLayers$Kind" "area" "I", Cond.methodLink RX3 164 yX3_palletWithLayer, Cond.instanceMethod yX3_palletWithLayer, Cond.selects RX3 yX3_palletWithLayer yX3_palletWithLayer, Cond.code yX3_palletWithLayer cX3_palletWithLayer 4 (some (.object "PalletLayers$Pallet")), Cond.fieldLink RX3 144 "PalletLayers$Pallet" "layers" "I", Cond.methodLink RX3 134 yX3_palletNumbered, Cond.instanceMethod yX3_palletNumbered, Cond.selects RX3 yX3_palletNumbered yX3_palletNumbered, Cond.code yX3_palletNumbered cX3_palletNumbered 3 (some (.object "PalletLayers$Pallet")), Cond.fieldLink RX3 17 "PalletLayers" "pallets" "[LPalletLayers$Pallet;", Cond.methodLink RX3 68 yX3_isOutside, Cond.static yX3_isOutside, Cond.code yX3_isOutside cX3_isOutside 3 (some .boolean)]
def wsL_support_r2 : List Cond := [Cond.methodLink RX3 87 yX3_kindNumbered, Cond.instanceMethod yX3_kindNumbered, Cond.selects RX3 yX3_kindNumbered yX3_kindNumbered, Cond.code yX3_kindNumbered cX3_kindNumbered 3 (some (.object "PalletLayers$Kind")), Cond.fieldLink RX3 11 "PalletLayers" "kinds" "[LPalletLayers$Kind;", Cond.methodLink RX3 179 yX0_cellsOfBox, Cond.instanceMethod yX0_cellsOfBox, Cond.selects RX0 yX0_cellsOfBox yX0_cellsOfBox, Cond.initialized RX0, Cond.code yX0_cellsOfBox cX0_cellsOfBox 2 (some .long), Cond.fieldLink RX0 18 "PalletLayers$Kind" "boxes" "I", Cond.fieldLink RX0 9 "PalletLayers$Kind" "corners" "[I", Cond.fieldLink RX0 15 "PalletLayers$Kind" "ways" "[I", Cond.methodLink RX0 56 yX0_cellsAt, Cond.instanceMethod yX0_cellsAt, Cond.selects RX0 yX0_cellsAt yX0_cellsAt, Cond.code yX0_cellsAt cX0_cellsAt 3 (some .long), Cond.fieldLink RX0 45 "PalletLayers$Kind" "straightShape" "J", Cond.fieldLink RX0 49 "PalletLayers$Kind" "turnedShape" "J", Cond.methodLink RX3 183 yX3_supportedCells, Cond.static yX3_supportedCells, Cond.code yX3_supportedCells cX3_supportedCells 6 (some .int), Cond.methodLink RX3 239 yX1_coveredIn, Cond.instanceMethod yX1_coveredIn]
def wsL_support_r3 : List Cond := [Cond.selects RX1 yX1_coveredIn yX1_coveredIn, Cond.initialized RX1, Cond.code yX1_coveredIn cX1_coveredIn 2 (some .long), Cond.fieldLink RX1 28 "PalletLayers$Pallet" "layers" "I", Cond.fieldLink RX1 24 "PalletLayers$Pallet" "coveredOf" "[J", Cond.methodLink RX3 242 yJ13_bitCount_95d88, Cond.static yJ13_bitCount_95d88, Cond.initialized RJ13, Cond.code yJ13_bitCount_95d88 cJ13_bitCount_95d88 2 (some .int), Cond.constantLong RJ13 314 (6148914691236517205), Cond.constantLong RJ13 316 (3689348814741910323), Cond.constantLong RJ13 318 (1085102592571150095)]
def wsL_support : List Cond := .codeWith yL_support cL_support 6 (some .int) [(0, 12, 15, 21)] :: ((wsL_support_r1 ++ (wsL_support_r2 ++ wsL_support_r3)) ++ wsX10 ++ wsX00 ++ wsX30 ++ (vx_atM "java/lang/ArrayIndexOutOfBoundsException" ["java/lang/IndexOutOfBoundsException", "java/lang/RuntimeException", "java/lang/Exception"]).filter goodWord ++ (vx_atS RX3 178 "java/util/NoSuchElementException" ["java/lang/RuntimeException", "java/lang/Exception"]).filter goodWord)
def wsL_told_r1 : List Cond := [Cond.classLink RL 21 "java/util/NoSuchElementException", Cond.classLink RL 13 "java/lang/IllegalArgumentException", Cond.methodLink RL 59 yX3_told, Cond.instanceMethod yX3_told, Cond.selects RX3 yX3_told yX3_told, Cond.initialized RX3, Cond.code yX3_told cX3_told 4 (some .int), Cond.classLink RX3 72 "java/lang/IllegalArgumentException", Cond.initialized "java/lang/IllegalArgumentException", Cond.fieldLink RX3 187 "PalletLayers$Pallet" "height" "I", Cond.fieldLink RX3 190 "PalletLayers$Pallet" "weight" "I", Cond.fieldLink RX3 144 "PalletLayers$Pallet" "layers" "I", Cond.fieldLink RX3 193 "PalletLayers$Pallet" "boxes" "I", Cond.fieldLink RX3 194 "PalletLayers$Pallet" "stop" "I", Cond.methodLink RX3 134 yX3_palletNumbered, Cond.instanceMethod yX3_palletNumbered, Cond.selects RX3 yX3_palletNumbered yX3_palletNumbered, Cond.code yX3_palletNumbered cX3_palletNumbered 3 (some (.object "PalletLayers$Pallet")), Cond.classLink RX3 174 "java/util/NoSuchElementException", Cond.initialized "java/util/NoSuchElementException", Cond.fieldLink RX3 17 "PalletLayers" "pallets" "[LPalletLayers$Pallet;", Cond.methodLink RX3 68 yX3_isOutside, Cond.static yX3_isOutside, Cond.code yX3_isOutside cX3_isOutside 3 (some .boolean)]
def wsL_told_r2 : List Cond := [Cond.methodLink RX3 197 yX1_kindBits, Cond.instanceMethod yX1_kindBits, Cond.selects RX1 yX1_kindBits yX1_kindBits, Cond.initialized RX1, Cond.code yX1_kindBits cX1_kindBits 3 (some .int), Cond.fieldLink RX1 28 "PalletLayers$Pallet" "layers" "I", Cond.fieldLink RX1 9 "PalletLayers$Pallet" "kindOf" "[I"]
def wsL_told : List Cond := .codeWith yL_told cL_told 5 (some .int) [(0, 10, 13, 21), (0, 10, 17, 13)] :: ((wsL_told_r1 ++ wsL_told_r2) ++ wsX10 ++ wsX30 ++ (vx_atM "java/lang/ArrayIndexOutOfBoundsException" ["java/lang/IndexOutOfBoundsException", "java/lang/RuntimeException", "java/lang/Exception"]).filter goodWord ++ (vx_atS RX3 76 "java/lang/IllegalArgumentException" ["java/lang/RuntimeException", "java/lang/Exception"]).filter goodWord ++ (vx_atS RX3 178 "java/util/NoSuchElementException" ["java/lang/RuntimeException", "java/lang/Exception"]).filter goodWord)
def wsL_layer_r1 : List Cond := [Cond.classLink RL 21 "java/util/NoSuchElementException", Cond.classLink RL 13 "java/lang/IllegalArgumentException", Cond.methodLink RL 62 yX3_layer, Cond.instanceMethod yX3_layer, Cond.selects RX3 yX3_layer yX3_layer, Cond.initialized RX3, Cond.code yX3_layer cX3_layer 5 (some .int), Cond.classLink RX3 72 "java/lang/IllegalArgumentException", Cond.initialized "java/lang/IllegalArgumentException", Cond.fieldLink RX3 168 "PalletLayers$Pallet" "kindOf" "[I", Cond.fieldLink RX3 171 "PalletLayers$Pallet" "boxesOf" "[I", Cond.fieldLink RX3 200 "PalletLayers$Pallet" "bottomOf" "[I", Cond.fieldLink RX3 106 "PalletLayers$Kind" "boxes" "I", Cond.methodLink RX3 164 yX3_palletWithLayer, Cond.instanceMethod yX3_palletWithLayer, Cond.selects RX3 yX3_palletWithLayer yX3_palletWithLayer, Cond.code yX3_palletWithLayer cX3_palletWithLayer 4 (some (.object "PalletLayers$Pallet")), Cond.classLink RX3 174 "java/util/NoSuchElementException", Cond.initialized "java/util/NoSuchElementException", Cond.fieldLink RX3 144 "PalletLayers$Pallet" "layers" "I", Cond.methodLink RX3 134 yX3_palletNumbered, Cond.instanceMethod yX3_palletNumbered, Cond.selects RX3 yX3_palletNumbered yX3_palletNumbered, Cond.code yX3_palletNumbered cX3_palletNumbered 3 (some (.object "PalletLayers$Pallet"))]
def wsL_layer_r2 : List Cond := [Cond.fieldLink RX3 17 "PalletLayers" "pallets" "[LPalletLayers$Pallet;", Cond.methodLink RX3 68 yX3_isOutside, Cond.static yX3_isOutside, Cond.code yX3_isOutside cX3_isOutside 3 (some .boolean), Cond.methodLink RX3 87 yX3_kindNumbered, Cond.instanceMethod yX3_kindNumbered, Cond.selects RX3 yX3_kindNumbered yX3_kindNumbered, Cond.code yX3_kindNumbered cX3_kindNumbered 3 (some (.object "PalletLayers$Kind")), Cond.fieldLink RX3 11 "PalletLayers" "kinds" "[LPalletLayers$Kind;"]
def wsL_layer : List Cond := .codeWith yL_layer cL_layer 6 (some .int) [(0, 12, 15, 21), (0, 12, 19, 13)] :: ((wsL_layer_r1 ++ wsL_layer_r2) ++ wsX10 ++ wsX00 ++ wsX30 ++ (vx_atM "java/lang/ArrayIndexOutOfBoundsException" ["java/lang/IndexOutOfBoundsException", "java/lang/RuntimeException", "java/lang/Exception"]).filter goodWord ++ (vx_atS RX3 76 "java/lang/IllegalArgumentException" ["java/lang/RuntimeException", "java/lang/Exception"]).filter goodWord ++ (vx_atS RX3 178 "java/util/NoSuchElementException" ["java/lang/RuntimeException", "java/lang/Exception"]).filter goodWord)
def wsL_truck_r1 : List Cond := [Cond.classLink RL 21 "java/util/NoSuchElementException", Cond.classLink RL 13 "java/lang/IllegalArgumentException", Cond.classLink RL 23 "java/lang/IllegalStateException", Cond.methodLink RL 65 yX3_truck, Cond.instanceMethod yX3_truck, Cond.selects RX3 yX3_truck yX3_truck, Cond.initialized RX3, Cond.code yX3_truck cX3_truck 4 (some .int), Cond.classLink RX3 72 "java/lang/IllegalArgumentException", Cond.initialized "java/lang/IllegalArgumentException", Cond.classLink RX3 97 "java/lang/IllegalStateException", Cond.initialized "java/lang/IllegalStateException", Cond.fieldLink RX3 32 "PalletLayers" "aboardCount" "I", Cond.fieldLink RX3 21 "PalletLayers" "aboard" "[I", Cond.fieldLink RX3 194 "PalletLayers$Pallet" "stop" "I", Cond.methodLink RX3 134 yX3_palletNumbered, Cond.instanceMethod yX3_palletNumbered, Cond.selects RX3 yX3_palletNumbered yX3_palletNumbered, Cond.code yX3_palletNumbered cX3_palletNumbered 3 (some (.object "PalletLayers$Pallet")), Cond.classLink RX3 174 "java/util/NoSuchElementException", Cond.initialized "java/util/NoSuchElementException", Cond.fieldLink RX3 17 "PalletLayers" "pallets" "[LPalletLayers$Pallet;", Cond.methodLink RX3 68 yX3_isOutside, Cond.static yX3_isOutside]
def wsL_truck_r2 : List Cond := [Cond.code yX3_isOutside cX3_isOutside 3 (some .boolean), Cond.methodLink RX3 140 yX3_refuseOnTruck, Cond.static yX3_refuseOnTruck, Cond.code yX3_refuseOnTruck cX3_refuseOnTruck 1 none, Cond.methodLink RX3 157 yX3_refuseEmpty, Cond.static yX3_refuseEmpty, Cond.code yX3_refuseEmpty cX3_refuseEmpty 1 none, Cond.fieldLink RX3 144 "PalletLayers$Pallet" "layers" "I", Cond.methodLink RX3 205 yX3_hasLesserStopAboard, Cond.instanceMethod yX3_hasLesserStopAboard, Cond.selects RX3 yX3_hasLesserStopAboard yX3_hasLesserStopAboard, Cond.code yX3_hasLesserStopAboard cX3_hasLesserStopAboard 3 (some .boolean)]
def wsL_truck : List Cond := .codeWith yL_truck cL_truck 5 (some .int) [(0, 10, 13, 21), (0, 10, 17, 13), (0, 10, 21, 23)] :: ((wsL_truck_r1 ++ wsL_truck_r2) ++ wsX30 ++ wsX10 ++ (vx_atM "java/lang/ArrayIndexOutOfBoundsException" ["java/lang/IndexOutOfBoundsException", "java/lang/RuntimeException", "java/lang/Exception"]).filter goodWord ++ (vx_atS RX3 76 "java/lang/IllegalArgumentException" ["java/lang/RuntimeException", "java/lang/Exception"]).filter goodWord ++ (vx_atS RX3 101 "java/lang/IllegalStateException" ["java/lang/RuntimeException", "java/lang/Exception"]).filter goodWord ++ (vx_atS RX3 178 "java/util/NoSuchElementException" ["java/lang/RuntimeException", "java/lang/Exception"]).filter goodWord)
def wsL_unload_r1 : List Cond := [Cond.classLink RL 13 "java/lang/IllegalArgumentException", Cond.classLink RL 23 "java/lang/IllegalStateException", Cond.methodLink RL 68 yX3_unload, Cond.instanceMethod yX3_unload, Cond.selects RX3 yX3_unload yX3_unload, Cond.initialized RX3, Cond.code yX3_unload cX3_unload 5 (some .int), Cond.classLink RX3 72 "java/lang/IllegalArgumentException", Cond.initialized "java/lang/IllegalArgumentException", Cond.classLink RX3 97 "java/lang/IllegalStateException", Cond.initialized "java/lang/IllegalStateException", Cond.fieldLink RX3 32 "PalletLayers" "aboardCount" "I", Cond.fieldLink RX3 21 "PalletLayers" "aboard" "[I", Cond.fieldLink RX3 194 "PalletLayers$Pallet" "stop" "I", Cond.methodLink RX3 68 yX3_isOutside, Cond.static yX3_isOutside, Cond.code yX3_isOutside cX3_isOutside 3 (some .boolean), Cond.methodLink RX3 210 yX3_isBarred, Cond.instanceMethod yX3_isBarred, Cond.selects RX3 yX3_isBarred yX3_isBarred, Cond.code yX3_isBarred cX3_isBarred 4 (some .boolean), Cond.methodLink RX3 134 yX3_palletNumbered, Cond.instanceMethod yX3_palletNumbered, Cond.selects RX3 yX3_palletNumbered yX3_palletNumbered]
def wsL_unload_r2 : List Cond := [Cond.code yX3_palletNumbered cX3_palletNumbered 3 (some (.object "PalletLayers$Pallet")), Cond.classLink RX3 174 "java/util/NoSuchElementException", Cond.initialized "java/util/NoSuchElementException", Cond.fieldLink RX3 17 "PalletLayers" "pallets" "[LPalletLayers$Pallet;", Cond.methodLink RX3 215 yX1_clear, Cond.instanceMethod yX1_clear, Cond.selects RX1 yX1_clear yX1_clear, Cond.initialized RX1, Cond.code yX1_clear cX1_clear 1 none, Cond.fieldLink RX1 28 "PalletLayers$Pallet" "layers" "I", Cond.fieldLink RX1 32 "PalletLayers$Pallet" "height" "I", Cond.fieldLink RX1 35 "PalletLayers$Pallet" "weight" "I", Cond.fieldLink RX1 38 "PalletLayers$Pallet" "boxes" "I", Cond.fieldLink RX1 41 "PalletLayers$Pallet" "stop" "I"]
def wsL_unload : List Cond := .codeWith yL_unload cL_unload 4 (some .int) [(0, 9, 12, 13), (0, 9, 15, 23)] :: ((wsL_unload_r1 ++ wsL_unload_r2) ++ wsX30 ++ wsX10 ++ (vx_atM "java/lang/ArrayIndexOutOfBoundsException" ["java/lang/IndexOutOfBoundsException", "java/lang/RuntimeException", "java/lang/Exception"]).filter goodWord ++ (vx_atS RX3 76 "java/lang/IllegalArgumentException" ["java/lang/RuntimeException", "java/lang/Exception"]).filter goodWord ++ (vx_atS RX3 101 "java/lang/IllegalStateException" ["java/lang/RuntimeException", "java/lang/Exception"]).filter goodWord ++ (vx_atS RX3 178 "java/util/NoSuchElementException" ["java/lang/RuntimeException", "java/lang/Exception"]).filter goodWord)
def wsL_order : List Cond := .codeWith yL_order cL_order 4 (some .int) [(0, 9, 12, 21)] :: ([.classLink RL 21 "java/util/NoSuchElementException", .methodLink RL 71 yX3_order, .instanceMethod yX3_order, .selects RX3 yX3_order yX3_order, .initialized RX3, .code yX3_order cX3_order 2 (some .int), .classLink RX3 174 "java/util/NoSuchElementException", .initialized "java/util/NoSuchElementException", .fieldLink RX3 32 "PalletLayers" "aboardCount" "I", .fieldLink RX3 21 "PalletLayers" "aboard" "[I", .methodLink RX3 68 yX3_isOutside, .static yX3_isOutside, .code yX3_isOutside cX3_isOutside 3 (some .boolean)] ++ wsX30 ++ (vx_atM "java/lang/ArrayIndexOutOfBoundsException" ["java/lang/IndexOutOfBoundsException", "java/lang/RuntimeException", "java/lang/Exception"]).filter goodWord ++ (vx_atS RX3 178 "java/util/NoSuchElementException" ["java/lang/RuntimeException", "java/lang/Exception"]).filter goodWord)
def wsL_law0_r1 : List Cond := [Cond.classLink RL 8 RX3, Cond.instantiable RX3 12, Cond.initialized RX3, Cond.classLink RL 83 RX4, Cond.instantiable RX4 33, Cond.initialized RX4, Cond.arrayClass .long, Cond.methodLink RL 74 yL_cell, Cond.static yL_cell, Cond.initialized RL, Cond.code yL_cell cL_cell 2 (some .int), Cond.methodLink RL 80 yX3_init, Cond.instanceMethod yX3_init, Cond.code yX3_init cX3_init 3 none, Cond.methodLink RX3 3 objectInit, Cond.instanceMethod objectInit, Cond.code objectInit ⟨#[0xb1]⟩ 1 none, Cond.classLink RX3 9 RX0, Cond.fieldLink RX3 11 "PalletLayers" "kinds" "[LPalletLayers$Kind;", Cond.classLink RX3 15 RX1, Cond.fieldLink RX3 17 "PalletLayers" "pallets" "[LPalletLayers$Pallet;", Cond.arrayClass .int, Cond.fieldLink RX3 21 "PalletLayers" "aboard" "[I", Cond.fieldLink RX3 25 "PalletLayers" "kindCount" "I"]
def wsL_law0_r2 : List Cond := [Cond.fieldLink RX3 29 "PalletLayers" "palletCount" "I", Cond.fieldLink RX3 32 "PalletLayers" "aboardCount" "I", Cond.fieldLink RX3 35 "PalletLayers" "share" "I", Cond.fieldLink RX3 38 "PalletLayers" "door" "I", Cond.fieldLink RX3 41 "PalletLayers" "load" "I", Cond.methodLink RX3 44 Lib.Math.min.name, Cond.static Lib.Math.min.name, Cond.initialized "java/lang/Math", Cond.code Lib.Math.min.name Lib.Math.min.code 2 (some .int), Cond.methodLink RX3 50 Lib.Math.max.name, Cond.static Lib.Math.max.name, Cond.code Lib.Math.max.name Lib.Math.max.code 2 (some .int), Cond.fieldLink RX3 53 "PalletLayers" "areaWidth" "I", Cond.fieldLink RX3 56 "PalletLayers" "areaDepth" "I", Cond.classLink RX3 59 RX2, Cond.instantiable RX2 9, Cond.initialized RX2, Cond.fieldLink RX3 64 "PalletLayers" "seeker" "LPalletLayers$PatternSearch;", Cond.methodLink RX3 61 yX2_init, Cond.instanceMethod yX2_init, Cond.code yX2_init cX2_init 3 none, Cond.methodLink RX2 3 objectInit, Cond.fieldLink RX2 9 "PalletLayers$PatternSearch" "corners" "[I", Cond.fieldLink RX2 15 "PalletLayers$PatternSearch" "ways" "[I"]
def wsL_law0_r3 : List Cond := [Cond.fieldLink RX2 18 "PalletLayers$PatternSearch" "mostSteps" "I", Cond.fieldLink RX2 22 "PalletLayers$PatternSearch" "stepsMade" "I", Cond.fieldLink RX2 25 "PalletLayers$PatternSearch" "best" "I", Cond.fieldLink RX2 28 "PalletLayers$PatternSearch" "lackedSteps" "Z", Cond.fieldLink RX2 32 "PalletLayers$PatternSearch" "areaWidth" "I", Cond.fieldLink RX2 35 "PalletLayers$PatternSearch" "areaDepth" "I", Cond.fieldLink RX2 38 "PalletLayers$PatternSearch" "cellCount" "I", Cond.methodLink RL 85 yX4_init, Cond.instanceMethod yX4_init, Cond.code yX4_init cX4_init 3 none, Cond.methodLink RX4 1 objectInit, Cond.fieldLink RX4 7 "PalletLayersModel" "wide" "[I", Cond.fieldLink RX4 13 "PalletLayersModel" "deep" "[I", Cond.fieldLink RX4 16 "PalletLayersModel" "high" "[I", Cond.fieldLink RX4 19 "PalletLayersModel" "heavy" "[I", Cond.fieldLink RX4 22 "PalletLayersModel" "boxes" "[I", Cond.arrayClass .boolean, Cond.fieldLink RX4 25 "PalletLayersModel" "exact" "[Z", Cond.fieldLink RX4 29 "PalletLayersModel" "box" "[J", Cond.fieldLink RX4 33 "PalletLayersModel" "corner" "[I", Cond.fieldLink RX4 36 "PalletLayersModel" "way" "[I", Cond.fieldLink RX4 39 "PalletLayersModel" "share" "I", Cond.fieldLink RX4 43 "PalletLayersModel" "door" "I", Cond.fieldLink RX4 46 "PalletLayersModel" "load" "I"]
def wsL_law0_r4 : List Cond := [Cond.fieldLink RX4 49 "PalletLayersModel" "layers" "[I", Cond.fieldLink RX4 52 "PalletLayersModel" "layerKind" "[I", Cond.fieldLink RX4 55 "PalletLayersModel" "layerBoxes" "[I", Cond.fieldLink RX4 58 "PalletLayersModel" "stop" "[I", Cond.fieldLink RX4 61 "PalletLayersModel" "truck" "[I", Cond.fieldLink RX4 64 "PalletLayersModel" "cellAt" "[I", Cond.fieldLink RX4 67 "PalletLayersModel" "trial" "[I", Cond.fieldLink RX4 70 "PalletLayersModel" "corners" "[I", Cond.fieldLink RX4 73 "PalletLayersModel" "ways" "[I", Cond.fieldLink RX4 80 "PalletLayersModel" "width" "I", Cond.fieldLink RX4 83 "PalletLayersModel" "depth" "I", Cond.fieldLink RX4 86 "PalletLayersModel" "cells" "I", Cond.methodLink RX4 76 yX4_held, Cond.static yX4_held, Cond.code yX4_held cX4_held 1 (some .int), Cond.methodLink RL 86 yL_kind, Cond.static yL_kind, Cond.codeWith yL_kind cL_kind 7 (some .int) [(0, 14, 17, 13), (0, 14, 21, 15)], Cond.classLink RL 13 "java/lang/IllegalArgumentException", Cond.classLink RL 15 "java/lang/UnsupportedOperationException", Cond.methodLink RL 7 yX3_kind, Cond.instanceMethod yX3_kind, Cond.selects RX3 yX3_kind yX3_kind, Cond.code yX3_kind cX3_kind 5 (some .int)]
def wsL_law0_r5 : List Cond := [Cond.classLink RX3 72 "java/lang/IllegalArgumentException", Cond.initialized "java/lang/IllegalArgumentException", Cond.classLink RX3 79 "java/lang/UnsupportedOperationException", Cond.initialized "java/lang/UnsupportedOperationException", Cond.instantiable RX0 11, Cond.initialized RX0, Cond.methodLink RX3 68 yX3_isOutside, Cond.static yX3_isOutside, Cond.code yX3_isOutside cX3_isOutside 3 (some .boolean), Cond.methodLink RX3 84 yX0_init, Cond.instanceMethod yX0_init, Cond.code yX0_init cX0_init 6 none, Cond.methodLink RX0 3 objectInit, Cond.fieldLink RX0 9 "PalletLayers$Kind" "corners" "[I", Cond.fieldLink RX0 15 "PalletLayers$Kind" "ways" "[I", Cond.fieldLink RX0 18 "PalletLayers$Kind" "boxes" "I", Cond.fieldLink RX0 22 "PalletLayers$Kind" "soughtExactly" "Z", Cond.fieldLink RX0 26 "PalletLayers$Kind" "width" "I", Cond.fieldLink RX0 29 "PalletLayers$Kind" "depth" "I", Cond.fieldLink RX0 32 "PalletLayers$Kind" "height" "I", Cond.fieldLink RX0 35 "PalletLayers$Kind" "weight" "I", Cond.fieldLink RX0 38 "PalletLayers$Kind" "area" "I", Cond.fieldLink RX0 45 "PalletLayers$Kind" "straightShape" "J", Cond.fieldLink RX0 49 "PalletLayers$Kind" "turnedShape" "J"]
def wsL_law0_r6 : List Cond := [Cond.methodLink RX0 41 yX0_shape, Cond.static yX0_shape, Cond.code yX0_shape cX0_shape 8 (some .long), Cond.methodLink RL 89 yX4_kind, Cond.instanceMethod yX4_kind, Cond.selects RX4 yX4_kind yX4_kind, Cond.code yX4_kind cX4_kind 6 (some .int), Cond.fieldLink RX4 92 "PalletLayersModel" "kinds" "I", Cond.fieldLink RX4 89 "PalletLayersModel" "thrown" "I", Cond.methodLink RX4 95 yX4_within, Cond.static yX4_within, Cond.code yX4_within cX4_within 3 (some .boolean), Cond.methodLink RL 90 yX4_thrown, Cond.instanceMethod yX4_thrown, Cond.selects RX4 yX4_thrown yX4_thrown, Cond.code yX4_thrown cX4_thrown 1 (some .int), Cond.methodLink RL 93 yL_search, Cond.static yL_search, Cond.codeWith yL_search cL_search 5 (some .int) [(0, 10, 13, 21), (0, 10, 17, 13), (0, 10, 21, 23)], Cond.classLink RL 21 "java/util/NoSuchElementException", Cond.classLink RL 23 "java/lang/IllegalStateException", Cond.methodLink RL 17 yX3_search, Cond.instanceMethod yX3_search, Cond.selects RX3 yX3_search yX3_search]
def wsL_law0_r7 : List Cond := [Cond.code yX3_search cX3_search 4 (some .int), Cond.classLink RX3 97 "java/lang/IllegalStateException", Cond.initialized "java/lang/IllegalStateException", Cond.fieldLink RX3 106 "PalletLayers$Kind" "boxes" "I", Cond.methodLink RX3 87 yX3_kindNumbered, Cond.instanceMethod yX3_kindNumbered, Cond.selects RX3 yX3_kindNumbered yX3_kindNumbered, Cond.code yX3_kindNumbered cX3_kindNumbered 3 (some (.object "PalletLayers$Kind")), Cond.classLink RX3 174 "java/util/NoSuchElementException", Cond.initialized "java/util/NoSuchElementException", Cond.methodLink RX3 93 yX3_isOnAPallet, Cond.instanceMethod yX3_isOnAPallet, Cond.selects RX3 yX3_isOnAPallet yX3_isOnAPallet, Cond.code yX3_isOnAPallet cX3_isOnAPallet 6 (some .boolean), Cond.methodLink RX3 197 yX1_kindBits, Cond.instanceMethod yX1_kindBits, Cond.selects RX1 yX1_kindBits yX1_kindBits, Cond.initialized RX1, Cond.code yX1_kindBits cX1_kindBits 3 (some .int), Cond.fieldLink RX1 28 "PalletLayers$Pallet" "layers" "I", Cond.fieldLink RX1 9 "PalletLayers$Pallet" "kindOf" "[I", Cond.methodLink RX3 102 yX2_seek, Cond.instanceMethod yX2_seek, Cond.selects RX2 yX2_seek yX2_seek]
def wsL_law0_r8 : List Cond := [Cond.code yX2_seek cX2_seek 3 none, Cond.fieldLink RX2 51 "PalletLayers$Kind" "soughtExactly" "Z", Cond.methodLink RX2 41 yX0_keepPattern, Cond.instanceMethod yX0_keepPattern, Cond.selects RX0 yX0_keepPattern yX0_keepPattern, Cond.code yX0_keepPattern cX0_keepPattern 5 none, Cond.methodLink RX0 64 Lib.Math.min.name, Cond.methodLink RX2 47 yX2_goOn, Cond.instanceMethod yX2_goOn, Cond.selects RX2 yX2_goOn yX2_goOn, Cond.code yX2_goOn cX2_goOn 7 none, Cond.fieldLink RX2 70 "PalletLayers$Kind" "width" "I", Cond.fieldLink RX2 73 "PalletLayers$Kind" "depth" "I", Cond.methodLink RX2 54 yX2_firstOpen, Cond.instanceMethod yX2_firstOpen, Cond.selects RX2 yX2_firstOpen yX2_firstOpen, Cond.code yX2_firstOpen cX2_firstOpen 5 (some .int), Cond.methodLink RX2 58 yX2_keepIfBetter, Cond.instanceMethod yX2_keepIfBetter, Cond.selects RX2 yX2_keepIfBetter yX2_keepIfBetter, Cond.code yX2_keepIfBetter cX2_keepIfBetter 3 none, Cond.methodLink RX2 62 yX2_mayBeatBest, Cond.instanceMethod yX2_mayBeatBest, Cond.selects RX2 yX2_mayBeatBest yX2_mayBeatBest]
def wsL_law0_r9 : List Cond := [Cond.code yX2_mayBeatBest cX2_mayBeatBest 6 (some .boolean), Cond.fieldLink RX2 97 "PalletLayers$Kind" "area" "I", Cond.methodLink RX2 91 yJ13_bitCount_95d88, Cond.static yJ13_bitCount_95d88, Cond.initialized RJ13, Cond.code yJ13_bitCount_95d88 cJ13_bitCount_95d88 2 (some .int), Cond.constantLong RJ13 314 (6148914691236517205), Cond.constantLong RJ13 316 (3689348814741910323), Cond.constantLong RJ13 318 (1085102592571150095), Cond.methodLink RX2 66 yX2_tryBox, Cond.instanceMethod yX2_tryBox, Cond.selects RX2 yX2_tryBox yX2_tryBox, Cond.methodLink RX2 76 yX2_takeStep, Cond.instanceMethod yX2_takeStep, Cond.selects RX2 yX2_takeStep yX2_takeStep, Cond.code yX2_takeStep cX2_takeStep 1 (some .boolean), Cond.code yX2_tryBox cX2_tryBox 10 none, Cond.methodLink RX2 80 yX0_cellsAt, Cond.instanceMethod yX0_cellsAt, Cond.selects RX0 yX0_cellsAt yX0_cellsAt, Cond.code yX0_cellsAt cX0_cellsAt 3 (some .long), Cond.methodLink RX2 84 yX0_across, Cond.instanceMethod yX0_across, Cond.selects RX0 yX0_across yX0_across]
def wsL_law0_r10 : List Cond := [Cond.code yX0_across cX0_across 2 (some .int), Cond.methodLink RX2 88 yX0_along, Cond.instanceMethod yX0_along, Cond.selects RX0 yX0_along yX0_along, Cond.code yX0_along cX0_along 2 (some .int), Cond.methodLink RL 96 yX4_search, Cond.instanceMethod yX4_search, Cond.selects RX4 yX4_search yX4_search, Cond.code yX4_search cX4_search 3 (some .int), Cond.methodLink RX4 153 yX4_isKind, Cond.instanceMethod yX4_isKind, Cond.selects RX4 yX4_isKind yX4_isKind, Cond.code yX4_isKind cX4_isKind 2 (some .boolean), Cond.methodLink RX4 156 yX4_hasLayers, Cond.instanceMethod yX4_hasLayers, Cond.selects RX4 yX4_hasLayers yX4_hasLayers, Cond.code yX4_hasLayers cX4_hasLayers 4 (some .boolean), Cond.fieldLink RX4 99 "PalletLayersModel" "pallets" "I", Cond.methodLink RX4 159 yX4_seek, Cond.instanceMethod yX4_seek, Cond.selects RX4 yX4_seek yX4_seek, Cond.code yX4_seek cX4_seek 8 none, Cond.fieldLink RX4 102 "PalletLayersModel" "taken" "J", Cond.fieldLink RX4 106 "PalletLayersModel" "left" "J"]
def wsL_law0_r11 : List Cond := [Cond.fieldLink RX4 112 "PalletLayersModel" "placed" "I", Cond.fieldLink RX4 109 "PalletLayersModel" "most" "I", Cond.fieldLink RX4 128 "PalletLayersModel" "steps" "I", Cond.methodLink RX4 131 yX4_undo, Cond.instanceMethod yX4_undo, Cond.selects RX4 yX4_undo yX4_undo, Cond.code yX4_undo cX4_undo 4 none, Cond.constantLong RX4 126 (-1), Cond.methodLink RX4 122 yX4_cellsOf, Cond.instanceMethod yX4_cellsOf, Cond.selects RX4 yX4_cellsOf yX4_cellsOf, Cond.code yX4_cellsOf cX4_cellsOf 13 (some .long), Cond.methodLink RX4 135 yX4_keepBest, Cond.instanceMethod yX4_keepBest, Cond.selects RX4 yX4_keepBest yX4_keepBest, Cond.code yX4_keepBest cX4_keepBest 3 none, Cond.methodLink RX4 139 yX4_canBeBetter, Cond.instanceMethod yX4_canBeBetter, Cond.selects RX4 yX4_canBeBetter yX4_canBeBetter, Cond.code yX4_canBeBetter cX4_canBeBetter 2 (some .boolean), Cond.methodLink RX4 115 yX4_count, Cond.static yX4_count, Cond.code yX4_count cX4_count 5 (some .int), Cond.methodLink RX4 119 yX4_areaOf]
def wsL_law0_r12 : List Cond := [Cond.instanceMethod yX4_areaOf, Cond.selects RX4 yX4_areaOf yX4_areaOf, Cond.code yX4_areaOf cX4_areaOf 2 (some .int), Cond.methodLink RX4 143 yX4_canTry, Cond.instanceMethod yX4_canTry, Cond.selects RX4 yX4_canTry yX4_canTry, Cond.code yX4_canTry cX4_canTry 6 (some .boolean), Cond.methodLink RX4 146 yX4_tries, Cond.instanceMethod yX4_tries, Cond.selects RX4 yX4_tries yX4_tries, Cond.code yX4_tries cX4_tries 4 none, Cond.methodLink RX4 149 yX4_firstCell, Cond.instanceMethod yX4_firstCell, Cond.selects RX4 yX4_firstCell yX4_firstCell, Cond.code yX4_firstCell cX4_firstCell 2 (some .int), Cond.methodLink RL 97 yL_pattern, Cond.static yL_pattern, Cond.codeWith yL_pattern cL_pattern 6 (some .int) [(0, 12, 15, 21), (0, 12, 19, 13), (0, 12, 23, 29)], Cond.classLink RL 29 "java/lang/ArrayIndexOutOfBoundsException", Cond.methodLink RL 25 yX3_pattern, Cond.instanceMethod yX3_pattern, Cond.selects RX3 yX3_pattern yX3_pattern, Cond.code yX3_pattern cX3_pattern 5 (some .int), Cond.classLink RX3 111 RJx00060]
def wsL_law0_r13 : List Cond := [Cond.instantiable RJx00060 6, Cond.initialized RJx00060, Cond.fieldLink RX3 116 "PalletLayers$Kind" "corners" "[I", Cond.fieldLink RX3 119 "PalletLayers$Kind" "ways" "[I", Cond.methodLink RL 100 yX4_pattern, Cond.instanceMethod yX4_pattern, Cond.selects RX4 yX4_pattern yX4_pattern, Cond.code yX4_pattern cX4_pattern 5 (some .int), Cond.methodLink RL 101 yL_exact, Cond.static yL_exact, Cond.codeWith yL_exact cL_exact 4 (some .int) [(0, 16, 19, 21)], Cond.methodLink RL 31 yX3_exact, Cond.instanceMethod yX3_exact, Cond.selects RX3 yX3_exact yX3_exact, Cond.code yX3_exact cX3_exact 2 (some .boolean), Cond.fieldLink RX3 122 "PalletLayers$Kind" "soughtExactly" "Z", Cond.methodLink RL 104 yX4_exact, Cond.instanceMethod yX4_exact, Cond.selects RX4 yX4_exact yX4_exact, Cond.code yX4_exact cX4_exact 2 (some .boolean), Cond.methodLink RL 105 yL_bound, Cond.static yL_bound, Cond.codeWith yL_bound cL_bound 4 (some .int) [(0, 9, 12, 21)], Cond.methodLink RL 35 yX3_bound]
def wsL_law0_r14 : List Cond := [Cond.instanceMethod yX3_bound, Cond.selects RX3 yX3_bound yX3_bound, Cond.code yX3_bound cX3_bound 2 (some .int), Cond.fieldLink RX3 126 "PalletLayers$Kind" "area" "I", Cond.methodLink RL 107 yX4_bound, Cond.instanceMethod yX4_bound, Cond.selects RX4 yX4_bound yX4_bound, Cond.code yX4_bound cX4_bound 2 (some .int), Cond.methodLink RL 108 yL_rules, Cond.static yL_rules, Cond.codeWith yL_rules cL_rules 5 (some .int) [(0, 7, 10, 13)], Cond.methodLink RL 39 yX3_rules, Cond.instanceMethod yX3_rules, Cond.selects RX3 yX3_rules yX3_rules, Cond.code yX3_rules cX3_rules 4 none, Cond.methodLink RL 111 yX4_rules, Cond.instanceMethod yX4_rules, Cond.selects RX4 yX4_rules yX4_rules, Cond.code yX4_rules cX4_rules 4 none, Cond.methodLink RL 112 yL_pallet, Cond.static yL_pallet, Cond.codeWith yL_pallet cL_pallet 3 (some .int) [(0, 8, 11, 15)], Cond.methodLink RL 43 yX3_pallet, Cond.instanceMethod yX3_pallet]
def wsL_law0_r15 : List Cond := [Cond.selects RX3 yX3_pallet yX3_pallet, Cond.code yX3_pallet cX3_pallet 1 (some .int), Cond.instantiable RX1 10, Cond.instanceMethod yX1_init, Cond.code yX1_init cX1_init 1 none, Cond.methodLink RX1 3 objectInit, Cond.fieldLink RX1 15 "PalletLayers$Pallet" "boxesOf" "[I", Cond.fieldLink RX1 18 "PalletLayers$Pallet" "bottomOf" "[I", Cond.fieldLink RX1 21 "PalletLayers$Pallet" "weightOf" "[I", Cond.fieldLink RX1 24 "PalletLayers$Pallet" "coveredOf" "[J", Cond.fieldLink RX1 32 "PalletLayers$Pallet" "height" "I", Cond.fieldLink RX1 35 "PalletLayers$Pallet" "weight" "I", Cond.fieldLink RX1 38 "PalletLayers$Pallet" "boxes" "I", Cond.fieldLink RX1 41 "PalletLayers$Pallet" "stop" "I", Cond.methodLink RL 115 yX4_pallet, Cond.instanceMethod yX4_pallet, Cond.selects RX4 yX4_pallet yX4_pallet, Cond.code yX4_pallet cX4_pallet 1 (some .int), Cond.methodLink RL 116 yL_put, Cond.static yL_put, Cond.codeWith yL_put cL_put 6 (some .int) [(0, 12, 15, 21), (0, 12, 19, 13), (0, 12, 23, 23), (0, 12, 27, 15)], Cond.methodLink RL 47 yX3_put, Cond.instanceMethod yX3_put, Cond.selects RX3 yX3_put yX3_put]
def wsL_law0_r16 : List Cond := [Cond.code yX3_put cX3_put 7 (some .int), Cond.fieldLink RX3 144 "PalletLayers$Pallet" "layers" "I", Cond.methodLink RX3 134 yX3_palletNumbered, Cond.instanceMethod yX3_palletNumbered, Cond.selects RX3 yX3_palletNumbered yX3_palletNumbered, Cond.code yX3_palletNumbered cX3_palletNumbered 3 (some (.object "PalletLayers$Pallet")), Cond.methodLink RX3 140 yX3_refuseOnTruck, Cond.static yX3_refuseOnTruck, Cond.code yX3_refuseOnTruck cX3_refuseOnTruck 1 none, Cond.fieldLink RX3 194 "PalletLayers$Pallet" "stop" "I", Cond.methodLink RX3 149 yX3_whyNot, Cond.instanceMethod yX3_whyNot, Cond.selects RX3 yX3_whyNot yX3_whyNot, Cond.code yX3_whyNot cX3_whyNot 6 (some .int), Cond.fieldLink RX3 187 "PalletLayers$Pallet" "height" "I", Cond.fieldLink RX3 237 "PalletLayers$Kind" "height" "I", Cond.fieldLink RX3 190 "PalletLayers$Pallet" "weight" "I", Cond.fieldLink RX3 238 "PalletLayers$Kind" "weight" "I", Cond.methodLink RX3 179 yX0_cellsOfBox, Cond.instanceMethod yX0_cellsOfBox, Cond.selects RX0 yX0_cellsOfBox yX0_cellsOfBox, Cond.code yX0_cellsOfBox cX0_cellsOfBox 2 (some .long), Cond.methodLink RX0 56 yX0_cellsAt, Cond.methodLink RX3 183 yX3_supportedCells]
def wsL_law0_r17 : List Cond := [Cond.static yX3_supportedCells, Cond.code yX3_supportedCells cX3_supportedCells 6 (some .int), Cond.methodLink RX3 239 yX1_coveredIn, Cond.instanceMethod yX1_coveredIn, Cond.selects RX1 yX1_coveredIn yX1_coveredIn, Cond.code yX1_coveredIn cX1_coveredIn 2 (some .long), Cond.methodLink RX3 242 yJ13_bitCount_95d88, Cond.methodLink RX3 153 yX1_lay, Cond.instanceMethod yX1_lay, Cond.selects RX1 yX1_lay yX1_lay, Cond.code yX1_lay cX1_lay 4 none, Cond.fieldLink RX1 44 "PalletLayers$Kind" "weight" "I", Cond.fieldLink RX1 51 "PalletLayers$Kind" "height" "I", Cond.methodLink RX1 47 yX0_cellsOfFirst, Cond.instanceMethod yX0_cellsOfFirst, Cond.selects RX0 yX0_cellsOfFirst yX0_cellsOfFirst, Cond.code yX0_cellsOfFirst cX0_cellsOfFirst 5 (some .long), Cond.methodLink RX0 60 yX0_cellsOfBox, Cond.methodLink RL 118 yX4_put, Cond.instanceMethod yX4_put, Cond.selects RX4 yX4_put yX4_put, Cond.code yX4_put cX4_put 5 (some .int), Cond.methodLink RX4 174 yX4_isPallet, Cond.instanceMethod yX4_isPallet]
def wsL_law0_r18 : List Cond := [Cond.selects RX4 yX4_isPallet yX4_isPallet, Cond.code yX4_isPallet cX4_isPallet 2 (some .boolean), Cond.methodLink RX4 177 yX4_reason, Cond.instanceMethod yX4_reason, Cond.selects RX4 yX4_reason yX4_reason, Cond.code yX4_reason cX4_reason 5 (some .int), Cond.methodLink RX4 163 yX4_supportOf, Cond.instanceMethod yX4_supportOf, Cond.selects RX4 yX4_supportOf yX4_supportOf, Cond.code yX4_supportOf cX4_supportOf 8 (some .int), Cond.methodLink RX4 167 yX4_heightOf, Cond.instanceMethod yX4_heightOf, Cond.selects RX4 yX4_heightOf yX4_heightOf, Cond.code yX4_heightOf cX4_heightOf 5 (some .int), Cond.methodLink RX4 171 yX4_weightOf, Cond.instanceMethod yX4_weightOf, Cond.selects RX4 yX4_weightOf yX4_weightOf, Cond.code yX4_weightOf cX4_weightOf 4 (some .int), Cond.methodLink RX4 181 yX4_add, Cond.instanceMethod yX4_add, Cond.selects RX4 yX4_add yX4_add, Cond.code yX4_add cX4_add 4 none, Cond.methodLink RL 119 yL_fill, Cond.static yL_fill]
def wsL_law0_r19 : List Cond := [Cond.codeWith yL_fill cL_fill 6 (some .int) [(0, 12, 15, 21), (0, 12, 19, 13), (0, 12, 23, 23)], Cond.methodLink RL 50 yX3_fill, Cond.instanceMethod yX3_fill, Cond.selects RX3 yX3_fill yX3_fill, Cond.code yX3_fill cX3_fill 9 (some .int), Cond.methodLink RL 121 yX4_fill, Cond.instanceMethod yX4_fill, Cond.selects RX4 yX4_fill yX4_fill, Cond.code yX4_fill cX4_fill 7 (some .int), Cond.methodLink RL 122 yL_take, Cond.static yL_take, Cond.codeWith yL_take cL_take 4 (some .int) [(0, 9, 12, 21), (0, 9, 15, 23)], Cond.methodLink RL 53 yX3_take, Cond.instanceMethod yX3_take, Cond.selects RX3 yX3_take yX3_take, Cond.code yX3_take cX3_take 3 (some .int), Cond.methodLink RX3 157 yX3_refuseEmpty, Cond.static yX3_refuseEmpty, Cond.code yX3_refuseEmpty cX3_refuseEmpty 1 none, Cond.methodLink RX3 160 yX1_liftTop, Cond.instanceMethod yX1_liftTop, Cond.selects RX1 yX1_liftTop yX1_liftTop, Cond.code yX1_liftTop cX1_liftTop 1 (some .int), Cond.methodLink RL 124 yX4_take]
def wsL_law0_r20 : List Cond := [Cond.instanceMethod yX4_take, Cond.selects RX4 yX4_take yX4_take, Cond.code yX4_take cX4_take 2 (some .int), Cond.methodLink RL 125 yL_support, Cond.static yL_support, Cond.codeWith yL_support cL_support 6 (some .int) [(0, 12, 15, 21)], Cond.methodLink RL 56 yX3_support, Cond.instanceMethod yX3_support, Cond.selects RX3 yX3_support yX3_support, Cond.code yX3_support cX3_support 6 (some .int), Cond.fieldLink RX3 168 "PalletLayers$Pallet" "kindOf" "[I", Cond.fieldLink RX3 171 "PalletLayers$Pallet" "boxesOf" "[I", Cond.methodLink RX3 164 yX3_palletWithLayer, Cond.instanceMethod yX3_palletWithLayer, Cond.selects RX3 yX3_palletWithLayer yX3_palletWithLayer, Cond.code yX3_palletWithLayer cX3_palletWithLayer 4 (some (.object "PalletLayers$Pallet")), Cond.methodLink RL 127 yX4_support, Cond.instanceMethod yX4_support, Cond.selects RX4 yX4_support yX4_support, Cond.code yX4_support cX4_support 5 (some .int), Cond.methodLink RX4 184 yX4_isLayer, Cond.instanceMethod yX4_isLayer, Cond.selects RX4 yX4_isLayer yX4_isLayer, Cond.code yX4_isLayer cX4_isLayer 3 (some .boolean)]
def wsL_law0_r21 : List Cond := [Cond.methodLink RL 128 yL_told, Cond.static yL_told, Cond.codeWith yL_told cL_told 5 (some .int) [(0, 10, 13, 21), (0, 10, 17, 13)], Cond.methodLink RL 59 yX3_told, Cond.instanceMethod yX3_told, Cond.selects RX3 yX3_told yX3_told, Cond.code yX3_told cX3_told 4 (some .int), Cond.fieldLink RX3 193 "PalletLayers$Pallet" "boxes" "I", Cond.methodLink RL 130 yX4_told, Cond.instanceMethod yX4_told, Cond.selects RX4 yX4_told yX4_told, Cond.code yX4_told cX4_told 5 (some .int), Cond.methodLink RX4 188 yX4_boxesOn, Cond.instanceMethod yX4_boxesOn, Cond.selects RX4 yX4_boxesOn yX4_boxesOn, Cond.code yX4_boxesOn cX4_boxesOn 4 (some .int), Cond.methodLink RL 131 yL_layer, Cond.static yL_layer, Cond.codeWith yL_layer cL_layer 6 (some .int) [(0, 12, 15, 21), (0, 12, 19, 13)], Cond.methodLink RL 62 yX3_layer, Cond.instanceMethod yX3_layer, Cond.selects RX3 yX3_layer yX3_layer, Cond.code yX3_layer cX3_layer 5 (some .int), Cond.fieldLink RX3 200 "PalletLayers$Pallet" "bottomOf" "[I"]
def wsL_law0_r22 : List Cond := [Cond.methodLink RL 133 yX4_layer, Cond.instanceMethod yX4_layer, Cond.selects RX4 yX4_layer yX4_layer, Cond.code yX4_layer cX4_layer 6 (some .int), Cond.methodLink RL 134 yL_truck, Cond.static yL_truck, Cond.codeWith yL_truck cL_truck 5 (some .int) [(0, 10, 13, 21), (0, 10, 17, 13), (0, 10, 21, 23)], Cond.methodLink RL 65 yX3_truck, Cond.instanceMethod yX3_truck, Cond.selects RX3 yX3_truck yX3_truck, Cond.code yX3_truck cX3_truck 4 (some .int), Cond.methodLink RX3 205 yX3_hasLesserStopAboard, Cond.instanceMethod yX3_hasLesserStopAboard, Cond.selects RX3 yX3_hasLesserStopAboard yX3_hasLesserStopAboard, Cond.code yX3_hasLesserStopAboard cX3_hasLesserStopAboard 3 (some .boolean), Cond.methodLink RL 136 yX4_truck, Cond.instanceMethod yX4_truck, Cond.selects RX4 yX4_truck yX4_truck, Cond.code yX4_truck cX4_truck 4 (some .int), Cond.fieldLink RX4 191 "PalletLayersModel" "onTruck" "I", Cond.methodLink RL 137 yL_unload, Cond.static yL_unload, Cond.codeWith yL_unload cL_unload 4 (some .int) [(0, 9, 12, 13), (0, 9, 15, 23)], Cond.methodLink RL 68 yX3_unload]
def wsL_law0_r23 : List Cond := [Cond.instanceMethod yX3_unload, Cond.selects RX3 yX3_unload yX3_unload, Cond.code yX3_unload cX3_unload 5 (some .int), Cond.methodLink RX3 210 yX3_isBarred, Cond.instanceMethod yX3_isBarred, Cond.selects RX3 yX3_isBarred yX3_isBarred, Cond.code yX3_isBarred cX3_isBarred 4 (some .boolean), Cond.methodLink RX3 215 yX1_clear, Cond.instanceMethod yX1_clear, Cond.selects RX1 yX1_clear yX1_clear, Cond.code yX1_clear cX1_clear 1 none, Cond.methodLink RL 139 yX4_unload, Cond.instanceMethod yX4_unload, Cond.selects RX4 yX4_unload yX4_unload, Cond.code yX4_unload cX4_unload 5 (some .int), Cond.methodLink RL 140 yL_order, Cond.static yL_order, Cond.codeWith yL_order cL_order 4 (some .int) [(0, 9, 12, 21)], Cond.methodLink RL 71 yX3_order, Cond.instanceMethod yX3_order, Cond.selects RX3 yX3_order yX3_order, Cond.code yX3_order cX3_order 2 (some .int), Cond.methodLink RL 142 yX4_order, Cond.instanceMethod yX4_order]
def wsL_law0_r24 : List Cond := [Cond.selects RX4 yX4_order yX4_order, Cond.code yX4_order cX4_order 2 (some .int), Cond.methodLink RL 143 yX3_count, Cond.instanceMethod yX3_count, Cond.selects RX3 yX3_count yX3_count, Cond.code yX3_count cX3_count 2 (some .int), Cond.fieldLink RX3 224 "PalletLayers$PatternSearch" "stepsMade" "I", Cond.methodLink RX3 220 yX3_boxesOnPallets, Cond.instanceMethod yX3_boxesOnPallets, Cond.selects RX3 yX3_boxesOnPallets yX3_boxesOnPallets, Cond.code yX3_boxesOnPallets cX3_boxesOnPallets 7 (some .int), Cond.methodLink RL 146 yX4_count_, Cond.instanceMethod yX4_count_, Cond.selects RX4 yX4_count_ yX4_count_, Cond.code yX4_count_ cX4_count_ 4 (some .int)]
def wsL_law0 : List Cond := (wsL_law0_r1 ++ (wsL_law0_r2 ++ (wsL_law0_r3 ++ (wsL_law0_r4 ++ (wsL_law0_r5 ++ (wsL_law0_r6 ++ (wsL_law0_r7 ++ (wsL_law0_r8 ++ (wsL_law0_r9 ++ (wsL_law0_r10 ++ (wsL_law0_r11 ++ (wsL_law0_r12 ++ (wsL_law0_r13 ++ (wsL_law0_r14 ++ (wsL_law0_r15 ++ (wsL_law0_r16 ++ (wsL_law0_r17 ++ (wsL_law0_r18 ++ (wsL_law0_r19 ++ (wsL_law0_r20 ++ (wsL_law0_r21 ++ (wsL_law0_r22 ++ (wsL_law0_r23 ++ wsL_law0_r24))))))))))))))))))))))) ++ wsX30 ++ wsX40 ++ wsX20 ++ wsX00 ++ wsX10 ++ wsJx000600 ++ ([] : List Cond)
def wsL_law : List Cond := wsL_law0 ++ (vx_atM "java/lang/ArrayIndexOutOfBoundsException" ["java/lang/IndexOutOfBoundsException", "java/lang/RuntimeException", "java/lang/Exception"]).filter goodWord ++ (vx_atS RX3 76 "java/lang/IllegalArgumentException" ["java/lang/RuntimeException", "java/lang/Exception"]).filter goodWord ++ (vx_atS RX3 83 "java/lang/UnsupportedOperationException" ["java/lang/RuntimeException", "java/lang/Exception"]).filter goodWord ++ (vx_atS RX3 101 "java/lang/IllegalStateException" ["java/lang/RuntimeException", "java/lang/Exception"]).filter goodWord ++ (vx_atS RX3 178 "java/util/NoSuchElementException" ["java/lang/RuntimeException", "java/lang/Exception"]).filter goodWord
end
section
set_option maxRecDepth 20000 in
theorem ggX0_init_X0_shape : GoodIn wsX0_init wsX0_shape := goodIn_r _ [19] (by decide +kernel) (by decide +kernel)
set_option maxRecDepth 20000 in
theorem gX0_init_X0_shape : GoodIn wsX0_init (va_wsS RX0 41 yX0_shape wsX0_shape) := goodIn_app (goodIn_of _ (by decide +kernel)) ggX0_init_X0_shape
theorem dX0_init_0 : decode cX0_init 0 = .ok (.aload_n 0, 1) := by decide +kernel
theorem dX0_init_1 : decode cX0_init 1 = .ok (.invokespecial 3, 3) := by decide +kernel
theorem dX0_init_4 : decode cX0_init 4 = .ok (.aload_n 0, 1) := by decide +kernel
theorem dX0_init_5 : decode cX0_init 5 = .ok (.bipush 36, 2) := by decide +kernel
theorem dX0_init_7 : decode cX0_init 7 = .ok (.newarray .int, 2) := by decide +kernel
theorem dX0_init_9 : decode cX0_init 9 = .ok (.putfield 9, 3) := by decide +kernel
theorem dX0_init_12 : decode cX0_init 12 = .ok (.aload_n 0, 1) := by decide +kernel
theorem dX0_init_13 : decode cX0_init 13 = .ok (.bipush 36, 2) := by decide +kernel
theorem dX0_init_15 : decode cX0_init 15 = .ok (.newarray .int, 2) := by decide +kernel
theorem dX0_init_17 : decode cX0_init 17 = .ok (.putfield 15, 3) := by decide +kernel
theorem dX0_init_20 : decode cX0_init 20 = .ok (.aload_n 0, 1) := by decide +kernel
theorem dX0_init_21 : decode cX0_init 21 = .ok (.iconst 0, 1) := by decide +kernel
theorem dX0_init_22 : decode cX0_init 22 = .ok (.putfield 18, 3) := by decide +kernel
theorem dX0_init_25 : decode cX0_init 25 = .ok (.aload_n 0, 1) := by decide +kernel
theorem dX0_init_26 : decode cX0_init 26 = .ok (.iconst 0, 1) := by decide +kernel
theorem dX0_init_27 : decode cX0_init 27 = .ok (.putfield 22, 3) := by decide +kernel
theorem dX0_init_30 : decode cX0_init 30 = .ok (.aload_n 0, 1) := by decide +kernel
theorem dX0_init_31 : decode cX0_init 31 = .ok (.iload_n 2, 1) := by decide +kernel
theorem dX0_init_32 : decode cX0_init 32 = .ok (.putfield 26, 3) := by decide +kernel
theorem dX0_init_35 : decode cX0_init 35 = .ok (.aload_n 0, 1) := by decide +kernel
theorem dX0_init_36 : decode cX0_init 36 = .ok (.iload_n 3, 1) := by decide +kernel
theorem dX0_init_37 : decode cX0_init 37 = .ok (.putfield 29, 3) := by decide +kernel
theorem dX0_init_40 : decode cX0_init 40 = .ok (.aload_n 0, 1) := by decide +kernel
theorem dX0_init_41 : decode cX0_init 41 = .ok (.iload 4, 2) := by decide +kernel
theorem dX0_init_43 : decode cX0_init 43 = .ok (.putfield 32, 3) := by decide +kernel
theorem dX0_init_46 : decode cX0_init 46 = .ok (.aload_n 0, 1) := by decide +kernel
theorem dX0_init_47 : decode cX0_init 47 = .ok (.iload 5, 2) := by decide +kernel
theorem dX0_init_49 : decode cX0_init 49 = .ok (.putfield 35, 3) := by decide +kernel
theorem dX0_init_52 : decode cX0_init 52 = .ok (.aload_n 0, 1) := by decide +kernel
theorem dX0_init_53 : decode cX0_init 53 = .ok (.iload_n 2, 1) := by decide +kernel
theorem dX0_init_54 : decode cX0_init 54 = .ok (.iload_n 3, 1) := by decide +kernel
theorem dX0_init_55 : decode cX0_init 55 = .ok (.imul, 1) := by decide +kernel
theorem dX0_init_56 : decode cX0_init 56 = .ok (.putfield 38, 3) := by decide +kernel
theorem dX0_init_59 : decode cX0_init 59 = .ok (.aload_n 0, 1) := by decide +kernel
theorem dX0_init_60 : decode cX0_init 60 = .ok (.iload_n 1, 1) := by decide +kernel
theorem dX0_init_61 : decode cX0_init 61 = .ok (.iload_n 2, 1) := by decide +kernel
theorem dX0_init_62 : decode cX0_init 62 = .ok (.iload_n 3, 1) := by decide +kernel
theorem dX0_init_63 : decode cX0_init 63 = .ok (.invokestatic 41, 3) := by decide +kernel
theorem dX0_init_66 : decode cX0_init 66 = .ok (.putfield 45, 3) := by decide +kernel
theorem dX0_init_69 : decode cX0_init 69 = .ok (.aload_n 0, 1) := by decide +kernel
theorem dX0_init_70 : decode cX0_init 70 = .ok (.iload_n 1, 1) := by decide +kernel
theorem dX0_init_71 : decode cX0_init 71 = .ok (.iload_n 3, 1) := by decide +kernel
theorem dX0_init_72 : decode cX0_init 72 = .ok (.iload_n 2, 1) := by decide +kernel
theorem dX0_init_73 : decode cX0_init 73 = .ok (.invokestatic 41, 3) := by decide +kernel
theorem dX0_init_76 : decode cX0_init 76 = .ok (.putfield 49, 3) := by decide +kernel
theorem dX0_init_79 : decode cX0_init 79 = .ok (.return_, 1) := by decide +kernel
theorem dX0_shape_0 : decode cX0_shape 0 = .ok (.lconst 1, 1) := by decide +kernel
theorem dX0_shape_1 : decode cX0_shape 1 = .ok (.iload_n 1, 1) := by decide +kernel
theorem dX0_shape_2 : decode cX0_shape 2 = .ok (.lshl, 1) := by decide +kernel
theorem dX0_shape_3 : decode cX0_shape 3 = .ok (.lconst 1, 1) := by decide +kernel
theorem dX0_shape_4 : decode cX0_shape 4 = .ok (.lsub, 1) := by decide +kernel
theorem dX0_shape_5 : decode cX0_shape 5 = .ok (.lstore_n 3, 1) := by decide +kernel
theorem dX0_shape_6 : decode cX0_shape 6 = .ok (.lconst 0, 1) := by decide +kernel
theorem dX0_shape_7 : decode cX0_shape 7 = .ok (.lstore 5, 2) := by decide +kernel
theorem dX0_shape_9 : decode cX0_shape 9 = .ok (.iconst 0, 1) := by decide +kernel
theorem dX0_shape_10 : decode cX0_shape 10 = .ok (.istore 7, 2) := by decide +kernel
theorem dX0_shape_12 : decode cX0_shape 12 = .ok (.iload 7, 2) := by decide +kernel
theorem dX0_shape_14 : decode cX0_shape 14 = .ok (.iload_n 2, 1) := by decide +kernel
theorem dX0_shape_15 : decode cX0_shape 15 = .ok (.if_icmp .ge 20, 3) := by decide +kernel
theorem dX0_shape_18 : decode cX0_shape 18 = .ok (.lload 5, 2) := by decide +kernel
theorem dX0_shape_20 : decode cX0_shape 20 = .ok (.lload_n 3, 1) := by decide +kernel
theorem dX0_shape_21 : decode cX0_shape 21 = .ok (.iload 7, 2) := by decide +kernel
theorem dX0_shape_23 : decode cX0_shape 23 = .ok (.iload_n 0, 1) := by decide +kernel
theorem dX0_shape_24 : decode cX0_shape 24 = .ok (.imul, 1) := by decide +kernel
theorem dX0_shape_25 : decode cX0_shape 25 = .ok (.lshl, 1) := by decide +kernel
theorem dX0_shape_26 : decode cX0_shape 26 = .ok (.lor, 1) := by decide +kernel
theorem dX0_shape_27 : decode cX0_shape 27 = .ok (.lstore 5, 2) := by decide +kernel
theorem dX0_shape_29 : decode cX0_shape 29 = .ok (.iinc 7 1, 3) := by decide +kernel
theorem dX0_shape_32 : decode cX0_shape 32 = .ok (.goto (-20), 3) := by decide +kernel
theorem dX0_shape_35 : decode cX0_shape 35 = .ok (.lload 5, 2) := by decide +kernel
theorem dX0_shape_37 : decode cX0_shape 37 = .ok (.lreturn, 1) := by decide +kernel
theorem dX0_across_0 : decode cX0_across 0 = .ok (.iload_n 1, 1) := by decide +kernel
theorem dX0_across_1 : decode cX0_across 1 = .ok (.ifCond .ne 10, 3) := by decide +kernel
theorem dX0_across_4 : decode cX0_across 4 = .ok (.aload_n 0, 1) := by decide +kernel
theorem dX0_across_5 : decode cX0_across 5 = .ok (.getfield 26, 3) := by decide +kernel
theorem dX0_across_8 : decode cX0_across 8 = .ok (.goto 7, 3) := by decide +kernel
theorem dX0_across_11 : decode cX0_across 11 = .ok (.aload_n 0, 1) := by decide +kernel
theorem dX0_across_12 : decode cX0_across 12 = .ok (.getfield 29, 3) := by decide +kernel
theorem dX0_across_15 : decode cX0_across 15 = .ok (.ireturn, 1) := by decide +kernel
theorem dX0_along_0 : decode cX0_along 0 = .ok (.iload_n 1, 1) := by decide +kernel
theorem dX0_along_1 : decode cX0_along 1 = .ok (.ifCond .ne 10, 3) := by decide +kernel
theorem dX0_along_4 : decode cX0_along 4 = .ok (.aload_n 0, 1) := by decide +kernel
theorem dX0_along_5 : decode cX0_along 5 = .ok (.getfield 29, 3) := by decide +kernel
theorem dX0_along_8 : decode cX0_along 8 = .ok (.goto 7, 3) := by decide +kernel
theorem dX0_along_11 : decode cX0_along 11 = .ok (.aload_n 0, 1) := by decide +kernel
theorem dX0_along_12 : decode cX0_along 12 = .ok (.getfield 26, 3) := by decide +kernel
theorem dX0_along_15 : decode cX0_along 15 = .ok (.ireturn, 1) := by decide +kernel
theorem dX0_cellsAt_0 : decode cX0_cellsAt 0 = .ok (.iload_n 2, 1) := by decide +kernel
theorem dX0_cellsAt_1 : decode cX0_cellsAt 1 = .ok (.ifCond .ne 10, 3) := by decide +kernel
theorem dX0_cellsAt_4 : decode cX0_cellsAt 4 = .ok (.aload_n 0, 1) := by decide +kernel
theorem dX0_cellsAt_5 : decode cX0_cellsAt 5 = .ok (.getfield 45, 3) := by decide +kernel
theorem dX0_cellsAt_8 : decode cX0_cellsAt 8 = .ok (.goto 7, 3) := by decide +kernel
theorem dX0_cellsAt_11 : decode cX0_cellsAt 11 = .ok (.aload_n 0, 1) := by decide +kernel
theorem dX0_cellsAt_12 : decode cX0_cellsAt 12 = .ok (.getfield 49, 3) := by decide +kernel
theorem dX0_cellsAt_15 : decode cX0_cellsAt 15 = .ok (.iload_n 1, 1) := by decide +kernel
theorem dX0_cellsAt_16 : decode cX0_cellsAt 16 = .ok (.lshl, 1) := by decide +kernel
theorem dX0_cellsAt_17 : decode cX0_cellsAt 17 = .ok (.lreturn, 1) := by decide +kernel
set_option maxRecDepth 20000 in
theorem ggX0_cellsOfBox_X3_isOutside : GoodIn wsX0_cellsOfBox wsX3_isOutside := goodIn_r _ [6] (by decide +kernel) (by decide +kernel)
set_option maxRecDepth 20000 in
theorem gX0_cellsOfBox_X3_isOutside_n52 : GoodIn wsX0_cellsOfBox (wsX3_isOutside) := ggX0_cellsOfBox_X3_isOutside
set_option maxRecDepth 20000 in
theorem ggX0_cellsOfBox_X0_cellsAt : GoodIn wsX0_cellsOfBox wsX0_cellsAt := goodIn_r _ [11, 12, 13, 14, 15, 16, 17, 18, 19, 20, 21, 22, 23, 24] (by decide +kernel) (by decide +kernel)
set_option maxRecDepth 20000 in
theorem gX0_cellsOfBox_X0_cellsAt : GoodIn wsX0_cellsOfBox (wsV RX0 56 RX0 yX0_cellsAt wsX0_cellsAt) := goodIn_app (goodIn_of _ (by decide +kernel)) ggX0_cellsOfBox_X0_cellsAt
theorem dX0_cellsOfBox_0 : decode cX0_cellsOfBox 0 = .ok (.iload_n 1, 1) := by decide +kernel
theorem dX0_cellsOfBox_1 : decode cX0_cellsOfBox 1 = .ok (.iconst 0, 1) := by decide +kernel
theorem dX0_cellsOfBox_2 : decode cX0_cellsOfBox 2 = .ok (.aload_n 0, 1) := by decide +kernel
theorem dX0_cellsOfBox_3 : decode cX0_cellsOfBox 3 = .ok (.getfield 18, 3) := by decide +kernel
theorem dX0_cellsOfBox_6 : decode cX0_cellsOfBox 6 = .ok (.iconst 1, 1) := by decide +kernel
theorem dX0_cellsOfBox_7 : decode cX0_cellsOfBox 7 = .ok (.isub, 1) := by decide +kernel
theorem dX0_cellsOfBox_8 : decode cX0_cellsOfBox 8 = .ok (.invokestatic 52, 3) := by decide +kernel
theorem dX0_cellsOfBox_11 : decode cX0_cellsOfBox 11 = .ok (.ifCond .eq 7, 3) := by decide +kernel
theorem dX0_cellsOfBox_14 : decode cX0_cellsOfBox 14 = .ok (.lconst 0, 1) := by decide +kernel
theorem dX0_cellsOfBox_15 : decode cX0_cellsOfBox 15 = .ok (.goto 19, 3) := by decide +kernel
theorem dX0_cellsOfBox_18 : decode cX0_cellsOfBox 18 = .ok (.aload_n 0, 1) := by decide +kernel
theorem dX0_cellsOfBox_19 : decode cX0_cellsOfBox 19 = .ok (.aload_n 0, 1) := by decide +kernel
theorem dX0_cellsOfBox_20 : decode cX0_cellsOfBox 20 = .ok (.getfield 9, 3) := by decide +kernel
theorem dX0_cellsOfBox_23 : decode cX0_cellsOfBox 23 = .ok (.iload_n 1, 1) := by decide +kernel
theorem dX0_cellsOfBox_24 : decode cX0_cellsOfBox 24 = .ok (.iaload, 1) := by decide +kernel
theorem dX0_cellsOfBox_25 : decode cX0_cellsOfBox 25 = .ok (.aload_n 0, 1) := by decide +kernel
theorem dX0_cellsOfBox_26 : decode cX0_cellsOfBox 26 = .ok (.getfield 15, 3) := by decide +kernel
theorem dX0_cellsOfBox_29 : decode cX0_cellsOfBox 29 = .ok (.iload_n 1, 1) := by decide +kernel
theorem dX0_cellsOfBox_30 : decode cX0_cellsOfBox 30 = .ok (.iaload, 1) := by decide +kernel
theorem dX0_cellsOfBox_31 : decode cX0_cellsOfBox 31 = .ok (.invokevirtual 56, 3) := by decide +kernel
theorem dX0_cellsOfBox_34 : decode cX0_cellsOfBox 34 = .ok (.lreturn, 1) := by decide +kernel
set_option maxRecDepth 20000 in
theorem ggX0_cellsOfFirst_X0_cellsOfBox : GoodIn wsX0_cellsOfFirst wsX0_cellsOfBox := goodIn_ca (goodIn_r _ [5, 6, 7, 8, 9, 10, 11, 12, 13, 14, 4, 15, 16, 17, 18, 19, 20, 21, 22, 23, 24, 25, 26, 27, 28] (by decide +kernel) (by decide +kernel)) (goodIn_sub (fun _ h => List.mem_cons_of_mem _ (List.mem_append_right _ h)) (by decide +kernel))
set_option maxRecDepth 20000 in
theorem gX0_cellsOfFirst_X0_cellsOfBox : GoodIn wsX0_cellsOfFirst (wsV RX0 60 RX0 yX0_cellsOfBox wsX0_cellsOfBox) := goodIn_app (goodIn_of _ (by decide +kernel)) ggX0_cellsOfFirst_X0_cellsOfBox
theorem dX0_cellsOfFirst_0 : decode cX0_cellsOfFirst 0 = .ok (.lconst 0, 1) := by decide +kernel
theorem dX0_cellsOfFirst_1 : decode cX0_cellsOfFirst 1 = .ok (.lstore_n 2, 1) := by decide +kernel
theorem dX0_cellsOfFirst_2 : decode cX0_cellsOfFirst 2 = .ok (.iconst 0, 1) := by decide +kernel
theorem dX0_cellsOfFirst_3 : decode cX0_cellsOfFirst 3 = .ok (.istore 4, 2) := by decide +kernel
theorem dX0_cellsOfFirst_5 : decode cX0_cellsOfFirst 5 = .ok (.iload 4, 2) := by decide +kernel
theorem dX0_cellsOfFirst_7 : decode cX0_cellsOfFirst 7 = .ok (.iload_n 1, 1) := by decide +kernel
theorem dX0_cellsOfFirst_8 : decode cX0_cellsOfFirst 8 = .ok (.if_icmp .ge 18, 3) := by decide +kernel
theorem dX0_cellsOfFirst_11 : decode cX0_cellsOfFirst 11 = .ok (.lload_n 2, 1) := by decide +kernel
theorem dX0_cellsOfFirst_12 : decode cX0_cellsOfFirst 12 = .ok (.aload_n 0, 1) := by decide +kernel
theorem dX0_cellsOfFirst_13 : decode cX0_cellsOfFirst 13 = .ok (.iload 4, 2) := by decide +kernel
theorem dX0_cellsOfFirst_15 : decode cX0_cellsOfFirst 15 = .ok (.invokevirtual 60, 3) := by decide +kernel
theorem dX0_cellsOfFirst_18 : decode cX0_cellsOfFirst 18 = .ok (.lor, 1) := by decide +kernel
theorem dX0_cellsOfFirst_19 : decode cX0_cellsOfFirst 19 = .ok (.lstore_n 2, 1) := by decide +kernel
theorem dX0_cellsOfFirst_20 : decode cX0_cellsOfFirst 20 = .ok (.iinc 4 1, 3) := by decide +kernel
theorem dX0_cellsOfFirst_23 : decode cX0_cellsOfFirst 23 = .ok (.goto (-18), 3) := by decide +kernel
theorem dX0_cellsOfFirst_26 : decode cX0_cellsOfFirst 26 = .ok (.lload_n 2, 1) := by decide +kernel
theorem dX0_cellsOfFirst_27 : decode cX0_cellsOfFirst 27 = .ok (.lreturn, 1) := by decide +kernel
theorem dX0_keepPattern_0 : decode cX0_keepPattern 0 = .ok (.aload_n 0, 1) := by decide +kernel
theorem dX0_keepPattern_1 : decode cX0_keepPattern 1 = .ok (.iload_n 3, 1) := by decide +kernel
theorem dX0_keepPattern_2 : decode cX0_keepPattern 2 = .ok (.bipush 36, 2) := by decide +kernel
theorem dX0_keepPattern_4 : decode cX0_keepPattern 4 = .ok (.invokestatic 64, 3) := by decide +kernel
theorem dX0_keepPattern_7 : decode cX0_keepPattern 7 = .ok (.putfield 18, 3) := by decide +kernel
theorem dX0_keepPattern_10 : decode cX0_keepPattern 10 = .ok (.iconst 0, 1) := by decide +kernel
theorem dX0_keepPattern_11 : decode cX0_keepPattern 11 = .ok (.istore 4, 2) := by decide +kernel
theorem dX0_keepPattern_13 : decode cX0_keepPattern 13 = .ok (.iload 4, 2) := by decide +kernel
theorem dX0_keepPattern_15 : decode cX0_keepPattern 15 = .ok (.aload_n 0, 1) := by decide +kernel
theorem dX0_keepPattern_16 : decode cX0_keepPattern 16 = .ok (.getfield 18, 3) := by decide +kernel
theorem dX0_keepPattern_19 : decode cX0_keepPattern 19 = .ok (.if_icmp .ge 31, 3) := by decide +kernel
theorem dX0_keepPattern_22 : decode cX0_keepPattern 22 = .ok (.aload_n 0, 1) := by decide +kernel
theorem dX0_keepPattern_23 : decode cX0_keepPattern 23 = .ok (.getfield 9, 3) := by decide +kernel
theorem dX0_keepPattern_26 : decode cX0_keepPattern 26 = .ok (.iload 4, 2) := by decide +kernel
theorem dX0_keepPattern_28 : decode cX0_keepPattern 28 = .ok (.aload_n 1, 1) := by decide +kernel
theorem dX0_keepPattern_29 : decode cX0_keepPattern 29 = .ok (.iload 4, 2) := by decide +kernel
theorem dX0_keepPattern_31 : decode cX0_keepPattern 31 = .ok (.iaload, 1) := by decide +kernel
theorem dX0_keepPattern_32 : decode cX0_keepPattern 32 = .ok (.iastore, 1) := by decide +kernel
theorem dX0_keepPattern_33 : decode cX0_keepPattern 33 = .ok (.aload_n 0, 1) := by decide +kernel
theorem dX0_keepPattern_34 : decode cX0_keepPattern 34 = .ok (.getfield 15, 3) := by decide +kernel
theorem dX0_keepPattern_37 : decode cX0_keepPattern 37 = .ok (.iload 4, 2) := by decide +kernel
theorem dX0_keepPattern_39 : decode cX0_keepPattern 39 = .ok (.aload_n 2, 1) := by decide +kernel
theorem dX0_keepPattern_40 : decode cX0_keepPattern 40 = .ok (.iload 4, 2) := by decide +kernel
theorem dX0_keepPattern_42 : decode cX0_keepPattern 42 = .ok (.iaload, 1) := by decide +kernel
theorem dX0_keepPattern_43 : decode cX0_keepPattern 43 = .ok (.iastore, 1) := by decide +kernel
theorem dX0_keepPattern_44 : decode cX0_keepPattern 44 = .ok (.iinc 4 1, 3) := by decide +kernel
theorem dX0_keepPattern_47 : decode cX0_keepPattern 47 = .ok (.goto (-34), 3) := by decide +kernel
theorem dX0_keepPattern_50 : decode cX0_keepPattern 50 = .ok (.return_, 1) := by decide +kernel
theorem dX1_init_0 : decode cX1_init 0 = .ok (.aload_n 0, 1) := by decide +kernel
theorem dX1_init_1 : decode cX1_init 1 = .ok (.invokespecial 3, 3) := by decide +kernel
theorem dX1_init_4 : decode cX1_init 4 = .ok (.aload_n 0, 1) := by decide +kernel
theorem dX1_init_5 : decode cX1_init 5 = .ok (.bipush 10, 2) := by decide +kernel
theorem dX1_init_7 : decode cX1_init 7 = .ok (.newarray .int, 2) := by decide +kernel
theorem dX1_init_9 : decode cX1_init 9 = .ok (.putfield 9, 3) := by decide +kernel
theorem dX1_init_12 : decode cX1_init 12 = .ok (.aload_n 0, 1) := by decide +kernel
theorem dX1_init_13 : decode cX1_init 13 = .ok (.bipush 10, 2) := by decide +kernel
theorem dX1_init_15 : decode cX1_init 15 = .ok (.newarray .int, 2) := by decide +kernel
theorem dX1_init_17 : decode cX1_init 17 = .ok (.putfield 15, 3) := by decide +kernel
theorem dX1_init_20 : decode cX1_init 20 = .ok (.aload_n 0, 1) := by decide +kernel
theorem dX1_init_21 : decode cX1_init 21 = .ok (.bipush 10, 2) := by decide +kernel
theorem dX1_init_23 : decode cX1_init 23 = .ok (.newarray .int, 2) := by decide +kernel
theorem dX1_init_25 : decode cX1_init 25 = .ok (.putfield 18, 3) := by decide +kernel
theorem dX1_init_28 : decode cX1_init 28 = .ok (.aload_n 0, 1) := by decide +kernel
theorem dX1_init_29 : decode cX1_init 29 = .ok (.bipush 10, 2) := by decide +kernel
theorem dX1_init_31 : decode cX1_init 31 = .ok (.newarray .int, 2) := by decide +kernel
theorem dX1_init_33 : decode cX1_init 33 = .ok (.putfield 21, 3) := by decide +kernel
theorem dX1_init_36 : decode cX1_init 36 = .ok (.aload_n 0, 1) := by decide +kernel
theorem dX1_init_37 : decode cX1_init 37 = .ok (.bipush 10, 2) := by decide +kernel
theorem dX1_init_39 : decode cX1_init 39 = .ok (.newarray .long, 2) := by decide +kernel
theorem dX1_init_41 : decode cX1_init 41 = .ok (.putfield 24, 3) := by decide +kernel
theorem dX1_init_44 : decode cX1_init 44 = .ok (.aload_n 0, 1) := by decide +kernel
theorem dX1_init_45 : decode cX1_init 45 = .ok (.iconst 0, 1) := by decide +kernel
theorem dX1_init_46 : decode cX1_init 46 = .ok (.putfield 28, 3) := by decide +kernel
theorem dX1_init_49 : decode cX1_init 49 = .ok (.aload_n 0, 1) := by decide +kernel
theorem dX1_init_50 : decode cX1_init 50 = .ok (.iconst 0, 1) := by decide +kernel
theorem dX1_init_51 : decode cX1_init 51 = .ok (.putfield 32, 3) := by decide +kernel
theorem dX1_init_54 : decode cX1_init 54 = .ok (.aload_n 0, 1) := by decide +kernel
theorem dX1_init_55 : decode cX1_init 55 = .ok (.iconst 0, 1) := by decide +kernel
theorem dX1_init_56 : decode cX1_init 56 = .ok (.putfield 35, 3) := by decide +kernel
theorem dX1_init_59 : decode cX1_init 59 = .ok (.aload_n 0, 1) := by decide +kernel
theorem dX1_init_60 : decode cX1_init 60 = .ok (.iconst 0, 1) := by decide +kernel
theorem dX1_init_61 : decode cX1_init 61 = .ok (.putfield 38, 3) := by decide +kernel
theorem dX1_init_64 : decode cX1_init 64 = .ok (.aload_n 0, 1) := by decide +kernel
theorem dX1_init_65 : decode cX1_init 65 = .ok (.iconst (-1), 1) := by decide +kernel
theorem dX1_init_66 : decode cX1_init 66 = .ok (.putfield 41, 3) := by decide +kernel
theorem dX1_init_69 : decode cX1_init 69 = .ok (.return_, 1) := by decide +kernel
set_option maxRecDepth 20000 in
theorem ggX1_lay_X0_cellsOfFirst : GoodIn wsX1_lay wsX0_cellsOfFirst := goodIn_ca (goodIn_r _ [16, 17, 18, 19, 15, 20, 21, 22, 23, 24, 25, 26, 27, 28, 29, 30, 31, 32, 43, 44, 45, 46, 47, 48, 49, 50, 51, 52, 53] (by decide +kernel) (by decide +kernel)) (goodIn_sub (fun _ h => List.mem_cons_of_mem _ (List.mem_append_right _ h)) (by decide +kernel))
set_option maxRecDepth 20000 in
theorem gX1_lay_X0_cellsOfFirst : GoodIn wsX1_lay (wsV RX1 47 RX0 yX0_cellsOfFirst wsX0_cellsOfFirst) := goodIn_app (goodIn_of _ (by decide +kernel)) ggX1_lay_X0_cellsOfFirst
theorem dX1_lay_0 : decode cX1_lay 0 = .ok (.aload_n 0, 1) := by decide +kernel
theorem dX1_lay_1 : decode cX1_lay 1 = .ok (.getfield 28, 3) := by decide +kernel
theorem dX1_lay_4 : decode cX1_lay 4 = .ok (.bipush 10, 2) := by decide +kernel
theorem dX1_lay_6 : decode cX1_lay 6 = .ok (.if_icmp .lt 4, 3) := by decide +kernel
theorem dX1_lay_9 : decode cX1_lay 9 = .ok (.return_, 1) := by decide +kernel
theorem dX1_lay_10 : decode cX1_lay 10 = .ok (.aload_n 0, 1) := by decide +kernel
theorem dX1_lay_11 : decode cX1_lay 11 = .ok (.getfield 9, 3) := by decide +kernel
theorem dX1_lay_14 : decode cX1_lay 14 = .ok (.aload_n 0, 1) := by decide +kernel
theorem dX1_lay_15 : decode cX1_lay 15 = .ok (.getfield 28, 3) := by decide +kernel
theorem dX1_lay_18 : decode cX1_lay 18 = .ok (.iload_n 1, 1) := by decide +kernel
theorem dX1_lay_19 : decode cX1_lay 19 = .ok (.iastore, 1) := by decide +kernel
theorem dX1_lay_20 : decode cX1_lay 20 = .ok (.aload_n 0, 1) := by decide +kernel
theorem dX1_lay_21 : decode cX1_lay 21 = .ok (.getfield 15, 3) := by decide +kernel
theorem dX1_lay_24 : decode cX1_lay 24 = .ok (.aload_n 0, 1) := by decide +kernel
theorem dX1_lay_25 : decode cX1_lay 25 = .ok (.getfield 28, 3) := by decide +kernel
theorem dX1_lay_28 : decode cX1_lay 28 = .ok (.iload_n 3, 1) := by decide +kernel
theorem dX1_lay_29 : decode cX1_lay 29 = .ok (.iastore, 1) := by decide +kernel
theorem dX1_lay_30 : decode cX1_lay 30 = .ok (.aload_n 0, 1) := by decide +kernel
theorem dX1_lay_31 : decode cX1_lay 31 = .ok (.getfield 18, 3) := by decide +kernel
theorem dX1_lay_34 : decode cX1_lay 34 = .ok (.aload_n 0, 1) := by decide +kernel
theorem dX1_lay_35 : decode cX1_lay 35 = .ok (.getfield 28, 3) := by decide +kernel
theorem dX1_lay_38 : decode cX1_lay 38 = .ok (.aload_n 0, 1) := by decide +kernel
theorem dX1_lay_39 : decode cX1_lay 39 = .ok (.getfield 32, 3) := by decide +kernel
theorem dX1_lay_42 : decode cX1_lay 42 = .ok (.iastore, 1) := by decide +kernel
theorem dX1_lay_43 : decode cX1_lay 43 = .ok (.aload_n 0, 1) := by decide +kernel
theorem dX1_lay_44 : decode cX1_lay 44 = .ok (.getfield 21, 3) := by decide +kernel
theorem dX1_lay_47 : decode cX1_lay 47 = .ok (.aload_n 0, 1) := by decide +kernel
theorem dX1_lay_48 : decode cX1_lay 48 = .ok (.getfield 28, 3) := by decide +kernel
theorem dX1_lay_51 : decode cX1_lay 51 = .ok (.aload_n 2, 1) := by decide +kernel
theorem dX1_lay_52 : decode cX1_lay 52 = .ok (.getfield 44, 3) := by decide +kernel
theorem dX1_lay_55 : decode cX1_lay 55 = .ok (.iload_n 3, 1) := by decide +kernel
theorem dX1_lay_56 : decode cX1_lay 56 = .ok (.imul, 1) := by decide +kernel
theorem dX1_lay_57 : decode cX1_lay 57 = .ok (.iastore, 1) := by decide +kernel
theorem dX1_lay_58 : decode cX1_lay 58 = .ok (.aload_n 0, 1) := by decide +kernel
theorem dX1_lay_59 : decode cX1_lay 59 = .ok (.getfield 24, 3) := by decide +kernel
theorem dX1_lay_62 : decode cX1_lay 62 = .ok (.aload_n 0, 1) := by decide +kernel
theorem dX1_lay_63 : decode cX1_lay 63 = .ok (.getfield 28, 3) := by decide +kernel
theorem dX1_lay_66 : decode cX1_lay 66 = .ok (.aload_n 2, 1) := by decide +kernel
theorem dX1_lay_67 : decode cX1_lay 67 = .ok (.iload_n 3, 1) := by decide +kernel
theorem dX1_lay_68 : decode cX1_lay 68 = .ok (.invokevirtual 47, 3) := by decide +kernel
theorem dX1_lay_71 : decode cX1_lay 71 = .ok (.lastore, 1) := by decide +kernel
theorem dX1_lay_72 : decode cX1_lay 72 = .ok (.aload_n 0, 1) := by decide +kernel
theorem dX1_lay_73 : decode cX1_lay 73 = .ok (.dup, 1) := by decide +kernel
theorem dX1_lay_74 : decode cX1_lay 74 = .ok (.getfield 32, 3) := by decide +kernel
theorem dX1_lay_77 : decode cX1_lay 77 = .ok (.aload_n 2, 1) := by decide +kernel
theorem dX1_lay_78 : decode cX1_lay 78 = .ok (.getfield 51, 3) := by decide +kernel
theorem dX1_lay_81 : decode cX1_lay 81 = .ok (.iadd, 1) := by decide +kernel
theorem dX1_lay_82 : decode cX1_lay 82 = .ok (.putfield 32, 3) := by decide +kernel
theorem dX1_lay_85 : decode cX1_lay 85 = .ok (.aload_n 0, 1) := by decide +kernel
theorem dX1_lay_86 : decode cX1_lay 86 = .ok (.dup, 1) := by decide +kernel
theorem dX1_lay_87 : decode cX1_lay 87 = .ok (.getfield 35, 3) := by decide +kernel
theorem dX1_lay_90 : decode cX1_lay 90 = .ok (.aload_n 2, 1) := by decide +kernel
theorem dX1_lay_91 : decode cX1_lay 91 = .ok (.getfield 44, 3) := by decide +kernel
theorem dX1_lay_94 : decode cX1_lay 94 = .ok (.iload_n 3, 1) := by decide +kernel
theorem dX1_lay_95 : decode cX1_lay 95 = .ok (.imul, 1) := by decide +kernel
theorem dX1_lay_96 : decode cX1_lay 96 = .ok (.iadd, 1) := by decide +kernel
theorem dX1_lay_97 : decode cX1_lay 97 = .ok (.putfield 35, 3) := by decide +kernel
theorem dX1_lay_100 : decode cX1_lay 100 = .ok (.aload_n 0, 1) := by decide +kernel
theorem dX1_lay_101 : decode cX1_lay 101 = .ok (.dup, 1) := by decide +kernel
theorem dX1_lay_102 : decode cX1_lay 102 = .ok (.getfield 38, 3) := by decide +kernel
theorem dX1_lay_105 : decode cX1_lay 105 = .ok (.iload_n 3, 1) := by decide +kernel
theorem dX1_lay_106 : decode cX1_lay 106 = .ok (.iadd, 1) := by decide +kernel
theorem dX1_lay_107 : decode cX1_lay 107 = .ok (.putfield 38, 3) := by decide +kernel
theorem dX1_lay_110 : decode cX1_lay 110 = .ok (.aload_n 0, 1) := by decide +kernel
theorem dX1_lay_111 : decode cX1_lay 111 = .ok (.dup, 1) := by decide +kernel
theorem dX1_lay_112 : decode cX1_lay 112 = .ok (.getfield 28, 3) := by decide +kernel
theorem dX1_lay_115 : decode cX1_lay 115 = .ok (.iconst 1, 1) := by decide +kernel
theorem dX1_lay_116 : decode cX1_lay 116 = .ok (.iadd, 1) := by decide +kernel
theorem dX1_lay_117 : decode cX1_lay 117 = .ok (.putfield 28, 3) := by decide +kernel
theorem dX1_lay_120 : decode cX1_lay 120 = .ok (.return_, 1) := by decide +kernel
theorem dX1_liftTop_0 : decode cX1_liftTop 0 = .ok (.aload_n 0, 1) := by decide +kernel
theorem dX1_liftTop_1 : decode cX1_liftTop 1 = .ok (.getfield 28, 3) := by decide +kernel
theorem dX1_liftTop_4 : decode cX1_liftTop 4 = .ok (.ifCond .ne 5, 3) := by decide +kernel
theorem dX1_liftTop_7 : decode cX1_liftTop 7 = .ok (.iconst 0, 1) := by decide +kernel
theorem dX1_liftTop_8 : decode cX1_liftTop 8 = .ok (.ireturn, 1) := by decide +kernel
theorem dX1_liftTop_9 : decode cX1_liftTop 9 = .ok (.aload_n 0, 1) := by decide +kernel
theorem dX1_liftTop_10 : decode cX1_liftTop 10 = .ok (.dup, 1) := by decide +kernel
theorem dX1_liftTop_11 : decode cX1_liftTop 11 = .ok (.getfield 28, 3) := by decide +kernel
theorem dX1_liftTop_14 : decode cX1_liftTop 14 = .ok (.iconst 1, 1) := by decide +kernel
theorem dX1_liftTop_15 : decode cX1_liftTop 15 = .ok (.isub, 1) := by decide +kernel
theorem dX1_liftTop_16 : decode cX1_liftTop 16 = .ok (.putfield 28, 3) := by decide +kernel
theorem dX1_liftTop_19 : decode cX1_liftTop 19 = .ok (.aload_n 0, 1) := by decide +kernel
theorem dX1_liftTop_20 : decode cX1_liftTop 20 = .ok (.aload_n 0, 1) := by decide +kernel
theorem dX1_liftTop_21 : decode cX1_liftTop 21 = .ok (.getfield 18, 3) := by decide +kernel
theorem dX1_liftTop_24 : decode cX1_liftTop 24 = .ok (.aload_n 0, 1) := by decide +kernel
theorem dX1_liftTop_25 : decode cX1_liftTop 25 = .ok (.getfield 28, 3) := by decide +kernel
theorem dX1_liftTop_28 : decode cX1_liftTop 28 = .ok (.iaload, 1) := by decide +kernel
theorem dX1_liftTop_29 : decode cX1_liftTop 29 = .ok (.putfield 32, 3) := by decide +kernel
theorem dX1_liftTop_32 : decode cX1_liftTop 32 = .ok (.aload_n 0, 1) := by decide +kernel
theorem dX1_liftTop_33 : decode cX1_liftTop 33 = .ok (.dup, 1) := by decide +kernel
theorem dX1_liftTop_34 : decode cX1_liftTop 34 = .ok (.getfield 35, 3) := by decide +kernel
theorem dX1_liftTop_37 : decode cX1_liftTop 37 = .ok (.aload_n 0, 1) := by decide +kernel
theorem dX1_liftTop_38 : decode cX1_liftTop 38 = .ok (.getfield 21, 3) := by decide +kernel
theorem dX1_liftTop_41 : decode cX1_liftTop 41 = .ok (.aload_n 0, 1) := by decide +kernel
theorem dX1_liftTop_42 : decode cX1_liftTop 42 = .ok (.getfield 28, 3) := by decide +kernel
theorem dX1_liftTop_45 : decode cX1_liftTop 45 = .ok (.iaload, 1) := by decide +kernel
theorem dX1_liftTop_46 : decode cX1_liftTop 46 = .ok (.isub, 1) := by decide +kernel
theorem dX1_liftTop_47 : decode cX1_liftTop 47 = .ok (.putfield 35, 3) := by decide +kernel
theorem dX1_liftTop_50 : decode cX1_liftTop 50 = .ok (.aload_n 0, 1) := by decide +kernel
theorem dX1_liftTop_51 : decode cX1_liftTop 51 = .ok (.dup, 1) := by decide +kernel
theorem dX1_liftTop_52 : decode cX1_liftTop 52 = .ok (.getfield 38, 3) := by decide +kernel
theorem dX1_liftTop_55 : decode cX1_liftTop 55 = .ok (.aload_n 0, 1) := by decide +kernel
theorem dX1_liftTop_56 : decode cX1_liftTop 56 = .ok (.getfield 15, 3) := by decide +kernel
theorem dX1_liftTop_59 : decode cX1_liftTop 59 = .ok (.aload_n 0, 1) := by decide +kernel
theorem dX1_liftTop_60 : decode cX1_liftTop 60 = .ok (.getfield 28, 3) := by decide +kernel
theorem dX1_liftTop_63 : decode cX1_liftTop 63 = .ok (.iaload, 1) := by decide +kernel
theorem dX1_liftTop_64 : decode cX1_liftTop 64 = .ok (.isub, 1) := by decide +kernel
theorem dX1_liftTop_65 : decode cX1_liftTop 65 = .ok (.putfield 38, 3) := by decide +kernel
theorem dX1_liftTop_68 : decode cX1_liftTop 68 = .ok (.aload_n 0, 1) := by decide +kernel
theorem dX1_liftTop_69 : decode cX1_liftTop 69 = .ok (.getfield 15, 3) := by decide +kernel
theorem dX1_liftTop_72 : decode cX1_liftTop 72 = .ok (.aload_n 0, 1) := by decide +kernel
theorem dX1_liftTop_73 : decode cX1_liftTop 73 = .ok (.getfield 28, 3) := by decide +kernel
theorem dX1_liftTop_76 : decode cX1_liftTop 76 = .ok (.iaload, 1) := by decide +kernel
theorem dX1_liftTop_77 : decode cX1_liftTop 77 = .ok (.ireturn, 1) := by decide +kernel
theorem dX1_clear_0 : decode cX1_clear 0 = .ok (.aload_n 0, 1) := by decide +kernel
theorem dX1_clear_1 : decode cX1_clear 1 = .ok (.iconst 0, 1) := by decide +kernel
theorem dX1_clear_2 : decode cX1_clear 2 = .ok (.putfield 28, 3) := by decide +kernel
theorem dX1_clear_5 : decode cX1_clear 5 = .ok (.aload_n 0, 1) := by decide +kernel
theorem dX1_clear_6 : decode cX1_clear 6 = .ok (.iconst 0, 1) := by decide +kernel
theorem dX1_clear_7 : decode cX1_clear 7 = .ok (.putfield 32, 3) := by decide +kernel
theorem dX1_clear_10 : decode cX1_clear 10 = .ok (.aload_n 0, 1) := by decide +kernel
theorem dX1_clear_11 : decode cX1_clear 11 = .ok (.iconst 0, 1) := by decide +kernel
theorem dX1_clear_12 : decode cX1_clear 12 = .ok (.putfield 35, 3) := by decide +kernel
theorem dX1_clear_15 : decode cX1_clear 15 = .ok (.aload_n 0, 1) := by decide +kernel
theorem dX1_clear_16 : decode cX1_clear 16 = .ok (.iconst 0, 1) := by decide +kernel
theorem dX1_clear_17 : decode cX1_clear 17 = .ok (.putfield 38, 3) := by decide +kernel
theorem dX1_clear_20 : decode cX1_clear 20 = .ok (.aload_n 0, 1) := by decide +kernel
theorem dX1_clear_21 : decode cX1_clear 21 = .ok (.iconst (-1), 1) := by decide +kernel
theorem dX1_clear_22 : decode cX1_clear 22 = .ok (.putfield 41, 3) := by decide +kernel
theorem dX1_clear_25 : decode cX1_clear 25 = .ok (.return_, 1) := by decide +kernel
set_option maxRecDepth 20000 in
theorem ggX1_coveredIn_X3_isOutside : GoodIn wsX1_coveredIn wsX3_isOutside := goodIn_r _ [5] (by decide +kernel) (by decide +kernel)
set_option maxRecDepth 20000 in
theorem gX1_coveredIn_X3_isOutside_n52 : GoodIn wsX1_coveredIn (wsX3_isOutside) := ggX1_coveredIn_X3_isOutside
theorem dX1_coveredIn_0 : decode cX1_coveredIn 0 = .ok (.iload_n 1, 1) := by decide +kernel
theorem dX1_coveredIn_1 : decode cX1_coveredIn 1 = .ok (.iconst 0, 1) := by decide +kernel
theorem dX1_coveredIn_2 : decode cX1_coveredIn 2 = .ok (.aload_n 0, 1) := by decide +kernel
theorem dX1_coveredIn_3 : decode cX1_coveredIn 3 = .ok (.getfield 28, 3) := by decide +kernel
theorem dX1_coveredIn_6 : decode cX1_coveredIn 6 = .ok (.iconst 1, 1) := by decide +kernel
theorem dX1_coveredIn_7 : decode cX1_coveredIn 7 = .ok (.isub, 1) := by decide +kernel
theorem dX1_coveredIn_8 : decode cX1_coveredIn 8 = .ok (.invokestatic 52, 3) := by decide +kernel
theorem dX1_coveredIn_11 : decode cX1_coveredIn 11 = .ok (.ifCond .eq 7, 3) := by decide +kernel
theorem dX1_coveredIn_14 : decode cX1_coveredIn 14 = .ok (.lconst 0, 1) := by decide +kernel
theorem dX1_coveredIn_15 : decode cX1_coveredIn 15 = .ok (.goto 9, 3) := by decide +kernel
theorem dX1_coveredIn_18 : decode cX1_coveredIn 18 = .ok (.aload_n 0, 1) := by decide +kernel
theorem dX1_coveredIn_19 : decode cX1_coveredIn 19 = .ok (.getfield 24, 3) := by decide +kernel
theorem dX1_coveredIn_22 : decode cX1_coveredIn 22 = .ok (.iload_n 1, 1) := by decide +kernel
theorem dX1_coveredIn_23 : decode cX1_coveredIn 23 = .ok (.laload, 1) := by decide +kernel
theorem dX1_coveredIn_24 : decode cX1_coveredIn 24 = .ok (.lreturn, 1) := by decide +kernel
theorem dX1_kindBits_0 : decode cX1_kindBits 0 = .ok (.iconst 0, 1) := by decide +kernel
theorem dX1_kindBits_1 : decode cX1_kindBits 1 = .ok (.istore_n 1, 1) := by decide +kernel
theorem dX1_kindBits_2 : decode cX1_kindBits 2 = .ok (.iconst 0, 1) := by decide +kernel
theorem dX1_kindBits_3 : decode cX1_kindBits 3 = .ok (.istore_n 2, 1) := by decide +kernel
theorem dX1_kindBits_4 : decode cX1_kindBits 4 = .ok (.iload_n 2, 1) := by decide +kernel
theorem dX1_kindBits_5 : decode cX1_kindBits 5 = .ok (.aload_n 0, 1) := by decide +kernel
theorem dX1_kindBits_6 : decode cX1_kindBits 6 = .ok (.getfield 28, 3) := by decide +kernel
theorem dX1_kindBits_9 : decode cX1_kindBits 9 = .ok (.if_icmp .ge 20, 3) := by decide +kernel
theorem dX1_kindBits_12 : decode cX1_kindBits 12 = .ok (.iload_n 1, 1) := by decide +kernel
theorem dX1_kindBits_13 : decode cX1_kindBits 13 = .ok (.iconst 1, 1) := by decide +kernel
theorem dX1_kindBits_14 : decode cX1_kindBits 14 = .ok (.aload_n 0, 1) := by decide +kernel
theorem dX1_kindBits_15 : decode cX1_kindBits 15 = .ok (.getfield 9, 3) := by decide +kernel
theorem dX1_kindBits_18 : decode cX1_kindBits 18 = .ok (.iload_n 2, 1) := by decide +kernel
theorem dX1_kindBits_19 : decode cX1_kindBits 19 = .ok (.iaload, 1) := by decide +kernel
theorem dX1_kindBits_20 : decode cX1_kindBits 20 = .ok (.ishl, 1) := by decide +kernel
theorem dX1_kindBits_21 : decode cX1_kindBits 21 = .ok (.ior, 1) := by decide +kernel
theorem dX1_kindBits_22 : decode cX1_kindBits 22 = .ok (.istore_n 1, 1) := by decide +kernel
theorem dX1_kindBits_23 : decode cX1_kindBits 23 = .ok (.iinc 2 1, 3) := by decide +kernel
theorem dX1_kindBits_26 : decode cX1_kindBits 26 = .ok (.goto (-22), 3) := by decide +kernel
theorem dX1_kindBits_29 : decode cX1_kindBits 29 = .ok (.iload_n 1, 1) := by decide +kernel
theorem dX1_kindBits_30 : decode cX1_kindBits 30 = .ok (.ireturn, 1) := by decide +kernel
theorem dX2_init_0 : decode cX2_init 0 = .ok (.aload_n 0, 1) := by decide +kernel
theorem dX2_init_1 : decode cX2_init 1 = .ok (.invokespecial 3, 3) := by decide +kernel
theorem dX2_init_4 : decode cX2_init 4 = .ok (.aload_n 0, 1) := by decide +kernel
theorem dX2_init_5 : decode cX2_init 5 = .ok (.bipush 36, 2) := by decide +kernel
theorem dX2_init_7 : decode cX2_init 7 = .ok (.newarray .int, 2) := by decide +kernel
theorem dX2_init_9 : decode cX2_init 9 = .ok (.putfield 9, 3) := by decide +kernel
theorem dX2_init_12 : decode cX2_init 12 = .ok (.aload_n 0, 1) := by decide +kernel
theorem dX2_init_13 : decode cX2_init 13 = .ok (.bipush 36, 2) := by decide +kernel
theorem dX2_init_15 : decode cX2_init 15 = .ok (.newarray .int, 2) := by decide +kernel
theorem dX2_init_17 : decode cX2_init 17 = .ok (.putfield 15, 3) := by decide +kernel
theorem dX2_init_20 : decode cX2_init 20 = .ok (.aload_n 0, 1) := by decide +kernel
theorem dX2_init_21 : decode cX2_init 21 = .ok (.iconst 0, 1) := by decide +kernel
theorem dX2_init_22 : decode cX2_init 22 = .ok (.putfield 18, 3) := by decide +kernel
theorem dX2_init_25 : decode cX2_init 25 = .ok (.aload_n 0, 1) := by decide +kernel
theorem dX2_init_26 : decode cX2_init 26 = .ok (.iconst 0, 1) := by decide +kernel
theorem dX2_init_27 : decode cX2_init 27 = .ok (.putfield 22, 3) := by decide +kernel
theorem dX2_init_30 : decode cX2_init 30 = .ok (.aload_n 0, 1) := by decide +kernel
theorem dX2_init_31 : decode cX2_init 31 = .ok (.iconst (-1), 1) := by decide +kernel
theorem dX2_init_32 : decode cX2_init 32 = .ok (.putfield 25, 3) := by decide +kernel
theorem dX2_init_35 : decode cX2_init 35 = .ok (.aload_n 0, 1) := by decide +kernel
theorem dX2_init_36 : decode cX2_init 36 = .ok (.iconst 0, 1) := by decide +kernel
theorem dX2_init_37 : decode cX2_init 37 = .ok (.putfield 28, 3) := by decide +kernel
theorem dX2_init_40 : decode cX2_init 40 = .ok (.aload_n 0, 1) := by decide +kernel
theorem dX2_init_41 : decode cX2_init 41 = .ok (.iload_n 1, 1) := by decide +kernel
theorem dX2_init_42 : decode cX2_init 42 = .ok (.putfield 32, 3) := by decide +kernel
theorem dX2_init_45 : decode cX2_init 45 = .ok (.aload_n 0, 1) := by decide +kernel
theorem dX2_init_46 : decode cX2_init 46 = .ok (.iload_n 2, 1) := by decide +kernel
theorem dX2_init_47 : decode cX2_init 47 = .ok (.putfield 35, 3) := by decide +kernel
theorem dX2_init_50 : decode cX2_init 50 = .ok (.aload_n 0, 1) := by decide +kernel
theorem dX2_init_51 : decode cX2_init 51 = .ok (.iload_n 1, 1) := by decide +kernel
theorem dX2_init_52 : decode cX2_init 52 = .ok (.iload_n 2, 1) := by decide +kernel
theorem dX2_init_53 : decode cX2_init 53 = .ok (.imul, 1) := by decide +kernel
theorem dX2_init_54 : decode cX2_init 54 = .ok (.putfield 38, 3) := by decide +kernel
theorem dX2_init_57 : decode cX2_init 57 = .ok (.return_, 1) := by decide +kernel
set_option maxRecDepth 20000 in
theorem ggX2_seek_X0_keepPattern : GoodIn wsX2_seek wsX0_keepPattern := goodIn_ca (goodIn_r _ [12, 13, 14, 15, 16, 17, 18, 19, 83, 84, 85, 86, 87, 88, 89, 90, 91, 92, 93] (by decide +kernel) (by decide +kernel)) (goodIn_sub (fun _ h => List.mem_cons_of_mem _ (List.mem_append_right _ h)) (by decide +kernel))
set_option maxRecDepth 20000 in
theorem gX2_seek_X0_keepPattern : GoodIn wsX2_seek (wsV RX2 41 RX0 yX0_keepPattern wsX0_keepPattern) := goodIn_app (goodIn_of _ (by decide +kernel)) ggX2_seek_X0_keepPattern
set_option maxRecDepth 20000 in
theorem ggX2_seek_X2_goOn : GoodIn wsX2_seek wsX2_goOn := goodIn_ca (goodIn_r _ [24, 25, 26, 27, 28, 29, 30, 23, 31, 32, 33, 34, 35, 3, 5, 6, 8, 9, 10, 11, 12, 13, 14, 15, 16, 17, 18, 19, 36, 37, 38, 39, 40, 41, 42, 43, 44, 45, 46, 47, 48, 49, 50, 51, 52, 53, 54, 2, 1, 4, 20, 21, 22, 55, 56, 57, 58, 59, 60, 61, 62, 63, 64, 65, 66, 67, 68, 69, 70, 71, 72, 73, 74, 75, 76, 77, 78, 79, 80, 81, 82, 83, 84, 85, 86, 87, 88, 89, 90, 91, 92, 93] (by decide +kernel) (by decide +kernel)) (goodIn_sub (fun _ h => List.mem_cons_of_mem _ (List.mem_append_right _ h)) (by decide +kernel))
set_option maxRecDepth 20000 in
theorem gX2_seek_X2_goOn : GoodIn wsX2_seek (wsV RX2 47 RX2 yX2_goOn wsX2_goOn) := goodIn_app (goodIn_of _ (by decide +kernel)) ggX2_seek_X2_goOn
theorem dX2_seek_0 : decode cX2_seek 0 = .ok (.aload_n 0, 1) := by decide +kernel
theorem dX2_seek_1 : decode cX2_seek 1 = .ok (.iload_n 2, 1) := by decide +kernel
theorem dX2_seek_2 : decode cX2_seek 2 = .ok (.putfield 18, 3) := by decide +kernel
theorem dX2_seek_5 : decode cX2_seek 5 = .ok (.aload_n 0, 1) := by decide +kernel
theorem dX2_seek_6 : decode cX2_seek 6 = .ok (.iconst 0, 1) := by decide +kernel
theorem dX2_seek_7 : decode cX2_seek 7 = .ok (.putfield 22, 3) := by decide +kernel
theorem dX2_seek_10 : decode cX2_seek 10 = .ok (.aload_n 0, 1) := by decide +kernel
theorem dX2_seek_11 : decode cX2_seek 11 = .ok (.iconst (-1), 1) := by decide +kernel
theorem dX2_seek_12 : decode cX2_seek 12 = .ok (.putfield 25, 3) := by decide +kernel
theorem dX2_seek_15 : decode cX2_seek 15 = .ok (.aload_n 0, 1) := by decide +kernel
theorem dX2_seek_16 : decode cX2_seek 16 = .ok (.iconst 0, 1) := by decide +kernel
theorem dX2_seek_17 : decode cX2_seek 17 = .ok (.putfield 28, 3) := by decide +kernel
theorem dX2_seek_20 : decode cX2_seek 20 = .ok (.aload_n 1, 1) := by decide +kernel
theorem dX2_seek_21 : decode cX2_seek 21 = .ok (.aload_n 0, 1) := by decide +kernel
theorem dX2_seek_22 : decode cX2_seek 22 = .ok (.getfield 9, 3) := by decide +kernel
theorem dX2_seek_25 : decode cX2_seek 25 = .ok (.aload_n 0, 1) := by decide +kernel
theorem dX2_seek_26 : decode cX2_seek 26 = .ok (.getfield 15, 3) := by decide +kernel
theorem dX2_seek_29 : decode cX2_seek 29 = .ok (.iconst 0, 1) := by decide +kernel
theorem dX2_seek_30 : decode cX2_seek 30 = .ok (.invokevirtual 41, 3) := by decide +kernel
theorem dX2_seek_33 : decode cX2_seek 33 = .ok (.aload_n 0, 1) := by decide +kernel
theorem dX2_seek_34 : decode cX2_seek 34 = .ok (.aload_n 1, 1) := by decide +kernel
theorem dX2_seek_35 : decode cX2_seek 35 = .ok (.iconst 0, 1) := by decide +kernel
theorem dX2_seek_36 : decode cX2_seek 36 = .ok (.lconst 0, 1) := by decide +kernel
theorem dX2_seek_37 : decode cX2_seek 37 = .ok (.iconst 0, 1) := by decide +kernel
theorem dX2_seek_38 : decode cX2_seek 38 = .ok (.invokevirtual 47, 3) := by decide +kernel
theorem dX2_seek_41 : decode cX2_seek 41 = .ok (.aload_n 1, 1) := by decide +kernel
theorem dX2_seek_42 : decode cX2_seek 42 = .ok (.aload_n 0, 1) := by decide +kernel
theorem dX2_seek_43 : decode cX2_seek 43 = .ok (.getfield 28, 3) := by decide +kernel
theorem dX2_seek_46 : decode cX2_seek 46 = .ok (.ifCond .ne 7, 3) := by decide +kernel
theorem dX2_seek_49 : decode cX2_seek 49 = .ok (.iconst 1, 1) := by decide +kernel
theorem dX2_seek_50 : decode cX2_seek 50 = .ok (.goto 4, 3) := by decide +kernel
theorem dX2_seek_53 : decode cX2_seek 53 = .ok (.iconst 0, 1) := by decide +kernel
theorem dX2_seek_54 : decode cX2_seek 54 = .ok (.putfield 51, 3) := by decide +kernel
theorem dX2_seek_57 : decode cX2_seek 57 = .ok (.return_, 1) := by decide +kernel
set_option maxRecDepth 20000 in
theorem ggX2_goOn_X2_firstOpen : GoodIn wsX2_goOn wsX2_firstOpen := goodIn_r _ [8, 1, 72, 73, 74, 75, 76, 77, 78, 79, 80] (by decide +kernel) (by decide +kernel)
set_option maxRecDepth 20000 in
theorem gX2_goOn_X2_firstOpen : GoodIn wsX2_goOn (wsV RX2 54 RX2 yX2_firstOpen wsX2_firstOpen) := goodIn_app (goodIn_of _ (by decide +kernel)) ggX2_goOn_X2_firstOpen
set_option maxRecDepth 20000 in
theorem ggX2_goOn_X2_keepIfBetter : GoodIn wsX2_goOn wsX2_keepIfBetter := goodIn_ca (goodIn_r _ [12, 13, 14, 15, 16, 17, 18, 19, 20, 21, 22, 23, 24, 25, 26, 27, 72, 73, 74, 75, 76, 77, 78, 79, 80, 81, 82, 83, 84, 85, 86, 87, 88, 89, 90, 91] (by decide +kernel) (by decide +kernel)) (goodIn_sub (fun _ h => List.mem_cons_of_mem _ (List.mem_append_right _ h)) (by decide +kernel))
set_option maxRecDepth 20000 in
theorem gX2_goOn_X2_keepIfBetter : GoodIn wsX2_goOn (wsV RX2 58 RX2 yX2_keepIfBetter wsX2_keepIfBetter) := goodIn_app (goodIn_of _ (by decide +kernel)) ggX2_goOn_X2_keepIfBetter
set_option maxRecDepth 20000 in
theorem ggX2_goOn_X2_mayBeatBest : GoodIn wsX2_goOn wsX2_mayBeatBest := goodIn_r _ [31, 1, 32, 13, 33, 34, 35, 36, 37, 38, 39, 72, 73, 74, 75, 76, 77, 78, 79, 80, 81, 82, 83, 84, 85, 86, 87, 88, 89, 90, 91] (by decide +kernel) (by decide +kernel)
set_option maxRecDepth 20000 in
theorem gX2_goOn_X2_mayBeatBest : GoodIn wsX2_goOn (wsV RX2 62 RX2 yX2_mayBeatBest wsX2_mayBeatBest) := goodIn_app (goodIn_of _ (by decide +kernel)) ggX2_goOn_X2_mayBeatBest
set_option maxRecDepth 20000 in
theorem ggX2_goOn_X2_tryBox : GoodIn wsX2_goOn wsX2_tryBox := goodIn_ca (goodIn_r _ [53, 54, 55, 14, 15, 56, 57, 58, 19, 59, 60, 61, 62, 63, 64, 65, 66, 67, 68, 69, 70, 71, 43, 44, 45, 7, 46, 47, 48, 49, 50, 51, 52, 0, 1, 2, 3, 4, 5, 6, 8, 9, 10, 11, 12, 13, 16, 17, 18, 20, 21, 22, 23, 24, 25, 26, 27, 28, 29, 30, 31, 32, 33, 34, 35, 36, 37, 38, 39, 40, 41, 42, 72, 73, 74, 75, 76, 77, 78, 79, 80, 81, 82, 83, 84, 85, 86, 87, 88, 89, 90, 91] (by decide +kernel) (by decide +kernel)) (goodIn_sub (fun _ h => List.mem_cons_of_mem _ (List.mem_append_right _ h)) (by decide +kernel))
set_option maxRecDepth 20000 in
theorem gX2_goOn_X2_tryBox : GoodIn wsX2_goOn (wsV RX2 66 RX2 yX2_tryBox wsX2_tryBox) := goodIn_app (goodIn_of _ (by decide +kernel)) ggX2_goOn_X2_tryBox
set_option maxRecDepth 20000 in
theorem ggX2_goOn_X2_takeStep : GoodIn wsX2_goOn wsX2_takeStep := goodIn_r _ [46, 47, 48, 49, 72, 73, 74, 75, 76, 77, 78, 79, 80] (by decide +kernel) (by decide +kernel)
set_option maxRecDepth 20000 in
theorem gX2_goOn_X2_takeStep : GoodIn wsX2_goOn (wsV RX2 76 RX2 yX2_takeStep wsX2_takeStep) := goodIn_app (goodIn_of _ (by decide +kernel)) ggX2_goOn_X2_takeStep
set_option maxRecDepth 20000 in
theorem ggX2_goOn_X2_goOn : GoodIn wsX2_goOn wsX2_goOn := goodIn_ca (goodIn_r _ [0, 1, 2, 3, 4, 5, 6, 7, 8, 9, 10, 11, 12, 13, 14, 15, 16, 17, 18, 19, 20, 21, 22, 23, 24, 25, 26, 27, 28, 29, 30, 31, 32, 33, 34, 35, 36, 37, 38, 39, 40, 41, 42, 43, 44, 45, 46, 47, 48, 49, 50, 51, 52, 53, 54, 55, 56, 57, 58, 59, 60, 61, 62, 63, 64, 65, 66, 67, 68, 69, 70, 71, 72, 73, 74, 75, 76, 77, 78, 79, 80, 81, 82, 83, 84, 85, 86, 87, 88, 89, 90, 91] (by decide +kernel) (by decide +kernel)) (goodIn_sub (fun _ h => List.mem_cons_of_mem _ (List.mem_append_right _ h)) (by decide +kernel))
set_option maxRecDepth 20000 in
theorem gX2_goOn_X2_goOn : GoodIn wsX2_goOn (wsV RX2 47 RX2 yX2_goOn wsX2_goOn) := goodIn_app (goodIn_of _ (by decide +kernel)) ggX2_goOn_X2_goOn
theorem dX2_goOn_0 : decode cX2_goOn 0 = .ok (.aload_n 0, 1) := by decide +kernel
theorem dX2_goOn_1 : decode cX2_goOn 1 = .ok (.iload_n 2, 1) := by decide +kernel
theorem dX2_goOn_2 : decode cX2_goOn 2 = .ok (.lload_n 3, 1) := by decide +kernel
theorem dX2_goOn_3 : decode cX2_goOn 3 = .ok (.invokevirtual 54, 3) := by decide +kernel
theorem dX2_goOn_6 : decode cX2_goOn 6 = .ok (.istore 6, 2) := by decide +kernel
theorem dX2_goOn_8 : decode cX2_goOn 8 = .ok (.iload 6, 2) := by decide +kernel
theorem dX2_goOn_10 : decode cX2_goOn 10 = .ok (.aload_n 0, 1) := by decide +kernel
theorem dX2_goOn_11 : decode cX2_goOn 11 = .ok (.getfield 38, 3) := by decide +kernel
theorem dX2_goOn_14 : decode cX2_goOn 14 = .ok (.if_icmp .lt 11, 3) := by decide +kernel
theorem dX2_goOn_17 : decode cX2_goOn 17 = .ok (.aload_n 0, 1) := by decide +kernel
theorem dX2_goOn_18 : decode cX2_goOn 18 = .ok (.aload_n 1, 1) := by decide +kernel
theorem dX2_goOn_19 : decode cX2_goOn 19 = .ok (.iload 5, 2) := by decide +kernel
theorem dX2_goOn_21 : decode cX2_goOn 21 = .ok (.invokevirtual 58, 3) := by decide +kernel
theorem dX2_goOn_24 : decode cX2_goOn 24 = .ok (.return_, 1) := by decide +kernel
theorem dX2_goOn_25 : decode cX2_goOn 25 = .ok (.aload_n 0, 1) := by decide +kernel
theorem dX2_goOn_26 : decode cX2_goOn 26 = .ok (.aload_n 1, 1) := by decide +kernel
theorem dX2_goOn_27 : decode cX2_goOn 27 = .ok (.lload_n 3, 1) := by decide +kernel
theorem dX2_goOn_28 : decode cX2_goOn 28 = .ok (.iload 5, 2) := by decide +kernel
theorem dX2_goOn_30 : decode cX2_goOn 30 = .ok (.invokevirtual 62, 3) := by decide +kernel
theorem dX2_goOn_33 : decode cX2_goOn 33 = .ok (.ifCond .ne 4, 3) := by decide +kernel
theorem dX2_goOn_36 : decode cX2_goOn 36 = .ok (.return_, 1) := by decide +kernel
theorem dX2_goOn_37 : decode cX2_goOn 37 = .ok (.aload_n 0, 1) := by decide +kernel
theorem dX2_goOn_38 : decode cX2_goOn 38 = .ok (.aload_n 1, 1) := by decide +kernel
theorem dX2_goOn_39 : decode cX2_goOn 39 = .ok (.iload 6, 2) := by decide +kernel
theorem dX2_goOn_41 : decode cX2_goOn 41 = .ok (.iconst 0, 1) := by decide +kernel
theorem dX2_goOn_42 : decode cX2_goOn 42 = .ok (.lload_n 3, 1) := by decide +kernel
theorem dX2_goOn_43 : decode cX2_goOn 43 = .ok (.iload 5, 2) := by decide +kernel
theorem dX2_goOn_45 : decode cX2_goOn 45 = .ok (.invokevirtual 66, 3) := by decide +kernel
theorem dX2_goOn_48 : decode cX2_goOn 48 = .ok (.aload_n 1, 1) := by decide +kernel
theorem dX2_goOn_49 : decode cX2_goOn 49 = .ok (.getfield 70, 3) := by decide +kernel
theorem dX2_goOn_52 : decode cX2_goOn 52 = .ok (.aload_n 1, 1) := by decide +kernel
theorem dX2_goOn_53 : decode cX2_goOn 53 = .ok (.getfield 73, 3) := by decide +kernel
theorem dX2_goOn_56 : decode cX2_goOn 56 = .ok (.if_icmp .eq 14, 3) := by decide +kernel
theorem dX2_goOn_59 : decode cX2_goOn 59 = .ok (.aload_n 0, 1) := by decide +kernel
theorem dX2_goOn_60 : decode cX2_goOn 60 = .ok (.aload_n 1, 1) := by decide +kernel
theorem dX2_goOn_61 : decode cX2_goOn 61 = .ok (.iload 6, 2) := by decide +kernel
theorem dX2_goOn_63 : decode cX2_goOn 63 = .ok (.iconst 1, 1) := by decide +kernel
theorem dX2_goOn_64 : decode cX2_goOn 64 = .ok (.lload_n 3, 1) := by decide +kernel
theorem dX2_goOn_65 : decode cX2_goOn 65 = .ok (.iload 5, 2) := by decide +kernel
theorem dX2_goOn_67 : decode cX2_goOn 67 = .ok (.invokevirtual 66, 3) := by decide +kernel
theorem dX2_goOn_70 : decode cX2_goOn 70 = .ok (.aload_n 0, 1) := by decide +kernel
theorem dX2_goOn_71 : decode cX2_goOn 71 = .ok (.invokevirtual 76, 3) := by decide +kernel
theorem dX2_goOn_74 : decode cX2_goOn 74 = .ok (.ifCond .eq 20, 3) := by decide +kernel
theorem dX2_goOn_77 : decode cX2_goOn 77 = .ok (.aload_n 0, 1) := by decide +kernel
theorem dX2_goOn_78 : decode cX2_goOn 78 = .ok (.aload_n 1, 1) := by decide +kernel
theorem dX2_goOn_79 : decode cX2_goOn 79 = .ok (.iload 6, 2) := by decide +kernel
theorem dX2_goOn_81 : decode cX2_goOn 81 = .ok (.iconst 1, 1) := by decide +kernel
theorem dX2_goOn_82 : decode cX2_goOn 82 = .ok (.iadd, 1) := by decide +kernel
theorem dX2_goOn_83 : decode cX2_goOn 83 = .ok (.lload_n 3, 1) := by decide +kernel
theorem dX2_goOn_84 : decode cX2_goOn 84 = .ok (.lconst 1, 1) := by decide +kernel
theorem dX2_goOn_85 : decode cX2_goOn 85 = .ok (.iload 6, 2) := by decide +kernel
theorem dX2_goOn_87 : decode cX2_goOn 87 = .ok (.lshl, 1) := by decide +kernel
theorem dX2_goOn_88 : decode cX2_goOn 88 = .ok (.lor, 1) := by decide +kernel
theorem dX2_goOn_89 : decode cX2_goOn 89 = .ok (.iload 5, 2) := by decide +kernel
theorem dX2_goOn_91 : decode cX2_goOn 91 = .ok (.invokevirtual 47, 3) := by decide +kernel
theorem dX2_goOn_94 : decode cX2_goOn 94 = .ok (.return_, 1) := by decide +kernel
set_option maxRecDepth 20000 in
theorem ggX2_tryBox_X0_cellsAt : GoodIn wsX2_tryBox wsX0_cellsAt := goodIn_r _ [9, 10, 11, 81, 82, 83, 84, 85, 86, 87, 88, 89, 90, 91] (by decide +kernel) (by decide +kernel)
set_option maxRecDepth 20000 in
theorem gX2_tryBox_X0_cellsAt : GoodIn wsX2_tryBox (wsV RX2 80 RX0 yX0_cellsAt wsX0_cellsAt) := goodIn_app (goodIn_of _ (by decide +kernel)) ggX2_tryBox_X0_cellsAt
set_option maxRecDepth 20000 in
theorem ggX2_tryBox_X0_across : GoodIn wsX2_tryBox wsX0_across := goodIn_r _ [15, 16, 17, 81, 82, 83, 84, 85, 86, 87, 88, 89, 90, 91] (by decide +kernel) (by decide +kernel)
set_option maxRecDepth 20000 in
theorem gX2_tryBox_X0_across : GoodIn wsX2_tryBox (wsV RX2 84 RX0 yX0_across wsX0_across) := goodIn_app (goodIn_of _ (by decide +kernel)) ggX2_tryBox_X0_across
set_option maxRecDepth 20000 in
theorem ggX2_tryBox_X0_along : GoodIn wsX2_tryBox wsX0_along := goodIn_r _ [21, 17, 16, 81, 82, 83, 84, 85, 86, 87, 88, 89, 90, 91] (by decide +kernel) (by decide +kernel)
set_option maxRecDepth 20000 in
theorem gX2_tryBox_X0_along : GoodIn wsX2_tryBox (wsV RX2 88 RX0 yX0_along wsX0_along) := goodIn_app (goodIn_of _ (by decide +kernel)) ggX2_tryBox_X0_along
set_option maxRecDepth 20000 in
theorem ggX2_tryBox_X2_takeStep : GoodIn wsX2_tryBox wsX2_takeStep := goodIn_r _ [26, 27, 28, 29, 72, 73, 74, 75, 76, 77, 78, 79, 80] (by decide +kernel) (by decide +kernel)
set_option maxRecDepth 20000 in
theorem gX2_tryBox_X2_takeStep : GoodIn wsX2_tryBox (wsV RX2 76 RX2 yX2_takeStep wsX2_takeStep) := goodIn_app (goodIn_of _ (by decide +kernel)) ggX2_tryBox_X2_takeStep
set_option maxRecDepth 20000 in
theorem ggX2_tryBox_X2_goOn : GoodIn wsX2_tryBox wsX2_goOn := goodIn_ca (goodIn_r _ [33, 34, 35, 36, 37, 38, 39, 25, 40, 41, 42, 43, 44, 45, 3, 4, 46, 47, 48, 8, 49, 50, 51, 52, 53, 54, 55, 56, 57, 58, 59, 60, 61, 62, 63, 64, 65, 66, 67, 68, 69, 70, 71, 22, 23, 24, 26, 27, 28, 29, 30, 31, 32, 0, 1, 2, 5, 6, 7, 9, 10, 11, 12, 13, 14, 15, 16, 17, 18, 19, 20, 21, 72, 73, 74, 75, 76, 77, 78, 79, 80, 81, 82, 83, 84, 85, 86, 87, 88, 89, 90, 91] (by decide +kernel) (by decide +kernel)) (goodIn_sub (fun _ h => List.mem_cons_of_mem _ (List.mem_append_right _ h)) (by decide +kernel))
set_option maxRecDepth 20000 in
theorem gX2_tryBox_X2_goOn : GoodIn wsX2_tryBox (wsV RX2 47 RX2 yX2_goOn wsX2_goOn) := goodIn_app (goodIn_of _ (by decide +kernel)) ggX2_tryBox_X2_goOn
theorem dX2_tryBox_0 : decode cX2_tryBox 0 = .ok (.aload_n 1, 1) := by decide +kernel
theorem dX2_tryBox_1 : decode cX2_tryBox 1 = .ok (.iload_n 2, 1) := by decide +kernel
theorem dX2_tryBox_2 : decode cX2_tryBox 2 = .ok (.iload_n 3, 1) := by decide +kernel
theorem dX2_tryBox_3 : decode cX2_tryBox 3 = .ok (.invokevirtual 80, 3) := by decide +kernel
theorem dX2_tryBox_6 : decode cX2_tryBox 6 = .ok (.lstore 7, 2) := by decide +kernel
theorem dX2_tryBox_8 : decode cX2_tryBox 8 = .ok (.iload_n 2, 1) := by decide +kernel
theorem dX2_tryBox_9 : decode cX2_tryBox 9 = .ok (.aload_n 0, 1) := by decide +kernel
theorem dX2_tryBox_10 : decode cX2_tryBox 10 = .ok (.getfield 32, 3) := by decide +kernel
theorem dX2_tryBox_13 : decode cX2_tryBox 13 = .ok (.irem, 1) := by decide +kernel
theorem dX2_tryBox_14 : decode cX2_tryBox 14 = .ok (.aload_n 1, 1) := by decide +kernel
theorem dX2_tryBox_15 : decode cX2_tryBox 15 = .ok (.iload_n 3, 1) := by decide +kernel
theorem dX2_tryBox_16 : decode cX2_tryBox 16 = .ok (.invokevirtual 84, 3) := by decide +kernel
theorem dX2_tryBox_19 : decode cX2_tryBox 19 = .ok (.iadd, 1) := by decide +kernel
theorem dX2_tryBox_20 : decode cX2_tryBox 20 = .ok (.aload_n 0, 1) := by decide +kernel
theorem dX2_tryBox_21 : decode cX2_tryBox 21 = .ok (.getfield 32, 3) := by decide +kernel
theorem dX2_tryBox_24 : decode cX2_tryBox 24 = .ok (.if_icmp .gt 26, 3) := by decide +kernel
theorem dX2_tryBox_27 : decode cX2_tryBox 27 = .ok (.iload_n 2, 1) := by decide +kernel
theorem dX2_tryBox_28 : decode cX2_tryBox 28 = .ok (.aload_n 0, 1) := by decide +kernel
theorem dX2_tryBox_29 : decode cX2_tryBox 29 = .ok (.getfield 32, 3) := by decide +kernel
theorem dX2_tryBox_32 : decode cX2_tryBox 32 = .ok (.idiv, 1) := by decide +kernel
theorem dX2_tryBox_33 : decode cX2_tryBox 33 = .ok (.aload_n 1, 1) := by decide +kernel
theorem dX2_tryBox_34 : decode cX2_tryBox 34 = .ok (.iload_n 3, 1) := by decide +kernel
theorem dX2_tryBox_35 : decode cX2_tryBox 35 = .ok (.invokevirtual 88, 3) := by decide +kernel
theorem dX2_tryBox_38 : decode cX2_tryBox 38 = .ok (.iadd, 1) := by decide +kernel
theorem dX2_tryBox_39 : decode cX2_tryBox 39 = .ok (.aload_n 0, 1) := by decide +kernel
theorem dX2_tryBox_40 : decode cX2_tryBox 40 = .ok (.getfield 35, 3) := by decide +kernel
theorem dX2_tryBox_43 : decode cX2_tryBox 43 = .ok (.if_icmp .gt 7, 3) := by decide +kernel
theorem dX2_tryBox_46 : decode cX2_tryBox 46 = .ok (.iconst 1, 1) := by decide +kernel
theorem dX2_tryBox_47 : decode cX2_tryBox 47 = .ok (.goto 4, 3) := by decide +kernel
theorem dX2_tryBox_50 : decode cX2_tryBox 50 = .ok (.iconst 0, 1) := by decide +kernel
theorem dX2_tryBox_51 : decode cX2_tryBox 51 = .ok (.istore 9, 2) := by decide +kernel
theorem dX2_tryBox_53 : decode cX2_tryBox 53 = .ok (.iload 9, 2) := by decide +kernel
theorem dX2_tryBox_55 : decode cX2_tryBox 55 = .ok (.ifCond .eq 30, 3) := by decide +kernel
theorem dX2_tryBox_58 : decode cX2_tryBox 58 = .ok (.lload 7, 2) := by decide +kernel
theorem dX2_tryBox_60 : decode cX2_tryBox 60 = .ok (.lload 4, 2) := by decide +kernel
theorem dX2_tryBox_62 : decode cX2_tryBox 62 = .ok (.land, 1) := by decide +kernel
theorem dX2_tryBox_63 : decode cX2_tryBox 63 = .ok (.lconst 0, 1) := by decide +kernel
theorem dX2_tryBox_64 : decode cX2_tryBox 64 = .ok (.lcmp, 1) := by decide +kernel
theorem dX2_tryBox_65 : decode cX2_tryBox 65 = .ok (.ifCond .ne 20, 3) := by decide +kernel
theorem dX2_tryBox_68 : decode cX2_tryBox 68 = .ok (.iload 6, 2) := by decide +kernel
theorem dX2_tryBox_70 : decode cX2_tryBox 70 = .ok (.aload_n 0, 1) := by decide +kernel
theorem dX2_tryBox_71 : decode cX2_tryBox 71 = .ok (.getfield 9, 3) := by decide +kernel
theorem dX2_tryBox_74 : decode cX2_tryBox 74 = .ok (.arraylength, 1) := by decide +kernel
theorem dX2_tryBox_75 : decode cX2_tryBox 75 = .ok (.if_icmp .ge 10, 3) := by decide +kernel
theorem dX2_tryBox_78 : decode cX2_tryBox 78 = .ok (.aload_n 0, 1) := by decide +kernel
theorem dX2_tryBox_79 : decode cX2_tryBox 79 = .ok (.invokevirtual 76, 3) := by decide +kernel
theorem dX2_tryBox_82 : decode cX2_tryBox 82 = .ok (.ifCond .ne 4, 3) := by decide +kernel
theorem dX2_tryBox_85 : decode cX2_tryBox 85 = .ok (.return_, 1) := by decide +kernel
theorem dX2_tryBox_86 : decode cX2_tryBox 86 = .ok (.aload_n 0, 1) := by decide +kernel
theorem dX2_tryBox_87 : decode cX2_tryBox 87 = .ok (.getfield 9, 3) := by decide +kernel
theorem dX2_tryBox_90 : decode cX2_tryBox 90 = .ok (.iload 6, 2) := by decide +kernel
theorem dX2_tryBox_92 : decode cX2_tryBox 92 = .ok (.iload_n 2, 1) := by decide +kernel
theorem dX2_tryBox_93 : decode cX2_tryBox 93 = .ok (.iastore, 1) := by decide +kernel
theorem dX2_tryBox_94 : decode cX2_tryBox 94 = .ok (.aload_n 0, 1) := by decide +kernel
theorem dX2_tryBox_95 : decode cX2_tryBox 95 = .ok (.getfield 15, 3) := by decide +kernel
theorem dX2_tryBox_98 : decode cX2_tryBox 98 = .ok (.iload 6, 2) := by decide +kernel
theorem dX2_tryBox_100 : decode cX2_tryBox 100 = .ok (.iload_n 3, 1) := by decide +kernel
theorem dX2_tryBox_101 : decode cX2_tryBox 101 = .ok (.iastore, 1) := by decide +kernel
theorem dX2_tryBox_102 : decode cX2_tryBox 102 = .ok (.aload_n 0, 1) := by decide +kernel
theorem dX2_tryBox_103 : decode cX2_tryBox 103 = .ok (.aload_n 1, 1) := by decide +kernel
theorem dX2_tryBox_104 : decode cX2_tryBox 104 = .ok (.iload_n 2, 1) := by decide +kernel
theorem dX2_tryBox_105 : decode cX2_tryBox 105 = .ok (.iconst 1, 1) := by decide +kernel
theorem dX2_tryBox_106 : decode cX2_tryBox 106 = .ok (.iadd, 1) := by decide +kernel
theorem dX2_tryBox_107 : decode cX2_tryBox 107 = .ok (.lload 4, 2) := by decide +kernel
theorem dX2_tryBox_109 : decode cX2_tryBox 109 = .ok (.lload 7, 2) := by decide +kernel
theorem dX2_tryBox_111 : decode cX2_tryBox 111 = .ok (.lor, 1) := by decide +kernel
theorem dX2_tryBox_112 : decode cX2_tryBox 112 = .ok (.iload 6, 2) := by decide +kernel
theorem dX2_tryBox_114 : decode cX2_tryBox 114 = .ok (.iconst 1, 1) := by decide +kernel
theorem dX2_tryBox_115 : decode cX2_tryBox 115 = .ok (.iadd, 1) := by decide +kernel
theorem dX2_tryBox_116 : decode cX2_tryBox 116 = .ok (.invokevirtual 47, 3) := by decide +kernel
theorem dX2_tryBox_119 : decode cX2_tryBox 119 = .ok (.return_, 1) := by decide +kernel
theorem dX2_firstOpen_0 : decode cX2_firstOpen 0 = .ok (.iload_n 1, 1) := by decide +kernel
theorem dX2_firstOpen_1 : decode cX2_firstOpen 1 = .ok (.istore 4, 2) := by decide +kernel
theorem dX2_firstOpen_3 : decode cX2_firstOpen 3 = .ok (.iload 4, 2) := by decide +kernel
theorem dX2_firstOpen_5 : decode cX2_firstOpen 5 = .ok (.aload_n 0, 1) := by decide +kernel
theorem dX2_firstOpen_6 : decode cX2_firstOpen 6 = .ok (.getfield 38, 3) := by decide +kernel
theorem dX2_firstOpen_9 : decode cX2_firstOpen 9 = .ok (.if_icmp .ge 20, 3) := by decide +kernel
theorem dX2_firstOpen_12 : decode cX2_firstOpen 12 = .ok (.lload_n 2, 1) := by decide +kernel
theorem dX2_firstOpen_13 : decode cX2_firstOpen 13 = .ok (.iload 4, 2) := by decide +kernel
theorem dX2_firstOpen_15 : decode cX2_firstOpen 15 = .ok (.lshr, 1) := by decide +kernel
theorem dX2_firstOpen_16 : decode cX2_firstOpen 16 = .ok (.lconst 1, 1) := by decide +kernel
theorem dX2_firstOpen_17 : decode cX2_firstOpen 17 = .ok (.land, 1) := by decide +kernel
theorem dX2_firstOpen_18 : decode cX2_firstOpen 18 = .ok (.lconst 1, 1) := by decide +kernel
theorem dX2_firstOpen_19 : decode cX2_firstOpen 19 = .ok (.lcmp, 1) := by decide +kernel
theorem dX2_firstOpen_20 : decode cX2_firstOpen 20 = .ok (.ifCond .ne 9, 3) := by decide +kernel
theorem dX2_firstOpen_23 : decode cX2_firstOpen 23 = .ok (.iinc 4 1, 3) := by decide +kernel
theorem dX2_firstOpen_26 : decode cX2_firstOpen 26 = .ok (.goto (-23), 3) := by decide +kernel
theorem dX2_firstOpen_29 : decode cX2_firstOpen 29 = .ok (.iload 4, 2) := by decide +kernel
theorem dX2_firstOpen_31 : decode cX2_firstOpen 31 = .ok (.ireturn, 1) := by decide +kernel
set_option maxRecDepth 20000 in
theorem ggX2_mayBeatBest_J13_bitCount_95d88 : GoodIn wsX2_mayBeatBest wsJ13_bitCount_95d88 := goodIn_r _ [7, 8, 9, 10] (by decide +kernel) (by decide +kernel)
set_option maxRecDepth 20000 in
theorem gX2_mayBeatBest_J13_bitCount_95d88 : GoodIn wsX2_mayBeatBest (va_wsS RX2 91 yJ13_bitCount_95d88 wsJ13_bitCount_95d88) := goodIn_app (goodIn_of _ (by decide +kernel)) ggX2_mayBeatBest_J13_bitCount_95d88
theorem dX2_mayBeatBest_0 : decode cX2_mayBeatBest 0 = .ok (.aload_n 0, 1) := by decide +kernel
theorem dX2_mayBeatBest_1 : decode cX2_mayBeatBest 1 = .ok (.getfield 38, 3) := by decide +kernel
theorem dX2_mayBeatBest_4 : decode cX2_mayBeatBest 4 = .ok (.lload_n 2, 1) := by decide +kernel
theorem dX2_mayBeatBest_5 : decode cX2_mayBeatBest 5 = .ok (.invokestatic 91, 3) := by decide +kernel
theorem dX2_mayBeatBest_8 : decode cX2_mayBeatBest 8 = .ok (.isub, 1) := by decide +kernel
theorem dX2_mayBeatBest_9 : decode cX2_mayBeatBest 9 = .ok (.istore 5, 2) := by decide +kernel
theorem dX2_mayBeatBest_11 : decode cX2_mayBeatBest 11 = .ok (.iload 4, 2) := by decide +kernel
theorem dX2_mayBeatBest_13 : decode cX2_mayBeatBest 13 = .ok (.iload 5, 2) := by decide +kernel
theorem dX2_mayBeatBest_15 : decode cX2_mayBeatBest 15 = .ok (.aload_n 1, 1) := by decide +kernel
theorem dX2_mayBeatBest_16 : decode cX2_mayBeatBest 16 = .ok (.getfield 97, 3) := by decide +kernel
theorem dX2_mayBeatBest_19 : decode cX2_mayBeatBest 19 = .ok (.idiv, 1) := by decide +kernel
theorem dX2_mayBeatBest_20 : decode cX2_mayBeatBest 20 = .ok (.iadd, 1) := by decide +kernel
theorem dX2_mayBeatBest_21 : decode cX2_mayBeatBest 21 = .ok (.aload_n 0, 1) := by decide +kernel
theorem dX2_mayBeatBest_22 : decode cX2_mayBeatBest 22 = .ok (.getfield 25, 3) := by decide +kernel
theorem dX2_mayBeatBest_25 : decode cX2_mayBeatBest 25 = .ok (.if_icmp .le 7, 3) := by decide +kernel
theorem dX2_mayBeatBest_28 : decode cX2_mayBeatBest 28 = .ok (.iconst 1, 1) := by decide +kernel
theorem dX2_mayBeatBest_29 : decode cX2_mayBeatBest 29 = .ok (.goto 4, 3) := by decide +kernel
theorem dX2_mayBeatBest_32 : decode cX2_mayBeatBest 32 = .ok (.iconst 0, 1) := by decide +kernel
theorem dX2_mayBeatBest_33 : decode cX2_mayBeatBest 33 = .ok (.ireturn, 1) := by decide +kernel
theorem dX2_takeStep_0 : decode cX2_takeStep 0 = .ok (.aload_n 0, 1) := by decide +kernel
theorem dX2_takeStep_1 : decode cX2_takeStep 1 = .ok (.getfield 22, 3) := by decide +kernel
theorem dX2_takeStep_4 : decode cX2_takeStep 4 = .ok (.aload_n 0, 1) := by decide +kernel
theorem dX2_takeStep_5 : decode cX2_takeStep 5 = .ok (.getfield 18, 3) := by decide +kernel
theorem dX2_takeStep_8 : decode cX2_takeStep 8 = .ok (.if_icmp .lt 10, 3) := by decide +kernel
theorem dX2_takeStep_11 : decode cX2_takeStep 11 = .ok (.aload_n 0, 1) := by decide +kernel
theorem dX2_takeStep_12 : decode cX2_takeStep 12 = .ok (.iconst 1, 1) := by decide +kernel
theorem dX2_takeStep_13 : decode cX2_takeStep 13 = .ok (.putfield 28, 3) := by decide +kernel
theorem dX2_takeStep_16 : decode cX2_takeStep 16 = .ok (.iconst 0, 1) := by decide +kernel
theorem dX2_takeStep_17 : decode cX2_takeStep 17 = .ok (.ireturn, 1) := by decide +kernel
theorem dX2_takeStep_18 : decode cX2_takeStep 18 = .ok (.aload_n 0, 1) := by decide +kernel
theorem dX2_takeStep_19 : decode cX2_takeStep 19 = .ok (.dup, 1) := by decide +kernel
theorem dX2_takeStep_20 : decode cX2_takeStep 20 = .ok (.getfield 22, 3) := by decide +kernel
theorem dX2_takeStep_23 : decode cX2_takeStep 23 = .ok (.iconst 1, 1) := by decide +kernel
theorem dX2_takeStep_24 : decode cX2_takeStep 24 = .ok (.iadd, 1) := by decide +kernel
theorem dX2_takeStep_25 : decode cX2_takeStep 25 = .ok (.putfield 22, 3) := by decide +kernel
theorem dX2_takeStep_28 : decode cX2_takeStep 28 = .ok (.iconst 1, 1) := by decide +kernel
theorem dX2_takeStep_29 : decode cX2_takeStep 29 = .ok (.ireturn, 1) := by decide +kernel
set_option maxRecDepth 20000 in
theorem ggX2_keepIfBetter_X0_keepPattern : GoodIn wsX2_keepIfBetter wsX0_keepPattern := goodIn_ca (goodIn_r _ [8, 9, 10, 11, 12, 13, 14, 15, 25, 26, 27, 28, 29, 30, 31, 32, 33, 34, 35] (by decide +kernel) (by decide +kernel)) (goodIn_sub (fun _ h => List.mem_cons_of_mem _ (List.mem_append_right _ h)) (by decide +kernel))
set_option maxRecDepth 20000 in
theorem gX2_keepIfBetter_X0_keepPattern : GoodIn wsX2_keepIfBetter (wsV RX2 41 RX0 yX0_keepPattern wsX0_keepPattern) := goodIn_app (goodIn_of _ (by decide +kernel)) ggX2_keepIfBetter_X0_keepPattern
theorem dX2_keepIfBetter_0 : decode cX2_keepIfBetter 0 = .ok (.iload_n 2, 1) := by decide +kernel
theorem dX2_keepIfBetter_1 : decode cX2_keepIfBetter 1 = .ok (.aload_n 0, 1) := by decide +kernel
theorem dX2_keepIfBetter_2 : decode cX2_keepIfBetter 2 = .ok (.getfield 25, 3) := by decide +kernel
theorem dX2_keepIfBetter_5 : decode cX2_keepIfBetter 5 = .ok (.if_icmp .le 21, 3) := by decide +kernel
theorem dX2_keepIfBetter_8 : decode cX2_keepIfBetter 8 = .ok (.aload_n 0, 1) := by decide +kernel
theorem dX2_keepIfBetter_9 : decode cX2_keepIfBetter 9 = .ok (.iload_n 2, 1) := by decide +kernel
theorem dX2_keepIfBetter_10 : decode cX2_keepIfBetter 10 = .ok (.putfield 25, 3) := by decide +kernel
theorem dX2_keepIfBetter_13 : decode cX2_keepIfBetter 13 = .ok (.aload_n 1, 1) := by decide +kernel
theorem dX2_keepIfBetter_14 : decode cX2_keepIfBetter 14 = .ok (.aload_n 0, 1) := by decide +kernel
theorem dX2_keepIfBetter_15 : decode cX2_keepIfBetter 15 = .ok (.getfield 9, 3) := by decide +kernel
theorem dX2_keepIfBetter_18 : decode cX2_keepIfBetter 18 = .ok (.aload_n 0, 1) := by decide +kernel
theorem dX2_keepIfBetter_19 : decode cX2_keepIfBetter 19 = .ok (.getfield 15, 3) := by decide +kernel
theorem dX2_keepIfBetter_22 : decode cX2_keepIfBetter 22 = .ok (.iload_n 2, 1) := by decide +kernel
theorem dX2_keepIfBetter_23 : decode cX2_keepIfBetter 23 = .ok (.invokevirtual 41, 3) := by decide +kernel
theorem dX2_keepIfBetter_26 : decode cX2_keepIfBetter 26 = .ok (.return_, 1) := by decide +kernel
set_option maxRecDepth 20000 in
theorem ggX3_init_X2_init : GoodIn wsX3_init wsX2_init := goodIn_r _ [31, 32, 2, 3, 8, 33, 34, 35, 36, 37, 38, 39, 40, 41, 54, 55, 56, 57, 58, 59, 60, 61, 62] (by decide +kernel) (by decide +kernel)
set_option maxRecDepth 20000 in
theorem gX3_init_X2_init : GoodIn wsX3_init (wsX2_init) := ggX3_init_X2_init
theorem dX3_init_0 : decode cX3_init 0 = .ok (.aload_n 0, 1) := by decide +kernel
theorem dX3_init_1 : decode cX3_init 1 = .ok (.invokespecial 3, 3) := by decide +kernel
theorem dX3_init_4 : decode cX3_init 4 = .ok (.aload_n 0, 1) := by decide +kernel
theorem dX3_init_5 : decode cX3_init 5 = .ok (.bipush 6, 2) := by decide +kernel
theorem dX3_init_7 : decode cX3_init 7 = .ok (.anewarray 9, 3) := by decide +kernel
theorem dX3_init_10 : decode cX3_init 10 = .ok (.putfield 11, 3) := by decide +kernel
theorem dX3_init_13 : decode cX3_init 13 = .ok (.aload_n 0, 1) := by decide +kernel
theorem dX3_init_14 : decode cX3_init 14 = .ok (.bipush 8, 2) := by decide +kernel
theorem dX3_init_16 : decode cX3_init 16 = .ok (.anewarray 15, 3) := by decide +kernel
theorem dX3_init_19 : decode cX3_init 19 = .ok (.putfield 17, 3) := by decide +kernel
theorem dX3_init_22 : decode cX3_init 22 = .ok (.aload_n 0, 1) := by decide +kernel
theorem dX3_init_23 : decode cX3_init 23 = .ok (.bipush 8, 2) := by decide +kernel
theorem dX3_init_25 : decode cX3_init 25 = .ok (.newarray .int, 2) := by decide +kernel
theorem dX3_init_27 : decode cX3_init 27 = .ok (.putfield 21, 3) := by decide +kernel
theorem dX3_init_30 : decode cX3_init 30 = .ok (.aload_n 0, 1) := by decide +kernel
theorem dX3_init_31 : decode cX3_init 31 = .ok (.iconst 0, 1) := by decide +kernel
theorem dX3_init_32 : decode cX3_init 32 = .ok (.putfield 25, 3) := by decide +kernel
theorem dX3_init_35 : decode cX3_init 35 = .ok (.aload_n 0, 1) := by decide +kernel
theorem dX3_init_36 : decode cX3_init 36 = .ok (.iconst 0, 1) := by decide +kernel
theorem dX3_init_37 : decode cX3_init 37 = .ok (.putfield 29, 3) := by decide +kernel
theorem dX3_init_40 : decode cX3_init 40 = .ok (.aload_n 0, 1) := by decide +kernel
theorem dX3_init_41 : decode cX3_init 41 = .ok (.iconst 0, 1) := by decide +kernel
theorem dX3_init_42 : decode cX3_init 42 = .ok (.putfield 32, 3) := by decide +kernel
theorem dX3_init_45 : decode cX3_init 45 = .ok (.aload_n 0, 1) := by decide +kernel
theorem dX3_init_46 : decode cX3_init 46 = .ok (.bipush 50, 2) := by decide +kernel
theorem dX3_init_48 : decode cX3_init 48 = .ok (.putfield 35, 3) := by decide +kernel
theorem dX3_init_51 : decode cX3_init 51 = .ok (.aload_n 0, 1) := by decide +kernel
theorem dX3_init_52 : decode cX3_init 52 = .ok (.bipush 100, 2) := by decide +kernel
theorem dX3_init_54 : decode cX3_init 54 = .ok (.putfield 38, 3) := by decide +kernel
theorem dX3_init_57 : decode cX3_init 57 = .ok (.aload_n 0, 1) := by decide +kernel
theorem dX3_init_58 : decode cX3_init 58 = .ok (.sipush 10000, 3) := by decide +kernel
theorem dX3_init_61 : decode cX3_init 61 = .ok (.putfield 41, 3) := by decide +kernel
theorem dX3_init_64 : decode cX3_init 64 = .ok (.aload_n 0, 1) := by decide +kernel
theorem dX3_init_65 : decode cX3_init 65 = .ok (.iconst 1, 1) := by decide +kernel
theorem dX3_init_66 : decode cX3_init 66 = .ok (.bipush 6, 2) := by decide +kernel
theorem dX3_init_68 : decode cX3_init 68 = .ok (.iload_n 1, 1) := by decide +kernel
theorem dX3_init_69 : decode cX3_init 69 = .ok (.invokestatic 44, 3) := by decide +kernel
theorem dX3_init_72 : decode cX3_init 72 = .ok (.invokestatic 50, 3) := by decide +kernel
theorem dX3_init_75 : decode cX3_init 75 = .ok (.putfield 53, 3) := by decide +kernel
theorem dX3_init_78 : decode cX3_init 78 = .ok (.aload_n 0, 1) := by decide +kernel
theorem dX3_init_79 : decode cX3_init 79 = .ok (.iconst 1, 1) := by decide +kernel
theorem dX3_init_80 : decode cX3_init 80 = .ok (.bipush 6, 2) := by decide +kernel
theorem dX3_init_82 : decode cX3_init 82 = .ok (.iload_n 2, 1) := by decide +kernel
theorem dX3_init_83 : decode cX3_init 83 = .ok (.invokestatic 44, 3) := by decide +kernel
theorem dX3_init_86 : decode cX3_init 86 = .ok (.invokestatic 50, 3) := by decide +kernel
theorem dX3_init_89 : decode cX3_init 89 = .ok (.putfield 56, 3) := by decide +kernel
theorem dX3_init_92 : decode cX3_init 92 = .ok (.aload_n 0, 1) := by decide +kernel
theorem dX3_init_93 : decode cX3_init 93 = .ok (.new 59, 3) := by decide +kernel
theorem dX3_init_96 : decode cX3_init 96 = .ok (.dup, 1) := by decide +kernel
theorem dX3_init_97 : decode cX3_init 97 = .ok (.aload_n 0, 1) := by decide +kernel
theorem dX3_init_98 : decode cX3_init 98 = .ok (.getfield 53, 3) := by decide +kernel
theorem dX3_init_101 : decode cX3_init 101 = .ok (.aload_n 0, 1) := by decide +kernel
theorem dX3_init_102 : decode cX3_init 102 = .ok (.getfield 56, 3) := by decide +kernel
theorem dX3_init_105 : decode cX3_init 105 = .ok (.invokespecial 61, 3) := by decide +kernel
theorem dX3_init_108 : decode cX3_init 108 = .ok (.putfield 64, 3) := by decide +kernel
theorem dX3_init_111 : decode cX3_init 111 = .ok (.return_, 1) := by decide +kernel
set_option maxRecDepth 20000 in
theorem ggX3_kind_X3_isOutside : GoodIn wsX3_kind wsX3_isOutside := goodIn_r _ [14] (by decide +kernel) (by decide +kernel)
set_option maxRecDepth 20000 in
theorem gX3_kind_X3_isOutside : GoodIn wsX3_kind (va_wsS RX3 68 yX3_isOutside wsX3_isOutside) := goodIn_app (goodIn_of _ (by decide +kernel)) ggX3_kind_X3_isOutside
set_option maxRecDepth 20000 in
theorem ggX3_kind_X0_init : GoodIn wsX3_kind wsX0_init := goodIn_r _ [17, 18, 19, 20, 21, 22, 23, 24, 25, 26, 27, 28, 29, 30, 31, 32, 33, 34, 9, 35, 48, 49, 50, 51, 52, 53, 54, 55, 56, 57, 58] (by decide +kernel) (by decide +kernel)
set_option maxRecDepth 20000 in
theorem gX3_kind_X0_init : GoodIn wsX3_kind (wsX0_init) := ggX3_kind_X0_init
theorem dX3_kind_0 : decode cX3_kind 0 = .ok (.iload_n 1, 1) := by decide +kernel
theorem dX3_kind_1 : decode cX3_kind 1 = .ok (.iconst 1, 1) := by decide +kernel
theorem dX3_kind_2 : decode cX3_kind 2 = .ok (.bipush 6, 2) := by decide +kernel
theorem dX3_kind_4 : decode cX3_kind 4 = .ok (.invokestatic 68, 3) := by decide +kernel
theorem dX3_kind_7 : decode cX3_kind 7 = .ok (.ifCond .ne 34, 3) := by decide +kernel
theorem dX3_kind_10 : decode cX3_kind 10 = .ok (.iload_n 2, 1) := by decide +kernel
theorem dX3_kind_11 : decode cX3_kind 11 = .ok (.iconst 1, 1) := by decide +kernel
theorem dX3_kind_12 : decode cX3_kind 12 = .ok (.bipush 6, 2) := by decide +kernel
theorem dX3_kind_14 : decode cX3_kind 14 = .ok (.invokestatic 68, 3) := by decide +kernel
theorem dX3_kind_17 : decode cX3_kind 17 = .ok (.ifCond .ne 24, 3) := by decide +kernel
theorem dX3_kind_20 : decode cX3_kind 20 = .ok (.iload_n 3, 1) := by decide +kernel
theorem dX3_kind_21 : decode cX3_kind 21 = .ok (.iconst 1, 1) := by decide +kernel
theorem dX3_kind_22 : decode cX3_kind 22 = .ok (.bipush 6, 2) := by decide +kernel
theorem dX3_kind_24 : decode cX3_kind 24 = .ok (.invokestatic 68, 3) := by decide +kernel
theorem dX3_kind_27 : decode cX3_kind 27 = .ok (.ifCond .ne 14, 3) := by decide +kernel
theorem dX3_kind_30 : decode cX3_kind 30 = .ok (.iload 4, 2) := by decide +kernel
theorem dX3_kind_32 : decode cX3_kind 32 = .ok (.iconst 0, 1) := by decide +kernel
theorem dX3_kind_33 : decode cX3_kind 33 = .ok (.bipush 100, 2) := by decide +kernel
theorem dX3_kind_35 : decode cX3_kind 35 = .ok (.invokestatic 68, 3) := by decide +kernel
theorem dX3_kind_38 : decode cX3_kind 38 = .ok (.ifCond .eq 13, 3) := by decide +kernel
theorem dX3_kind_41 : decode cX3_kind 41 = .ok (.new 72, 3) := by decide +kernel
theorem dX3_kind_44 : decode cX3_kind 44 = .ok (.dup, 1) := by decide +kernel
theorem dX3_kind_45 : decode cX3_kind 45 = .ok (.ldc 74, 2) := by decide +kernel
theorem dX3_kind_47 : decode cX3_kind 47 = .ok (.invokespecial 76, 3) := by decide +kernel
theorem dX3_kind_50 : decode cX3_kind 50 = .ok (.athrow, 1) := by decide +kernel
theorem dX3_kind_51 : decode cX3_kind 51 = .ok (.aload_n 0, 1) := by decide +kernel
theorem dX3_kind_52 : decode cX3_kind 52 = .ok (.getfield 25, 3) := by decide +kernel
theorem dX3_kind_55 : decode cX3_kind 55 = .ok (.aload_n 0, 1) := by decide +kernel
theorem dX3_kind_56 : decode cX3_kind 56 = .ok (.getfield 11, 3) := by decide +kernel
theorem dX3_kind_59 : decode cX3_kind 59 = .ok (.arraylength, 1) := by decide +kernel
theorem dX3_kind_60 : decode cX3_kind 60 = .ok (.if_icmp .lt 13, 3) := by decide +kernel
theorem dX3_kind_63 : decode cX3_kind 63 = .ok (.new 79, 3) := by decide +kernel
theorem dX3_kind_66 : decode cX3_kind 66 = .ok (.dup, 1) := by decide +kernel
theorem dX3_kind_67 : decode cX3_kind 67 = .ok (.ldc 81, 2) := by decide +kernel
theorem dX3_kind_69 : decode cX3_kind 69 = .ok (.invokespecial 83, 3) := by decide +kernel
theorem dX3_kind_72 : decode cX3_kind 72 = .ok (.athrow, 1) := by decide +kernel
theorem dX3_kind_73 : decode cX3_kind 73 = .ok (.aload_n 0, 1) := by decide +kernel
theorem dX3_kind_74 : decode cX3_kind 74 = .ok (.getfield 11, 3) := by decide +kernel
theorem dX3_kind_77 : decode cX3_kind 77 = .ok (.aload_n 0, 1) := by decide +kernel
theorem dX3_kind_78 : decode cX3_kind 78 = .ok (.getfield 25, 3) := by decide +kernel
theorem dX3_kind_81 : decode cX3_kind 81 = .ok (.new 9, 3) := by decide +kernel
theorem dX3_kind_84 : decode cX3_kind 84 = .ok (.dup, 1) := by decide +kernel
theorem dX3_kind_85 : decode cX3_kind 85 = .ok (.aload_n 0, 1) := by decide +kernel
theorem dX3_kind_86 : decode cX3_kind 86 = .ok (.getfield 53, 3) := by decide +kernel
theorem dX3_kind_89 : decode cX3_kind 89 = .ok (.iload_n 1, 1) := by decide +kernel
theorem dX3_kind_90 : decode cX3_kind 90 = .ok (.iload_n 2, 1) := by decide +kernel
theorem dX3_kind_91 : decode cX3_kind 91 = .ok (.iload_n 3, 1) := by decide +kernel
theorem dX3_kind_92 : decode cX3_kind 92 = .ok (.iload 4, 2) := by decide +kernel
theorem dX3_kind_94 : decode cX3_kind 94 = .ok (.invokespecial 84, 3) := by decide +kernel
theorem dX3_kind_97 : decode cX3_kind 97 = .ok (.aastore, 1) := by decide +kernel
theorem dX3_kind_98 : decode cX3_kind 98 = .ok (.aload_n 0, 1) := by decide +kernel
theorem dX3_kind_99 : decode cX3_kind 99 = .ok (.dup, 1) := by decide +kernel
theorem dX3_kind_100 : decode cX3_kind 100 = .ok (.getfield 25, 3) := by decide +kernel
theorem dX3_kind_103 : decode cX3_kind 103 = .ok (.iconst 1, 1) := by decide +kernel
theorem dX3_kind_104 : decode cX3_kind 104 = .ok (.iadd, 1) := by decide +kernel
theorem dX3_kind_105 : decode cX3_kind 105 = .ok (.putfield 25, 3) := by decide +kernel
theorem dX3_kind_108 : decode cX3_kind 108 = .ok (.aload_n 0, 1) := by decide +kernel
theorem dX3_kind_109 : decode cX3_kind 109 = .ok (.getfield 25, 3) := by decide +kernel
theorem dX3_kind_112 : decode cX3_kind 112 = .ok (.iconst 1, 1) := by decide +kernel
theorem dX3_kind_113 : decode cX3_kind 113 = .ok (.isub, 1) := by decide +kernel
theorem dX3_kind_114 : decode cX3_kind 114 = .ok (.ireturn, 1) := by decide +kernel
set_option maxRecDepth 20000 in
theorem ggX3_search_X3_kindNumbered : GoodIn wsX3_search wsX3_kindNumbered := goodIn_ca (goodIn_r _ [11, 12, 13, 14, 15, 16, 10, 17, 107, 108, 109, 110, 111, 112, 113, 114, 115, 116, 117, 118] (by decide +kernel) (by decide +kernel)) (goodIn_sub (fun _ h => List.mem_cons_of_mem _ (List.mem_append_left _ (List.mem_append_right _ h))) (by decide +kernel))
set_option maxRecDepth 20000 in
theorem gX3_search_X3_kindNumbered : GoodIn wsX3_search (wsV RX3 87 RX3 yX3_kindNumbered wsX3_kindNumbered) := goodIn_app (goodIn_of _ (by decide +kernel)) ggX3_search_X3_kindNumbered
set_option maxRecDepth 20000 in
theorem ggX3_search_X3_isOutside : GoodIn wsX3_search wsX3_isOutside := goodIn_r _ [17] (by decide +kernel) (by decide +kernel)
set_option maxRecDepth 20000 in
theorem gX3_search_X3_isOutside : GoodIn wsX3_search (va_wsS RX3 68 yX3_isOutside wsX3_isOutside) := goodIn_app (goodIn_of _ (by decide +kernel)) ggX3_search_X3_isOutside
set_option maxRecDepth 20000 in
theorem ggX3_search_X3_isOnAPallet : GoodIn wsX3_search wsX3_isOnAPallet := goodIn_ca (goodIn_r _ [21, 22, 23, 24, 25, 26, 27, 28, 29, 107, 108, 109, 110, 111, 112, 113, 114, 115, 116, 117, 118, 130, 131, 132, 133, 134, 135, 136, 137, 138, 139] (by decide +kernel) (by decide +kernel)) (goodIn_sub (fun _ h => List.mem_cons_of_mem _ (List.mem_append_right _ h)) (by decide +kernel))
set_option maxRecDepth 20000 in
theorem gX3_search_X3_isOnAPallet : GoodIn wsX3_search (wsV RX3 93 RX3 yX3_isOnAPallet wsX3_isOnAPallet) := goodIn_app (goodIn_of _ (by decide +kernel)) ggX3_search_X3_isOnAPallet
set_option maxRecDepth 20000 in
theorem ggX3_search_X2_seek : GoodIn wsX3_search wsX2_seek := goodIn_ca (goodIn_r _ [34, 35, 36, 37, 38, 39, 40, 41, 42, 43, 44, 45, 46, 47, 48, 49, 50, 51, 52, 53, 54, 55, 56, 33, 57, 58, 59, 60, 61, 62, 63, 64, 65, 66, 67, 68, 69, 70, 71, 72, 73, 74, 75, 76, 77, 78, 79, 80, 81, 82, 83, 84, 85, 86, 87, 88, 89, 90, 91, 92, 93, 94, 95, 96, 97, 98, 99, 100, 101, 102, 103, 104, 105, 106, 140, 141, 142, 143, 144, 145, 146, 147, 148, 119, 120, 121, 122, 123, 124, 125, 126, 127, 128, 129] (by decide +kernel) (by decide +kernel)) (goodIn_sub (fun _ h => List.mem_cons_of_mem _ (List.mem_append_right _ h)) (by decide +kernel))
set_option maxRecDepth 20000 in
theorem gX3_search_X2_seek : GoodIn wsX3_search (wsV RX3 102 RX2 yX2_seek wsX2_seek) := goodIn_app (goodIn_of _ (by decide +kernel)) ggX3_search_X2_seek
theorem dX3_search_0 : decode cX3_search 0 = .ok (.aload_n 0, 1) := by decide +kernel
theorem dX3_search_1 : decode cX3_search 1 = .ok (.iload_n 1, 1) := by decide +kernel
theorem dX3_search_2 : decode cX3_search 2 = .ok (.invokevirtual 87, 3) := by decide +kernel
theorem dX3_search_5 : decode cX3_search 5 = .ok (.astore_n 3, 1) := by decide +kernel
theorem dX3_search_6 : decode cX3_search 6 = .ok (.iload_n 2, 1) := by decide +kernel
theorem dX3_search_7 : decode cX3_search 7 = .ok (.iconst 0, 1) := by decide +kernel
theorem dX3_search_8 : decode cX3_search 8 = .ok (.sipush 5000, 3) := by decide +kernel
theorem dX3_search_11 : decode cX3_search 11 = .ok (.invokestatic 68, 3) := by decide +kernel
theorem dX3_search_14 : decode cX3_search 14 = .ok (.ifCond .eq 13, 3) := by decide +kernel
theorem dX3_search_17 : decode cX3_search 17 = .ok (.new 72, 3) := by decide +kernel
theorem dX3_search_20 : decode cX3_search 20 = .ok (.dup, 1) := by decide +kernel
theorem dX3_search_21 : decode cX3_search 21 = .ok (.ldc 91, 2) := by decide +kernel
theorem dX3_search_23 : decode cX3_search 23 = .ok (.invokespecial 76, 3) := by decide +kernel
theorem dX3_search_26 : decode cX3_search 26 = .ok (.athrow, 1) := by decide +kernel
theorem dX3_search_27 : decode cX3_search 27 = .ok (.aload_n 0, 1) := by decide +kernel
theorem dX3_search_28 : decode cX3_search 28 = .ok (.iload_n 1, 1) := by decide +kernel
theorem dX3_search_29 : decode cX3_search 29 = .ok (.invokevirtual 93, 3) := by decide +kernel
theorem dX3_search_32 : decode cX3_search 32 = .ok (.ifCond .eq 13, 3) := by decide +kernel
theorem dX3_search_35 : decode cX3_search 35 = .ok (.new 97, 3) := by decide +kernel
theorem dX3_search_38 : decode cX3_search 38 = .ok (.dup, 1) := by decide +kernel
theorem dX3_search_39 : decode cX3_search 39 = .ok (.ldc 99, 2) := by decide +kernel
theorem dX3_search_41 : decode cX3_search 41 = .ok (.invokespecial 101, 3) := by decide +kernel
theorem dX3_search_44 : decode cX3_search 44 = .ok (.athrow, 1) := by decide +kernel
theorem dX3_search_45 : decode cX3_search 45 = .ok (.aload_n 0, 1) := by decide +kernel
theorem dX3_search_46 : decode cX3_search 46 = .ok (.getfield 64, 3) := by decide +kernel
theorem dX3_search_49 : decode cX3_search 49 = .ok (.aload_n 3, 1) := by decide +kernel
theorem dX3_search_50 : decode cX3_search 50 = .ok (.iload_n 2, 1) := by decide +kernel
theorem dX3_search_51 : decode cX3_search 51 = .ok (.invokevirtual 102, 3) := by decide +kernel
theorem dX3_search_54 : decode cX3_search 54 = .ok (.aload_n 3, 1) := by decide +kernel
theorem dX3_search_55 : decode cX3_search 55 = .ok (.getfield 106, 3) := by decide +kernel
theorem dX3_search_58 : decode cX3_search 58 = .ok (.ireturn, 1) := by decide +kernel
set_option maxRecDepth 20000 in
theorem ggX3_pattern_X3_kindNumbered : GoodIn wsX3_pattern wsX3_kindNumbered := goodIn_ca (goodIn_r _ [14, 15, 16, 17, 18, 19, 13, 20, 38, 39, 40, 41, 42, 43, 44, 45, 46, 47, 48, 49] (by decide +kernel) (by decide +kernel)) (goodIn_sub (fun _ h => List.mem_cons_of_mem _ (List.mem_append_right _ h)) (by decide +kernel))
set_option maxRecDepth 20000 in
theorem gX3_pattern_X3_kindNumbered : GoodIn wsX3_pattern (wsV RX3 87 RX3 yX3_kindNumbered wsX3_kindNumbered) := goodIn_app (goodIn_of _ (by decide +kernel)) ggX3_pattern_X3_kindNumbered
set_option maxRecDepth 20000 in
theorem ggX3_pattern_X3_isOutside : GoodIn wsX3_pattern wsX3_isOutside := goodIn_r _ [20] (by decide +kernel) (by decide +kernel)
set_option maxRecDepth 20000 in
theorem gX3_pattern_X3_isOutside : GoodIn wsX3_pattern (va_wsS RX3 68 yX3_isOutside wsX3_isOutside) := goodIn_app (goodIn_of _ (by decide +kernel)) ggX3_pattern_X3_isOutside
theorem dX3_pattern_0 : decode cX3_pattern 0 = .ok (.aload_n 0, 1) := by decide +kernel
theorem dX3_pattern_1 : decode cX3_pattern 1 = .ok (.iload_n 1, 1) := by decide +kernel
theorem dX3_pattern_2 : decode cX3_pattern 2 = .ok (.invokevirtual 87, 3) := by decide +kernel
theorem dX3_pattern_5 : decode cX3_pattern 5 = .ok (.astore 4, 2) := by decide +kernel
theorem dX3_pattern_7 : decode cX3_pattern 7 = .ok (.iload_n 3, 1) := by decide +kernel
theorem dX3_pattern_8 : decode cX3_pattern 8 = .ok (.iconst 0, 1) := by decide +kernel
theorem dX3_pattern_9 : decode cX3_pattern 9 = .ok (.iconst 2, 1) := by decide +kernel
theorem dX3_pattern_10 : decode cX3_pattern 10 = .ok (.invokestatic 68, 3) := by decide +kernel
theorem dX3_pattern_13 : decode cX3_pattern 13 = .ok (.ifCond .eq 13, 3) := by decide +kernel
theorem dX3_pattern_16 : decode cX3_pattern 16 = .ok (.new 72, 3) := by decide +kernel
theorem dX3_pattern_19 : decode cX3_pattern 19 = .ok (.dup, 1) := by decide +kernel
theorem dX3_pattern_20 : decode cX3_pattern 20 = .ok (.ldc 109, 2) := by decide +kernel
theorem dX3_pattern_22 : decode cX3_pattern 22 = .ok (.invokespecial 76, 3) := by decide +kernel
theorem dX3_pattern_25 : decode cX3_pattern 25 = .ok (.athrow, 1) := by decide +kernel
theorem dX3_pattern_26 : decode cX3_pattern 26 = .ok (.iload_n 2, 1) := by decide +kernel
theorem dX3_pattern_27 : decode cX3_pattern 27 = .ok (.iconst 0, 1) := by decide +kernel
theorem dX3_pattern_28 : decode cX3_pattern 28 = .ok (.aload 4, 2) := by decide +kernel
theorem dX3_pattern_30 : decode cX3_pattern 30 = .ok (.getfield 106, 3) := by decide +kernel
theorem dX3_pattern_33 : decode cX3_pattern 33 = .ok (.iconst 1, 1) := by decide +kernel
theorem dX3_pattern_34 : decode cX3_pattern 34 = .ok (.isub, 1) := by decide +kernel
theorem dX3_pattern_35 : decode cX3_pattern 35 = .ok (.invokestatic 68, 3) := by decide +kernel
theorem dX3_pattern_38 : decode cX3_pattern 38 = .ok (.ifCond .eq 13, 3) := by decide +kernel
theorem dX3_pattern_41 : decode cX3_pattern 41 = .ok (.new 111, 3) := by decide +kernel
theorem dX3_pattern_44 : decode cX3_pattern 44 = .ok (.dup, 1) := by decide +kernel
theorem dX3_pattern_45 : decode cX3_pattern 45 = .ok (.ldc 113, 2) := by decide +kernel
theorem dX3_pattern_47 : decode cX3_pattern 47 = .ok (.invokespecial 115, 3) := by decide +kernel
theorem dX3_pattern_50 : decode cX3_pattern 50 = .ok (.athrow, 1) := by decide +kernel
theorem dX3_pattern_51 : decode cX3_pattern 51 = .ok (.iload_n 3, 1) := by decide +kernel
theorem dX3_pattern_52 : decode cX3_pattern 52 = .ok (.lookupswitch 54 #[(0, 28), (1, 41)], 28) := by decide +kernel
theorem dX3_pattern_80 : decode cX3_pattern 80 = .ok (.aload 4, 2) := by decide +kernel
theorem dX3_pattern_82 : decode cX3_pattern 82 = .ok (.getfield 116, 3) := by decide +kernel
theorem dX3_pattern_85 : decode cX3_pattern 85 = .ok (.iload_n 2, 1) := by decide +kernel
theorem dX3_pattern_86 : decode cX3_pattern 86 = .ok (.iaload, 1) := by decide +kernel
theorem dX3_pattern_87 : decode cX3_pattern 87 = .ok (.aload_n 0, 1) := by decide +kernel
theorem dX3_pattern_88 : decode cX3_pattern 88 = .ok (.getfield 53, 3) := by decide +kernel
theorem dX3_pattern_91 : decode cX3_pattern 91 = .ok (.irem, 1) := by decide +kernel
theorem dX3_pattern_92 : decode cX3_pattern 92 = .ok (.ireturn, 1) := by decide +kernel
theorem dX3_pattern_93 : decode cX3_pattern 93 = .ok (.aload 4, 2) := by decide +kernel
theorem dX3_pattern_95 : decode cX3_pattern 95 = .ok (.getfield 116, 3) := by decide +kernel
theorem dX3_pattern_98 : decode cX3_pattern 98 = .ok (.iload_n 2, 1) := by decide +kernel
theorem dX3_pattern_99 : decode cX3_pattern 99 = .ok (.iaload, 1) := by decide +kernel
theorem dX3_pattern_100 : decode cX3_pattern 100 = .ok (.aload_n 0, 1) := by decide +kernel
theorem dX3_pattern_101 : decode cX3_pattern 101 = .ok (.getfield 53, 3) := by decide +kernel
theorem dX3_pattern_104 : decode cX3_pattern 104 = .ok (.idiv, 1) := by decide +kernel
theorem dX3_pattern_105 : decode cX3_pattern 105 = .ok (.ireturn, 1) := by decide +kernel
theorem dX3_pattern_106 : decode cX3_pattern 106 = .ok (.aload 4, 2) := by decide +kernel
theorem dX3_pattern_108 : decode cX3_pattern 108 = .ok (.getfield 119, 3) := by decide +kernel
theorem dX3_pattern_111 : decode cX3_pattern 111 = .ok (.iload_n 2, 1) := by decide +kernel
theorem dX3_pattern_112 : decode cX3_pattern 112 = .ok (.iaload, 1) := by decide +kernel
theorem dX3_pattern_113 : decode cX3_pattern 113 = .ok (.ireturn, 1) := by decide +kernel
set_option maxRecDepth 20000 in
theorem ggX3_exact_X3_kindNumbered : GoodIn wsX3_exact wsX3_kindNumbered := goodIn_ca (goodIn_r _ [6, 7, 8, 9, 10, 11, 5, 12, 24, 25, 26, 27, 28, 29, 30, 31, 32, 33, 34, 35] (by decide +kernel) (by decide +kernel)) (goodIn_sub (fun _ h => List.mem_cons_of_mem _ (List.mem_append_right _ h)) (by decide +kernel))
set_option maxRecDepth 20000 in
theorem gX3_exact_X3_kindNumbered : GoodIn wsX3_exact (wsV RX3 87 RX3 yX3_kindNumbered wsX3_kindNumbered) := goodIn_app (goodIn_of _ (by decide +kernel)) ggX3_exact_X3_kindNumbered
theorem dX3_exact_0 : decode cX3_exact 0 = .ok (.aload_n 0, 1) := by decide +kernel
theorem dX3_exact_1 : decode cX3_exact 1 = .ok (.iload_n 1, 1) := by decide +kernel
theorem dX3_exact_2 : decode cX3_exact 2 = .ok (.invokevirtual 87, 3) := by decide +kernel
theorem dX3_exact_5 : decode cX3_exact 5 = .ok (.getfield 122, 3) := by decide +kernel
theorem dX3_exact_8 : decode cX3_exact 8 = .ok (.ireturn, 1) := by decide +kernel
set_option maxRecDepth 20000 in
theorem ggX3_bound_X3_kindNumbered : GoodIn wsX3_bound wsX3_kindNumbered := goodIn_ca (goodIn_r _ [8, 9, 10, 11, 12, 13, 7, 14, 15, 16, 17, 18, 19, 20, 21, 22, 23, 24, 25, 26] (by decide +kernel) (by decide +kernel)) (goodIn_sub (fun _ h => List.mem_cons_of_mem _ (List.mem_append_right _ h)) (by decide +kernel))
set_option maxRecDepth 20000 in
theorem gX3_bound_X3_kindNumbered : GoodIn wsX3_bound (wsV RX3 87 RX3 yX3_kindNumbered wsX3_kindNumbered) := goodIn_app (goodIn_of _ (by decide +kernel)) ggX3_bound_X3_kindNumbered
theorem dX3_bound_0 : decode cX3_bound 0 = .ok (.aload_n 0, 1) := by decide +kernel
theorem dX3_bound_1 : decode cX3_bound 1 = .ok (.getfield 53, 3) := by decide +kernel
theorem dX3_bound_4 : decode cX3_bound 4 = .ok (.aload_n 0, 1) := by decide +kernel
theorem dX3_bound_5 : decode cX3_bound 5 = .ok (.getfield 56, 3) := by decide +kernel
theorem dX3_bound_8 : decode cX3_bound 8 = .ok (.imul, 1) := by decide +kernel
theorem dX3_bound_9 : decode cX3_bound 9 = .ok (.aload_n 0, 1) := by decide +kernel
theorem dX3_bound_10 : decode cX3_bound 10 = .ok (.iload_n 1, 1) := by decide +kernel
theorem dX3_bound_11 : decode cX3_bound 11 = .ok (.invokevirtual 87, 3) := by decide +kernel
theorem dX3_bound_14 : decode cX3_bound 14 = .ok (.getfield 126, 3) := by decide +kernel
theorem dX3_bound_17 : decode cX3_bound 17 = .ok (.idiv, 1) := by decide +kernel
theorem dX3_bound_18 : decode cX3_bound 18 = .ok (.ireturn, 1) := by decide +kernel
set_option maxRecDepth 20000 in
theorem ggX3_rules_X3_isOutside : GoodIn wsX3_rules wsX3_isOutside := goodIn_r _ [9] (by decide +kernel) (by decide +kernel)
set_option maxRecDepth 20000 in
theorem gX3_rules_X3_isOutside : GoodIn wsX3_rules (va_wsS RX3 68 yX3_isOutside wsX3_isOutside) := goodIn_app (goodIn_of _ (by decide +kernel)) ggX3_rules_X3_isOutside
theorem dX3_rules_0 : decode cX3_rules 0 = .ok (.iload_n 1, 1) := by decide +kernel
theorem dX3_rules_1 : decode cX3_rules 1 = .ok (.iconst 0, 1) := by decide +kernel
theorem dX3_rules_2 : decode cX3_rules 2 = .ok (.bipush 100, 2) := by decide +kernel
theorem dX3_rules_4 : decode cX3_rules 4 = .ok (.invokestatic 68, 3) := by decide +kernel
theorem dX3_rules_7 : decode cX3_rules 7 = .ok (.ifCond .ne 24, 3) := by decide +kernel
theorem dX3_rules_10 : decode cX3_rules 10 = .ok (.iload_n 2, 1) := by decide +kernel
theorem dX3_rules_11 : decode cX3_rules 11 = .ok (.iconst 1, 1) := by decide +kernel
theorem dX3_rules_12 : decode cX3_rules 12 = .ok (.bipush 100, 2) := by decide +kernel
theorem dX3_rules_14 : decode cX3_rules 14 = .ok (.invokestatic 68, 3) := by decide +kernel
theorem dX3_rules_17 : decode cX3_rules 17 = .ok (.ifCond .ne 14, 3) := by decide +kernel
theorem dX3_rules_20 : decode cX3_rules 20 = .ok (.iload_n 3, 1) := by decide +kernel
theorem dX3_rules_21 : decode cX3_rules 21 = .ok (.iconst 0, 1) := by decide +kernel
theorem dX3_rules_22 : decode cX3_rules 22 = .ok (.sipush 10000, 3) := by decide +kernel
theorem dX3_rules_25 : decode cX3_rules 25 = .ok (.invokestatic 68, 3) := by decide +kernel
theorem dX3_rules_28 : decode cX3_rules 28 = .ok (.ifCond .eq 13, 3) := by decide +kernel
theorem dX3_rules_31 : decode cX3_rules 31 = .ok (.new 72, 3) := by decide +kernel
theorem dX3_rules_34 : decode cX3_rules 34 = .ok (.dup, 1) := by decide +kernel
theorem dX3_rules_35 : decode cX3_rules 35 = .ok (.ldc 129, 2) := by decide +kernel
theorem dX3_rules_37 : decode cX3_rules 37 = .ok (.invokespecial 76, 3) := by decide +kernel
theorem dX3_rules_40 : decode cX3_rules 40 = .ok (.athrow, 1) := by decide +kernel
theorem dX3_rules_41 : decode cX3_rules 41 = .ok (.aload_n 0, 1) := by decide +kernel
theorem dX3_rules_42 : decode cX3_rules 42 = .ok (.iload_n 1, 1) := by decide +kernel
theorem dX3_rules_43 : decode cX3_rules 43 = .ok (.putfield 35, 3) := by decide +kernel
theorem dX3_rules_46 : decode cX3_rules 46 = .ok (.aload_n 0, 1) := by decide +kernel
theorem dX3_rules_47 : decode cX3_rules 47 = .ok (.iload_n 2, 1) := by decide +kernel
theorem dX3_rules_48 : decode cX3_rules 48 = .ok (.putfield 38, 3) := by decide +kernel
theorem dX3_rules_51 : decode cX3_rules 51 = .ok (.aload_n 0, 1) := by decide +kernel
theorem dX3_rules_52 : decode cX3_rules 52 = .ok (.iload_n 3, 1) := by decide +kernel
theorem dX3_rules_53 : decode cX3_rules 53 = .ok (.putfield 41, 3) := by decide +kernel
theorem dX3_rules_56 : decode cX3_rules 56 = .ok (.return_, 1) := by decide +kernel
set_option maxRecDepth 20000 in
theorem ggX3_pallet_X1_init : GoodIn wsX3_pallet wsX1_init := goodIn_r _ [9, 10, 11, 12, 13, 14, 15, 16, 17, 18, 19, 20, 21, 22, 23, 24, 37, 38, 39, 40, 41, 42, 43, 44, 45, 46] (by decide +kernel) (by decide +kernel)
set_option maxRecDepth 20000 in
theorem gX3_pallet_X1_init_n133 : GoodIn wsX3_pallet (wsX1_init) := ggX3_pallet_X1_init
theorem dX3_pallet_0 : decode cX3_pallet 0 = .ok (.aload_n 0, 1) := by decide +kernel
theorem dX3_pallet_1 : decode cX3_pallet 1 = .ok (.getfield 29, 3) := by decide +kernel
theorem dX3_pallet_4 : decode cX3_pallet 4 = .ok (.aload_n 0, 1) := by decide +kernel
theorem dX3_pallet_5 : decode cX3_pallet 5 = .ok (.getfield 17, 3) := by decide +kernel
theorem dX3_pallet_8 : decode cX3_pallet 8 = .ok (.arraylength, 1) := by decide +kernel
theorem dX3_pallet_9 : decode cX3_pallet 9 = .ok (.if_icmp .lt 13, 3) := by decide +kernel
theorem dX3_pallet_12 : decode cX3_pallet 12 = .ok (.new 79, 3) := by decide +kernel
theorem dX3_pallet_15 : decode cX3_pallet 15 = .ok (.dup, 1) := by decide +kernel
theorem dX3_pallet_16 : decode cX3_pallet 16 = .ok (.ldc 131, 2) := by decide +kernel
theorem dX3_pallet_18 : decode cX3_pallet 18 = .ok (.invokespecial 83, 3) := by decide +kernel
theorem dX3_pallet_21 : decode cX3_pallet 21 = .ok (.athrow, 1) := by decide +kernel
theorem dX3_pallet_22 : decode cX3_pallet 22 = .ok (.aload_n 0, 1) := by decide +kernel
theorem dX3_pallet_23 : decode cX3_pallet 23 = .ok (.getfield 17, 3) := by decide +kernel
theorem dX3_pallet_26 : decode cX3_pallet 26 = .ok (.aload_n 0, 1) := by decide +kernel
theorem dX3_pallet_27 : decode cX3_pallet 27 = .ok (.getfield 29, 3) := by decide +kernel
theorem dX3_pallet_30 : decode cX3_pallet 30 = .ok (.new 15, 3) := by decide +kernel
theorem dX3_pallet_33 : decode cX3_pallet 33 = .ok (.dup, 1) := by decide +kernel
theorem dX3_pallet_34 : decode cX3_pallet 34 = .ok (.invokespecial 133, 3) := by decide +kernel
theorem dX3_pallet_37 : decode cX3_pallet 37 = .ok (.aastore, 1) := by decide +kernel
theorem dX3_pallet_38 : decode cX3_pallet 38 = .ok (.aload_n 0, 1) := by decide +kernel
theorem dX3_pallet_39 : decode cX3_pallet 39 = .ok (.dup, 1) := by decide +kernel
theorem dX3_pallet_40 : decode cX3_pallet 40 = .ok (.getfield 29, 3) := by decide +kernel
theorem dX3_pallet_43 : decode cX3_pallet 43 = .ok (.iconst 1, 1) := by decide +kernel
theorem dX3_pallet_44 : decode cX3_pallet 44 = .ok (.iadd, 1) := by decide +kernel
theorem dX3_pallet_45 : decode cX3_pallet 45 = .ok (.putfield 29, 3) := by decide +kernel
theorem dX3_pallet_48 : decode cX3_pallet 48 = .ok (.aload_n 0, 1) := by decide +kernel
theorem dX3_pallet_49 : decode cX3_pallet 49 = .ok (.getfield 29, 3) := by decide +kernel
theorem dX3_pallet_52 : decode cX3_pallet 52 = .ok (.iconst 1, 1) := by decide +kernel
theorem dX3_pallet_53 : decode cX3_pallet 53 = .ok (.isub, 1) := by decide +kernel
theorem dX3_pallet_54 : decode cX3_pallet 54 = .ok (.ireturn, 1) := by decide +kernel
set_option maxRecDepth 20000 in
theorem ggX3_put_X3_palletNumbered : GoodIn wsX3_put wsX3_palletNumbered := goodIn_ca (goodIn_r _ [10, 11, 12, 13, 14, 15, 9, 16, 100, 101, 102, 103, 104, 105, 106, 107, 108, 109, 110, 111] (by decide +kernel) (by decide +kernel)) (goodIn_sub (fun _ h => List.mem_cons_of_mem _ (List.mem_append_left _ (List.mem_append_left _ (List.mem_append_right _ h)))) (by decide +kernel))
set_option maxRecDepth 20000 in
theorem gX3_put_X3_palletNumbered : GoodIn wsX3_put (wsV RX3 134 RX3 yX3_palletNumbered wsX3_palletNumbered) := goodIn_app (goodIn_of _ (by decide +kernel)) ggX3_put_X3_palletNumbered
set_option maxRecDepth 20000 in
theorem ggX3_put_X3_kindNumbered : GoodIn wsX3_put wsX3_kindNumbered := goodIn_ca (goodIn_r _ [20, 11, 12, 21, 14, 15, 9, 16, 100, 101, 102, 103, 104, 105, 106, 107, 108, 109, 110, 111] (by decide +kernel) (by decide +kernel)) (goodIn_sub (fun _ h => List.mem_cons_of_mem _ (List.mem_append_left _ (List.mem_append_left _ (List.mem_append_right _ h)))) (by decide +kernel))
set_option maxRecDepth 20000 in
theorem gX3_put_X3_kindNumbered : GoodIn wsX3_put (wsV RX3 87 RX3 yX3_kindNumbered wsX3_kindNumbered) := goodIn_app (goodIn_of _ (by decide +kernel)) ggX3_put_X3_kindNumbered
set_option maxRecDepth 20000 in
theorem ggX3_put_X3_isOutside : GoodIn wsX3_put wsX3_isOutside := goodIn_r _ [16] (by decide +kernel) (by decide +kernel)
set_option maxRecDepth 20000 in
theorem gX3_put_X3_isOutside : GoodIn wsX3_put (va_wsS RX3 68 yX3_isOutside wsX3_isOutside) := goodIn_app (goodIn_of _ (by decide +kernel)) ggX3_put_X3_isOutside
set_option maxRecDepth 20000 in
theorem ggX3_put_X3_refuseOnTruck : GoodIn wsX3_put wsX3_refuseOnTruck := goodIn_ca (goodIn_r _ [24, 25, 26, 27, 90, 91, 92, 93, 94, 95, 96, 97, 98, 99] (by decide +kernel) (by decide +kernel)) (goodIn_sub (fun _ h => List.mem_cons_of_mem _ (List.mem_append_left _ (List.mem_append_right _ h))) (by decide +kernel))
set_option maxRecDepth 20000 in
theorem gX3_put_X3_refuseOnTruck : GoodIn wsX3_put (va_wsS RX3 140 yX3_refuseOnTruck wsX3_refuseOnTruck) := goodIn_app (goodIn_of _ (by decide +kernel)) ggX3_put_X3_refuseOnTruck
set_option maxRecDepth 20000 in
theorem ggX3_put_X3_whyNot : GoodIn wsX3_put wsX3_whyNot := goodIn_ca (goodIn_r _ [31, 32, 5, 33, 34, 35, 36, 37, 38, 39, 40, 41, 42, 43, 44, 45, 46, 47, 48, 15, 9, 16, 49, 50, 51, 52, 53, 54, 55, 56, 57, 58, 59, 60, 61, 62, 63, 64, 65, 66, 67, 68, 69, 70, 71, 112, 113, 114, 115, 116, 117, 118, 119, 120, 121, 122, 90, 91, 92, 93, 94, 95, 96, 97, 98, 99, 100, 101, 102, 103, 104, 105, 106, 107, 108, 109, 110, 111] (by decide +kernel) (by decide +kernel)) (goodIn_sub (fun _ h => List.mem_cons_of_mem _ (List.mem_append_right _ h)) (by decide +kernel))
set_option maxRecDepth 20000 in
theorem gX3_put_X3_whyNot : GoodIn wsX3_put (wsV RX3 149 RX3 yX3_whyNot wsX3_whyNot) := goodIn_app (goodIn_of _ (by decide +kernel)) ggX3_put_X3_whyNot
set_option maxRecDepth 20000 in
theorem ggX3_put_X1_lay : GoodIn wsX3_put wsX1_lay := goodIn_ca (goodIn_r _ [75, 63, 76, 77, 78, 79, 80, 81, 64, 82, 83, 84, 85, 86, 87, 44, 88, 89, 42, 43, 45, 46, 47, 48, 15, 9, 16, 49, 50, 51, 52, 53, 54, 90, 91, 92, 93, 94, 95, 96, 97, 98, 99, 112, 113, 114, 115, 116, 117, 118, 119, 120, 121, 122] (by decide +kernel) (by decide +kernel)) (goodIn_sub (fun _ h => List.mem_cons_of_mem _ (List.mem_append_right _ h)) (by decide +kernel))
set_option maxRecDepth 20000 in
theorem gX3_put_X1_lay : GoodIn wsX3_put (wsV RX3 153 RX1 yX1_lay wsX1_lay) := goodIn_app (goodIn_of _ (by decide +kernel)) ggX3_put_X1_lay
theorem dX3_put_0 : decode cX3_put 0 = .ok (.aload_n 0, 1) := by decide +kernel
theorem dX3_put_1 : decode cX3_put 1 = .ok (.iload_n 1, 1) := by decide +kernel
theorem dX3_put_2 : decode cX3_put 2 = .ok (.invokevirtual 134, 3) := by decide +kernel
theorem dX3_put_5 : decode cX3_put 5 = .ok (.astore 4, 2) := by decide +kernel
theorem dX3_put_7 : decode cX3_put 7 = .ok (.aload_n 0, 1) := by decide +kernel
theorem dX3_put_8 : decode cX3_put 8 = .ok (.iload_n 2, 1) := by decide +kernel
theorem dX3_put_9 : decode cX3_put 9 = .ok (.invokevirtual 87, 3) := by decide +kernel
theorem dX3_put_12 : decode cX3_put 12 = .ok (.astore 5, 2) := by decide +kernel
theorem dX3_put_14 : decode cX3_put 14 = .ok (.iload_n 3, 1) := by decide +kernel
theorem dX3_put_15 : decode cX3_put 15 = .ok (.iconst 1, 1) := by decide +kernel
theorem dX3_put_16 : decode cX3_put 16 = .ok (.bipush 100, 2) := by decide +kernel
theorem dX3_put_18 : decode cX3_put 18 = .ok (.invokestatic 68, 3) := by decide +kernel
theorem dX3_put_21 : decode cX3_put 21 = .ok (.ifCond .eq 13, 3) := by decide +kernel
theorem dX3_put_24 : decode cX3_put 24 = .ok (.new 72, 3) := by decide +kernel
theorem dX3_put_27 : decode cX3_put 27 = .ok (.dup, 1) := by decide +kernel
theorem dX3_put_28 : decode cX3_put 28 = .ok (.ldc 138, 2) := by decide +kernel
theorem dX3_put_30 : decode cX3_put 30 = .ok (.invokespecial 76, 3) := by decide +kernel
theorem dX3_put_33 : decode cX3_put 33 = .ok (.athrow, 1) := by decide +kernel
theorem dX3_put_34 : decode cX3_put 34 = .ok (.aload 4, 2) := by decide +kernel
theorem dX3_put_36 : decode cX3_put 36 = .ok (.invokestatic 140, 3) := by decide +kernel
theorem dX3_put_39 : decode cX3_put 39 = .ok (.aload 4, 2) := by decide +kernel
theorem dX3_put_41 : decode cX3_put 41 = .ok (.getfield 144, 3) := by decide +kernel
theorem dX3_put_44 : decode cX3_put 44 = .ok (.bipush 10, 2) := by decide +kernel
theorem dX3_put_46 : decode cX3_put 46 = .ok (.if_icmp .lt 13, 3) := by decide +kernel
theorem dX3_put_49 : decode cX3_put 49 = .ok (.new 79, 3) := by decide +kernel
theorem dX3_put_52 : decode cX3_put 52 = .ok (.dup, 1) := by decide +kernel
theorem dX3_put_53 : decode cX3_put 53 = .ok (.ldc 147, 2) := by decide +kernel
theorem dX3_put_55 : decode cX3_put 55 = .ok (.invokespecial 83, 3) := by decide +kernel
theorem dX3_put_58 : decode cX3_put 58 = .ok (.athrow, 1) := by decide +kernel
theorem dX3_put_59 : decode cX3_put 59 = .ok (.aload_n 0, 1) := by decide +kernel
theorem dX3_put_60 : decode cX3_put 60 = .ok (.aload 4, 2) := by decide +kernel
theorem dX3_put_62 : decode cX3_put 62 = .ok (.aload 5, 2) := by decide +kernel
theorem dX3_put_64 : decode cX3_put 64 = .ok (.iload_n 3, 1) := by decide +kernel
theorem dX3_put_65 : decode cX3_put 65 = .ok (.invokevirtual 149, 3) := by decide +kernel
theorem dX3_put_68 : decode cX3_put 68 = .ok (.istore 6, 2) := by decide +kernel
theorem dX3_put_70 : decode cX3_put 70 = .ok (.iload 6, 2) := by decide +kernel
theorem dX3_put_72 : decode cX3_put 72 = .ok (.ifCond .ge 6, 3) := by decide +kernel
theorem dX3_put_75 : decode cX3_put 75 = .ok (.iload 6, 2) := by decide +kernel
theorem dX3_put_77 : decode cX3_put 77 = .ok (.ireturn, 1) := by decide +kernel
theorem dX3_put_78 : decode cX3_put 78 = .ok (.aload 4, 2) := by decide +kernel
theorem dX3_put_80 : decode cX3_put 80 = .ok (.iload_n 2, 1) := by decide +kernel
theorem dX3_put_81 : decode cX3_put 81 = .ok (.aload 5, 2) := by decide +kernel
theorem dX3_put_83 : decode cX3_put 83 = .ok (.iload_n 3, 1) := by decide +kernel
theorem dX3_put_84 : decode cX3_put 84 = .ok (.invokevirtual 153, 3) := by decide +kernel
theorem dX3_put_87 : decode cX3_put 87 = .ok (.aload 4, 2) := by decide +kernel
theorem dX3_put_89 : decode cX3_put 89 = .ok (.getfield 144, 3) := by decide +kernel
theorem dX3_put_92 : decode cX3_put 92 = .ok (.ireturn, 1) := by decide +kernel
set_option maxRecDepth 20000 in
theorem ggX3_fill_X3_palletNumbered : GoodIn wsX3_fill wsX3_palletNumbered := goodIn_ca (goodIn_r _ [13, 14, 15, 16, 17, 18, 12, 19, 113, 114, 115, 116, 117, 118, 119, 120, 121, 122, 123, 124] (by decide +kernel) (by decide +kernel)) (goodIn_sub (fun _ h => List.mem_cons_of_mem _ (List.mem_append_left _ (List.mem_append_left _ (List.mem_append_right _ h)))) (by decide +kernel))
set_option maxRecDepth 20000 in
theorem gX3_fill_X3_palletNumbered : GoodIn wsX3_fill (wsV RX3 134 RX3 yX3_palletNumbered wsX3_palletNumbered) := goodIn_app (goodIn_of _ (by decide +kernel)) ggX3_fill_X3_palletNumbered
set_option maxRecDepth 20000 in
theorem ggX3_fill_X3_kindNumbered : GoodIn wsX3_fill wsX3_kindNumbered := goodIn_ca (goodIn_r _ [23, 14, 15, 24, 17, 18, 12, 19, 113, 114, 115, 116, 117, 118, 119, 120, 121, 122, 123, 124] (by decide +kernel) (by decide +kernel)) (goodIn_sub (fun _ h => List.mem_cons_of_mem _ (List.mem_append_left _ (List.mem_append_left _ (List.mem_append_right _ h)))) (by decide +kernel))
set_option maxRecDepth 20000 in
theorem gX3_fill_X3_kindNumbered : GoodIn wsX3_fill (wsV RX3 87 RX3 yX3_kindNumbered wsX3_kindNumbered) := goodIn_app (goodIn_of _ (by decide +kernel)) ggX3_fill_X3_kindNumbered
set_option maxRecDepth 20000 in
theorem ggX3_fill_X3_isOutside : GoodIn wsX3_fill wsX3_isOutside := goodIn_r _ [19] (by decide +kernel) (by decide +kernel)
set_option maxRecDepth 20000 in
theorem gX3_fill_X3_isOutside : GoodIn wsX3_fill (va_wsS RX3 68 yX3_isOutside wsX3_isOutside) := goodIn_app (goodIn_of _ (by decide +kernel)) ggX3_fill_X3_isOutside
set_option maxRecDepth 20000 in
theorem ggX3_fill_X3_refuseOnTruck : GoodIn wsX3_fill wsX3_refuseOnTruck := goodIn_ca (goodIn_r _ [27, 28, 29, 30, 103, 104, 105, 106, 107, 108, 109, 110, 111, 112] (by decide +kernel) (by decide +kernel)) (goodIn_sub (fun _ h => List.mem_cons_of_mem _ (List.mem_append_left _ (List.mem_append_right _ h))) (by decide +kernel))
set_option maxRecDepth 20000 in
theorem gX3_fill_X3_refuseOnTruck : GoodIn wsX3_fill (va_wsS RX3 140 yX3_refuseOnTruck wsX3_refuseOnTruck) := goodIn_app (goodIn_of _ (by decide +kernel)) ggX3_fill_X3_refuseOnTruck
set_option maxRecDepth 20000 in
theorem ggX3_fill_X3_whyNot : GoodIn wsX3_fill wsX3_whyNot := goodIn_ca (goodIn_r _ [34, 3, 4, 35, 36, 37, 38, 39, 40, 41, 42, 43, 44, 45, 46, 47, 48, 49, 50, 18, 12, 19, 51, 52, 53, 54, 55, 56, 57, 58, 59, 60, 61, 62, 63, 64, 65, 66, 67, 68, 69, 70, 71, 72, 73, 92, 93, 94, 95, 96, 97, 98, 99, 100, 101, 102, 103, 104, 105, 106, 107, 108, 109, 110, 111, 112, 113, 114, 115, 116, 117, 118, 119, 120, 121, 122, 123, 124] (by decide +kernel) (by decide +kernel)) (goodIn_sub (fun _ h => List.mem_cons_of_mem _ (List.mem_append_right _ h)) (by decide +kernel))
set_option maxRecDepth 20000 in
theorem gX3_fill_X3_whyNot : GoodIn wsX3_fill (wsV RX3 149 RX3 yX3_whyNot wsX3_whyNot) := goodIn_app (goodIn_of _ (by decide +kernel)) ggX3_fill_X3_whyNot
set_option maxRecDepth 20000 in
theorem ggX3_fill_X1_lay : GoodIn wsX3_fill wsX1_lay := goodIn_ca (goodIn_r _ [77, 65, 78, 79, 80, 81, 82, 83, 66, 84, 85, 86, 87, 88, 89, 46, 90, 91, 44, 45, 47, 48, 49, 50, 18, 12, 19, 51, 52, 53, 54, 55, 56, 103, 104, 105, 106, 107, 108, 109, 110, 111, 112, 92, 93, 94, 95, 96, 97, 98, 99, 100, 101, 102] (by decide +kernel) (by decide +kernel)) (goodIn_sub (fun _ h => List.mem_cons_of_mem _ (List.mem_append_right _ h)) (by decide +kernel))
set_option maxRecDepth 20000 in
theorem gX3_fill_X1_lay : GoodIn wsX3_fill (wsV RX3 153 RX1 yX1_lay wsX1_lay) := goodIn_app (goodIn_of _ (by decide +kernel)) ggX3_fill_X1_lay
theorem dX3_fill_0 : decode cX3_fill 0 = .ok (.aload_n 0, 1) := by decide +kernel
theorem dX3_fill_1 : decode cX3_fill 1 = .ok (.iload_n 1, 1) := by decide +kernel
theorem dX3_fill_2 : decode cX3_fill 2 = .ok (.invokevirtual 134, 3) := by decide +kernel
theorem dX3_fill_5 : decode cX3_fill 5 = .ok (.astore 4, 2) := by decide +kernel
theorem dX3_fill_7 : decode cX3_fill 7 = .ok (.aload_n 0, 1) := by decide +kernel
theorem dX3_fill_8 : decode cX3_fill 8 = .ok (.iload_n 2, 1) := by decide +kernel
theorem dX3_fill_9 : decode cX3_fill 9 = .ok (.invokevirtual 87, 3) := by decide +kernel
theorem dX3_fill_12 : decode cX3_fill 12 = .ok (.astore 5, 2) := by decide +kernel
theorem dX3_fill_14 : decode cX3_fill 14 = .ok (.iload_n 3, 1) := by decide +kernel
theorem dX3_fill_15 : decode cX3_fill 15 = .ok (.iconst 1, 1) := by decide +kernel
theorem dX3_fill_16 : decode cX3_fill 16 = .ok (.sipush 600, 3) := by decide +kernel
theorem dX3_fill_19 : decode cX3_fill 19 = .ok (.invokestatic 68, 3) := by decide +kernel
theorem dX3_fill_22 : decode cX3_fill 22 = .ok (.ifCond .eq 13, 3) := by decide +kernel
theorem dX3_fill_25 : decode cX3_fill 25 = .ok (.new 72, 3) := by decide +kernel
theorem dX3_fill_28 : decode cX3_fill 28 = .ok (.dup, 1) := by decide +kernel
theorem dX3_fill_29 : decode cX3_fill 29 = .ok (.ldc 138, 2) := by decide +kernel
theorem dX3_fill_31 : decode cX3_fill 31 = .ok (.invokespecial 76, 3) := by decide +kernel
theorem dX3_fill_34 : decode cX3_fill 34 = .ok (.athrow, 1) := by decide +kernel
theorem dX3_fill_35 : decode cX3_fill 35 = .ok (.aload 4, 2) := by decide +kernel
theorem dX3_fill_37 : decode cX3_fill 37 = .ok (.invokestatic 140, 3) := by decide +kernel
theorem dX3_fill_40 : decode cX3_fill 40 = .ok (.aload 5, 2) := by decide +kernel
theorem dX3_fill_42 : decode cX3_fill 42 = .ok (.getfield 106, 3) := by decide +kernel
theorem dX3_fill_45 : decode cX3_fill 45 = .ok (.ifCond .ne 5, 3) := by decide +kernel
theorem dX3_fill_48 : decode cX3_fill 48 = .ok (.iconst 0, 1) := by decide +kernel
theorem dX3_fill_49 : decode cX3_fill 49 = .ok (.ireturn, 1) := by decide +kernel
theorem dX3_fill_50 : decode cX3_fill 50 = .ok (.iconst 0, 1) := by decide +kernel
theorem dX3_fill_51 : decode cX3_fill 51 = .ok (.istore 6, 2) := by decide +kernel
theorem dX3_fill_53 : decode cX3_fill 53 = .ok (.aload 4, 2) := by decide +kernel
theorem dX3_fill_55 : decode cX3_fill 55 = .ok (.getfield 144, 3) := by decide +kernel
theorem dX3_fill_58 : decode cX3_fill 58 = .ok (.istore 7, 2) := by decide +kernel
theorem dX3_fill_60 : decode cX3_fill 60 = .ok (.iload 7, 2) := by decide +kernel
theorem dX3_fill_62 : decode cX3_fill 62 = .ok (.bipush 10, 2) := by decide +kernel
theorem dX3_fill_64 : decode cX3_fill 64 = .ok (.if_icmp .ge 62, 3) := by decide +kernel
theorem dX3_fill_67 : decode cX3_fill 67 = .ok (.iload 6, 2) := by decide +kernel
theorem dX3_fill_69 : decode cX3_fill 69 = .ok (.iload_n 3, 1) := by decide +kernel
theorem dX3_fill_70 : decode cX3_fill 70 = .ok (.if_icmp .ge 56, 3) := by decide +kernel
theorem dX3_fill_73 : decode cX3_fill 73 = .ok (.aload 5, 2) := by decide +kernel
theorem dX3_fill_75 : decode cX3_fill 75 = .ok (.getfield 106, 3) := by decide +kernel
theorem dX3_fill_78 : decode cX3_fill 78 = .ok (.iload_n 3, 1) := by decide +kernel
theorem dX3_fill_79 : decode cX3_fill 79 = .ok (.iload 6, 2) := by decide +kernel
theorem dX3_fill_81 : decode cX3_fill 81 = .ok (.isub, 1) := by decide +kernel
theorem dX3_fill_82 : decode cX3_fill 82 = .ok (.invokestatic 44, 3) := by decide +kernel
theorem dX3_fill_85 : decode cX3_fill 85 = .ok (.istore 8, 2) := by decide +kernel
theorem dX3_fill_87 : decode cX3_fill 87 = .ok (.aload_n 0, 1) := by decide +kernel
theorem dX3_fill_88 : decode cX3_fill 88 = .ok (.aload 4, 2) := by decide +kernel
theorem dX3_fill_90 : decode cX3_fill 90 = .ok (.aload 5, 2) := by decide +kernel
theorem dX3_fill_92 : decode cX3_fill 92 = .ok (.iload 8, 2) := by decide +kernel
theorem dX3_fill_94 : decode cX3_fill 94 = .ok (.invokevirtual 149, 3) := by decide +kernel
theorem dX3_fill_97 : decode cX3_fill 97 = .ok (.ifCond .ge 6, 3) := by decide +kernel
theorem dX3_fill_100 : decode cX3_fill 100 = .ok (.goto 26, 3) := by decide +kernel
theorem dX3_fill_103 : decode cX3_fill 103 = .ok (.aload 4, 2) := by decide +kernel
theorem dX3_fill_105 : decode cX3_fill 105 = .ok (.iload_n 2, 1) := by decide +kernel
theorem dX3_fill_106 : decode cX3_fill 106 = .ok (.aload 5, 2) := by decide +kernel
theorem dX3_fill_108 : decode cX3_fill 108 = .ok (.iload 8, 2) := by decide +kernel
theorem dX3_fill_110 : decode cX3_fill 110 = .ok (.invokevirtual 153, 3) := by decide +kernel
theorem dX3_fill_113 : decode cX3_fill 113 = .ok (.iload 6, 2) := by decide +kernel
theorem dX3_fill_115 : decode cX3_fill 115 = .ok (.iload 8, 2) := by decide +kernel
theorem dX3_fill_117 : decode cX3_fill 117 = .ok (.iadd, 1) := by decide +kernel
theorem dX3_fill_118 : decode cX3_fill 118 = .ok (.istore 6, 2) := by decide +kernel
theorem dX3_fill_120 : decode cX3_fill 120 = .ok (.iinc 7 1, 3) := by decide +kernel
theorem dX3_fill_123 : decode cX3_fill 123 = .ok (.goto (-63), 3) := by decide +kernel
theorem dX3_fill_126 : decode cX3_fill 126 = .ok (.iload 6, 2) := by decide +kernel
theorem dX3_fill_128 : decode cX3_fill 128 = .ok (.ireturn, 1) := by decide +kernel
set_option maxRecDepth 20000 in
theorem ggX3_take_X3_palletNumbered : GoodIn wsX3_take wsX3_palletNumbered := goodIn_ca (goodIn_r _ [5, 6, 7, 8, 9, 10, 4, 11, 34, 35, 36, 37, 38, 39, 40, 41, 42, 43, 44, 45] (by decide +kernel) (by decide +kernel)) (goodIn_sub (fun _ h => List.mem_cons_of_mem _ (List.mem_append_left _ (List.mem_append_left _ (List.mem_append_right _ h)))) (by decide +kernel))
set_option maxRecDepth 20000 in
theorem gX3_take_X3_palletNumbered : GoodIn wsX3_take (wsV RX3 134 RX3 yX3_palletNumbered wsX3_palletNumbered) := goodIn_app (goodIn_of _ (by decide +kernel)) ggX3_take_X3_palletNumbered
set_option maxRecDepth 20000 in
theorem ggX3_take_X3_refuseOnTruck : GoodIn wsX3_take wsX3_refuseOnTruck := goodIn_ca (goodIn_r _ [14, 15, 16, 17, 46, 47, 48, 49, 50, 51, 52, 53, 54, 55] (by decide +kernel) (by decide +kernel)) (goodIn_sub (fun _ h => List.mem_cons_of_mem _ (List.mem_append_left _ (List.mem_append_right _ h))) (by decide +kernel))
set_option maxRecDepth 20000 in
theorem gX3_take_X3_refuseOnTruck : GoodIn wsX3_take (va_wsS RX3 140 yX3_refuseOnTruck wsX3_refuseOnTruck) := goodIn_app (goodIn_of _ (by decide +kernel)) ggX3_take_X3_refuseOnTruck
set_option maxRecDepth 20000 in
theorem ggX3_take_X3_refuseEmpty : GoodIn wsX3_take wsX3_refuseEmpty := goodIn_ca (goodIn_r _ [20, 15, 16, 21, 46, 47, 48, 49, 50, 51, 52, 53, 54, 55] (by decide +kernel) (by decide +kernel)) (goodIn_sub (fun _ h => List.mem_cons_of_mem _ (List.mem_append_left _ (List.mem_append_right _ h))) (by decide +kernel))
set_option maxRecDepth 20000 in
theorem gX3_take_X3_refuseEmpty : GoodIn wsX3_take (va_wsS RX3 157 yX3_refuseEmpty wsX3_refuseEmpty) := goodIn_app (goodIn_of _ (by decide +kernel)) ggX3_take_X3_refuseEmpty
set_option maxRecDepth 20000 in
theorem ggX3_take_X1_liftTop : GoodIn wsX3_take wsX1_liftTop := goodIn_ca (goodIn_r _ [26, 27, 28, 29, 30, 31, 32, 33, 46, 47, 48, 49, 50, 51, 52, 53, 54, 55] (by decide +kernel) (by decide +kernel)) (goodIn_sub (fun _ h => List.mem_cons_of_mem _ (List.mem_append_right _ h)) (by decide +kernel))
set_option maxRecDepth 20000 in
theorem gX3_take_X1_liftTop : GoodIn wsX3_take (wsV RX3 160 RX1 yX1_liftTop wsX1_liftTop) := goodIn_app (goodIn_of _ (by decide +kernel)) ggX3_take_X1_liftTop
theorem dX3_take_0 : decode cX3_take 0 = .ok (.aload_n 0, 1) := by decide +kernel
theorem dX3_take_1 : decode cX3_take 1 = .ok (.iload_n 1, 1) := by decide +kernel
theorem dX3_take_2 : decode cX3_take 2 = .ok (.invokevirtual 134, 3) := by decide +kernel
theorem dX3_take_5 : decode cX3_take 5 = .ok (.astore_n 2, 1) := by decide +kernel
theorem dX3_take_6 : decode cX3_take 6 = .ok (.aload_n 2, 1) := by decide +kernel
theorem dX3_take_7 : decode cX3_take 7 = .ok (.invokestatic 140, 3) := by decide +kernel
theorem dX3_take_10 : decode cX3_take 10 = .ok (.aload_n 2, 1) := by decide +kernel
theorem dX3_take_11 : decode cX3_take 11 = .ok (.invokestatic 157, 3) := by decide +kernel
theorem dX3_take_14 : decode cX3_take 14 = .ok (.aload_n 2, 1) := by decide +kernel
theorem dX3_take_15 : decode cX3_take 15 = .ok (.invokevirtual 160, 3) := by decide +kernel
theorem dX3_take_18 : decode cX3_take 18 = .ok (.ireturn, 1) := by decide +kernel
set_option maxRecDepth 20000 in
theorem ggX3_support_X3_palletWithLayer : GoodIn wsX3_support wsX3_palletWithLayer := goodIn_ca (goodIn_r _ [10, 1, 2, 11, 12, 13, 14, 9, 15, 16, 17, 18, 19, 56, 57, 58, 59, 60, 61, 62, 63, 64, 65, 77, 78, 79, 80, 81, 82, 83, 84, 85, 86, 87, 88] (by decide +kernel) (by decide +kernel)) (goodIn_sub (fun _ h => List.mem_cons_of_mem _ (List.mem_append_right _ h)) (by decide +kernel))
set_option maxRecDepth 20000 in
theorem gX3_support_X3_palletWithLayer : GoodIn wsX3_support (wsV RX3 164 RX3 yX3_palletWithLayer wsX3_palletWithLayer) := goodIn_app (goodIn_of _ (by decide +kernel)) ggX3_support_X3_palletWithLayer
set_option maxRecDepth 20000 in
theorem ggX3_support_X3_kindNumbered : GoodIn wsX3_support wsX3_kindNumbered := goodIn_ca (goodIn_r _ [23, 1, 2, 24, 17, 18, 9, 19, 77, 78, 79, 80, 81, 82, 83, 84, 85, 86, 87, 88] (by decide +kernel) (by decide +kernel)) (goodIn_sub (fun _ h => List.mem_cons_of_mem _ (List.mem_append_right _ h)) (by decide +kernel))
set_option maxRecDepth 20000 in
theorem gX3_support_X3_kindNumbered : GoodIn wsX3_support (wsV RX3 87 RX3 yX3_kindNumbered wsX3_kindNumbered) := goodIn_app (goodIn_of _ (by decide +kernel)) ggX3_support_X3_kindNumbered
set_option maxRecDepth 20000 in
theorem ggX3_support_X3_isOutside : GoodIn wsX3_support wsX3_isOutside := goodIn_r _ [19] (by decide +kernel) (by decide +kernel)
set_option maxRecDepth 20000 in
theorem gX3_support_X3_isOutside : GoodIn wsX3_support (va_wsS RX3 68 yX3_isOutside wsX3_isOutside) := goodIn_app (goodIn_of _ (by decide +kernel)) ggX3_support_X3_isOutside
set_option maxRecDepth 20000 in
theorem ggX3_support_X0_cellsOfBox : GoodIn wsX3_support wsX0_cellsOfBox := goodIn_ca (goodIn_r _ [29, 30, 31, 32, 18, 9, 19, 33, 34, 35, 28, 36, 37, 38, 66, 67, 68, 69, 70, 71, 72, 73, 74, 75, 76] (by decide +kernel) (by decide +kernel)) (goodIn_sub (fun _ h => List.mem_cons_of_mem _ (List.mem_append_left _ (List.mem_append_right _ h))) (by decide +kernel))
set_option maxRecDepth 20000 in
theorem gX3_support_X0_cellsOfBox : GoodIn wsX3_support (wsV RX3 179 RX0 yX0_cellsOfBox wsX0_cellsOfBox) := goodIn_app (goodIn_of _ (by decide +kernel)) ggX3_support_X0_cellsOfBox
set_option maxRecDepth 20000 in
theorem ggX3_support_X3_supportedCells : GoodIn wsX3_support wsX3_supportedCells := goodIn_ca (goodIn_r _ [41, 42, 43, 44, 45, 46, 47, 48, 18, 9, 19, 49, 50, 51, 52, 53, 54, 55, 56, 57, 58, 59, 60, 61, 62, 63, 64, 65] (by decide +kernel) (by decide +kernel)) (goodIn_sub (fun _ h => List.mem_cons_of_mem _ (List.mem_append_left _ (List.mem_append_right _ h))) (by decide +kernel))
set_option maxRecDepth 20000 in
theorem gX3_support_X3_supportedCells : GoodIn wsX3_support (va_wsS RX3 183 yX3_supportedCells wsX3_supportedCells) := goodIn_app (goodIn_of _ (by decide +kernel)) ggX3_support_X3_supportedCells
theorem dX3_support_0 : decode cX3_support 0 = .ok (.aload_n 0, 1) := by decide +kernel
theorem dX3_support_1 : decode cX3_support 1 = .ok (.iload_n 1, 1) := by decide +kernel
theorem dX3_support_2 : decode cX3_support 2 = .ok (.iload_n 2, 1) := by decide +kernel
theorem dX3_support_3 : decode cX3_support 3 = .ok (.invokevirtual 164, 3) := by decide +kernel
theorem dX3_support_6 : decode cX3_support 6 = .ok (.astore 4, 2) := by decide +kernel
theorem dX3_support_8 : decode cX3_support 8 = .ok (.aload_n 0, 1) := by decide +kernel
theorem dX3_support_9 : decode cX3_support 9 = .ok (.aload 4, 2) := by decide +kernel
theorem dX3_support_11 : decode cX3_support 11 = .ok (.getfield 168, 3) := by decide +kernel
theorem dX3_support_14 : decode cX3_support 14 = .ok (.iload_n 2, 1) := by decide +kernel
theorem dX3_support_15 : decode cX3_support 15 = .ok (.iaload, 1) := by decide +kernel
theorem dX3_support_16 : decode cX3_support 16 = .ok (.invokevirtual 87, 3) := by decide +kernel
theorem dX3_support_19 : decode cX3_support 19 = .ok (.astore 5, 2) := by decide +kernel
theorem dX3_support_21 : decode cX3_support 21 = .ok (.iload_n 3, 1) := by decide +kernel
theorem dX3_support_22 : decode cX3_support 22 = .ok (.iconst 0, 1) := by decide +kernel
theorem dX3_support_23 : decode cX3_support 23 = .ok (.aload 4, 2) := by decide +kernel
theorem dX3_support_25 : decode cX3_support 25 = .ok (.getfield 171, 3) := by decide +kernel
theorem dX3_support_28 : decode cX3_support 28 = .ok (.iload_n 2, 1) := by decide +kernel
theorem dX3_support_29 : decode cX3_support 29 = .ok (.iaload, 1) := by decide +kernel
theorem dX3_support_30 : decode cX3_support 30 = .ok (.iconst 1, 1) := by decide +kernel
theorem dX3_support_31 : decode cX3_support 31 = .ok (.isub, 1) := by decide +kernel
theorem dX3_support_32 : decode cX3_support 32 = .ok (.invokestatic 68, 3) := by decide +kernel
theorem dX3_support_35 : decode cX3_support 35 = .ok (.ifCond .eq 13, 3) := by decide +kernel
theorem dX3_support_38 : decode cX3_support 38 = .ok (.new 174, 3) := by decide +kernel
theorem dX3_support_41 : decode cX3_support 41 = .ok (.dup, 1) := by decide +kernel
theorem dX3_support_42 : decode cX3_support 42 = .ok (.ldc 176, 2) := by decide +kernel
theorem dX3_support_44 : decode cX3_support 44 = .ok (.invokespecial 178, 3) := by decide +kernel
theorem dX3_support_47 : decode cX3_support 47 = .ok (.athrow, 1) := by decide +kernel
theorem dX3_support_48 : decode cX3_support 48 = .ok (.aload 4, 2) := by decide +kernel
theorem dX3_support_50 : decode cX3_support 50 = .ok (.iload_n 2, 1) := by decide +kernel
theorem dX3_support_51 : decode cX3_support 51 = .ok (.aload 5, 2) := by decide +kernel
theorem dX3_support_53 : decode cX3_support 53 = .ok (.iload_n 3, 1) := by decide +kernel
theorem dX3_support_54 : decode cX3_support 54 = .ok (.invokevirtual 179, 3) := by decide +kernel
theorem dX3_support_57 : decode cX3_support 57 = .ok (.invokestatic 183, 3) := by decide +kernel
theorem dX3_support_60 : decode cX3_support 60 = .ok (.bipush 100, 2) := by decide +kernel
theorem dX3_support_62 : decode cX3_support 62 = .ok (.imul, 1) := by decide +kernel
theorem dX3_support_63 : decode cX3_support 63 = .ok (.aload 5, 2) := by decide +kernel
theorem dX3_support_65 : decode cX3_support 65 = .ok (.getfield 126, 3) := by decide +kernel
theorem dX3_support_68 : decode cX3_support 68 = .ok (.idiv, 1) := by decide +kernel
theorem dX3_support_69 : decode cX3_support 69 = .ok (.ireturn, 1) := by decide +kernel
set_option maxRecDepth 20000 in
theorem ggX3_told_X3_palletNumbered : GoodIn wsX3_told wsX3_palletNumbered := goodIn_ca (goodIn_r _ [12, 13, 14, 15, 16, 17, 11, 18, 36, 37, 38, 39, 40, 41, 42, 43, 44, 45, 46, 47] (by decide +kernel) (by decide +kernel)) (goodIn_sub (fun _ h => List.mem_cons_of_mem _ (List.mem_append_left _ (List.mem_append_right _ h))) (by decide +kernel))
set_option maxRecDepth 20000 in
theorem gX3_told_X3_palletNumbered : GoodIn wsX3_told (wsV RX3 134 RX3 yX3_palletNumbered wsX3_palletNumbered) := goodIn_app (goodIn_of _ (by decide +kernel)) ggX3_told_X3_palletNumbered
set_option maxRecDepth 20000 in
theorem ggX3_told_X1_kindBits : GoodIn wsX3_told wsX1_kindBits := goodIn_ca (goodIn_r _ [23, 24, 25, 26, 27, 28, 29, 30, 31, 32, 33, 34, 35] (by decide +kernel) (by decide +kernel)) (goodIn_sub (fun _ h => List.mem_cons_of_mem _ (List.mem_append_right _ h)) (by decide +kernel))
set_option maxRecDepth 20000 in
theorem gX3_told_X1_kindBits : GoodIn wsX3_told (wsV RX3 197 RX1 yX1_kindBits wsX1_kindBits) := goodIn_app (goodIn_of _ (by decide +kernel)) ggX3_told_X1_kindBits
theorem dX3_told_0 : decode cX3_told 0 = .ok (.aload_n 0, 1) := by decide +kernel
theorem dX3_told_1 : decode cX3_told 1 = .ok (.iload_n 1, 1) := by decide +kernel
theorem dX3_told_2 : decode cX3_told 2 = .ok (.invokevirtual 134, 3) := by decide +kernel
theorem dX3_told_5 : decode cX3_told 5 = .ok (.astore_n 3, 1) := by decide +kernel
theorem dX3_told_6 : decode cX3_told 6 = .ok (.iload_n 2, 1) := by decide +kernel
theorem dX3_told_7 : decode cX3_told 7 = .ok (.tableswitch 67 0 5 #[37, 42, 47, 52, 57, 62], 37) := by decide +kernel
theorem dX3_told_44 : decode cX3_told 44 = .ok (.aload_n 3, 1) := by decide +kernel
theorem dX3_told_45 : decode cX3_told 45 = .ok (.getfield 187, 3) := by decide +kernel
theorem dX3_told_48 : decode cX3_told 48 = .ok (.ireturn, 1) := by decide +kernel
theorem dX3_told_49 : decode cX3_told 49 = .ok (.aload_n 3, 1) := by decide +kernel
theorem dX3_told_50 : decode cX3_told 50 = .ok (.getfield 190, 3) := by decide +kernel
theorem dX3_told_53 : decode cX3_told 53 = .ok (.ireturn, 1) := by decide +kernel
theorem dX3_told_54 : decode cX3_told 54 = .ok (.aload_n 3, 1) := by decide +kernel
theorem dX3_told_55 : decode cX3_told 55 = .ok (.getfield 144, 3) := by decide +kernel
theorem dX3_told_58 : decode cX3_told 58 = .ok (.ireturn, 1) := by decide +kernel
theorem dX3_told_59 : decode cX3_told 59 = .ok (.aload_n 3, 1) := by decide +kernel
theorem dX3_told_60 : decode cX3_told 60 = .ok (.getfield 193, 3) := by decide +kernel
theorem dX3_told_63 : decode cX3_told 63 = .ok (.ireturn, 1) := by decide +kernel
theorem dX3_told_64 : decode cX3_told 64 = .ok (.aload_n 3, 1) := by decide +kernel
theorem dX3_told_65 : decode cX3_told 65 = .ok (.getfield 194, 3) := by decide +kernel
theorem dX3_told_68 : decode cX3_told 68 = .ok (.ireturn, 1) := by decide +kernel
theorem dX3_told_69 : decode cX3_told 69 = .ok (.aload_n 3, 1) := by decide +kernel
theorem dX3_told_70 : decode cX3_told 70 = .ok (.invokevirtual 197, 3) := by decide +kernel
theorem dX3_told_73 : decode cX3_told 73 = .ok (.ireturn, 1) := by decide +kernel
theorem dX3_told_74 : decode cX3_told 74 = .ok (.new 72, 3) := by decide +kernel
theorem dX3_told_77 : decode cX3_told 77 = .ok (.dup, 1) := by decide +kernel
theorem dX3_told_78 : decode cX3_told 78 = .ok (.ldc 109, 2) := by decide +kernel
theorem dX3_told_80 : decode cX3_told 80 = .ok (.invokespecial 76, 3) := by decide +kernel
theorem dX3_told_83 : decode cX3_told 83 = .ok (.athrow, 1) := by decide +kernel
set_option maxRecDepth 20000 in
theorem ggX3_layer_X3_palletWithLayer : GoodIn wsX3_layer wsX3_palletWithLayer := goodIn_ca (goodIn_r _ [11, 12, 13, 14, 15, 16, 17, 10, 18, 19, 20, 21, 22, 28, 29, 30, 31, 32, 33, 34, 35, 36, 37, 49, 50, 51, 52, 53, 54, 55, 56, 57, 58, 59, 60] (by decide +kernel) (by decide +kernel)) (goodIn_sub (fun _ h => List.mem_cons_of_mem _ (List.mem_append_right _ h)) (by decide +kernel))
set_option maxRecDepth 20000 in
theorem gX3_layer_X3_palletWithLayer : GoodIn wsX3_layer (wsV RX3 164 RX3 yX3_palletWithLayer wsX3_palletWithLayer) := goodIn_app (goodIn_of _ (by decide +kernel)) ggX3_layer_X3_palletWithLayer
set_option maxRecDepth 20000 in
theorem ggX3_layer_X3_kindNumbered : GoodIn wsX3_layer wsX3_kindNumbered := goodIn_ca (goodIn_r _ [26, 12, 13, 27, 20, 21, 10, 22, 49, 50, 51, 52, 53, 54, 55, 56, 57, 58, 59, 60] (by decide +kernel) (by decide +kernel)) (goodIn_sub (fun _ h => List.mem_cons_of_mem _ (List.mem_append_right _ h)) (by decide +kernel))
set_option maxRecDepth 20000 in
theorem gX3_layer_X3_kindNumbered : GoodIn wsX3_layer (wsV RX3 87 RX3 yX3_kindNumbered wsX3_kindNumbered) := goodIn_app (goodIn_of _ (by decide +kernel)) ggX3_layer_X3_kindNumbered
theorem dX3_layer_0 : decode cX3_layer 0 = .ok (.aload_n 0, 1) := by decide +kernel
theorem dX3_layer_1 : decode cX3_layer 1 = .ok (.iload_n 1, 1) := by decide +kernel
theorem dX3_layer_2 : decode cX3_layer 2 = .ok (.iload_n 2, 1) := by decide +kernel
theorem dX3_layer_3 : decode cX3_layer 3 = .ok (.invokevirtual 164, 3) := by decide +kernel
theorem dX3_layer_6 : decode cX3_layer 6 = .ok (.astore 4, 2) := by decide +kernel
theorem dX3_layer_8 : decode cX3_layer 8 = .ok (.iload_n 3, 1) := by decide +kernel
theorem dX3_layer_9 : decode cX3_layer 9 = .ok (.tableswitch 85 0 3 #[31, 39, 47, 55], 31) := by decide +kernel
theorem dX3_layer_40 : decode cX3_layer 40 = .ok (.aload 4, 2) := by decide +kernel
theorem dX3_layer_42 : decode cX3_layer 42 = .ok (.getfield 168, 3) := by decide +kernel
theorem dX3_layer_45 : decode cX3_layer 45 = .ok (.iload_n 2, 1) := by decide +kernel
theorem dX3_layer_46 : decode cX3_layer 46 = .ok (.iaload, 1) := by decide +kernel
theorem dX3_layer_47 : decode cX3_layer 47 = .ok (.ireturn, 1) := by decide +kernel
theorem dX3_layer_48 : decode cX3_layer 48 = .ok (.aload 4, 2) := by decide +kernel
theorem dX3_layer_50 : decode cX3_layer 50 = .ok (.getfield 171, 3) := by decide +kernel
theorem dX3_layer_53 : decode cX3_layer 53 = .ok (.iload_n 2, 1) := by decide +kernel
theorem dX3_layer_54 : decode cX3_layer 54 = .ok (.iaload, 1) := by decide +kernel
theorem dX3_layer_55 : decode cX3_layer 55 = .ok (.ireturn, 1) := by decide +kernel
theorem dX3_layer_56 : decode cX3_layer 56 = .ok (.aload 4, 2) := by decide +kernel
theorem dX3_layer_58 : decode cX3_layer 58 = .ok (.getfield 200, 3) := by decide +kernel
theorem dX3_layer_61 : decode cX3_layer 61 = .ok (.iload_n 2, 1) := by decide +kernel
theorem dX3_layer_62 : decode cX3_layer 62 = .ok (.iaload, 1) := by decide +kernel
theorem dX3_layer_63 : decode cX3_layer 63 = .ok (.ireturn, 1) := by decide +kernel
theorem dX3_layer_64 : decode cX3_layer 64 = .ok (.aload 4, 2) := by decide +kernel
theorem dX3_layer_66 : decode cX3_layer 66 = .ok (.getfield 171, 3) := by decide +kernel
theorem dX3_layer_69 : decode cX3_layer 69 = .ok (.iload_n 2, 1) := by decide +kernel
theorem dX3_layer_70 : decode cX3_layer 70 = .ok (.iaload, 1) := by decide +kernel
theorem dX3_layer_71 : decode cX3_layer 71 = .ok (.aload_n 0, 1) := by decide +kernel
theorem dX3_layer_72 : decode cX3_layer 72 = .ok (.aload 4, 2) := by decide +kernel
theorem dX3_layer_74 : decode cX3_layer 74 = .ok (.getfield 168, 3) := by decide +kernel
theorem dX3_layer_77 : decode cX3_layer 77 = .ok (.iload_n 2, 1) := by decide +kernel
theorem dX3_layer_78 : decode cX3_layer 78 = .ok (.iaload, 1) := by decide +kernel
theorem dX3_layer_79 : decode cX3_layer 79 = .ok (.invokevirtual 87, 3) := by decide +kernel
theorem dX3_layer_82 : decode cX3_layer 82 = .ok (.getfield 106, 3) := by decide +kernel
theorem dX3_layer_85 : decode cX3_layer 85 = .ok (.if_icmp .ne 7, 3) := by decide +kernel
theorem dX3_layer_88 : decode cX3_layer 88 = .ok (.iconst 1, 1) := by decide +kernel
theorem dX3_layer_89 : decode cX3_layer 89 = .ok (.goto 4, 3) := by decide +kernel
theorem dX3_layer_92 : decode cX3_layer 92 = .ok (.iconst 0, 1) := by decide +kernel
theorem dX3_layer_93 : decode cX3_layer 93 = .ok (.ireturn, 1) := by decide +kernel
theorem dX3_layer_94 : decode cX3_layer 94 = .ok (.new 72, 3) := by decide +kernel
theorem dX3_layer_97 : decode cX3_layer 97 = .ok (.dup, 1) := by decide +kernel
theorem dX3_layer_98 : decode cX3_layer 98 = .ok (.ldc 109, 2) := by decide +kernel
theorem dX3_layer_100 : decode cX3_layer 100 = .ok (.invokespecial 76, 3) := by decide +kernel
theorem dX3_layer_103 : decode cX3_layer 103 = .ok (.athrow, 1) := by decide +kernel
set_option maxRecDepth 20000 in
theorem ggX3_truck_X3_palletNumbered : GoodIn wsX3_truck wsX3_palletNumbered := goodIn_ca (goodIn_r _ [12, 13, 14, 15, 16, 17, 11, 18, 30, 31, 32, 33, 34, 35, 36, 37, 38, 39, 40, 41] (by decide +kernel) (by decide +kernel)) (goodIn_sub (fun _ h => List.mem_cons_of_mem _ (List.mem_append_right _ h)) (by decide +kernel))
set_option maxRecDepth 20000 in
theorem gX3_truck_X3_palletNumbered : GoodIn wsX3_truck (wsV RX3 134 RX3 yX3_palletNumbered wsX3_palletNumbered) := goodIn_app (goodIn_of _ (by decide +kernel)) ggX3_truck_X3_palletNumbered
set_option maxRecDepth 20000 in
theorem ggX3_truck_X3_isOutside : GoodIn wsX3_truck wsX3_isOutside := goodIn_r _ [18] (by decide +kernel) (by decide +kernel)
set_option maxRecDepth 20000 in
theorem gX3_truck_X3_isOutside : GoodIn wsX3_truck (va_wsS RX3 68 yX3_isOutside wsX3_isOutside) := goodIn_app (goodIn_of _ (by decide +kernel)) ggX3_truck_X3_isOutside
set_option maxRecDepth 20000 in
theorem ggX3_truck_X3_refuseOnTruck : GoodIn wsX3_truck wsX3_refuseOnTruck := goodIn_ca (goodIn_r _ [21, 3, 4, 7, 42, 43, 44, 45, 46, 47, 48, 49, 50, 51] (by decide +kernel) (by decide +kernel)) (goodIn_sub (fun _ h => List.mem_cons_of_mem _ (List.mem_append_left _ (List.mem_append_left _ (List.mem_append_right _ h)))) (by decide +kernel))
set_option maxRecDepth 20000 in
theorem gX3_truck_X3_refuseOnTruck : GoodIn wsX3_truck (va_wsS RX3 140 yX3_refuseOnTruck wsX3_refuseOnTruck) := goodIn_app (goodIn_of _ (by decide +kernel)) ggX3_truck_X3_refuseOnTruck
set_option maxRecDepth 20000 in
theorem ggX3_truck_X3_refuseEmpty : GoodIn wsX3_truck wsX3_refuseEmpty := goodIn_ca (goodIn_r _ [24, 3, 4, 25, 42, 43, 44, 45, 46, 47, 48, 49, 50, 51] (by decide +kernel) (by decide +kernel)) (goodIn_sub (fun _ h => List.mem_cons_of_mem _ (List.mem_append_left _ (List.mem_append_left _ (List.mem_append_right _ h)))) (by decide +kernel))
set_option maxRecDepth 20000 in
theorem gX3_truck_X3_refuseEmpty : GoodIn wsX3_truck (va_wsS RX3 157 yX3_refuseEmpty wsX3_refuseEmpty) := goodIn_app (goodIn_of _ (by decide +kernel)) ggX3_truck_X3_refuseEmpty
set_option maxRecDepth 20000 in
theorem ggX3_truck_X3_hasLesserStopAboard : GoodIn wsX3_truck wsX3_hasLesserStopAboard := goodIn_ca (goodIn_ca (goodIn_r _ [29, 5, 6, 7, 8, 9, 10, 11, 12, 13, 14, 15, 16, 17, 18, 30, 31, 32, 33, 34, 35, 36, 37, 38, 39, 40, 41, 42, 43, 44, 45, 46, 47, 48, 49, 50, 51] (by decide +kernel) (by decide +kernel)) (goodIn_sub (fun _ h => List.mem_cons_of_mem _ (List.mem_append_left _ (List.mem_append_right _ h))) (by decide +kernel))) (goodIn_sub (fun _ h => List.mem_cons_of_mem _ (List.mem_append_right _ h)) (by decide +kernel))
set_option maxRecDepth 20000 in
theorem gX3_truck_X3_hasLesserStopAboard : GoodIn wsX3_truck (wsV RX3 205 RX3 yX3_hasLesserStopAboard wsX3_hasLesserStopAboard) := goodIn_app (goodIn_of _ (by decide +kernel)) ggX3_truck_X3_hasLesserStopAboard
theorem dX3_truck_0 : decode cX3_truck 0 = .ok (.aload_n 0, 1) := by decide +kernel
theorem dX3_truck_1 : decode cX3_truck 1 = .ok (.iload_n 1, 1) := by decide +kernel
theorem dX3_truck_2 : decode cX3_truck 2 = .ok (.invokevirtual 134, 3) := by decide +kernel
theorem dX3_truck_5 : decode cX3_truck 5 = .ok (.astore_n 3, 1) := by decide +kernel
theorem dX3_truck_6 : decode cX3_truck 6 = .ok (.iload_n 2, 1) := by decide +kernel
theorem dX3_truck_7 : decode cX3_truck 7 = .ok (.iconst 0, 1) := by decide +kernel
theorem dX3_truck_8 : decode cX3_truck 8 = .ok (.bipush 9, 2) := by decide +kernel
theorem dX3_truck_10 : decode cX3_truck 10 = .ok (.invokestatic 68, 3) := by decide +kernel
theorem dX3_truck_13 : decode cX3_truck 13 = .ok (.ifCond .eq 13, 3) := by decide +kernel
theorem dX3_truck_16 : decode cX3_truck 16 = .ok (.new 72, 3) := by decide +kernel
theorem dX3_truck_19 : decode cX3_truck 19 = .ok (.dup, 1) := by decide +kernel
theorem dX3_truck_20 : decode cX3_truck 20 = .ok (.ldc 203, 2) := by decide +kernel
theorem dX3_truck_22 : decode cX3_truck 22 = .ok (.invokespecial 76, 3) := by decide +kernel
theorem dX3_truck_25 : decode cX3_truck 25 = .ok (.athrow, 1) := by decide +kernel
theorem dX3_truck_26 : decode cX3_truck 26 = .ok (.aload_n 3, 1) := by decide +kernel
theorem dX3_truck_27 : decode cX3_truck 27 = .ok (.invokestatic 140, 3) := by decide +kernel
theorem dX3_truck_30 : decode cX3_truck 30 = .ok (.aload_n 3, 1) := by decide +kernel
theorem dX3_truck_31 : decode cX3_truck 31 = .ok (.invokestatic 157, 3) := by decide +kernel
theorem dX3_truck_34 : decode cX3_truck 34 = .ok (.aload_n 0, 1) := by decide +kernel
theorem dX3_truck_35 : decode cX3_truck 35 = .ok (.iload_n 2, 1) := by decide +kernel
theorem dX3_truck_36 : decode cX3_truck 36 = .ok (.invokevirtual 205, 3) := by decide +kernel
theorem dX3_truck_39 : decode cX3_truck 39 = .ok (.ifCond .ne 15, 3) := by decide +kernel
theorem dX3_truck_42 : decode cX3_truck 42 = .ok (.aload_n 0, 1) := by decide +kernel
theorem dX3_truck_43 : decode cX3_truck 43 = .ok (.getfield 32, 3) := by decide +kernel
theorem dX3_truck_46 : decode cX3_truck 46 = .ok (.aload_n 0, 1) := by decide +kernel
theorem dX3_truck_47 : decode cX3_truck 47 = .ok (.getfield 21, 3) := by decide +kernel
theorem dX3_truck_50 : decode cX3_truck 50 = .ok (.arraylength, 1) := by decide +kernel
theorem dX3_truck_51 : decode cX3_truck 51 = .ok (.if_icmp .lt 13, 3) := by decide +kernel
theorem dX3_truck_54 : decode cX3_truck 54 = .ok (.new 97, 3) := by decide +kernel
theorem dX3_truck_57 : decode cX3_truck 57 = .ok (.dup, 1) := by decide +kernel
theorem dX3_truck_58 : decode cX3_truck 58 = .ok (.ldc 208, 2) := by decide +kernel
theorem dX3_truck_60 : decode cX3_truck 60 = .ok (.invokespecial 101, 3) := by decide +kernel
theorem dX3_truck_63 : decode cX3_truck 63 = .ok (.athrow, 1) := by decide +kernel
theorem dX3_truck_64 : decode cX3_truck 64 = .ok (.aload_n 0, 1) := by decide +kernel
theorem dX3_truck_65 : decode cX3_truck 65 = .ok (.getfield 21, 3) := by decide +kernel
theorem dX3_truck_68 : decode cX3_truck 68 = .ok (.aload_n 0, 1) := by decide +kernel
theorem dX3_truck_69 : decode cX3_truck 69 = .ok (.getfield 32, 3) := by decide +kernel
theorem dX3_truck_72 : decode cX3_truck 72 = .ok (.iload_n 1, 1) := by decide +kernel
theorem dX3_truck_73 : decode cX3_truck 73 = .ok (.iastore, 1) := by decide +kernel
theorem dX3_truck_74 : decode cX3_truck 74 = .ok (.aload_n 0, 1) := by decide +kernel
theorem dX3_truck_75 : decode cX3_truck 75 = .ok (.dup, 1) := by decide +kernel
theorem dX3_truck_76 : decode cX3_truck 76 = .ok (.getfield 32, 3) := by decide +kernel
theorem dX3_truck_79 : decode cX3_truck 79 = .ok (.iconst 1, 1) := by decide +kernel
theorem dX3_truck_80 : decode cX3_truck 80 = .ok (.iadd, 1) := by decide +kernel
theorem dX3_truck_81 : decode cX3_truck 81 = .ok (.putfield 32, 3) := by decide +kernel
theorem dX3_truck_84 : decode cX3_truck 84 = .ok (.aload_n 3, 1) := by decide +kernel
theorem dX3_truck_85 : decode cX3_truck 85 = .ok (.iload_n 2, 1) := by decide +kernel
theorem dX3_truck_86 : decode cX3_truck 86 = .ok (.putfield 194, 3) := by decide +kernel
theorem dX3_truck_89 : decode cX3_truck 89 = .ok (.aload_n 0, 1) := by decide +kernel
theorem dX3_truck_90 : decode cX3_truck 90 = .ok (.getfield 32, 3) := by decide +kernel
theorem dX3_truck_93 : decode cX3_truck 93 = .ok (.ireturn, 1) := by decide +kernel
set_option maxRecDepth 20000 in
theorem ggX3_unload_X3_isOutside : GoodIn wsX3_unload wsX3_isOutside := goodIn_r _ [11] (by decide +kernel) (by decide +kernel)
set_option maxRecDepth 20000 in
theorem gX3_unload_X3_isOutside : GoodIn wsX3_unload (va_wsS RX3 68 yX3_isOutside wsX3_isOutside) := goodIn_app (goodIn_of _ (by decide +kernel)) ggX3_unload_X3_isOutside
set_option maxRecDepth 20000 in
theorem ggX3_unload_X3_isBarred : GoodIn wsX3_unload wsX3_isBarred := goodIn_ca (goodIn_ca (goodIn_r _ [15, 5, 6, 7, 16, 17, 18, 10, 19, 20, 21, 22, 8, 9, 11, 33, 34, 35, 36, 37, 38, 39, 40, 41, 42, 43, 44, 45, 46, 47, 48, 49, 50, 51, 52, 53, 54] (by decide +kernel) (by decide +kernel)) (goodIn_sub (fun _ h => List.mem_cons_of_mem _ (List.mem_append_left _ (List.mem_append_right _ h))) (by decide +kernel))) (goodIn_sub (fun _ h => List.mem_cons_of_mem _ (List.mem_append_right _ h)) (by decide +kernel))
set_option maxRecDepth 20000 in
theorem gX3_unload_X3_isBarred : GoodIn wsX3_unload (wsV RX3 210 RX3 yX3_isBarred wsX3_isBarred) := goodIn_app (goodIn_of _ (by decide +kernel)) ggX3_unload_X3_isBarred
set_option maxRecDepth 20000 in
theorem ggX3_unload_X3_palletNumbered : GoodIn wsX3_unload wsX3_palletNumbered := goodIn_ca (goodIn_r _ [19, 20, 21, 22, 8, 9, 10, 11, 33, 34, 35, 36, 37, 38, 39, 40, 41, 42, 43, 44] (by decide +kernel) (by decide +kernel)) (goodIn_sub (fun _ h => List.mem_cons_of_mem _ (List.mem_append_right _ h)) (by decide +kernel))
set_option maxRecDepth 20000 in
theorem gX3_unload_X3_palletNumbered : GoodIn wsX3_unload (wsV RX3 134 RX3 yX3_palletNumbered wsX3_palletNumbered) := goodIn_app (goodIn_of _ (by decide +kernel)) ggX3_unload_X3_palletNumbered
set_option maxRecDepth 20000 in
theorem ggX3_unload_X1_clear : GoodIn wsX3_unload wsX1_clear := goodIn_r _ [27, 28, 29, 30, 31, 32, 45, 46, 47, 48, 49, 50, 51, 52, 53, 54] (by decide +kernel) (by decide +kernel)
set_option maxRecDepth 20000 in
theorem gX3_unload_X1_clear : GoodIn wsX3_unload (wsV RX3 215 RX1 yX1_clear wsX1_clear) := goodIn_app (goodIn_of _ (by decide +kernel)) ggX3_unload_X1_clear
theorem dX3_unload_0 : decode cX3_unload 0 = .ok (.iload_n 1, 1) := by decide +kernel
theorem dX3_unload_1 : decode cX3_unload 1 = .ok (.iconst 0, 1) := by decide +kernel
theorem dX3_unload_2 : decode cX3_unload 2 = .ok (.bipush 9, 2) := by decide +kernel
theorem dX3_unload_4 : decode cX3_unload 4 = .ok (.invokestatic 68, 3) := by decide +kernel
theorem dX3_unload_7 : decode cX3_unload 7 = .ok (.ifCond .eq 13, 3) := by decide +kernel
theorem dX3_unload_10 : decode cX3_unload 10 = .ok (.new 72, 3) := by decide +kernel
theorem dX3_unload_13 : decode cX3_unload 13 = .ok (.dup, 1) := by decide +kernel
theorem dX3_unload_14 : decode cX3_unload 14 = .ok (.ldc 203, 2) := by decide +kernel
theorem dX3_unload_16 : decode cX3_unload 16 = .ok (.invokespecial 76, 3) := by decide +kernel
theorem dX3_unload_19 : decode cX3_unload 19 = .ok (.athrow, 1) := by decide +kernel
theorem dX3_unload_20 : decode cX3_unload 20 = .ok (.aload_n 0, 1) := by decide +kernel
theorem dX3_unload_21 : decode cX3_unload 21 = .ok (.iload_n 1, 1) := by decide +kernel
theorem dX3_unload_22 : decode cX3_unload 22 = .ok (.invokevirtual 210, 3) := by decide +kernel
theorem dX3_unload_25 : decode cX3_unload 25 = .ok (.ifCond .eq 13, 3) := by decide +kernel
theorem dX3_unload_28 : decode cX3_unload 28 = .ok (.new 97, 3) := by decide +kernel
theorem dX3_unload_31 : decode cX3_unload 31 = .ok (.dup, 1) := by decide +kernel
theorem dX3_unload_32 : decode cX3_unload 32 = .ok (.ldc 213, 2) := by decide +kernel
theorem dX3_unload_34 : decode cX3_unload 34 = .ok (.invokespecial 101, 3) := by decide +kernel
theorem dX3_unload_37 : decode cX3_unload 37 = .ok (.athrow, 1) := by decide +kernel
theorem dX3_unload_38 : decode cX3_unload 38 = .ok (.iconst 0, 1) := by decide +kernel
theorem dX3_unload_39 : decode cX3_unload 39 = .ok (.istore_n 2, 1) := by decide +kernel
theorem dX3_unload_40 : decode cX3_unload 40 = .ok (.aload_n 0, 1) := by decide +kernel
theorem dX3_unload_41 : decode cX3_unload 41 = .ok (.getfield 32, 3) := by decide +kernel
theorem dX3_unload_44 : decode cX3_unload 44 = .ok (.iconst 1, 1) := by decide +kernel
theorem dX3_unload_45 : decode cX3_unload 45 = .ok (.isub, 1) := by decide +kernel
theorem dX3_unload_46 : decode cX3_unload 46 = .ok (.istore_n 3, 1) := by decide +kernel
theorem dX3_unload_47 : decode cX3_unload 47 = .ok (.iload_n 3, 1) := by decide +kernel
theorem dX3_unload_48 : decode cX3_unload 48 = .ok (.ifCond .lt 41, 3) := by decide +kernel
theorem dX3_unload_51 : decode cX3_unload 51 = .ok (.aload_n 0, 1) := by decide +kernel
theorem dX3_unload_52 : decode cX3_unload 52 = .ok (.aload_n 0, 1) := by decide +kernel
theorem dX3_unload_53 : decode cX3_unload 53 = .ok (.getfield 21, 3) := by decide +kernel
theorem dX3_unload_56 : decode cX3_unload 56 = .ok (.iload_n 3, 1) := by decide +kernel
theorem dX3_unload_57 : decode cX3_unload 57 = .ok (.iaload, 1) := by decide +kernel
theorem dX3_unload_58 : decode cX3_unload 58 = .ok (.invokevirtual 134, 3) := by decide +kernel
theorem dX3_unload_61 : decode cX3_unload 61 = .ok (.astore 4, 2) := by decide +kernel
theorem dX3_unload_63 : decode cX3_unload 63 = .ok (.aload 4, 2) := by decide +kernel
theorem dX3_unload_65 : decode cX3_unload 65 = .ok (.getfield 194, 3) := by decide +kernel
theorem dX3_unload_68 : decode cX3_unload 68 = .ok (.iload_n 1, 1) := by decide +kernel
theorem dX3_unload_69 : decode cX3_unload 69 = .ok (.if_icmp .eq 6, 3) := by decide +kernel
theorem dX3_unload_72 : decode cX3_unload 72 = .ok (.goto 17, 3) := by decide +kernel
theorem dX3_unload_75 : decode cX3_unload 75 = .ok (.aload 4, 2) := by decide +kernel
theorem dX3_unload_77 : decode cX3_unload 77 = .ok (.invokevirtual 215, 3) := by decide +kernel
theorem dX3_unload_80 : decode cX3_unload 80 = .ok (.iinc 2 1, 3) := by decide +kernel
theorem dX3_unload_83 : decode cX3_unload 83 = .ok (.iinc 3 (-1), 3) := by decide +kernel
theorem dX3_unload_86 : decode cX3_unload 86 = .ok (.goto (-39), 3) := by decide +kernel
theorem dX3_unload_89 : decode cX3_unload 89 = .ok (.aload_n 0, 1) := by decide +kernel
theorem dX3_unload_90 : decode cX3_unload 90 = .ok (.dup, 1) := by decide +kernel
theorem dX3_unload_91 : decode cX3_unload 91 = .ok (.getfield 32, 3) := by decide +kernel
theorem dX3_unload_94 : decode cX3_unload 94 = .ok (.iload_n 2, 1) := by decide +kernel
theorem dX3_unload_95 : decode cX3_unload 95 = .ok (.isub, 1) := by decide +kernel
theorem dX3_unload_96 : decode cX3_unload 96 = .ok (.putfield 32, 3) := by decide +kernel
theorem dX3_unload_99 : decode cX3_unload 99 = .ok (.iload_n 2, 1) := by decide +kernel
theorem dX3_unload_100 : decode cX3_unload 100 = .ok (.ireturn, 1) := by decide +kernel
set_option maxRecDepth 20000 in
theorem ggX3_order_X3_isOutside : GoodIn wsX3_order wsX3_isOutside := goodIn_r _ [8] (by decide +kernel) (by decide +kernel)
set_option maxRecDepth 20000 in
theorem gX3_order_X3_isOutside : GoodIn wsX3_order (va_wsS RX3 68 yX3_isOutside wsX3_isOutside) := goodIn_app (goodIn_of _ (by decide +kernel)) ggX3_order_X3_isOutside
theorem dX3_order_0 : decode cX3_order 0 = .ok (.iload_n 1, 1) := by decide +kernel
theorem dX3_order_1 : decode cX3_order 1 = .ok (.iconst 0, 1) := by decide +kernel
theorem dX3_order_2 : decode cX3_order 2 = .ok (.aload_n 0, 1) := by decide +kernel
theorem dX3_order_3 : decode cX3_order 3 = .ok (.getfield 32, 3) := by decide +kernel
theorem dX3_order_6 : decode cX3_order 6 = .ok (.iconst 1, 1) := by decide +kernel
theorem dX3_order_7 : decode cX3_order 7 = .ok (.isub, 1) := by decide +kernel
theorem dX3_order_8 : decode cX3_order 8 = .ok (.invokestatic 68, 3) := by decide +kernel
theorem dX3_order_11 : decode cX3_order 11 = .ok (.ifCond .eq 13, 3) := by decide +kernel
theorem dX3_order_14 : decode cX3_order 14 = .ok (.new 174, 3) := by decide +kernel
theorem dX3_order_17 : decode cX3_order 17 = .ok (.dup, 1) := by decide +kernel
theorem dX3_order_18 : decode cX3_order 18 = .ok (.ldc 218, 2) := by decide +kernel
theorem dX3_order_20 : decode cX3_order 20 = .ok (.invokespecial 178, 3) := by decide +kernel
theorem dX3_order_23 : decode cX3_order 23 = .ok (.athrow, 1) := by decide +kernel
theorem dX3_order_24 : decode cX3_order 24 = .ok (.aload_n 0, 1) := by decide +kernel
theorem dX3_order_25 : decode cX3_order 25 = .ok (.getfield 21, 3) := by decide +kernel
theorem dX3_order_28 : decode cX3_order 28 = .ok (.aload_n 0, 1) := by decide +kernel
theorem dX3_order_29 : decode cX3_order 29 = .ok (.getfield 32, 3) := by decide +kernel
theorem dX3_order_32 : decode cX3_order 32 = .ok (.iconst 1, 1) := by decide +kernel
theorem dX3_order_33 : decode cX3_order 33 = .ok (.isub, 1) := by decide +kernel
theorem dX3_order_34 : decode cX3_order 34 = .ok (.iload_n 1, 1) := by decide +kernel
theorem dX3_order_35 : decode cX3_order 35 = .ok (.isub, 1) := by decide +kernel
theorem dX3_order_36 : decode cX3_order 36 = .ok (.iaload, 1) := by decide +kernel
theorem dX3_order_37 : decode cX3_order 37 = .ok (.ireturn, 1) := by decide +kernel
set_option maxRecDepth 20000 in
theorem ggX3_count_X3_boxesOnPallets : GoodIn wsX3_count wsX3_boxesOnPallets := goodIn_r _ [10, 11, 12, 13, 14, 15, 16, 17, 18, 19, 20, 21, 22, 23, 24, 25, 35, 36, 37, 38, 39, 40, 41, 42, 43, 44] (by decide +kernel) (by decide +kernel)
set_option maxRecDepth 20000 in
theorem gX3_count_X3_boxesOnPallets : GoodIn wsX3_count (wsV RX3 220 RX3 yX3_boxesOnPallets wsX3_boxesOnPallets) := goodIn_app (goodIn_of _ (by decide +kernel)) ggX3_count_X3_boxesOnPallets
theorem dX3_count_0 : decode cX3_count 0 = .ok (.iload_n 1, 1) := by decide +kernel
theorem dX3_count_1 : decode cX3_count 1 = .ok (.tableswitch 74 0 5 #[39, 44, 49, 54, 60, 66], 39) := by decide +kernel
theorem dX3_count_40 : decode cX3_count 40 = .ok (.aload_n 0, 1) := by decide +kernel
theorem dX3_count_41 : decode cX3_count 41 = .ok (.getfield 25, 3) := by decide +kernel
theorem dX3_count_44 : decode cX3_count 44 = .ok (.ireturn, 1) := by decide +kernel
theorem dX3_count_45 : decode cX3_count 45 = .ok (.aload_n 0, 1) := by decide +kernel
theorem dX3_count_46 : decode cX3_count 46 = .ok (.getfield 29, 3) := by decide +kernel
theorem dX3_count_49 : decode cX3_count 49 = .ok (.ireturn, 1) := by decide +kernel
theorem dX3_count_50 : decode cX3_count 50 = .ok (.aload_n 0, 1) := by decide +kernel
theorem dX3_count_51 : decode cX3_count 51 = .ok (.getfield 32, 3) := by decide +kernel
theorem dX3_count_54 : decode cX3_count 54 = .ok (.ireturn, 1) := by decide +kernel
theorem dX3_count_55 : decode cX3_count 55 = .ok (.aload_n 0, 1) := by decide +kernel
theorem dX3_count_56 : decode cX3_count 56 = .ok (.iconst 0, 1) := by decide +kernel
theorem dX3_count_57 : decode cX3_count 57 = .ok (.invokevirtual 220, 3) := by decide +kernel
theorem dX3_count_60 : decode cX3_count 60 = .ok (.ireturn, 1) := by decide +kernel
theorem dX3_count_61 : decode cX3_count 61 = .ok (.aload_n 0, 1) := by decide +kernel
theorem dX3_count_62 : decode cX3_count 62 = .ok (.iconst 1, 1) := by decide +kernel
theorem dX3_count_63 : decode cX3_count 63 = .ok (.invokevirtual 220, 3) := by decide +kernel
theorem dX3_count_66 : decode cX3_count 66 = .ok (.ireturn, 1) := by decide +kernel
theorem dX3_count_67 : decode cX3_count 67 = .ok (.aload_n 0, 1) := by decide +kernel
theorem dX3_count_68 : decode cX3_count 68 = .ok (.getfield 64, 3) := by decide +kernel
theorem dX3_count_71 : decode cX3_count 71 = .ok (.getfield 224, 3) := by decide +kernel
theorem dX3_count_74 : decode cX3_count 74 = .ok (.ireturn, 1) := by decide +kernel
theorem dX3_count_75 : decode cX3_count 75 = .ok (.iconst (-1), 1) := by decide +kernel
theorem dX3_count_76 : decode cX3_count 76 = .ok (.ireturn, 1) := by decide +kernel
theorem dX3_isOutside_0 : decode cX3_isOutside 0 = .ok (.iload_n 0, 1) := by decide +kernel
theorem dX3_isOutside_1 : decode cX3_isOutside 1 = .ok (.iload_n 1, 1) := by decide +kernel
theorem dX3_isOutside_2 : decode cX3_isOutside 2 = .ok (.if_icmp .lt 8, 3) := by decide +kernel
theorem dX3_isOutside_5 : decode cX3_isOutside 5 = .ok (.iload_n 0, 1) := by decide +kernel
theorem dX3_isOutside_6 : decode cX3_isOutside 6 = .ok (.iload_n 2, 1) := by decide +kernel
theorem dX3_isOutside_7 : decode cX3_isOutside 7 = .ok (.if_icmp .le 7, 3) := by decide +kernel
theorem dX3_isOutside_10 : decode cX3_isOutside 10 = .ok (.iconst 1, 1) := by decide +kernel
theorem dX3_isOutside_11 : decode cX3_isOutside 11 = .ok (.goto 4, 3) := by decide +kernel
theorem dX3_isOutside_14 : decode cX3_isOutside 14 = .ok (.iconst 0, 1) := by decide +kernel
theorem dX3_isOutside_15 : decode cX3_isOutside 15 = .ok (.ireturn, 1) := by decide +kernel
set_option maxRecDepth 20000 in
theorem ggX3_kindNumbered_X3_isOutside : GoodIn wsX3_kindNumbered wsX3_isOutside := goodIn_r _ [7] (by decide +kernel) (by decide +kernel)
set_option maxRecDepth 20000 in
theorem gX3_kindNumbered_X3_isOutside : GoodIn wsX3_kindNumbered (va_wsS RX3 68 yX3_isOutside wsX3_isOutside) := goodIn_app (goodIn_of _ (by decide +kernel)) ggX3_kindNumbered_X3_isOutside
theorem dX3_kindNumbered_0 : decode cX3_kindNumbered 0 = .ok (.iload_n 1, 1) := by decide +kernel
theorem dX3_kindNumbered_1 : decode cX3_kindNumbered 1 = .ok (.iconst 0, 1) := by decide +kernel
theorem dX3_kindNumbered_2 : decode cX3_kindNumbered 2 = .ok (.aload_n 0, 1) := by decide +kernel
theorem dX3_kindNumbered_3 : decode cX3_kindNumbered 3 = .ok (.getfield 11, 3) := by decide +kernel
theorem dX3_kindNumbered_6 : decode cX3_kindNumbered 6 = .ok (.arraylength, 1) := by decide +kernel
theorem dX3_kindNumbered_7 : decode cX3_kindNumbered 7 = .ok (.iconst 1, 1) := by decide +kernel
theorem dX3_kindNumbered_8 : decode cX3_kindNumbered 8 = .ok (.isub, 1) := by decide +kernel
theorem dX3_kindNumbered_9 : decode cX3_kindNumbered 9 = .ok (.invokestatic 68, 3) := by decide +kernel
theorem dX3_kindNumbered_12 : decode cX3_kindNumbered 12 = .ok (.ifCond .eq 7, 3) := by decide +kernel
theorem dX3_kindNumbered_15 : decode cX3_kindNumbered 15 = .ok (.aconst_null, 1) := by decide +kernel
theorem dX3_kindNumbered_16 : decode cX3_kindNumbered 16 = .ok (.goto 9, 3) := by decide +kernel
theorem dX3_kindNumbered_19 : decode cX3_kindNumbered 19 = .ok (.aload_n 0, 1) := by decide +kernel
theorem dX3_kindNumbered_20 : decode cX3_kindNumbered 20 = .ok (.getfield 11, 3) := by decide +kernel
theorem dX3_kindNumbered_23 : decode cX3_kindNumbered 23 = .ok (.iload_n 1, 1) := by decide +kernel
theorem dX3_kindNumbered_24 : decode cX3_kindNumbered 24 = .ok (.aaload, 1) := by decide +kernel
theorem dX3_kindNumbered_25 : decode cX3_kindNumbered 25 = .ok (.astore_n 2, 1) := by decide +kernel
theorem dX3_kindNumbered_26 : decode cX3_kindNumbered 26 = .ok (.aload_n 2, 1) := by decide +kernel
theorem dX3_kindNumbered_27 : decode cX3_kindNumbered 27 = .ok (.ifnonnull 13, 3) := by decide +kernel
theorem dX3_kindNumbered_30 : decode cX3_kindNumbered 30 = .ok (.new 174, 3) := by decide +kernel
theorem dX3_kindNumbered_33 : decode cX3_kindNumbered 33 = .ok (.dup, 1) := by decide +kernel
theorem dX3_kindNumbered_34 : decode cX3_kindNumbered 34 = .ok (.ldc 227, 2) := by decide +kernel
theorem dX3_kindNumbered_36 : decode cX3_kindNumbered 36 = .ok (.invokespecial 178, 3) := by decide +kernel
theorem dX3_kindNumbered_39 : decode cX3_kindNumbered 39 = .ok (.athrow, 1) := by decide +kernel
theorem dX3_kindNumbered_40 : decode cX3_kindNumbered 40 = .ok (.aload_n 2, 1) := by decide +kernel
theorem dX3_kindNumbered_41 : decode cX3_kindNumbered 41 = .ok (.areturn, 1) := by decide +kernel
set_option maxRecDepth 20000 in
theorem ggX3_palletNumbered_X3_isOutside : GoodIn wsX3_palletNumbered wsX3_isOutside := goodIn_r _ [7] (by decide +kernel) (by decide +kernel)
set_option maxRecDepth 20000 in
theorem gX3_palletNumbered_X3_isOutside : GoodIn wsX3_palletNumbered (va_wsS RX3 68 yX3_isOutside wsX3_isOutside) := goodIn_app (goodIn_of _ (by decide +kernel)) ggX3_palletNumbered_X3_isOutside
theorem dX3_palletNumbered_0 : decode cX3_palletNumbered 0 = .ok (.iload_n 1, 1) := by decide +kernel
theorem dX3_palletNumbered_1 : decode cX3_palletNumbered 1 = .ok (.iconst 0, 1) := by decide +kernel
theorem dX3_palletNumbered_2 : decode cX3_palletNumbered 2 = .ok (.aload_n 0, 1) := by decide +kernel
theorem dX3_palletNumbered_3 : decode cX3_palletNumbered 3 = .ok (.getfield 17, 3) := by decide +kernel
theorem dX3_palletNumbered_6 : decode cX3_palletNumbered 6 = .ok (.arraylength, 1) := by decide +kernel
theorem dX3_palletNumbered_7 : decode cX3_palletNumbered 7 = .ok (.iconst 1, 1) := by decide +kernel
theorem dX3_palletNumbered_8 : decode cX3_palletNumbered 8 = .ok (.isub, 1) := by decide +kernel
theorem dX3_palletNumbered_9 : decode cX3_palletNumbered 9 = .ok (.invokestatic 68, 3) := by decide +kernel
theorem dX3_palletNumbered_12 : decode cX3_palletNumbered 12 = .ok (.ifCond .eq 7, 3) := by decide +kernel
theorem dX3_palletNumbered_15 : decode cX3_palletNumbered 15 = .ok (.aconst_null, 1) := by decide +kernel
theorem dX3_palletNumbered_16 : decode cX3_palletNumbered 16 = .ok (.goto 9, 3) := by decide +kernel
theorem dX3_palletNumbered_19 : decode cX3_palletNumbered 19 = .ok (.aload_n 0, 1) := by decide +kernel
theorem dX3_palletNumbered_20 : decode cX3_palletNumbered 20 = .ok (.getfield 17, 3) := by decide +kernel
theorem dX3_palletNumbered_23 : decode cX3_palletNumbered 23 = .ok (.iload_n 1, 1) := by decide +kernel
theorem dX3_palletNumbered_24 : decode cX3_palletNumbered 24 = .ok (.aaload, 1) := by decide +kernel
theorem dX3_palletNumbered_25 : decode cX3_palletNumbered 25 = .ok (.astore_n 2, 1) := by decide +kernel
theorem dX3_palletNumbered_26 : decode cX3_palletNumbered 26 = .ok (.aload_n 2, 1) := by decide +kernel
theorem dX3_palletNumbered_27 : decode cX3_palletNumbered 27 = .ok (.ifnonnull 13, 3) := by decide +kernel
theorem dX3_palletNumbered_30 : decode cX3_palletNumbered 30 = .ok (.new 174, 3) := by decide +kernel
theorem dX3_palletNumbered_33 : decode cX3_palletNumbered 33 = .ok (.dup, 1) := by decide +kernel
theorem dX3_palletNumbered_34 : decode cX3_palletNumbered 34 = .ok (.ldc 229, 2) := by decide +kernel
theorem dX3_palletNumbered_36 : decode cX3_palletNumbered 36 = .ok (.invokespecial 178, 3) := by decide +kernel
theorem dX3_palletNumbered_39 : decode cX3_palletNumbered 39 = .ok (.athrow, 1) := by decide +kernel
theorem dX3_palletNumbered_40 : decode cX3_palletNumbered 40 = .ok (.aload_n 2, 1) := by decide +kernel
theorem dX3_palletNumbered_41 : decode cX3_palletNumbered 41 = .ok (.areturn, 1) := by decide +kernel
set_option maxRecDepth 20000 in
theorem ggX3_palletWithLayer_X3_palletNumbered : GoodIn wsX3_palletWithLayer wsX3_palletNumbered := goodIn_ca (goodIn_r _ [8, 1, 2, 9, 10, 11, 7, 12, 23, 24, 25, 26, 27, 28, 29, 30, 31, 32, 33, 34] (by decide +kernel) (by decide +kernel)) (goodIn_sub (fun _ h => List.mem_cons_of_mem _ (List.mem_append_right _ h)) (by decide +kernel))
set_option maxRecDepth 20000 in
theorem gX3_palletWithLayer_X3_palletNumbered : GoodIn wsX3_palletWithLayer (wsV RX3 134 RX3 yX3_palletNumbered wsX3_palletNumbered) := goodIn_app (goodIn_of _ (by decide +kernel)) ggX3_palletWithLayer_X3_palletNumbered
set_option maxRecDepth 20000 in
theorem ggX3_palletWithLayer_X3_isOutside : GoodIn wsX3_palletWithLayer wsX3_isOutside := goodIn_r _ [12] (by decide +kernel) (by decide +kernel)
set_option maxRecDepth 20000 in
theorem gX3_palletWithLayer_X3_isOutside : GoodIn wsX3_palletWithLayer (va_wsS RX3 68 yX3_isOutside wsX3_isOutside) := goodIn_app (goodIn_of _ (by decide +kernel)) ggX3_palletWithLayer_X3_isOutside
theorem dX3_palletWithLayer_0 : decode cX3_palletWithLayer 0 = .ok (.aload_n 0, 1) := by decide +kernel
theorem dX3_palletWithLayer_1 : decode cX3_palletWithLayer 1 = .ok (.iload_n 1, 1) := by decide +kernel
theorem dX3_palletWithLayer_2 : decode cX3_palletWithLayer 2 = .ok (.invokevirtual 134, 3) := by decide +kernel
theorem dX3_palletWithLayer_5 : decode cX3_palletWithLayer 5 = .ok (.astore_n 3, 1) := by decide +kernel
theorem dX3_palletWithLayer_6 : decode cX3_palletWithLayer 6 = .ok (.iload_n 2, 1) := by decide +kernel
theorem dX3_palletWithLayer_7 : decode cX3_palletWithLayer 7 = .ok (.iconst 0, 1) := by decide +kernel
theorem dX3_palletWithLayer_8 : decode cX3_palletWithLayer 8 = .ok (.aload_n 3, 1) := by decide +kernel
theorem dX3_palletWithLayer_9 : decode cX3_palletWithLayer 9 = .ok (.getfield 144, 3) := by decide +kernel
theorem dX3_palletWithLayer_12 : decode cX3_palletWithLayer 12 = .ok (.iconst 1, 1) := by decide +kernel
theorem dX3_palletWithLayer_13 : decode cX3_palletWithLayer 13 = .ok (.isub, 1) := by decide +kernel
theorem dX3_palletWithLayer_14 : decode cX3_palletWithLayer 14 = .ok (.invokestatic 68, 3) := by decide +kernel
theorem dX3_palletWithLayer_17 : decode cX3_palletWithLayer 17 = .ok (.ifCond .eq 13, 3) := by decide +kernel
theorem dX3_palletWithLayer_20 : decode cX3_palletWithLayer 20 = .ok (.new 174, 3) := by decide +kernel
theorem dX3_palletWithLayer_23 : decode cX3_palletWithLayer 23 = .ok (.dup, 1) := by decide +kernel
theorem dX3_palletWithLayer_24 : decode cX3_palletWithLayer 24 = .ok (.ldc 231, 2) := by decide +kernel
theorem dX3_palletWithLayer_26 : decode cX3_palletWithLayer 26 = .ok (.invokespecial 178, 3) := by decide +kernel
theorem dX3_palletWithLayer_29 : decode cX3_palletWithLayer 29 = .ok (.athrow, 1) := by decide +kernel
theorem dX3_palletWithLayer_30 : decode cX3_palletWithLayer 30 = .ok (.aload_n 3, 1) := by decide +kernel
theorem dX3_palletWithLayer_31 : decode cX3_palletWithLayer 31 = .ok (.areturn, 1) := by decide +kernel
theorem dX3_refuseOnTruck_0 : decode cX3_refuseOnTruck 0 = .ok (.aload_n 0, 1) := by decide +kernel
theorem dX3_refuseOnTruck_1 : decode cX3_refuseOnTruck 1 = .ok (.getfield 194, 3) := by decide +kernel
theorem dX3_refuseOnTruck_4 : decode cX3_refuseOnTruck 4 = .ok (.iconst (-1), 1) := by decide +kernel
theorem dX3_refuseOnTruck_5 : decode cX3_refuseOnTruck 5 = .ok (.if_icmp .eq 13, 3) := by decide +kernel
theorem dX3_refuseOnTruck_8 : decode cX3_refuseOnTruck 8 = .ok (.new 97, 3) := by decide +kernel
theorem dX3_refuseOnTruck_11 : decode cX3_refuseOnTruck 11 = .ok (.dup, 1) := by decide +kernel
theorem dX3_refuseOnTruck_12 : decode cX3_refuseOnTruck 12 = .ok (.ldc 233, 2) := by decide +kernel
theorem dX3_refuseOnTruck_14 : decode cX3_refuseOnTruck 14 = .ok (.invokespecial 101, 3) := by decide +kernel
theorem dX3_refuseOnTruck_17 : decode cX3_refuseOnTruck 17 = .ok (.athrow, 1) := by decide +kernel
theorem dX3_refuseOnTruck_18 : decode cX3_refuseOnTruck 18 = .ok (.return_, 1) := by decide +kernel
theorem dX3_refuseEmpty_0 : decode cX3_refuseEmpty 0 = .ok (.aload_n 0, 1) := by decide +kernel
theorem dX3_refuseEmpty_1 : decode cX3_refuseEmpty 1 = .ok (.getfield 144, 3) := by decide +kernel
theorem dX3_refuseEmpty_4 : decode cX3_refuseEmpty 4 = .ok (.ifCond .ne 13, 3) := by decide +kernel
theorem dX3_refuseEmpty_7 : decode cX3_refuseEmpty 7 = .ok (.new 97, 3) := by decide +kernel
theorem dX3_refuseEmpty_10 : decode cX3_refuseEmpty 10 = .ok (.dup, 1) := by decide +kernel
theorem dX3_refuseEmpty_11 : decode cX3_refuseEmpty 11 = .ok (.ldc 235, 2) := by decide +kernel
theorem dX3_refuseEmpty_13 : decode cX3_refuseEmpty 13 = .ok (.invokespecial 101, 3) := by decide +kernel
theorem dX3_refuseEmpty_16 : decode cX3_refuseEmpty 16 = .ok (.athrow, 1) := by decide +kernel
theorem dX3_refuseEmpty_17 : decode cX3_refuseEmpty 17 = .ok (.return_, 1) := by decide +kernel
set_option maxRecDepth 20000 in
theorem ggX3_isOnAPallet_X1_kindBits : GoodIn wsX3_isOnAPallet wsX1_kindBits := goodIn_ca (goodIn_r _ [6, 7, 8, 21, 22, 23, 24, 25, 26, 27, 28, 29, 30] (by decide +kernel) (by decide +kernel)) (goodIn_sub (fun _ h => List.mem_cons_of_mem _ (List.mem_append_right _ h)) (by decide +kernel))
set_option maxRecDepth 20000 in
theorem gX3_isOnAPallet_X1_kindBits : GoodIn wsX3_isOnAPallet (wsV RX3 197 RX1 yX1_kindBits wsX1_kindBits) := goodIn_app (goodIn_of _ (by decide +kernel)) ggX3_isOnAPallet_X1_kindBits
theorem dX3_isOnAPallet_0 : decode cX3_isOnAPallet 0 = .ok (.aload_n 0, 1) := by decide +kernel
theorem dX3_isOnAPallet_1 : decode cX3_isOnAPallet 1 = .ok (.getfield 17, 3) := by decide +kernel
theorem dX3_isOnAPallet_4 : decode cX3_isOnAPallet 4 = .ok (.astore_n 2, 1) := by decide +kernel
theorem dX3_isOnAPallet_5 : decode cX3_isOnAPallet 5 = .ok (.aload_n 2, 1) := by decide +kernel
theorem dX3_isOnAPallet_6 : decode cX3_isOnAPallet 6 = .ok (.arraylength, 1) := by decide +kernel
theorem dX3_isOnAPallet_7 : decode cX3_isOnAPallet 7 = .ok (.istore_n 3, 1) := by decide +kernel
theorem dX3_isOnAPallet_8 : decode cX3_isOnAPallet 8 = .ok (.iconst 0, 1) := by decide +kernel
theorem dX3_isOnAPallet_9 : decode cX3_isOnAPallet 9 = .ok (.istore 4, 2) := by decide +kernel
theorem dX3_isOnAPallet_11 : decode cX3_isOnAPallet 11 = .ok (.iload 4, 2) := by decide +kernel
theorem dX3_isOnAPallet_13 : decode cX3_isOnAPallet 13 = .ok (.iload_n 3, 1) := by decide +kernel
theorem dX3_isOnAPallet_14 : decode cX3_isOnAPallet 14 = .ok (.if_icmp .ge 35, 3) := by decide +kernel
theorem dX3_isOnAPallet_17 : decode cX3_isOnAPallet 17 = .ok (.aload_n 2, 1) := by decide +kernel
theorem dX3_isOnAPallet_18 : decode cX3_isOnAPallet 18 = .ok (.iload 4, 2) := by decide +kernel
theorem dX3_isOnAPallet_20 : decode cX3_isOnAPallet 20 = .ok (.aaload, 1) := by decide +kernel
theorem dX3_isOnAPallet_21 : decode cX3_isOnAPallet 21 = .ok (.astore 5, 2) := by decide +kernel
theorem dX3_isOnAPallet_23 : decode cX3_isOnAPallet 23 = .ok (.aload 5, 2) := by decide +kernel
theorem dX3_isOnAPallet_25 : decode cX3_isOnAPallet 25 = .ok (.ifnull 18, 3) := by decide +kernel
theorem dX3_isOnAPallet_28 : decode cX3_isOnAPallet 28 = .ok (.aload 5, 2) := by decide +kernel
theorem dX3_isOnAPallet_30 : decode cX3_isOnAPallet 30 = .ok (.invokevirtual 197, 3) := by decide +kernel
theorem dX3_isOnAPallet_33 : decode cX3_isOnAPallet 33 = .ok (.iload_n 1, 1) := by decide +kernel
theorem dX3_isOnAPallet_34 : decode cX3_isOnAPallet 34 = .ok (.ishr, 1) := by decide +kernel
theorem dX3_isOnAPallet_35 : decode cX3_isOnAPallet 35 = .ok (.iconst 1, 1) := by decide +kernel
theorem dX3_isOnAPallet_36 : decode cX3_isOnAPallet 36 = .ok (.iand, 1) := by decide +kernel
theorem dX3_isOnAPallet_37 : decode cX3_isOnAPallet 37 = .ok (.iconst 1, 1) := by decide +kernel
theorem dX3_isOnAPallet_38 : decode cX3_isOnAPallet 38 = .ok (.if_icmp .ne 5, 3) := by decide +kernel
theorem dX3_isOnAPallet_41 : decode cX3_isOnAPallet 41 = .ok (.iconst 1, 1) := by decide +kernel
theorem dX3_isOnAPallet_42 : decode cX3_isOnAPallet 42 = .ok (.ireturn, 1) := by decide +kernel
theorem dX3_isOnAPallet_43 : decode cX3_isOnAPallet 43 = .ok (.iinc 4 1, 3) := by decide +kernel
theorem dX3_isOnAPallet_46 : decode cX3_isOnAPallet 46 = .ok (.goto (-35), 3) := by decide +kernel
theorem dX3_isOnAPallet_49 : decode cX3_isOnAPallet 49 = .ok (.iconst 0, 1) := by decide +kernel
theorem dX3_isOnAPallet_50 : decode cX3_isOnAPallet 50 = .ok (.ireturn, 1) := by decide +kernel
theorem dX3_boxesOnPallets_0 : decode cX3_boxesOnPallets 0 = .ok (.iconst 0, 1) := by decide +kernel
theorem dX3_boxesOnPallets_1 : decode cX3_boxesOnPallets 1 = .ok (.istore_n 2, 1) := by decide +kernel
theorem dX3_boxesOnPallets_2 : decode cX3_boxesOnPallets 2 = .ok (.aload_n 0, 1) := by decide +kernel
theorem dX3_boxesOnPallets_3 : decode cX3_boxesOnPallets 3 = .ok (.getfield 17, 3) := by decide +kernel
theorem dX3_boxesOnPallets_6 : decode cX3_boxesOnPallets 6 = .ok (.astore_n 3, 1) := by decide +kernel
theorem dX3_boxesOnPallets_7 : decode cX3_boxesOnPallets 7 = .ok (.aload_n 3, 1) := by decide +kernel
theorem dX3_boxesOnPallets_8 : decode cX3_boxesOnPallets 8 = .ok (.arraylength, 1) := by decide +kernel
theorem dX3_boxesOnPallets_9 : decode cX3_boxesOnPallets 9 = .ok (.istore 4, 2) := by decide +kernel
theorem dX3_boxesOnPallets_11 : decode cX3_boxesOnPallets 11 = .ok (.iconst 0, 1) := by decide +kernel
theorem dX3_boxesOnPallets_12 : decode cX3_boxesOnPallets 12 = .ok (.istore 5, 2) := by decide +kernel
theorem dX3_boxesOnPallets_14 : decode cX3_boxesOnPallets 14 = .ok (.iload 5, 2) := by decide +kernel
theorem dX3_boxesOnPallets_16 : decode cX3_boxesOnPallets 16 = .ok (.iload 4, 2) := by decide +kernel
theorem dX3_boxesOnPallets_18 : decode cX3_boxesOnPallets 18 = .ok (.if_icmp .ge 41, 3) := by decide +kernel
theorem dX3_boxesOnPallets_21 : decode cX3_boxesOnPallets 21 = .ok (.aload_n 3, 1) := by decide +kernel
theorem dX3_boxesOnPallets_22 : decode cX3_boxesOnPallets 22 = .ok (.iload 5, 2) := by decide +kernel
theorem dX3_boxesOnPallets_24 : decode cX3_boxesOnPallets 24 = .ok (.aaload, 1) := by decide +kernel
theorem dX3_boxesOnPallets_25 : decode cX3_boxesOnPallets 25 = .ok (.astore 6, 2) := by decide +kernel
theorem dX3_boxesOnPallets_27 : decode cX3_boxesOnPallets 27 = .ok (.aload 6, 2) := by decide +kernel
theorem dX3_boxesOnPallets_29 : decode cX3_boxesOnPallets 29 = .ok (.ifnull 24, 3) := by decide +kernel
theorem dX3_boxesOnPallets_32 : decode cX3_boxesOnPallets 32 = .ok (.iload_n 1, 1) := by decide +kernel
theorem dX3_boxesOnPallets_33 : decode cX3_boxesOnPallets 33 = .ok (.ifCond .eq 12, 3) := by decide +kernel
theorem dX3_boxesOnPallets_36 : decode cX3_boxesOnPallets 36 = .ok (.aload 6, 2) := by decide +kernel
theorem dX3_boxesOnPallets_38 : decode cX3_boxesOnPallets 38 = .ok (.getfield 194, 3) := by decide +kernel
theorem dX3_boxesOnPallets_41 : decode cX3_boxesOnPallets 41 = .ok (.iconst (-1), 1) := by decide +kernel
theorem dX3_boxesOnPallets_42 : decode cX3_boxesOnPallets 42 = .ok (.if_icmp .eq 11, 3) := by decide +kernel
theorem dX3_boxesOnPallets_45 : decode cX3_boxesOnPallets 45 = .ok (.iload_n 2, 1) := by decide +kernel
theorem dX3_boxesOnPallets_46 : decode cX3_boxesOnPallets 46 = .ok (.aload 6, 2) := by decide +kernel
theorem dX3_boxesOnPallets_48 : decode cX3_boxesOnPallets 48 = .ok (.getfield 193, 3) := by decide +kernel
theorem dX3_boxesOnPallets_51 : decode cX3_boxesOnPallets 51 = .ok (.iadd, 1) := by decide +kernel
theorem dX3_boxesOnPallets_52 : decode cX3_boxesOnPallets 52 = .ok (.istore_n 2, 1) := by decide +kernel
theorem dX3_boxesOnPallets_53 : decode cX3_boxesOnPallets 53 = .ok (.iinc 5 1, 3) := by decide +kernel
theorem dX3_boxesOnPallets_56 : decode cX3_boxesOnPallets 56 = .ok (.goto (-42), 3) := by decide +kernel
theorem dX3_boxesOnPallets_59 : decode cX3_boxesOnPallets 59 = .ok (.iload_n 2, 1) := by decide +kernel
theorem dX3_boxesOnPallets_60 : decode cX3_boxesOnPallets 60 = .ok (.ireturn, 1) := by decide +kernel
set_option maxRecDepth 20000 in
theorem ggX3_whyNot_X0_cellsOfBox : GoodIn wsX3_whyNot wsX0_cellsOfBox := goodIn_ca (goodIn_r _ [15, 16, 17, 18, 19, 20, 21, 22, 23, 24, 14, 25, 26, 27, 45, 46, 47, 48, 49, 50, 51, 52, 53, 54, 55] (by decide +kernel) (by decide +kernel)) (goodIn_sub (fun _ h => List.mem_cons_of_mem _ (List.mem_append_right _ h)) (by decide +kernel))
set_option maxRecDepth 20000 in
theorem gX3_whyNot_X0_cellsOfBox : GoodIn wsX3_whyNot (wsV RX3 179 RX0 yX0_cellsOfBox wsX0_cellsOfBox) := goodIn_app (goodIn_of _ (by decide +kernel)) ggX3_whyNot_X0_cellsOfBox
set_option maxRecDepth 20000 in
theorem ggX3_whyNot_X3_supportedCells : GoodIn wsX3_whyNot wsX3_supportedCells := goodIn_ca (goodIn_r _ [30, 31, 32, 33, 34, 35, 36, 37, 19, 20, 21, 38, 39, 40, 41, 42, 43, 44, 56, 57, 58, 59, 60, 61, 62, 63, 64, 65] (by decide +kernel) (by decide +kernel)) (goodIn_sub (fun _ h => List.mem_cons_of_mem _ (List.mem_append_right _ h)) (by decide +kernel))
set_option maxRecDepth 20000 in
theorem gX3_whyNot_X3_supportedCells : GoodIn wsX3_whyNot (va_wsS RX3 183 yX3_supportedCells wsX3_supportedCells) := goodIn_app (goodIn_of _ (by decide +kernel)) ggX3_whyNot_X3_supportedCells
theorem dX3_whyNot_0 : decode cX3_whyNot 0 = .ok (.iload_n 3, 1) := by decide +kernel
theorem dX3_whyNot_1 : decode cX3_whyNot 1 = .ok (.aload_n 2, 1) := by decide +kernel
theorem dX3_whyNot_2 : decode cX3_whyNot 2 = .ok (.getfield 106, 3) := by decide +kernel
theorem dX3_whyNot_5 : decode cX3_whyNot 5 = .ok (.if_icmp .le 5, 3) := by decide +kernel
theorem dX3_whyNot_8 : decode cX3_whyNot 8 = .ok (.iconst (-1), 1) := by decide +kernel
theorem dX3_whyNot_9 : decode cX3_whyNot 9 = .ok (.ireturn, 1) := by decide +kernel
theorem dX3_whyNot_10 : decode cX3_whyNot 10 = .ok (.iconst 0, 1) := by decide +kernel
theorem dX3_whyNot_11 : decode cX3_whyNot 11 = .ok (.istore 4, 2) := by decide +kernel
theorem dX3_whyNot_13 : decode cX3_whyNot 13 = .ok (.iload 4, 2) := by decide +kernel
theorem dX3_whyNot_15 : decode cX3_whyNot 15 = .ok (.iload_n 3, 1) := by decide +kernel
theorem dX3_whyNot_16 : decode cX3_whyNot 16 = .ok (.if_icmp .ge 45, 3) := by decide +kernel
theorem dX3_whyNot_19 : decode cX3_whyNot 19 = .ok (.aload_n 1, 1) := by decide +kernel
theorem dX3_whyNot_20 : decode cX3_whyNot 20 = .ok (.aload_n 1, 1) := by decide +kernel
theorem dX3_whyNot_21 : decode cX3_whyNot 21 = .ok (.getfield 144, 3) := by decide +kernel
theorem dX3_whyNot_24 : decode cX3_whyNot 24 = .ok (.aload_n 2, 1) := by decide +kernel
theorem dX3_whyNot_25 : decode cX3_whyNot 25 = .ok (.iload 4, 2) := by decide +kernel
theorem dX3_whyNot_27 : decode cX3_whyNot 27 = .ok (.invokevirtual 179, 3) := by decide +kernel
theorem dX3_whyNot_30 : decode cX3_whyNot 30 = .ok (.invokestatic 183, 3) := by decide +kernel
theorem dX3_whyNot_33 : decode cX3_whyNot 33 = .ok (.istore 5, 2) := by decide +kernel
theorem dX3_whyNot_35 : decode cX3_whyNot 35 = .ok (.iload 5, 2) := by decide +kernel
theorem dX3_whyNot_37 : decode cX3_whyNot 37 = .ok (.bipush 100, 2) := by decide +kernel
theorem dX3_whyNot_39 : decode cX3_whyNot 39 = .ok (.imul, 1) := by decide +kernel
theorem dX3_whyNot_40 : decode cX3_whyNot 40 = .ok (.aload_n 0, 1) := by decide +kernel
theorem dX3_whyNot_41 : decode cX3_whyNot 41 = .ok (.getfield 35, 3) := by decide +kernel
theorem dX3_whyNot_44 : decode cX3_whyNot 44 = .ok (.aload_n 2, 1) := by decide +kernel
theorem dX3_whyNot_45 : decode cX3_whyNot 45 = .ok (.getfield 126, 3) := by decide +kernel
theorem dX3_whyNot_48 : decode cX3_whyNot 48 = .ok (.imul, 1) := by decide +kernel
theorem dX3_whyNot_49 : decode cX3_whyNot 49 = .ok (.if_icmp .ge 6, 3) := by decide +kernel
theorem dX3_whyNot_52 : decode cX3_whyNot 52 = .ok (.bipush (-2), 2) := by decide +kernel
theorem dX3_whyNot_54 : decode cX3_whyNot 54 = .ok (.ireturn, 1) := by decide +kernel
theorem dX3_whyNot_55 : decode cX3_whyNot 55 = .ok (.iinc 4 1, 3) := by decide +kernel
theorem dX3_whyNot_58 : decode cX3_whyNot 58 = .ok (.goto (-45), 3) := by decide +kernel
theorem dX3_whyNot_61 : decode cX3_whyNot 61 = .ok (.aload_n 1, 1) := by decide +kernel
theorem dX3_whyNot_62 : decode cX3_whyNot 62 = .ok (.getfield 187, 3) := by decide +kernel
theorem dX3_whyNot_65 : decode cX3_whyNot 65 = .ok (.aload_n 2, 1) := by decide +kernel
theorem dX3_whyNot_66 : decode cX3_whyNot 66 = .ok (.getfield 237, 3) := by decide +kernel
theorem dX3_whyNot_69 : decode cX3_whyNot 69 = .ok (.iadd, 1) := by decide +kernel
theorem dX3_whyNot_70 : decode cX3_whyNot 70 = .ok (.aload_n 0, 1) := by decide +kernel
theorem dX3_whyNot_71 : decode cX3_whyNot 71 = .ok (.getfield 38, 3) := by decide +kernel
theorem dX3_whyNot_74 : decode cX3_whyNot 74 = .ok (.if_icmp .le 6, 3) := by decide +kernel
theorem dX3_whyNot_77 : decode cX3_whyNot 77 = .ok (.bipush (-3), 2) := by decide +kernel
theorem dX3_whyNot_79 : decode cX3_whyNot 79 = .ok (.ireturn, 1) := by decide +kernel
theorem dX3_whyNot_80 : decode cX3_whyNot 80 = .ok (.aload_n 1, 1) := by decide +kernel
theorem dX3_whyNot_81 : decode cX3_whyNot 81 = .ok (.getfield 190, 3) := by decide +kernel
theorem dX3_whyNot_84 : decode cX3_whyNot 84 = .ok (.aload_n 2, 1) := by decide +kernel
theorem dX3_whyNot_85 : decode cX3_whyNot 85 = .ok (.getfield 238, 3) := by decide +kernel
theorem dX3_whyNot_88 : decode cX3_whyNot 88 = .ok (.iload_n 3, 1) := by decide +kernel
theorem dX3_whyNot_89 : decode cX3_whyNot 89 = .ok (.imul, 1) := by decide +kernel
theorem dX3_whyNot_90 : decode cX3_whyNot 90 = .ok (.iadd, 1) := by decide +kernel
theorem dX3_whyNot_91 : decode cX3_whyNot 91 = .ok (.aload_n 0, 1) := by decide +kernel
theorem dX3_whyNot_92 : decode cX3_whyNot 92 = .ok (.getfield 41, 3) := by decide +kernel
theorem dX3_whyNot_95 : decode cX3_whyNot 95 = .ok (.if_icmp .le 6, 3) := by decide +kernel
theorem dX3_whyNot_98 : decode cX3_whyNot 98 = .ok (.bipush (-4), 2) := by decide +kernel
theorem dX3_whyNot_100 : decode cX3_whyNot 100 = .ok (.ireturn, 1) := by decide +kernel
theorem dX3_whyNot_101 : decode cX3_whyNot 101 = .ok (.iconst 0, 1) := by decide +kernel
theorem dX3_whyNot_102 : decode cX3_whyNot 102 = .ok (.ireturn, 1) := by decide +kernel
set_option maxRecDepth 20000 in
theorem ggX3_supportedCells_X1_coveredIn : GoodIn wsX3_supportedCells wsX1_coveredIn := goodIn_ca (goodIn_r _ [5, 6, 7, 8, 9, 10, 18, 19, 20, 21, 22, 23, 24, 25, 26, 27] (by decide +kernel) (by decide +kernel)) (goodIn_sub (fun _ h => List.mem_cons_of_mem _ (List.mem_append_right _ h)) (by decide +kernel))
set_option maxRecDepth 20000 in
theorem gX3_supportedCells_X1_coveredIn : GoodIn wsX3_supportedCells (wsV RX3 239 RX1 yX1_coveredIn wsX1_coveredIn) := goodIn_app (goodIn_of _ (by decide +kernel)) ggX3_supportedCells_X1_coveredIn
set_option maxRecDepth 20000 in
theorem ggX3_supportedCells_J13_bitCount_95d88 : GoodIn wsX3_supportedCells wsJ13_bitCount_95d88 := goodIn_r _ [14, 15, 16, 17] (by decide +kernel) (by decide +kernel)
set_option maxRecDepth 20000 in
theorem gX3_supportedCells_J13_bitCount_95d88 : GoodIn wsX3_supportedCells (va_wsS RX3 242 yJ13_bitCount_95d88 wsJ13_bitCount_95d88) := goodIn_app (goodIn_of _ (by decide +kernel)) ggX3_supportedCells_J13_bitCount_95d88
theorem dX3_supportedCells_0 : decode cX3_supportedCells 0 = .ok (.iload_n 1, 1) := by decide +kernel
theorem dX3_supportedCells_1 : decode cX3_supportedCells 1 = .ok (.ifCond .ne 7, 3) := by decide +kernel
theorem dX3_supportedCells_4 : decode cX3_supportedCells 4 = .ok (.lload_n 2, 1) := by decide +kernel
theorem dX3_supportedCells_5 : decode cX3_supportedCells 5 = .ok (.goto 12, 3) := by decide +kernel
theorem dX3_supportedCells_8 : decode cX3_supportedCells 8 = .ok (.lload_n 2, 1) := by decide +kernel
theorem dX3_supportedCells_9 : decode cX3_supportedCells 9 = .ok (.aload_n 0, 1) := by decide +kernel
theorem dX3_supportedCells_10 : decode cX3_supportedCells 10 = .ok (.iload_n 1, 1) := by decide +kernel
theorem dX3_supportedCells_11 : decode cX3_supportedCells 11 = .ok (.iconst 1, 1) := by decide +kernel
theorem dX3_supportedCells_12 : decode cX3_supportedCells 12 = .ok (.isub, 1) := by decide +kernel
theorem dX3_supportedCells_13 : decode cX3_supportedCells 13 = .ok (.invokevirtual 239, 3) := by decide +kernel
theorem dX3_supportedCells_16 : decode cX3_supportedCells 16 = .ok (.land, 1) := by decide +kernel
theorem dX3_supportedCells_17 : decode cX3_supportedCells 17 = .ok (.lstore 4, 2) := by decide +kernel
theorem dX3_supportedCells_19 : decode cX3_supportedCells 19 = .ok (.lload 4, 2) := by decide +kernel
theorem dX3_supportedCells_21 : decode cX3_supportedCells 21 = .ok (.invokestatic 242, 3) := by decide +kernel
theorem dX3_supportedCells_24 : decode cX3_supportedCells 24 = .ok (.ireturn, 1) := by decide +kernel
set_option maxRecDepth 20000 in
theorem ggX3_hasLesserStopAboard_X3_palletNumbered : GoodIn wsX3_hasLesserStopAboard wsX3_palletNumbered := goodIn_ca (goodIn_r _ [8, 9, 10, 11, 12, 13, 7, 14, 15, 16, 17, 18, 19, 20, 21, 22, 23, 24, 25, 26] (by decide +kernel) (by decide +kernel)) (goodIn_sub (fun _ h => List.mem_cons_of_mem _ (List.mem_append_right _ h)) (by decide +kernel))
set_option maxRecDepth 20000 in
theorem gX3_hasLesserStopAboard_X3_palletNumbered : GoodIn wsX3_hasLesserStopAboard (wsV RX3 134 RX3 yX3_palletNumbered wsX3_palletNumbered) := goodIn_app (goodIn_of _ (by decide +kernel)) ggX3_hasLesserStopAboard_X3_palletNumbered
theorem dX3_hasLesserStopAboard_0 : decode cX3_hasLesserStopAboard 0 = .ok (.iconst 0, 1) := by decide +kernel
theorem dX3_hasLesserStopAboard_1 : decode cX3_hasLesserStopAboard 1 = .ok (.istore_n 2, 1) := by decide +kernel
theorem dX3_hasLesserStopAboard_2 : decode cX3_hasLesserStopAboard 2 = .ok (.iload_n 2, 1) := by decide +kernel
theorem dX3_hasLesserStopAboard_3 : decode cX3_hasLesserStopAboard 3 = .ok (.aload_n 0, 1) := by decide +kernel
theorem dX3_hasLesserStopAboard_4 : decode cX3_hasLesserStopAboard 4 = .ok (.getfield 32, 3) := by decide +kernel
theorem dX3_hasLesserStopAboard_7 : decode cX3_hasLesserStopAboard 7 = .ok (.if_icmp .ge 28, 3) := by decide +kernel
theorem dX3_hasLesserStopAboard_10 : decode cX3_hasLesserStopAboard 10 = .ok (.aload_n 0, 1) := by decide +kernel
theorem dX3_hasLesserStopAboard_11 : decode cX3_hasLesserStopAboard 11 = .ok (.aload_n 0, 1) := by decide +kernel
theorem dX3_hasLesserStopAboard_12 : decode cX3_hasLesserStopAboard 12 = .ok (.getfield 21, 3) := by decide +kernel
theorem dX3_hasLesserStopAboard_15 : decode cX3_hasLesserStopAboard 15 = .ok (.iload_n 2, 1) := by decide +kernel
theorem dX3_hasLesserStopAboard_16 : decode cX3_hasLesserStopAboard 16 = .ok (.iaload, 1) := by decide +kernel
theorem dX3_hasLesserStopAboard_17 : decode cX3_hasLesserStopAboard 17 = .ok (.invokevirtual 134, 3) := by decide +kernel
theorem dX3_hasLesserStopAboard_20 : decode cX3_hasLesserStopAboard 20 = .ok (.getfield 194, 3) := by decide +kernel
theorem dX3_hasLesserStopAboard_23 : decode cX3_hasLesserStopAboard 23 = .ok (.iload_n 1, 1) := by decide +kernel
theorem dX3_hasLesserStopAboard_24 : decode cX3_hasLesserStopAboard 24 = .ok (.if_icmp .ge 5, 3) := by decide +kernel
theorem dX3_hasLesserStopAboard_27 : decode cX3_hasLesserStopAboard 27 = .ok (.iconst 1, 1) := by decide +kernel
theorem dX3_hasLesserStopAboard_28 : decode cX3_hasLesserStopAboard 28 = .ok (.ireturn, 1) := by decide +kernel
theorem dX3_hasLesserStopAboard_29 : decode cX3_hasLesserStopAboard 29 = .ok (.iinc 2 1, 3) := by decide +kernel
theorem dX3_hasLesserStopAboard_32 : decode cX3_hasLesserStopAboard 32 = .ok (.goto (-30), 3) := by decide +kernel
theorem dX3_hasLesserStopAboard_35 : decode cX3_hasLesserStopAboard 35 = .ok (.iconst 0, 1) := by decide +kernel
theorem dX3_hasLesserStopAboard_36 : decode cX3_hasLesserStopAboard 36 = .ok (.ireturn, 1) := by decide +kernel
set_option maxRecDepth 20000 in
theorem ggX3_isBarred_X3_palletNumbered : GoodIn wsX3_isBarred wsX3_palletNumbered := goodIn_ca (goodIn_r _ [8, 9, 10, 11, 12, 13, 7, 14, 15, 16, 17, 18, 19, 20, 21, 22, 23, 24, 25, 26] (by decide +kernel) (by decide +kernel)) (goodIn_sub (fun _ h => List.mem_cons_of_mem _ (List.mem_append_right _ h)) (by decide +kernel))
set_option maxRecDepth 20000 in
theorem gX3_isBarred_X3_palletNumbered : GoodIn wsX3_isBarred (wsV RX3 134 RX3 yX3_palletNumbered wsX3_palletNumbered) := goodIn_app (goodIn_of _ (by decide +kernel)) ggX3_isBarred_X3_palletNumbered
theorem dX3_isBarred_0 : decode cX3_isBarred 0 = .ok (.iconst 0, 1) := by decide +kernel
theorem dX3_isBarred_1 : decode cX3_isBarred 1 = .ok (.istore_n 2, 1) := by decide +kernel
theorem dX3_isBarred_2 : decode cX3_isBarred 2 = .ok (.iconst 0, 1) := by decide +kernel
theorem dX3_isBarred_3 : decode cX3_isBarred 3 = .ok (.istore_n 3, 1) := by decide +kernel
theorem dX3_isBarred_4 : decode cX3_isBarred 4 = .ok (.iload_n 3, 1) := by decide +kernel
theorem dX3_isBarred_5 : decode cX3_isBarred 5 = .ok (.aload_n 0, 1) := by decide +kernel
theorem dX3_isBarred_6 : decode cX3_isBarred 6 = .ok (.getfield 32, 3) := by decide +kernel
theorem dX3_isBarred_9 : decode cX3_isBarred 9 = .ok (.if_icmp .ge 37, 3) := by decide +kernel
theorem dX3_isBarred_12 : decode cX3_isBarred 12 = .ok (.aload_n 0, 1) := by decide +kernel
theorem dX3_isBarred_13 : decode cX3_isBarred 13 = .ok (.aload_n 0, 1) := by decide +kernel
theorem dX3_isBarred_14 : decode cX3_isBarred 14 = .ok (.getfield 21, 3) := by decide +kernel
theorem dX3_isBarred_17 : decode cX3_isBarred 17 = .ok (.iload_n 3, 1) := by decide +kernel
theorem dX3_isBarred_18 : decode cX3_isBarred 18 = .ok (.iaload, 1) := by decide +kernel
theorem dX3_isBarred_19 : decode cX3_isBarred 19 = .ok (.invokevirtual 134, 3) := by decide +kernel
theorem dX3_isBarred_22 : decode cX3_isBarred 22 = .ok (.getfield 194, 3) := by decide +kernel
theorem dX3_isBarred_25 : decode cX3_isBarred 25 = .ok (.iload_n 1, 1) := by decide +kernel
theorem dX3_isBarred_26 : decode cX3_isBarred 26 = .ok (.if_icmp .ne 8, 3) := by decide +kernel
theorem dX3_isBarred_29 : decode cX3_isBarred 29 = .ok (.iconst 1, 1) := by decide +kernel
theorem dX3_isBarred_30 : decode cX3_isBarred 30 = .ok (.istore_n 2, 1) := by decide +kernel
theorem dX3_isBarred_31 : decode cX3_isBarred 31 = .ok (.goto 9, 3) := by decide +kernel
theorem dX3_isBarred_34 : decode cX3_isBarred 34 = .ok (.iload_n 2, 1) := by decide +kernel
theorem dX3_isBarred_35 : decode cX3_isBarred 35 = .ok (.ifCond .eq 5, 3) := by decide +kernel
theorem dX3_isBarred_38 : decode cX3_isBarred 38 = .ok (.iconst 1, 1) := by decide +kernel
theorem dX3_isBarred_39 : decode cX3_isBarred 39 = .ok (.ireturn, 1) := by decide +kernel
theorem dX3_isBarred_40 : decode cX3_isBarred 40 = .ok (.iinc 3 1, 3) := by decide +kernel
theorem dX3_isBarred_43 : decode cX3_isBarred 43 = .ok (.goto (-39), 3) := by decide +kernel
theorem dX3_isBarred_46 : decode cX3_isBarred 46 = .ok (.iconst 0, 1) := by decide +kernel
theorem dX3_isBarred_47 : decode cX3_isBarred 47 = .ok (.ireturn, 1) := by decide +kernel
set_option maxRecDepth 20000 in
theorem ggX4_init_X4_held : GoodIn wsX4_init wsX4_held := goodIn_r _ [34] (by decide +kernel) (by decide +kernel)
set_option maxRecDepth 20000 in
theorem gX4_init_X4_held : GoodIn wsX4_init (va_wsS RX4 76 yX4_held wsX4_held) := goodIn_app (goodIn_of _ (by decide +kernel)) ggX4_init_X4_held
theorem dX4_init_0 : decode cX4_init 0 = .ok (.aload_n 0, 1) := by decide +kernel
theorem dX4_init_1 : decode cX4_init 1 = .ok (.invokespecial 1, 3) := by decide +kernel
theorem dX4_init_4 : decode cX4_init 4 = .ok (.aload_n 0, 1) := by decide +kernel
theorem dX4_init_5 : decode cX4_init 5 = .ok (.bipush 6, 2) := by decide +kernel
theorem dX4_init_7 : decode cX4_init 7 = .ok (.newarray .int, 2) := by decide +kernel
theorem dX4_init_9 : decode cX4_init 9 = .ok (.putfield 7, 3) := by decide +kernel
theorem dX4_init_12 : decode cX4_init 12 = .ok (.aload_n 0, 1) := by decide +kernel
theorem dX4_init_13 : decode cX4_init 13 = .ok (.bipush 6, 2) := by decide +kernel
theorem dX4_init_15 : decode cX4_init 15 = .ok (.newarray .int, 2) := by decide +kernel
theorem dX4_init_17 : decode cX4_init 17 = .ok (.putfield 13, 3) := by decide +kernel
theorem dX4_init_20 : decode cX4_init 20 = .ok (.aload_n 0, 1) := by decide +kernel
theorem dX4_init_21 : decode cX4_init 21 = .ok (.bipush 6, 2) := by decide +kernel
theorem dX4_init_23 : decode cX4_init 23 = .ok (.newarray .int, 2) := by decide +kernel
theorem dX4_init_25 : decode cX4_init 25 = .ok (.putfield 16, 3) := by decide +kernel
theorem dX4_init_28 : decode cX4_init 28 = .ok (.aload_n 0, 1) := by decide +kernel
theorem dX4_init_29 : decode cX4_init 29 = .ok (.bipush 6, 2) := by decide +kernel
theorem dX4_init_31 : decode cX4_init 31 = .ok (.newarray .int, 2) := by decide +kernel
theorem dX4_init_33 : decode cX4_init 33 = .ok (.putfield 19, 3) := by decide +kernel
theorem dX4_init_36 : decode cX4_init 36 = .ok (.aload_n 0, 1) := by decide +kernel
theorem dX4_init_37 : decode cX4_init 37 = .ok (.bipush 6, 2) := by decide +kernel
theorem dX4_init_39 : decode cX4_init 39 = .ok (.newarray .int, 2) := by decide +kernel
theorem dX4_init_41 : decode cX4_init 41 = .ok (.putfield 22, 3) := by decide +kernel
theorem dX4_init_44 : decode cX4_init 44 = .ok (.aload_n 0, 1) := by decide +kernel
theorem dX4_init_45 : decode cX4_init 45 = .ok (.bipush 6, 2) := by decide +kernel
theorem dX4_init_47 : decode cX4_init 47 = .ok (.newarray .boolean, 2) := by decide +kernel
theorem dX4_init_49 : decode cX4_init 49 = .ok (.putfield 25, 3) := by decide +kernel
theorem dX4_init_52 : decode cX4_init 52 = .ok (.aload_n 0, 1) := by decide +kernel
theorem dX4_init_53 : decode cX4_init 53 = .ok (.sipush 216, 3) := by decide +kernel
theorem dX4_init_56 : decode cX4_init 56 = .ok (.newarray .long, 2) := by decide +kernel
theorem dX4_init_58 : decode cX4_init 58 = .ok (.putfield 29, 3) := by decide +kernel
theorem dX4_init_61 : decode cX4_init 61 = .ok (.aload_n 0, 1) := by decide +kernel
theorem dX4_init_62 : decode cX4_init 62 = .ok (.sipush 216, 3) := by decide +kernel
theorem dX4_init_65 : decode cX4_init 65 = .ok (.newarray .int, 2) := by decide +kernel
theorem dX4_init_67 : decode cX4_init 67 = .ok (.putfield 33, 3) := by decide +kernel
theorem dX4_init_70 : decode cX4_init 70 = .ok (.aload_n 0, 1) := by decide +kernel
theorem dX4_init_71 : decode cX4_init 71 = .ok (.sipush 216, 3) := by decide +kernel
theorem dX4_init_74 : decode cX4_init 74 = .ok (.newarray .int, 2) := by decide +kernel
theorem dX4_init_76 : decode cX4_init 76 = .ok (.putfield 36, 3) := by decide +kernel
theorem dX4_init_79 : decode cX4_init 79 = .ok (.aload_n 0, 1) := by decide +kernel
theorem dX4_init_80 : decode cX4_init 80 = .ok (.bipush 50, 2) := by decide +kernel
theorem dX4_init_82 : decode cX4_init 82 = .ok (.putfield 39, 3) := by decide +kernel
theorem dX4_init_85 : decode cX4_init 85 = .ok (.aload_n 0, 1) := by decide +kernel
theorem dX4_init_86 : decode cX4_init 86 = .ok (.bipush 100, 2) := by decide +kernel
theorem dX4_init_88 : decode cX4_init 88 = .ok (.putfield 43, 3) := by decide +kernel
theorem dX4_init_91 : decode cX4_init 91 = .ok (.aload_n 0, 1) := by decide +kernel
theorem dX4_init_92 : decode cX4_init 92 = .ok (.sipush 10000, 3) := by decide +kernel
theorem dX4_init_95 : decode cX4_init 95 = .ok (.putfield 46, 3) := by decide +kernel
theorem dX4_init_98 : decode cX4_init 98 = .ok (.aload_n 0, 1) := by decide +kernel
theorem dX4_init_99 : decode cX4_init 99 = .ok (.bipush 8, 2) := by decide +kernel
theorem dX4_init_101 : decode cX4_init 101 = .ok (.newarray .int, 2) := by decide +kernel
theorem dX4_init_103 : decode cX4_init 103 = .ok (.putfield 49, 3) := by decide +kernel
theorem dX4_init_106 : decode cX4_init 106 = .ok (.aload_n 0, 1) := by decide +kernel
theorem dX4_init_107 : decode cX4_init 107 = .ok (.bipush 80, 2) := by decide +kernel
theorem dX4_init_109 : decode cX4_init 109 = .ok (.newarray .int, 2) := by decide +kernel
theorem dX4_init_111 : decode cX4_init 111 = .ok (.putfield 52, 3) := by decide +kernel
theorem dX4_init_114 : decode cX4_init 114 = .ok (.aload_n 0, 1) := by decide +kernel
theorem dX4_init_115 : decode cX4_init 115 = .ok (.bipush 80, 2) := by decide +kernel
theorem dX4_init_117 : decode cX4_init 117 = .ok (.newarray .int, 2) := by decide +kernel
theorem dX4_init_119 : decode cX4_init 119 = .ok (.putfield 55, 3) := by decide +kernel
theorem dX4_init_122 : decode cX4_init 122 = .ok (.aload_n 0, 1) := by decide +kernel
theorem dX4_init_123 : decode cX4_init 123 = .ok (.bipush 8, 2) := by decide +kernel
theorem dX4_init_125 : decode cX4_init 125 = .ok (.newarray .int, 2) := by decide +kernel
theorem dX4_init_127 : decode cX4_init 127 = .ok (.putfield 58, 3) := by decide +kernel
theorem dX4_init_130 : decode cX4_init 130 = .ok (.aload_n 0, 1) := by decide +kernel
theorem dX4_init_131 : decode cX4_init 131 = .ok (.bipush 8, 2) := by decide +kernel
theorem dX4_init_133 : decode cX4_init 133 = .ok (.newarray .int, 2) := by decide +kernel
theorem dX4_init_135 : decode cX4_init 135 = .ok (.putfield 61, 3) := by decide +kernel
theorem dX4_init_138 : decode cX4_init 138 = .ok (.aload_n 0, 1) := by decide +kernel
theorem dX4_init_139 : decode cX4_init 139 = .ok (.bipush 38, 2) := by decide +kernel
theorem dX4_init_141 : decode cX4_init 141 = .ok (.newarray .int, 2) := by decide +kernel
theorem dX4_init_143 : decode cX4_init 143 = .ok (.putfield 64, 3) := by decide +kernel
theorem dX4_init_146 : decode cX4_init 146 = .ok (.aload_n 0, 1) := by decide +kernel
theorem dX4_init_147 : decode cX4_init 147 = .ok (.bipush 38, 2) := by decide +kernel
theorem dX4_init_149 : decode cX4_init 149 = .ok (.newarray .int, 2) := by decide +kernel
theorem dX4_init_151 : decode cX4_init 151 = .ok (.putfield 67, 3) := by decide +kernel
theorem dX4_init_154 : decode cX4_init 154 = .ok (.aload_n 0, 1) := by decide +kernel
theorem dX4_init_155 : decode cX4_init 155 = .ok (.bipush 36, 2) := by decide +kernel
theorem dX4_init_157 : decode cX4_init 157 = .ok (.newarray .int, 2) := by decide +kernel
theorem dX4_init_159 : decode cX4_init 159 = .ok (.putfield 70, 3) := by decide +kernel
theorem dX4_init_162 : decode cX4_init 162 = .ok (.aload_n 0, 1) := by decide +kernel
theorem dX4_init_163 : decode cX4_init 163 = .ok (.bipush 36, 2) := by decide +kernel
theorem dX4_init_165 : decode cX4_init 165 = .ok (.newarray .int, 2) := by decide +kernel
theorem dX4_init_167 : decode cX4_init 167 = .ok (.putfield 73, 3) := by decide +kernel
theorem dX4_init_170 : decode cX4_init 170 = .ok (.aload_n 0, 1) := by decide +kernel
theorem dX4_init_171 : decode cX4_init 171 = .ok (.iload_n 1, 1) := by decide +kernel
theorem dX4_init_172 : decode cX4_init 172 = .ok (.invokestatic 76, 3) := by decide +kernel
theorem dX4_init_175 : decode cX4_init 175 = .ok (.putfield 80, 3) := by decide +kernel
theorem dX4_init_178 : decode cX4_init 178 = .ok (.aload_n 0, 1) := by decide +kernel
theorem dX4_init_179 : decode cX4_init 179 = .ok (.iload_n 2, 1) := by decide +kernel
theorem dX4_init_180 : decode cX4_init 180 = .ok (.invokestatic 76, 3) := by decide +kernel
theorem dX4_init_183 : decode cX4_init 183 = .ok (.putfield 83, 3) := by decide +kernel
theorem dX4_init_186 : decode cX4_init 186 = .ok (.aload_n 0, 1) := by decide +kernel
theorem dX4_init_187 : decode cX4_init 187 = .ok (.aload_n 0, 1) := by decide +kernel
theorem dX4_init_188 : decode cX4_init 188 = .ok (.getfield 80, 3) := by decide +kernel
theorem dX4_init_191 : decode cX4_init 191 = .ok (.aload_n 0, 1) := by decide +kernel
theorem dX4_init_192 : decode cX4_init 192 = .ok (.getfield 83, 3) := by decide +kernel
theorem dX4_init_195 : decode cX4_init 195 = .ok (.imul, 1) := by decide +kernel
theorem dX4_init_196 : decode cX4_init 196 = .ok (.putfield 86, 3) := by decide +kernel
theorem dX4_init_199 : decode cX4_init 199 = .ok (.return_, 1) := by decide +kernel
theorem dX4_thrown_0 : decode cX4_thrown 0 = .ok (.aload_n 0, 1) := by decide +kernel
theorem dX4_thrown_1 : decode cX4_thrown 1 = .ok (.getfield 89, 3) := by decide +kernel
theorem dX4_thrown_4 : decode cX4_thrown 4 = .ok (.ireturn, 1) := by decide +kernel
theorem dX4_held_0 : decode cX4_held 0 = .ok (.iload_n 0, 1) := by decide +kernel
theorem dX4_held_1 : decode cX4_held 1 = .ok (.iconst 1, 1) := by decide +kernel
theorem dX4_held_2 : decode cX4_held 2 = .ok (.if_icmp .ge 7, 3) := by decide +kernel
theorem dX4_held_5 : decode cX4_held 5 = .ok (.iconst 1, 1) := by decide +kernel
theorem dX4_held_6 : decode cX4_held 6 = .ok (.goto 15, 3) := by decide +kernel
theorem dX4_held_9 : decode cX4_held 9 = .ok (.iload_n 0, 1) := by decide +kernel
theorem dX4_held_10 : decode cX4_held 10 = .ok (.bipush 6, 2) := by decide +kernel
theorem dX4_held_12 : decode cX4_held 12 = .ok (.if_icmp .le 8, 3) := by decide +kernel
theorem dX4_held_15 : decode cX4_held 15 = .ok (.bipush 6, 2) := by decide +kernel
theorem dX4_held_17 : decode cX4_held 17 = .ok (.goto 4, 3) := by decide +kernel
theorem dX4_held_20 : decode cX4_held 20 = .ok (.iload_n 0, 1) := by decide +kernel
theorem dX4_held_21 : decode cX4_held 21 = .ok (.ireturn, 1) := by decide +kernel
theorem dX4_within_0 : decode cX4_within 0 = .ok (.iload_n 0, 1) := by decide +kernel
theorem dX4_within_1 : decode cX4_within 1 = .ok (.iload_n 1, 1) := by decide +kernel
theorem dX4_within_2 : decode cX4_within 2 = .ok (.if_icmp .lt 12, 3) := by decide +kernel
theorem dX4_within_5 : decode cX4_within 5 = .ok (.iload_n 0, 1) := by decide +kernel
theorem dX4_within_6 : decode cX4_within 6 = .ok (.iload_n 2, 1) := by decide +kernel
theorem dX4_within_7 : decode cX4_within 7 = .ok (.if_icmp .gt 7, 3) := by decide +kernel
theorem dX4_within_10 : decode cX4_within 10 = .ok (.iconst 1, 1) := by decide +kernel
theorem dX4_within_11 : decode cX4_within 11 = .ok (.goto 4, 3) := by decide +kernel
theorem dX4_within_14 : decode cX4_within 14 = .ok (.iconst 0, 1) := by decide +kernel
theorem dX4_within_15 : decode cX4_within 15 = .ok (.ireturn, 1) := by decide +kernel
set_option maxRecDepth 20000 in
theorem ggX4_isKind_X4_within : GoodIn wsX4_isKind wsX4_within := goodIn_r _ [5] (by decide +kernel) (by decide +kernel)
set_option maxRecDepth 20000 in
theorem gX4_isKind_X4_within : GoodIn wsX4_isKind (va_wsS RX4 95 yX4_within wsX4_within) := goodIn_app (goodIn_of _ (by decide +kernel)) ggX4_isKind_X4_within
theorem dX4_isKind_0 : decode cX4_isKind 0 = .ok (.iload_n 1, 1) := by decide +kernel
theorem dX4_isKind_1 : decode cX4_isKind 1 = .ok (.iconst 0, 1) := by decide +kernel
theorem dX4_isKind_2 : decode cX4_isKind 2 = .ok (.aload_n 0, 1) := by decide +kernel
theorem dX4_isKind_3 : decode cX4_isKind 3 = .ok (.getfield 92, 3) := by decide +kernel
theorem dX4_isKind_6 : decode cX4_isKind 6 = .ok (.iconst 1, 1) := by decide +kernel
theorem dX4_isKind_7 : decode cX4_isKind 7 = .ok (.isub, 1) := by decide +kernel
theorem dX4_isKind_8 : decode cX4_isKind 8 = .ok (.invokestatic 95, 3) := by decide +kernel
theorem dX4_isKind_11 : decode cX4_isKind 11 = .ok (.ireturn, 1) := by decide +kernel
set_option maxRecDepth 20000 in
theorem ggX4_isPallet_X4_within : GoodIn wsX4_isPallet wsX4_within := goodIn_r _ [5] (by decide +kernel) (by decide +kernel)
set_option maxRecDepth 20000 in
theorem gX4_isPallet_X4_within : GoodIn wsX4_isPallet (va_wsS RX4 95 yX4_within wsX4_within) := goodIn_app (goodIn_of _ (by decide +kernel)) ggX4_isPallet_X4_within
theorem dX4_isPallet_0 : decode cX4_isPallet 0 = .ok (.iload_n 1, 1) := by decide +kernel
theorem dX4_isPallet_1 : decode cX4_isPallet 1 = .ok (.iconst 0, 1) := by decide +kernel
theorem dX4_isPallet_2 : decode cX4_isPallet 2 = .ok (.aload_n 0, 1) := by decide +kernel
theorem dX4_isPallet_3 : decode cX4_isPallet 3 = .ok (.getfield 99, 3) := by decide +kernel
theorem dX4_isPallet_6 : decode cX4_isPallet 6 = .ok (.iconst 1, 1) := by decide +kernel
theorem dX4_isPallet_7 : decode cX4_isPallet 7 = .ok (.isub, 1) := by decide +kernel
theorem dX4_isPallet_8 : decode cX4_isPallet 8 = .ok (.invokestatic 95, 3) := by decide +kernel
theorem dX4_isPallet_11 : decode cX4_isPallet 11 = .ok (.ireturn, 1) := by decide +kernel
set_option maxRecDepth 20000 in
theorem ggX4_kind_X4_within : GoodIn wsX4_kind wsX4_within := goodIn_r _ [10] (by decide +kernel) (by decide +kernel)
set_option maxRecDepth 20000 in
theorem gX4_kind_X4_within : GoodIn wsX4_kind (va_wsS RX4 95 yX4_within wsX4_within) := goodIn_app (goodIn_of _ (by decide +kernel)) ggX4_kind_X4_within
theorem dX4_kind_0 : decode cX4_kind 0 = .ok (.iload_n 1, 1) := by decide +kernel
theorem dX4_kind_1 : decode cX4_kind 1 = .ok (.iconst 1, 1) := by decide +kernel
theorem dX4_kind_2 : decode cX4_kind 2 = .ok (.bipush 6, 2) := by decide +kernel
theorem dX4_kind_4 : decode cX4_kind 4 = .ok (.invokestatic 95, 3) := by decide +kernel
theorem dX4_kind_7 : decode cX4_kind 7 = .ok (.ifCond .eq 38, 3) := by decide +kernel
theorem dX4_kind_10 : decode cX4_kind 10 = .ok (.iload_n 2, 1) := by decide +kernel
theorem dX4_kind_11 : decode cX4_kind 11 = .ok (.iconst 1, 1) := by decide +kernel
theorem dX4_kind_12 : decode cX4_kind 12 = .ok (.bipush 6, 2) := by decide +kernel
theorem dX4_kind_14 : decode cX4_kind 14 = .ok (.invokestatic 95, 3) := by decide +kernel
theorem dX4_kind_17 : decode cX4_kind 17 = .ok (.ifCond .eq 28, 3) := by decide +kernel
theorem dX4_kind_20 : decode cX4_kind 20 = .ok (.iload_n 3, 1) := by decide +kernel
theorem dX4_kind_21 : decode cX4_kind 21 = .ok (.iconst 1, 1) := by decide +kernel
theorem dX4_kind_22 : decode cX4_kind 22 = .ok (.bipush 6, 2) := by decide +kernel
theorem dX4_kind_24 : decode cX4_kind 24 = .ok (.invokestatic 95, 3) := by decide +kernel
theorem dX4_kind_27 : decode cX4_kind 27 = .ok (.ifCond .eq 18, 3) := by decide +kernel
theorem dX4_kind_30 : decode cX4_kind 30 = .ok (.iload 4, 2) := by decide +kernel
theorem dX4_kind_32 : decode cX4_kind 32 = .ok (.iconst 0, 1) := by decide +kernel
theorem dX4_kind_33 : decode cX4_kind 33 = .ok (.bipush 100, 2) := by decide +kernel
theorem dX4_kind_35 : decode cX4_kind 35 = .ok (.invokestatic 95, 3) := by decide +kernel
theorem dX4_kind_38 : decode cX4_kind 38 = .ok (.ifCond .eq 7, 3) := by decide +kernel
theorem dX4_kind_41 : decode cX4_kind 41 = .ok (.iconst 1, 1) := by decide +kernel
theorem dX4_kind_42 : decode cX4_kind 42 = .ok (.goto 4, 3) := by decide +kernel
theorem dX4_kind_45 : decode cX4_kind 45 = .ok (.iconst 0, 1) := by decide +kernel
theorem dX4_kind_46 : decode cX4_kind 46 = .ok (.istore 5, 2) := by decide +kernel
theorem dX4_kind_48 : decode cX4_kind 48 = .ok (.aload_n 0, 1) := by decide +kernel
theorem dX4_kind_49 : decode cX4_kind 49 = .ok (.iload 5, 2) := by decide +kernel
theorem dX4_kind_51 : decode cX4_kind 51 = .ok (.ifCond .ne 7, 3) := by decide +kernel
theorem dX4_kind_54 : decode cX4_kind 54 = .ok (.iconst 1, 1) := by decide +kernel
theorem dX4_kind_55 : decode cX4_kind 55 = .ok (.goto 17, 3) := by decide +kernel
theorem dX4_kind_58 : decode cX4_kind 58 = .ok (.aload_n 0, 1) := by decide +kernel
theorem dX4_kind_59 : decode cX4_kind 59 = .ok (.getfield 92, 3) := by decide +kernel
theorem dX4_kind_62 : decode cX4_kind 62 = .ok (.bipush 6, 2) := by decide +kernel
theorem dX4_kind_64 : decode cX4_kind 64 = .ok (.if_icmp .ne 7, 3) := by decide +kernel
theorem dX4_kind_67 : decode cX4_kind 67 = .ok (.iconst 2, 1) := by decide +kernel
theorem dX4_kind_68 : decode cX4_kind 68 = .ok (.goto 4, 3) := by decide +kernel
theorem dX4_kind_71 : decode cX4_kind 71 = .ok (.iconst 0, 1) := by decide +kernel
theorem dX4_kind_72 : decode cX4_kind 72 = .ok (.putfield 89, 3) := by decide +kernel
theorem dX4_kind_75 : decode cX4_kind 75 = .ok (.aload_n 0, 1) := by decide +kernel
theorem dX4_kind_76 : decode cX4_kind 76 = .ok (.getfield 89, 3) := by decide +kernel
theorem dX4_kind_79 : decode cX4_kind 79 = .ok (.ifCond .eq 5, 3) := by decide +kernel
theorem dX4_kind_82 : decode cX4_kind 82 = .ok (.iconst 0, 1) := by decide +kernel
theorem dX4_kind_83 : decode cX4_kind 83 = .ok (.ireturn, 1) := by decide +kernel
theorem dX4_kind_84 : decode cX4_kind 84 = .ok (.aload_n 0, 1) := by decide +kernel
theorem dX4_kind_85 : decode cX4_kind 85 = .ok (.getfield 7, 3) := by decide +kernel
theorem dX4_kind_88 : decode cX4_kind 88 = .ok (.aload_n 0, 1) := by decide +kernel
theorem dX4_kind_89 : decode cX4_kind 89 = .ok (.getfield 92, 3) := by decide +kernel
theorem dX4_kind_92 : decode cX4_kind 92 = .ok (.iload_n 1, 1) := by decide +kernel
theorem dX4_kind_93 : decode cX4_kind 93 = .ok (.iastore, 1) := by decide +kernel
theorem dX4_kind_94 : decode cX4_kind 94 = .ok (.aload_n 0, 1) := by decide +kernel
theorem dX4_kind_95 : decode cX4_kind 95 = .ok (.getfield 13, 3) := by decide +kernel
theorem dX4_kind_98 : decode cX4_kind 98 = .ok (.aload_n 0, 1) := by decide +kernel
theorem dX4_kind_99 : decode cX4_kind 99 = .ok (.getfield 92, 3) := by decide +kernel
theorem dX4_kind_102 : decode cX4_kind 102 = .ok (.iload_n 2, 1) := by decide +kernel
theorem dX4_kind_103 : decode cX4_kind 103 = .ok (.iastore, 1) := by decide +kernel
theorem dX4_kind_104 : decode cX4_kind 104 = .ok (.aload_n 0, 1) := by decide +kernel
theorem dX4_kind_105 : decode cX4_kind 105 = .ok (.getfield 16, 3) := by decide +kernel
theorem dX4_kind_108 : decode cX4_kind 108 = .ok (.aload_n 0, 1) := by decide +kernel
theorem dX4_kind_109 : decode cX4_kind 109 = .ok (.getfield 92, 3) := by decide +kernel
theorem dX4_kind_112 : decode cX4_kind 112 = .ok (.iload_n 3, 1) := by decide +kernel
theorem dX4_kind_113 : decode cX4_kind 113 = .ok (.iastore, 1) := by decide +kernel
theorem dX4_kind_114 : decode cX4_kind 114 = .ok (.aload_n 0, 1) := by decide +kernel
theorem dX4_kind_115 : decode cX4_kind 115 = .ok (.getfield 19, 3) := by decide +kernel
theorem dX4_kind_118 : decode cX4_kind 118 = .ok (.aload_n 0, 1) := by decide +kernel
theorem dX4_kind_119 : decode cX4_kind 119 = .ok (.getfield 92, 3) := by decide +kernel
theorem dX4_kind_122 : decode cX4_kind 122 = .ok (.iload 4, 2) := by decide +kernel
theorem dX4_kind_124 : decode cX4_kind 124 = .ok (.iastore, 1) := by decide +kernel
theorem dX4_kind_125 : decode cX4_kind 125 = .ok (.aload_n 0, 1) := by decide +kernel
theorem dX4_kind_126 : decode cX4_kind 126 = .ok (.dup, 1) := by decide +kernel
theorem dX4_kind_127 : decode cX4_kind 127 = .ok (.getfield 92, 3) := by decide +kernel
theorem dX4_kind_130 : decode cX4_kind 130 = .ok (.iconst 1, 1) := by decide +kernel
theorem dX4_kind_131 : decode cX4_kind 131 = .ok (.iadd, 1) := by decide +kernel
theorem dX4_kind_132 : decode cX4_kind 132 = .ok (.putfield 92, 3) := by decide +kernel
theorem dX4_kind_135 : decode cX4_kind 135 = .ok (.aload_n 0, 1) := by decide +kernel
theorem dX4_kind_136 : decode cX4_kind 136 = .ok (.getfield 92, 3) := by decide +kernel
theorem dX4_kind_139 : decode cX4_kind 139 = .ok (.iconst 1, 1) := by decide +kernel
theorem dX4_kind_140 : decode cX4_kind 140 = .ok (.isub, 1) := by decide +kernel
theorem dX4_kind_141 : decode cX4_kind 141 = .ok (.ireturn, 1) := by decide +kernel
theorem dX4_areaOf_0 : decode cX4_areaOf 0 = .ok (.aload_n 0, 1) := by decide +kernel
theorem dX4_areaOf_1 : decode cX4_areaOf 1 = .ok (.getfield 7, 3) := by decide +kernel
theorem dX4_areaOf_4 : decode cX4_areaOf 4 = .ok (.iload_n 1, 1) := by decide +kernel
theorem dX4_areaOf_5 : decode cX4_areaOf 5 = .ok (.iaload, 1) := by decide +kernel
theorem dX4_areaOf_6 : decode cX4_areaOf 6 = .ok (.aload_n 0, 1) := by decide +kernel
theorem dX4_areaOf_7 : decode cX4_areaOf 7 = .ok (.getfield 13, 3) := by decide +kernel
theorem dX4_areaOf_10 : decode cX4_areaOf 10 = .ok (.iload_n 1, 1) := by decide +kernel
theorem dX4_areaOf_11 : decode cX4_areaOf 11 = .ok (.iaload, 1) := by decide +kernel
theorem dX4_areaOf_12 : decode cX4_areaOf 12 = .ok (.imul, 1) := by decide +kernel
theorem dX4_areaOf_13 : decode cX4_areaOf 13 = .ok (.ireturn, 1) := by decide +kernel
theorem dX4_cellsOf_0 : decode cX4_cellsOf 0 = .ok (.iload_n 3, 1) := by decide +kernel
theorem dX4_cellsOf_1 : decode cX4_cellsOf 1 = .ok (.ifCond .ne 12, 3) := by decide +kernel
theorem dX4_cellsOf_4 : decode cX4_cellsOf 4 = .ok (.aload_n 0, 1) := by decide +kernel
theorem dX4_cellsOf_5 : decode cX4_cellsOf 5 = .ok (.getfield 7, 3) := by decide +kernel
theorem dX4_cellsOf_8 : decode cX4_cellsOf 8 = .ok (.iload_n 1, 1) := by decide +kernel
theorem dX4_cellsOf_9 : decode cX4_cellsOf 9 = .ok (.iaload, 1) := by decide +kernel
theorem dX4_cellsOf_10 : decode cX4_cellsOf 10 = .ok (.goto 9, 3) := by decide +kernel
theorem dX4_cellsOf_13 : decode cX4_cellsOf 13 = .ok (.aload_n 0, 1) := by decide +kernel
theorem dX4_cellsOf_14 : decode cX4_cellsOf 14 = .ok (.getfield 13, 3) := by decide +kernel
theorem dX4_cellsOf_17 : decode cX4_cellsOf 17 = .ok (.iload_n 1, 1) := by decide +kernel
theorem dX4_cellsOf_18 : decode cX4_cellsOf 18 = .ok (.iaload, 1) := by decide +kernel
theorem dX4_cellsOf_19 : decode cX4_cellsOf 19 = .ok (.istore 4, 2) := by decide +kernel
theorem dX4_cellsOf_21 : decode cX4_cellsOf 21 = .ok (.iload_n 3, 1) := by decide +kernel
theorem dX4_cellsOf_22 : decode cX4_cellsOf 22 = .ok (.ifCond .ne 12, 3) := by decide +kernel
theorem dX4_cellsOf_25 : decode cX4_cellsOf 25 = .ok (.aload_n 0, 1) := by decide +kernel
theorem dX4_cellsOf_26 : decode cX4_cellsOf 26 = .ok (.getfield 13, 3) := by decide +kernel
theorem dX4_cellsOf_29 : decode cX4_cellsOf 29 = .ok (.iload_n 1, 1) := by decide +kernel
theorem dX4_cellsOf_30 : decode cX4_cellsOf 30 = .ok (.iaload, 1) := by decide +kernel
theorem dX4_cellsOf_31 : decode cX4_cellsOf 31 = .ok (.goto 9, 3) := by decide +kernel
theorem dX4_cellsOf_34 : decode cX4_cellsOf 34 = .ok (.aload_n 0, 1) := by decide +kernel
theorem dX4_cellsOf_35 : decode cX4_cellsOf 35 = .ok (.getfield 7, 3) := by decide +kernel
theorem dX4_cellsOf_38 : decode cX4_cellsOf 38 = .ok (.iload_n 1, 1) := by decide +kernel
theorem dX4_cellsOf_39 : decode cX4_cellsOf 39 = .ok (.iaload, 1) := by decide +kernel
theorem dX4_cellsOf_40 : decode cX4_cellsOf 40 = .ok (.istore 5, 2) := by decide +kernel
theorem dX4_cellsOf_42 : decode cX4_cellsOf 42 = .ok (.iload_n 2, 1) := by decide +kernel
theorem dX4_cellsOf_43 : decode cX4_cellsOf 43 = .ok (.aload_n 0, 1) := by decide +kernel
theorem dX4_cellsOf_44 : decode cX4_cellsOf 44 = .ok (.getfield 80, 3) := by decide +kernel
theorem dX4_cellsOf_47 : decode cX4_cellsOf 47 = .ok (.irem, 1) := by decide +kernel
theorem dX4_cellsOf_48 : decode cX4_cellsOf 48 = .ok (.istore 6, 2) := by decide +kernel
theorem dX4_cellsOf_50 : decode cX4_cellsOf 50 = .ok (.iload_n 2, 1) := by decide +kernel
theorem dX4_cellsOf_51 : decode cX4_cellsOf 51 = .ok (.aload_n 0, 1) := by decide +kernel
theorem dX4_cellsOf_52 : decode cX4_cellsOf 52 = .ok (.getfield 80, 3) := by decide +kernel
theorem dX4_cellsOf_55 : decode cX4_cellsOf 55 = .ok (.idiv, 1) := by decide +kernel
theorem dX4_cellsOf_56 : decode cX4_cellsOf 56 = .ok (.istore 7, 2) := by decide +kernel
theorem dX4_cellsOf_58 : decode cX4_cellsOf 58 = .ok (.iload 6, 2) := by decide +kernel
theorem dX4_cellsOf_60 : decode cX4_cellsOf 60 = .ok (.iload 4, 2) := by decide +kernel
theorem dX4_cellsOf_62 : decode cX4_cellsOf 62 = .ok (.iadd, 1) := by decide +kernel
theorem dX4_cellsOf_63 : decode cX4_cellsOf 63 = .ok (.aload_n 0, 1) := by decide +kernel
theorem dX4_cellsOf_64 : decode cX4_cellsOf 64 = .ok (.getfield 80, 3) := by decide +kernel
theorem dX4_cellsOf_67 : decode cX4_cellsOf 67 = .ok (.if_icmp .gt 15, 3) := by decide +kernel
theorem dX4_cellsOf_70 : decode cX4_cellsOf 70 = .ok (.iload 7, 2) := by decide +kernel
theorem dX4_cellsOf_72 : decode cX4_cellsOf 72 = .ok (.iload 5, 2) := by decide +kernel
theorem dX4_cellsOf_74 : decode cX4_cellsOf 74 = .ok (.iadd, 1) := by decide +kernel
theorem dX4_cellsOf_75 : decode cX4_cellsOf 75 = .ok (.aload_n 0, 1) := by decide +kernel
theorem dX4_cellsOf_76 : decode cX4_cellsOf 76 = .ok (.getfield 83, 3) := by decide +kernel
theorem dX4_cellsOf_79 : decode cX4_cellsOf 79 = .ok (.if_icmp .le 5, 3) := by decide +kernel
theorem dX4_cellsOf_82 : decode cX4_cellsOf 82 = .ok (.lconst 0, 1) := by decide +kernel
theorem dX4_cellsOf_83 : decode cX4_cellsOf 83 = .ok (.lreturn, 1) := by decide +kernel
theorem dX4_cellsOf_84 : decode cX4_cellsOf 84 = .ok (.lconst 1, 1) := by decide +kernel
theorem dX4_cellsOf_85 : decode cX4_cellsOf 85 = .ok (.iload 4, 2) := by decide +kernel
theorem dX4_cellsOf_87 : decode cX4_cellsOf 87 = .ok (.lshl, 1) := by decide +kernel
theorem dX4_cellsOf_88 : decode cX4_cellsOf 88 = .ok (.lconst 1, 1) := by decide +kernel
theorem dX4_cellsOf_89 : decode cX4_cellsOf 89 = .ok (.lsub, 1) := by decide +kernel
theorem dX4_cellsOf_90 : decode cX4_cellsOf 90 = .ok (.iload 6, 2) := by decide +kernel
theorem dX4_cellsOf_92 : decode cX4_cellsOf 92 = .ok (.lshl, 1) := by decide +kernel
theorem dX4_cellsOf_93 : decode cX4_cellsOf 93 = .ok (.lstore 8, 2) := by decide +kernel
theorem dX4_cellsOf_95 : decode cX4_cellsOf 95 = .ok (.lconst 0, 1) := by decide +kernel
theorem dX4_cellsOf_96 : decode cX4_cellsOf 96 = .ok (.lstore 10, 2) := by decide +kernel
theorem dX4_cellsOf_98 : decode cX4_cellsOf 98 = .ok (.iload 7, 2) := by decide +kernel
theorem dX4_cellsOf_100 : decode cX4_cellsOf 100 = .ok (.istore 12, 2) := by decide +kernel
theorem dX4_cellsOf_102 : decode cX4_cellsOf 102 = .ok (.iload 12, 2) := by decide +kernel
theorem dX4_cellsOf_104 : decode cX4_cellsOf 104 = .ok (.iload 7, 2) := by decide +kernel
theorem dX4_cellsOf_106 : decode cX4_cellsOf 106 = .ok (.iload 5, 2) := by decide +kernel
theorem dX4_cellsOf_108 : decode cX4_cellsOf 108 = .ok (.iadd, 1) := by decide +kernel
theorem dX4_cellsOf_109 : decode cX4_cellsOf 109 = .ok (.if_icmp .ge 24, 3) := by decide +kernel
theorem dX4_cellsOf_112 : decode cX4_cellsOf 112 = .ok (.lload 10, 2) := by decide +kernel
theorem dX4_cellsOf_114 : decode cX4_cellsOf 114 = .ok (.lload 8, 2) := by decide +kernel
theorem dX4_cellsOf_116 : decode cX4_cellsOf 116 = .ok (.aload_n 0, 1) := by decide +kernel
theorem dX4_cellsOf_117 : decode cX4_cellsOf 117 = .ok (.getfield 80, 3) := by decide +kernel
theorem dX4_cellsOf_120 : decode cX4_cellsOf 120 = .ok (.iload 12, 2) := by decide +kernel
theorem dX4_cellsOf_122 : decode cX4_cellsOf 122 = .ok (.imul, 1) := by decide +kernel
theorem dX4_cellsOf_123 : decode cX4_cellsOf 123 = .ok (.lshl, 1) := by decide +kernel
theorem dX4_cellsOf_124 : decode cX4_cellsOf 124 = .ok (.lor, 1) := by decide +kernel
theorem dX4_cellsOf_125 : decode cX4_cellsOf 125 = .ok (.lstore 10, 2) := by decide +kernel
theorem dX4_cellsOf_127 : decode cX4_cellsOf 127 = .ok (.iinc 12 1, 3) := by decide +kernel
theorem dX4_cellsOf_130 : decode cX4_cellsOf 130 = .ok (.goto (-28), 3) := by decide +kernel
theorem dX4_cellsOf_133 : decode cX4_cellsOf 133 = .ok (.lload 10, 2) := by decide +kernel
theorem dX4_cellsOf_135 : decode cX4_cellsOf 135 = .ok (.lreturn, 1) := by decide +kernel
theorem dX4_count_0 : decode cX4_count 0 = .ok (.iconst 0, 1) := by decide +kernel
theorem dX4_count_1 : decode cX4_count 1 = .ok (.istore_n 2, 1) := by decide +kernel
theorem dX4_count_2 : decode cX4_count 2 = .ok (.lload_n 0, 1) := by decide +kernel
theorem dX4_count_3 : decode cX4_count 3 = .ok (.lstore_n 3, 1) := by decide +kernel
theorem dX4_count_4 : decode cX4_count 4 = .ok (.lload_n 3, 1) := by decide +kernel
theorem dX4_count_5 : decode cX4_count 5 = .ok (.lconst 0, 1) := by decide +kernel
theorem dX4_count_6 : decode cX4_count 6 = .ok (.lcmp, 1) := by decide +kernel
theorem dX4_count_7 : decode cX4_count 7 = .ok (.ifCond .eq 15, 3) := by decide +kernel
theorem dX4_count_10 : decode cX4_count 10 = .ok (.iinc 2 1, 3) := by decide +kernel
theorem dX4_count_13 : decode cX4_count 13 = .ok (.lload_n 3, 1) := by decide +kernel
theorem dX4_count_14 : decode cX4_count 14 = .ok (.lload_n 3, 1) := by decide +kernel
theorem dX4_count_15 : decode cX4_count 15 = .ok (.lconst 1, 1) := by decide +kernel
theorem dX4_count_16 : decode cX4_count 16 = .ok (.lsub, 1) := by decide +kernel
theorem dX4_count_17 : decode cX4_count 17 = .ok (.land, 1) := by decide +kernel
theorem dX4_count_18 : decode cX4_count 18 = .ok (.lstore_n 3, 1) := by decide +kernel
theorem dX4_count_19 : decode cX4_count 19 = .ok (.goto (-15), 3) := by decide +kernel
theorem dX4_count_22 : decode cX4_count 22 = .ok (.iload_n 2, 1) := by decide +kernel
theorem dX4_count_23 : decode cX4_count 23 = .ok (.ireturn, 1) := by decide +kernel
theorem dX4_firstCell_0 : decode cX4_firstCell 0 = .ok (.iconst 0, 1) := by decide +kernel
theorem dX4_firstCell_1 : decode cX4_firstCell 1 = .ok (.istore_n 1, 1) := by decide +kernel
theorem dX4_firstCell_2 : decode cX4_firstCell 2 = .ok (.iload_n 1, 1) := by decide +kernel
theorem dX4_firstCell_3 : decode cX4_firstCell 3 = .ok (.aload_n 0, 1) := by decide +kernel
theorem dX4_firstCell_4 : decode cX4_firstCell 4 = .ok (.getfield 86, 3) := by decide +kernel
theorem dX4_firstCell_7 : decode cX4_firstCell 7 = .ok (.if_icmp .ge 27, 3) := by decide +kernel
theorem dX4_firstCell_10 : decode cX4_firstCell 10 = .ok (.aload_n 0, 1) := by decide +kernel
theorem dX4_firstCell_11 : decode cX4_firstCell 11 = .ok (.getfield 102, 3) := by decide +kernel
theorem dX4_firstCell_14 : decode cX4_firstCell 14 = .ok (.aload_n 0, 1) := by decide +kernel
theorem dX4_firstCell_15 : decode cX4_firstCell 15 = .ok (.getfield 106, 3) := by decide +kernel
theorem dX4_firstCell_18 : decode cX4_firstCell 18 = .ok (.lor, 1) := by decide +kernel
theorem dX4_firstCell_19 : decode cX4_firstCell 19 = .ok (.iload_n 1, 1) := by decide +kernel
theorem dX4_firstCell_20 : decode cX4_firstCell 20 = .ok (.lshr, 1) := by decide +kernel
theorem dX4_firstCell_21 : decode cX4_firstCell 21 = .ok (.lconst 1, 1) := by decide +kernel
theorem dX4_firstCell_22 : decode cX4_firstCell 22 = .ok (.land, 1) := by decide +kernel
theorem dX4_firstCell_23 : decode cX4_firstCell 23 = .ok (.lconst 1, 1) := by decide +kernel
theorem dX4_firstCell_24 : decode cX4_firstCell 24 = .ok (.lcmp, 1) := by decide +kernel
theorem dX4_firstCell_25 : decode cX4_firstCell 25 = .ok (.ifCond .ne 9, 3) := by decide +kernel
theorem dX4_firstCell_28 : decode cX4_firstCell 28 = .ok (.iinc 1 1, 3) := by decide +kernel
theorem dX4_firstCell_31 : decode cX4_firstCell 31 = .ok (.goto (-29), 3) := by decide +kernel
theorem dX4_firstCell_34 : decode cX4_firstCell 34 = .ok (.iload_n 1, 1) := by decide +kernel
theorem dX4_firstCell_35 : decode cX4_firstCell 35 = .ok (.ireturn, 1) := by decide +kernel
set_option maxRecDepth 20000 in
theorem ggX4_canBeBetter_X4_count : GoodIn wsX4_canBeBetter wsX4_count := goodIn_r _ [9] (by decide +kernel) (by decide +kernel)
set_option maxRecDepth 20000 in
theorem gX4_canBeBetter_X4_count : GoodIn wsX4_canBeBetter (va_wsS RX4 115 yX4_count wsX4_count) := goodIn_app (goodIn_of _ (by decide +kernel)) ggX4_canBeBetter_X4_count
set_option maxRecDepth 20000 in
theorem ggX4_canBeBetter_X4_areaOf : GoodIn wsX4_canBeBetter wsX4_areaOf := goodIn_ca (goodIn_r _ [13, 14, 15, 16, 17, 18, 19, 20, 21, 22, 23, 24, 25, 26, 27, 28, 29, 30, 31, 32, 33, 34, 35, 36, 37, 38, 39, 40, 41, 42, 43, 44, 45, 46, 47, 48] (by decide +kernel) (by decide +kernel)) (goodIn_sub (fun _ h => List.mem_cons_of_mem _ (List.mem_append_right _ h)) (by decide +kernel))
set_option maxRecDepth 20000 in
theorem gX4_canBeBetter_X4_areaOf : GoodIn wsX4_canBeBetter (wsV RX4 119 RX4 yX4_areaOf wsX4_areaOf) := goodIn_app (goodIn_of _ (by decide +kernel)) ggX4_canBeBetter_X4_areaOf
theorem dX4_canBeBetter_0 : decode cX4_canBeBetter 0 = .ok (.aload_n 0, 1) := by decide +kernel
theorem dX4_canBeBetter_1 : decode cX4_canBeBetter 1 = .ok (.getfield 109, 3) := by decide +kernel
theorem dX4_canBeBetter_4 : decode cX4_canBeBetter 4 = .ok (.iconst (-1), 1) := by decide +kernel
theorem dX4_canBeBetter_5 : decode cX4_canBeBetter 5 = .ok (.if_icmp .eq 38, 3) := by decide +kernel
theorem dX4_canBeBetter_8 : decode cX4_canBeBetter 8 = .ok (.aload_n 0, 1) := by decide +kernel
theorem dX4_canBeBetter_9 : decode cX4_canBeBetter 9 = .ok (.getfield 112, 3) := by decide +kernel
theorem dX4_canBeBetter_12 : decode cX4_canBeBetter 12 = .ok (.aload_n 0, 1) := by decide +kernel
theorem dX4_canBeBetter_13 : decode cX4_canBeBetter 13 = .ok (.getfield 86, 3) := by decide +kernel
theorem dX4_canBeBetter_16 : decode cX4_canBeBetter 16 = .ok (.aload_n 0, 1) := by decide +kernel
theorem dX4_canBeBetter_17 : decode cX4_canBeBetter 17 = .ok (.getfield 102, 3) := by decide +kernel
theorem dX4_canBeBetter_20 : decode cX4_canBeBetter 20 = .ok (.aload_n 0, 1) := by decide +kernel
theorem dX4_canBeBetter_21 : decode cX4_canBeBetter 21 = .ok (.getfield 106, 3) := by decide +kernel
theorem dX4_canBeBetter_24 : decode cX4_canBeBetter 24 = .ok (.lor, 1) := by decide +kernel
theorem dX4_canBeBetter_25 : decode cX4_canBeBetter 25 = .ok (.invokestatic 115, 3) := by decide +kernel
theorem dX4_canBeBetter_28 : decode cX4_canBeBetter 28 = .ok (.isub, 1) := by decide +kernel
theorem dX4_canBeBetter_29 : decode cX4_canBeBetter 29 = .ok (.aload_n 0, 1) := by decide +kernel
theorem dX4_canBeBetter_30 : decode cX4_canBeBetter 30 = .ok (.iload_n 1, 1) := by decide +kernel
theorem dX4_canBeBetter_31 : decode cX4_canBeBetter 31 = .ok (.invokevirtual 119, 3) := by decide +kernel
theorem dX4_canBeBetter_34 : decode cX4_canBeBetter 34 = .ok (.idiv, 1) := by decide +kernel
theorem dX4_canBeBetter_35 : decode cX4_canBeBetter 35 = .ok (.iadd, 1) := by decide +kernel
theorem dX4_canBeBetter_36 : decode cX4_canBeBetter 36 = .ok (.aload_n 0, 1) := by decide +kernel
theorem dX4_canBeBetter_37 : decode cX4_canBeBetter 37 = .ok (.getfield 109, 3) := by decide +kernel
theorem dX4_canBeBetter_40 : decode cX4_canBeBetter 40 = .ok (.if_icmp .le 7, 3) := by decide +kernel
theorem dX4_canBeBetter_43 : decode cX4_canBeBetter 43 = .ok (.iconst 1, 1) := by decide +kernel
theorem dX4_canBeBetter_44 : decode cX4_canBeBetter 44 = .ok (.goto 4, 3) := by decide +kernel
theorem dX4_canBeBetter_47 : decode cX4_canBeBetter 47 = .ok (.iconst 0, 1) := by decide +kernel
theorem dX4_canBeBetter_48 : decode cX4_canBeBetter 48 = .ok (.ireturn, 1) := by decide +kernel
set_option maxRecDepth 20000 in
theorem ggX4_keepBest_X4_cellsOf : GoodIn wsX4_keepBest wsX4_cellsOf := goodIn_ca (goodIn_r _ [13, 14, 15, 16, 17, 18, 19, 20, 21, 22, 23, 24, 25, 26, 27, 28, 29, 30, 31, 32, 33, 34, 35, 36, 37, 38, 39, 40, 41, 42, 43, 44, 45, 46, 47, 48, 49, 50] (by decide +kernel) (by decide +kernel)) (goodIn_sub (fun _ h => List.mem_cons_of_mem _ (List.mem_append_right _ h)) (by decide +kernel))
set_option maxRecDepth 20000 in
theorem gX4_keepBest_X4_cellsOf : GoodIn wsX4_keepBest (wsV RX4 122 RX4 yX4_cellsOf wsX4_cellsOf) := goodIn_app (goodIn_of _ (by decide +kernel)) ggX4_keepBest_X4_cellsOf
theorem dX4_keepBest_0 : decode cX4_keepBest 0 = .ok (.aload_n 0, 1) := by decide +kernel
theorem dX4_keepBest_1 : decode cX4_keepBest 1 = .ok (.aload_n 0, 1) := by decide +kernel
theorem dX4_keepBest_2 : decode cX4_keepBest 2 = .ok (.getfield 112, 3) := by decide +kernel
theorem dX4_keepBest_5 : decode cX4_keepBest 5 = .ok (.putfield 109, 3) := by decide +kernel
theorem dX4_keepBest_8 : decode cX4_keepBest 8 = .ok (.aload_n 0, 1) := by decide +kernel
theorem dX4_keepBest_9 : decode cX4_keepBest 9 = .ok (.getfield 22, 3) := by decide +kernel
theorem dX4_keepBest_12 : decode cX4_keepBest 12 = .ok (.iload_n 1, 1) := by decide +kernel
theorem dX4_keepBest_13 : decode cX4_keepBest 13 = .ok (.aload_n 0, 1) := by decide +kernel
theorem dX4_keepBest_14 : decode cX4_keepBest 14 = .ok (.getfield 112, 3) := by decide +kernel
theorem dX4_keepBest_17 : decode cX4_keepBest 17 = .ok (.iastore, 1) := by decide +kernel
theorem dX4_keepBest_18 : decode cX4_keepBest 18 = .ok (.iconst 0, 1) := by decide +kernel
theorem dX4_keepBest_19 : decode cX4_keepBest 19 = .ok (.istore_n 2, 1) := by decide +kernel
theorem dX4_keepBest_20 : decode cX4_keepBest 20 = .ok (.iload_n 2, 1) := by decide +kernel
theorem dX4_keepBest_21 : decode cX4_keepBest 21 = .ok (.aload_n 0, 1) := by decide +kernel
theorem dX4_keepBest_22 : decode cX4_keepBest 22 = .ok (.getfield 112, 3) := by decide +kernel
theorem dX4_keepBest_25 : decode cX4_keepBest 25 = .ok (.if_icmp .ge 71, 3) := by decide +kernel
theorem dX4_keepBest_28 : decode cX4_keepBest 28 = .ok (.aload_n 0, 1) := by decide +kernel
theorem dX4_keepBest_29 : decode cX4_keepBest 29 = .ok (.getfield 33, 3) := by decide +kernel
theorem dX4_keepBest_32 : decode cX4_keepBest 32 = .ok (.bipush 36, 2) := by decide +kernel
theorem dX4_keepBest_34 : decode cX4_keepBest 34 = .ok (.iload_n 1, 1) := by decide +kernel
theorem dX4_keepBest_35 : decode cX4_keepBest 35 = .ok (.imul, 1) := by decide +kernel
theorem dX4_keepBest_36 : decode cX4_keepBest 36 = .ok (.iload_n 2, 1) := by decide +kernel
theorem dX4_keepBest_37 : decode cX4_keepBest 37 = .ok (.iadd, 1) := by decide +kernel
theorem dX4_keepBest_38 : decode cX4_keepBest 38 = .ok (.aload_n 0, 1) := by decide +kernel
theorem dX4_keepBest_39 : decode cX4_keepBest 39 = .ok (.getfield 70, 3) := by decide +kernel
theorem dX4_keepBest_42 : decode cX4_keepBest 42 = .ok (.iload_n 2, 1) := by decide +kernel
theorem dX4_keepBest_43 : decode cX4_keepBest 43 = .ok (.iaload, 1) := by decide +kernel
theorem dX4_keepBest_44 : decode cX4_keepBest 44 = .ok (.iastore, 1) := by decide +kernel
theorem dX4_keepBest_45 : decode cX4_keepBest 45 = .ok (.aload_n 0, 1) := by decide +kernel
theorem dX4_keepBest_46 : decode cX4_keepBest 46 = .ok (.getfield 36, 3) := by decide +kernel
theorem dX4_keepBest_49 : decode cX4_keepBest 49 = .ok (.bipush 36, 2) := by decide +kernel
theorem dX4_keepBest_51 : decode cX4_keepBest 51 = .ok (.iload_n 1, 1) := by decide +kernel
theorem dX4_keepBest_52 : decode cX4_keepBest 52 = .ok (.imul, 1) := by decide +kernel
theorem dX4_keepBest_53 : decode cX4_keepBest 53 = .ok (.iload_n 2, 1) := by decide +kernel
theorem dX4_keepBest_54 : decode cX4_keepBest 54 = .ok (.iadd, 1) := by decide +kernel
theorem dX4_keepBest_55 : decode cX4_keepBest 55 = .ok (.aload_n 0, 1) := by decide +kernel
theorem dX4_keepBest_56 : decode cX4_keepBest 56 = .ok (.getfield 73, 3) := by decide +kernel
theorem dX4_keepBest_59 : decode cX4_keepBest 59 = .ok (.iload_n 2, 1) := by decide +kernel
theorem dX4_keepBest_60 : decode cX4_keepBest 60 = .ok (.iaload, 1) := by decide +kernel
theorem dX4_keepBest_61 : decode cX4_keepBest 61 = .ok (.iastore, 1) := by decide +kernel
theorem dX4_keepBest_62 : decode cX4_keepBest 62 = .ok (.aload_n 0, 1) := by decide +kernel
theorem dX4_keepBest_63 : decode cX4_keepBest 63 = .ok (.getfield 29, 3) := by decide +kernel
theorem dX4_keepBest_66 : decode cX4_keepBest 66 = .ok (.bipush 36, 2) := by decide +kernel
theorem dX4_keepBest_68 : decode cX4_keepBest 68 = .ok (.iload_n 1, 1) := by decide +kernel
theorem dX4_keepBest_69 : decode cX4_keepBest 69 = .ok (.imul, 1) := by decide +kernel
theorem dX4_keepBest_70 : decode cX4_keepBest 70 = .ok (.iload_n 2, 1) := by decide +kernel
theorem dX4_keepBest_71 : decode cX4_keepBest 71 = .ok (.iadd, 1) := by decide +kernel
theorem dX4_keepBest_72 : decode cX4_keepBest 72 = .ok (.aload_n 0, 1) := by decide +kernel
theorem dX4_keepBest_73 : decode cX4_keepBest 73 = .ok (.iload_n 1, 1) := by decide +kernel
theorem dX4_keepBest_74 : decode cX4_keepBest 74 = .ok (.aload_n 0, 1) := by decide +kernel
theorem dX4_keepBest_75 : decode cX4_keepBest 75 = .ok (.getfield 70, 3) := by decide +kernel
theorem dX4_keepBest_78 : decode cX4_keepBest 78 = .ok (.iload_n 2, 1) := by decide +kernel
theorem dX4_keepBest_79 : decode cX4_keepBest 79 = .ok (.iaload, 1) := by decide +kernel
theorem dX4_keepBest_80 : decode cX4_keepBest 80 = .ok (.aload_n 0, 1) := by decide +kernel
theorem dX4_keepBest_81 : decode cX4_keepBest 81 = .ok (.getfield 73, 3) := by decide +kernel
theorem dX4_keepBest_84 : decode cX4_keepBest 84 = .ok (.iload_n 2, 1) := by decide +kernel
theorem dX4_keepBest_85 : decode cX4_keepBest 85 = .ok (.iaload, 1) := by decide +kernel
theorem dX4_keepBest_86 : decode cX4_keepBest 86 = .ok (.invokevirtual 122, 3) := by decide +kernel
theorem dX4_keepBest_89 : decode cX4_keepBest 89 = .ok (.lastore, 1) := by decide +kernel
theorem dX4_keepBest_90 : decode cX4_keepBest 90 = .ok (.iinc 2 1, 3) := by decide +kernel
theorem dX4_keepBest_93 : decode cX4_keepBest 93 = .ok (.goto (-73), 3) := by decide +kernel
theorem dX4_keepBest_96 : decode cX4_keepBest 96 = .ok (.return_, 1) := by decide +kernel
set_option maxRecDepth 20000 in
theorem ggX4_undo_X4_cellsOf : GoodIn wsX4_undo wsX4_cellsOf := goodIn_ca (goodIn_r _ [9, 10, 11, 12, 13, 14, 15, 16, 17, 18, 19, 20, 21, 22, 23, 24, 25, 26, 27, 28, 29, 30, 31, 32, 33, 34, 35, 36, 37, 38, 39, 40, 41, 42, 43, 44, 45, 46] (by decide +kernel) (by decide +kernel)) (goodIn_sub (fun _ h => List.mem_cons_of_mem _ (List.mem_append_right _ h)) (by decide +kernel))
set_option maxRecDepth 20000 in
theorem gX4_undo_X4_cellsOf : GoodIn wsX4_undo (wsV RX4 122 RX4 yX4_cellsOf wsX4_cellsOf) := goodIn_app (goodIn_of _ (by decide +kernel)) ggX4_undo_X4_cellsOf
theorem dX4_undo_0 : decode cX4_undo 0 = .ok (.iload_n 3, 1) := by decide +kernel
theorem dX4_undo_1 : decode cX4_undo 1 = .ok (.iconst 1, 1) := by decide +kernel
theorem dX4_undo_2 : decode cX4_undo 2 = .ok (.if_icmp .eq 8, 3) := by decide +kernel
theorem dX4_undo_5 : decode cX4_undo 5 = .ok (.iload_n 3, 1) := by decide +kernel
theorem dX4_undo_6 : decode cX4_undo 6 = .ok (.iconst 2, 1) := by decide +kernel
theorem dX4_undo_7 : decode cX4_undo 7 = .ok (.if_icmp .ne 38, 3) := by decide +kernel
theorem dX4_undo_10 : decode cX4_undo 10 = .ok (.aload_n 0, 1) := by decide +kernel
theorem dX4_undo_11 : decode cX4_undo 11 = .ok (.dup, 1) := by decide +kernel
theorem dX4_undo_12 : decode cX4_undo 12 = .ok (.getfield 112, 3) := by decide +kernel
theorem dX4_undo_15 : decode cX4_undo 15 = .ok (.iconst 1, 1) := by decide +kernel
theorem dX4_undo_16 : decode cX4_undo 16 = .ok (.isub, 1) := by decide +kernel
theorem dX4_undo_17 : decode cX4_undo 17 = .ok (.putfield 112, 3) := by decide +kernel
theorem dX4_undo_20 : decode cX4_undo 20 = .ok (.aload_n 0, 1) := by decide +kernel
theorem dX4_undo_21 : decode cX4_undo 21 = .ok (.dup, 1) := by decide +kernel
theorem dX4_undo_22 : decode cX4_undo 22 = .ok (.getfield 102, 3) := by decide +kernel
theorem dX4_undo_25 : decode cX4_undo 25 = .ok (.aload_n 0, 1) := by decide +kernel
theorem dX4_undo_26 : decode cX4_undo 26 = .ok (.iload_n 1, 1) := by decide +kernel
theorem dX4_undo_27 : decode cX4_undo 27 = .ok (.iload_n 2, 1) := by decide +kernel
theorem dX4_undo_28 : decode cX4_undo 28 = .ok (.iload_n 3, 1) := by decide +kernel
theorem dX4_undo_29 : decode cX4_undo 29 = .ok (.iconst 1, 1) := by decide +kernel
theorem dX4_undo_30 : decode cX4_undo 30 = .ok (.isub, 1) := by decide +kernel
theorem dX4_undo_31 : decode cX4_undo 31 = .ok (.invokevirtual 122, 3) := by decide +kernel
theorem dX4_undo_34 : decode cX4_undo 34 = .ok (.ldc2_w 126, 3) := by decide +kernel
theorem dX4_undo_37 : decode cX4_undo 37 = .ok (.lxor, 1) := by decide +kernel
theorem dX4_undo_38 : decode cX4_undo 38 = .ok (.land, 1) := by decide +kernel
theorem dX4_undo_39 : decode cX4_undo 39 = .ok (.putfield 102, 3) := by decide +kernel
theorem dX4_undo_42 : decode cX4_undo 42 = .ok (.goto 24, 3) := by decide +kernel
theorem dX4_undo_45 : decode cX4_undo 45 = .ok (.iload_n 3, 1) := by decide +kernel
theorem dX4_undo_46 : decode cX4_undo 46 = .ok (.iconst 3, 1) := by decide +kernel
theorem dX4_undo_47 : decode cX4_undo 47 = .ok (.if_icmp .ne 19, 3) := by decide +kernel
theorem dX4_undo_50 : decode cX4_undo 50 = .ok (.aload_n 0, 1) := by decide +kernel
theorem dX4_undo_51 : decode cX4_undo 51 = .ok (.dup, 1) := by decide +kernel
theorem dX4_undo_52 : decode cX4_undo 52 = .ok (.getfield 106, 3) := by decide +kernel
theorem dX4_undo_55 : decode cX4_undo 55 = .ok (.lconst 1, 1) := by decide +kernel
theorem dX4_undo_56 : decode cX4_undo 56 = .ok (.iload_n 2, 1) := by decide +kernel
theorem dX4_undo_57 : decode cX4_undo 57 = .ok (.lshl, 1) := by decide +kernel
theorem dX4_undo_58 : decode cX4_undo 58 = .ok (.ldc2_w 126, 3) := by decide +kernel
theorem dX4_undo_61 : decode cX4_undo 61 = .ok (.lxor, 1) := by decide +kernel
theorem dX4_undo_62 : decode cX4_undo 62 = .ok (.land, 1) := by decide +kernel
theorem dX4_undo_63 : decode cX4_undo 63 = .ok (.putfield 106, 3) := by decide +kernel
theorem dX4_undo_66 : decode cX4_undo 66 = .ok (.return_, 1) := by decide +kernel
set_option maxRecDepth 20000 in
theorem ggX4_canTry_X4_cellsOf : GoodIn wsX4_canTry wsX4_cellsOf := goodIn_ca (goodIn_r _ [8, 1, 2, 9, 10, 11, 12, 13, 14, 15, 16, 17, 18, 19, 20, 21, 22, 23, 24, 25, 26, 27, 28, 29, 30, 31, 32, 33, 34, 35, 36, 37, 38, 39, 40, 41, 42, 43] (by decide +kernel) (by decide +kernel)) (goodIn_sub (fun _ h => List.mem_cons_of_mem _ (List.mem_append_right _ h)) (by decide +kernel))
set_option maxRecDepth 20000 in
theorem gX4_canTry_X4_cellsOf : GoodIn wsX4_canTry (wsV RX4 122 RX4 yX4_cellsOf wsX4_cellsOf) := goodIn_app (goodIn_of _ (by decide +kernel)) ggX4_canTry_X4_cellsOf
theorem dX4_canTry_0 : decode cX4_canTry 0 = .ok (.iload_n 3, 1) := by decide +kernel
theorem dX4_canTry_1 : decode cX4_canTry 1 = .ok (.iconst 3, 1) := by decide +kernel
theorem dX4_canTry_2 : decode cX4_canTry 2 = .ok (.if_icmp .ne 5, 3) := by decide +kernel
theorem dX4_canTry_5 : decode cX4_canTry 5 = .ok (.iconst 1, 1) := by decide +kernel
theorem dX4_canTry_6 : decode cX4_canTry 6 = .ok (.ireturn, 1) := by decide +kernel
theorem dX4_canTry_7 : decode cX4_canTry 7 = .ok (.iload_n 3, 1) := by decide +kernel
theorem dX4_canTry_8 : decode cX4_canTry 8 = .ok (.iconst 2, 1) := by decide +kernel
theorem dX4_canTry_9 : decode cX4_canTry 9 = .ok (.if_icmp .ne 20, 3) := by decide +kernel
theorem dX4_canTry_12 : decode cX4_canTry 12 = .ok (.aload_n 0, 1) := by decide +kernel
theorem dX4_canTry_13 : decode cX4_canTry 13 = .ok (.getfield 7, 3) := by decide +kernel
theorem dX4_canTry_16 : decode cX4_canTry 16 = .ok (.iload_n 1, 1) := by decide +kernel
theorem dX4_canTry_17 : decode cX4_canTry 17 = .ok (.iaload, 1) := by decide +kernel
theorem dX4_canTry_18 : decode cX4_canTry 18 = .ok (.aload_n 0, 1) := by decide +kernel
theorem dX4_canTry_19 : decode cX4_canTry 19 = .ok (.getfield 13, 3) := by decide +kernel
theorem dX4_canTry_22 : decode cX4_canTry 22 = .ok (.iload_n 1, 1) := by decide +kernel
theorem dX4_canTry_23 : decode cX4_canTry 23 = .ok (.iaload, 1) := by decide +kernel
theorem dX4_canTry_24 : decode cX4_canTry 24 = .ok (.if_icmp .ne 5, 3) := by decide +kernel
theorem dX4_canTry_27 : decode cX4_canTry 27 = .ok (.iconst 0, 1) := by decide +kernel
theorem dX4_canTry_28 : decode cX4_canTry 28 = .ok (.ireturn, 1) := by decide +kernel
theorem dX4_canTry_29 : decode cX4_canTry 29 = .ok (.aload_n 0, 1) := by decide +kernel
theorem dX4_canTry_30 : decode cX4_canTry 30 = .ok (.iload_n 1, 1) := by decide +kernel
theorem dX4_canTry_31 : decode cX4_canTry 31 = .ok (.iload_n 2, 1) := by decide +kernel
theorem dX4_canTry_32 : decode cX4_canTry 32 = .ok (.iload_n 3, 1) := by decide +kernel
theorem dX4_canTry_33 : decode cX4_canTry 33 = .ok (.iconst 1, 1) := by decide +kernel
theorem dX4_canTry_34 : decode cX4_canTry 34 = .ok (.isub, 1) := by decide +kernel
theorem dX4_canTry_35 : decode cX4_canTry 35 = .ok (.invokevirtual 122, 3) := by decide +kernel
theorem dX4_canTry_38 : decode cX4_canTry 38 = .ok (.lstore 4, 2) := by decide +kernel
theorem dX4_canTry_40 : decode cX4_canTry 40 = .ok (.lload 4, 2) := by decide +kernel
theorem dX4_canTry_42 : decode cX4_canTry 42 = .ok (.lconst 0, 1) := by decide +kernel
theorem dX4_canTry_43 : decode cX4_canTry 43 = .ok (.lcmp, 1) := by decide +kernel
theorem dX4_canTry_44 : decode cX4_canTry 44 = .ok (.ifCond .eq 19, 3) := by decide +kernel
theorem dX4_canTry_47 : decode cX4_canTry 47 = .ok (.lload 4, 2) := by decide +kernel
theorem dX4_canTry_49 : decode cX4_canTry 49 = .ok (.aload_n 0, 1) := by decide +kernel
theorem dX4_canTry_50 : decode cX4_canTry 50 = .ok (.getfield 102, 3) := by decide +kernel
theorem dX4_canTry_53 : decode cX4_canTry 53 = .ok (.land, 1) := by decide +kernel
theorem dX4_canTry_54 : decode cX4_canTry 54 = .ok (.lconst 0, 1) := by decide +kernel
theorem dX4_canTry_55 : decode cX4_canTry 55 = .ok (.lcmp, 1) := by decide +kernel
theorem dX4_canTry_56 : decode cX4_canTry 56 = .ok (.ifCond .ne 7, 3) := by decide +kernel
theorem dX4_canTry_59 : decode cX4_canTry 59 = .ok (.iconst 1, 1) := by decide +kernel
theorem dX4_canTry_60 : decode cX4_canTry 60 = .ok (.goto 4, 3) := by decide +kernel
theorem dX4_canTry_63 : decode cX4_canTry 63 = .ok (.iconst 0, 1) := by decide +kernel
theorem dX4_canTry_64 : decode cX4_canTry 64 = .ok (.ireturn, 1) := by decide +kernel
set_option maxRecDepth 20000 in
theorem ggX4_tries_X4_cellsOf : GoodIn wsX4_tries wsX4_cellsOf := goodIn_ca (goodIn_r _ [10, 11, 12, 13, 14, 15, 16, 17, 18, 19, 20, 21, 22, 23, 24, 25, 26, 27, 28, 29, 30, 31, 32, 33, 34, 35, 36, 37, 38, 39, 40, 41, 42, 43, 44, 45, 46, 47] (by decide +kernel) (by decide +kernel)) (goodIn_sub (fun _ h => List.mem_cons_of_mem _ (List.mem_append_right _ h)) (by decide +kernel))
set_option maxRecDepth 20000 in
theorem gX4_tries_X4_cellsOf : GoodIn wsX4_tries (wsV RX4 122 RX4 yX4_cellsOf wsX4_cellsOf) := goodIn_app (goodIn_of _ (by decide +kernel)) ggX4_tries_X4_cellsOf
theorem dX4_tries_0 : decode cX4_tries 0 = .ok (.iload_n 3, 1) := by decide +kernel
theorem dX4_tries_1 : decode cX4_tries 1 = .ok (.iconst 3, 1) := by decide +kernel
theorem dX4_tries_2 : decode cX4_tries 2 = .ok (.if_icmp .ne 18, 3) := by decide +kernel
theorem dX4_tries_5 : decode cX4_tries 5 = .ok (.aload_n 0, 1) := by decide +kernel
theorem dX4_tries_6 : decode cX4_tries 6 = .ok (.dup, 1) := by decide +kernel
theorem dX4_tries_7 : decode cX4_tries 7 = .ok (.getfield 106, 3) := by decide +kernel
theorem dX4_tries_10 : decode cX4_tries 10 = .ok (.lconst 1, 1) := by decide +kernel
theorem dX4_tries_11 : decode cX4_tries 11 = .ok (.iload_n 2, 1) := by decide +kernel
theorem dX4_tries_12 : decode cX4_tries 12 = .ok (.lshl, 1) := by decide +kernel
theorem dX4_tries_13 : decode cX4_tries 13 = .ok (.lor, 1) := by decide +kernel
theorem dX4_tries_14 : decode cX4_tries 14 = .ok (.putfield 106, 3) := by decide +kernel
theorem dX4_tries_17 : decode cX4_tries 17 = .ok (.goto 53, 3) := by decide +kernel
theorem dX4_tries_20 : decode cX4_tries 20 = .ok (.aload_n 0, 1) := by decide +kernel
theorem dX4_tries_21 : decode cX4_tries 21 = .ok (.dup, 1) := by decide +kernel
theorem dX4_tries_22 : decode cX4_tries 22 = .ok (.getfield 102, 3) := by decide +kernel
theorem dX4_tries_25 : decode cX4_tries 25 = .ok (.aload_n 0, 1) := by decide +kernel
theorem dX4_tries_26 : decode cX4_tries 26 = .ok (.iload_n 1, 1) := by decide +kernel
theorem dX4_tries_27 : decode cX4_tries 27 = .ok (.iload_n 2, 1) := by decide +kernel
theorem dX4_tries_28 : decode cX4_tries 28 = .ok (.iload_n 3, 1) := by decide +kernel
theorem dX4_tries_29 : decode cX4_tries 29 = .ok (.iconst 1, 1) := by decide +kernel
theorem dX4_tries_30 : decode cX4_tries 30 = .ok (.isub, 1) := by decide +kernel
theorem dX4_tries_31 : decode cX4_tries 31 = .ok (.invokevirtual 122, 3) := by decide +kernel
theorem dX4_tries_34 : decode cX4_tries 34 = .ok (.lor, 1) := by decide +kernel
theorem dX4_tries_35 : decode cX4_tries 35 = .ok (.putfield 102, 3) := by decide +kernel
theorem dX4_tries_38 : decode cX4_tries 38 = .ok (.aload_n 0, 1) := by decide +kernel
theorem dX4_tries_39 : decode cX4_tries 39 = .ok (.getfield 70, 3) := by decide +kernel
theorem dX4_tries_42 : decode cX4_tries 42 = .ok (.aload_n 0, 1) := by decide +kernel
theorem dX4_tries_43 : decode cX4_tries 43 = .ok (.getfield 112, 3) := by decide +kernel
theorem dX4_tries_46 : decode cX4_tries 46 = .ok (.iload_n 2, 1) := by decide +kernel
theorem dX4_tries_47 : decode cX4_tries 47 = .ok (.iastore, 1) := by decide +kernel
theorem dX4_tries_48 : decode cX4_tries 48 = .ok (.aload_n 0, 1) := by decide +kernel
theorem dX4_tries_49 : decode cX4_tries 49 = .ok (.getfield 73, 3) := by decide +kernel
theorem dX4_tries_52 : decode cX4_tries 52 = .ok (.aload_n 0, 1) := by decide +kernel
theorem dX4_tries_53 : decode cX4_tries 53 = .ok (.getfield 112, 3) := by decide +kernel
theorem dX4_tries_56 : decode cX4_tries 56 = .ok (.iload_n 3, 1) := by decide +kernel
theorem dX4_tries_57 : decode cX4_tries 57 = .ok (.iconst 1, 1) := by decide +kernel
theorem dX4_tries_58 : decode cX4_tries 58 = .ok (.isub, 1) := by decide +kernel
theorem dX4_tries_59 : decode cX4_tries 59 = .ok (.iastore, 1) := by decide +kernel
theorem dX4_tries_60 : decode cX4_tries 60 = .ok (.aload_n 0, 1) := by decide +kernel
theorem dX4_tries_61 : decode cX4_tries 61 = .ok (.dup, 1) := by decide +kernel
theorem dX4_tries_62 : decode cX4_tries 62 = .ok (.getfield 112, 3) := by decide +kernel
theorem dX4_tries_65 : decode cX4_tries 65 = .ok (.iconst 1, 1) := by decide +kernel
theorem dX4_tries_66 : decode cX4_tries 66 = .ok (.iadd, 1) := by decide +kernel
theorem dX4_tries_67 : decode cX4_tries 67 = .ok (.putfield 112, 3) := by decide +kernel
theorem dX4_tries_70 : decode cX4_tries 70 = .ok (.return_, 1) := by decide +kernel
set_option maxRecDepth 20000 in
theorem ggX4_seek_X4_undo : GoodIn wsX4_seek wsX4_undo := goodIn_ca (goodIn_r _ [15, 3, 1, 16, 2, 17, 18, 19, 14, 20, 21, 22, 23, 24, 57, 58, 59, 60, 61, 62, 63, 64, 65, 66, 67, 68, 69, 70, 71, 72, 73, 74, 75, 76, 77, 78, 79, 80, 81, 82, 83, 84, 85, 86, 87, 88, 89] (by decide +kernel) (by decide +kernel)) (goodIn_sub (fun _ h => List.mem_cons_of_mem _ (List.mem_append_right _ h)) (by decide +kernel))
set_option maxRecDepth 20000 in
theorem gX4_seek_X4_undo : GoodIn wsX4_seek (wsV RX4 131 RX4 yX4_undo wsX4_undo) := goodIn_app (goodIn_of _ (by decide +kernel)) ggX4_seek_X4_undo
set_option maxRecDepth 20000 in
theorem ggX4_seek_X4_keepBest : GoodIn wsX4_seek wsX4_keepBest := goodIn_ca (goodIn_r _ [28, 3, 4, 7, 29, 30, 31, 32, 33, 17, 18, 19, 14, 20, 21, 22, 23, 24, 57, 58, 59, 60, 61, 62, 63, 64, 65, 66, 67, 68, 69, 70, 71, 72, 73, 74, 75, 76, 77, 78, 79, 80, 81, 82, 83, 84, 85, 86, 87, 88, 89] (by decide +kernel) (by decide +kernel)) (goodIn_sub (fun _ h => List.mem_cons_of_mem _ (List.mem_append_right _ h)) (by decide +kernel))
set_option maxRecDepth 20000 in
theorem gX4_seek_X4_keepBest : GoodIn wsX4_seek (wsV RX4 135 RX4 yX4_keepBest wsX4_keepBest) := goodIn_app (goodIn_of _ (by decide +kernel)) ggX4_seek_X4_keepBest
set_option maxRecDepth 20000 in
theorem ggX4_seek_X4_canBeBetter : GoodIn wsX4_seek wsX4_canBeBetter := goodIn_ca (goodIn_r _ [37, 4, 3, 10, 1, 2, 38, 39, 14, 40, 41, 42, 43, 44, 21, 22, 57, 58, 59, 60, 61, 62, 63, 64, 65, 66, 67, 68, 69, 70, 71, 72, 73, 74, 75, 76, 77, 78, 79, 80, 81, 82, 83, 84, 85, 86, 87, 88, 89] (by decide +kernel) (by decide +kernel)) (goodIn_sub (fun _ h => List.mem_cons_of_mem _ (List.mem_append_right _ h)) (by decide +kernel))
set_option maxRecDepth 20000 in
theorem gX4_seek_X4_canBeBetter : GoodIn wsX4_seek (wsV RX4 139 RX4 yX4_canBeBetter wsX4_canBeBetter) := goodIn_app (goodIn_of _ (by decide +kernel)) ggX4_seek_X4_canBeBetter
set_option maxRecDepth 20000 in
theorem ggX4_seek_X4_canTry : GoodIn wsX4_seek wsX4_canTry := goodIn_ca (goodIn_r _ [48, 21, 22, 1, 17, 18, 19, 14, 20, 23, 24, 57, 58, 59, 60, 61, 62, 63, 64, 65, 66, 67, 68, 69, 70, 71, 72, 73, 74, 75, 76, 77, 78, 79, 80, 81, 82, 83, 84, 85, 86, 87, 88, 89] (by decide +kernel) (by decide +kernel)) (goodIn_sub (fun _ h => List.mem_cons_of_mem _ (List.mem_append_right _ h)) (by decide +kernel))
set_option maxRecDepth 20000 in
theorem gX4_seek_X4_canTry : GoodIn wsX4_seek (wsV RX4 143 RX4 yX4_canTry wsX4_canTry) := goodIn_app (goodIn_of _ (by decide +kernel)) ggX4_seek_X4_canTry
set_option maxRecDepth 20000 in
theorem ggX4_seek_X4_tries : GoodIn wsX4_seek wsX4_tries := goodIn_ca (goodIn_r _ [52, 2, 1, 30, 3, 32, 17, 18, 19, 14, 20, 21, 22, 23, 24, 57, 58, 59, 60, 61, 62, 63, 64, 65, 66, 67, 68, 69, 70, 71, 72, 73, 74, 75, 76, 77, 78, 79, 80, 81, 82, 83, 84, 85, 86, 87, 88, 89] (by decide +kernel) (by decide +kernel)) (goodIn_sub (fun _ h => List.mem_cons_of_mem _ (List.mem_append_right _ h)) (by decide +kernel))
set_option maxRecDepth 20000 in
theorem gX4_seek_X4_tries : GoodIn wsX4_seek (wsV RX4 146 RX4 yX4_tries wsX4_tries) := goodIn_app (goodIn_of _ (by decide +kernel)) ggX4_seek_X4_tries
set_option maxRecDepth 20000 in
theorem ggX4_seek_X4_firstCell : GoodIn wsX4_seek wsX4_firstCell := goodIn_r _ [56, 10, 1, 2, 57, 58, 59, 60, 61, 62, 63, 64, 65, 66, 67, 68, 69, 70, 71, 72, 73, 74, 75, 76, 77, 78, 79, 80, 81, 82, 83, 84, 85, 86, 87, 88, 89] (by decide +kernel) (by decide +kernel)
set_option maxRecDepth 20000 in
theorem gX4_seek_X4_firstCell : GoodIn wsX4_seek (wsV RX4 149 RX4 yX4_firstCell wsX4_firstCell) := goodIn_app (goodIn_of _ (by decide +kernel)) ggX4_seek_X4_firstCell
theorem dX4_seek_0 : decode cX4_seek 0 = .ok (.aload_n 0, 1) := by decide +kernel
theorem dX4_seek_1 : decode cX4_seek 1 = .ok (.lconst 0, 1) := by decide +kernel
theorem dX4_seek_2 : decode cX4_seek 2 = .ok (.putfield 102, 3) := by decide +kernel
theorem dX4_seek_5 : decode cX4_seek 5 = .ok (.aload_n 0, 1) := by decide +kernel
theorem dX4_seek_6 : decode cX4_seek 6 = .ok (.lconst 0, 1) := by decide +kernel
theorem dX4_seek_7 : decode cX4_seek 7 = .ok (.putfield 106, 3) := by decide +kernel
theorem dX4_seek_10 : decode cX4_seek 10 = .ok (.aload_n 0, 1) := by decide +kernel
theorem dX4_seek_11 : decode cX4_seek 11 = .ok (.iconst 0, 1) := by decide +kernel
theorem dX4_seek_12 : decode cX4_seek 12 = .ok (.putfield 112, 3) := by decide +kernel
theorem dX4_seek_15 : decode cX4_seek 15 = .ok (.aload_n 0, 1) := by decide +kernel
theorem dX4_seek_16 : decode cX4_seek 16 = .ok (.iconst (-1), 1) := by decide +kernel
theorem dX4_seek_17 : decode cX4_seek 17 = .ok (.putfield 109, 3) := by decide +kernel
theorem dX4_seek_20 : decode cX4_seek 20 = .ok (.aload_n 0, 1) := by decide +kernel
theorem dX4_seek_21 : decode cX4_seek 21 = .ok (.iconst 0, 1) := by decide +kernel
theorem dX4_seek_22 : decode cX4_seek 22 = .ok (.putfield 128, 3) := by decide +kernel
theorem dX4_seek_25 : decode cX4_seek 25 = .ok (.aload_n 0, 1) := by decide +kernel
theorem dX4_seek_26 : decode cX4_seek 26 = .ok (.getfield 25, 3) := by decide +kernel
theorem dX4_seek_29 : decode cX4_seek 29 = .ok (.iload_n 1, 1) := by decide +kernel
theorem dX4_seek_30 : decode cX4_seek 30 = .ok (.iconst 1, 1) := by decide +kernel
theorem dX4_seek_31 : decode cX4_seek 31 = .ok (.bastore, 1) := by decide +kernel
theorem dX4_seek_32 : decode cX4_seek 32 = .ok (.aload_n 0, 1) := by decide +kernel
theorem dX4_seek_33 : decode cX4_seek 33 = .ok (.getfield 22, 3) := by decide +kernel
theorem dX4_seek_36 : decode cX4_seek 36 = .ok (.iload_n 1, 1) := by decide +kernel
theorem dX4_seek_37 : decode cX4_seek 37 = .ok (.iconst 0, 1) := by decide +kernel
theorem dX4_seek_38 : decode cX4_seek 38 = .ok (.iastore, 1) := by decide +kernel
theorem dX4_seek_39 : decode cX4_seek 39 = .ok (.iconst 0, 1) := by decide +kernel
theorem dX4_seek_40 : decode cX4_seek 40 = .ok (.istore_n 3, 1) := by decide +kernel
theorem dX4_seek_41 : decode cX4_seek 41 = .ok (.aload_n 0, 1) := by decide +kernel
theorem dX4_seek_42 : decode cX4_seek 42 = .ok (.getfield 64, 3) := by decide +kernel
theorem dX4_seek_45 : decode cX4_seek 45 = .ok (.iconst 0, 1) := by decide +kernel
theorem dX4_seek_46 : decode cX4_seek 46 = .ok (.iconst 0, 1) := by decide +kernel
theorem dX4_seek_47 : decode cX4_seek 47 = .ok (.iastore, 1) := by decide +kernel
theorem dX4_seek_48 : decode cX4_seek 48 = .ok (.aload_n 0, 1) := by decide +kernel
theorem dX4_seek_49 : decode cX4_seek 49 = .ok (.getfield 67, 3) := by decide +kernel
theorem dX4_seek_52 : decode cX4_seek 52 = .ok (.iconst 0, 1) := by decide +kernel
theorem dX4_seek_53 : decode cX4_seek 53 = .ok (.iconst 0, 1) := by decide +kernel
theorem dX4_seek_54 : decode cX4_seek 54 = .ok (.iastore, 1) := by decide +kernel
theorem dX4_seek_55 : decode cX4_seek 55 = .ok (.iconst 1, 1) := by decide +kernel
theorem dX4_seek_56 : decode cX4_seek 56 = .ok (.istore 4, 2) := by decide +kernel
theorem dX4_seek_58 : decode cX4_seek 58 = .ok (.iload_n 3, 1) := by decide +kernel
theorem dX4_seek_59 : decode cX4_seek 59 = .ok (.ifCond .lt 227, 3) := by decide +kernel
theorem dX4_seek_62 : decode cX4_seek 62 = .ok (.aload_n 0, 1) := by decide +kernel
theorem dX4_seek_63 : decode cX4_seek 63 = .ok (.getfield 64, 3) := by decide +kernel
theorem dX4_seek_66 : decode cX4_seek 66 = .ok (.iload_n 3, 1) := by decide +kernel
theorem dX4_seek_67 : decode cX4_seek 67 = .ok (.iaload, 1) := by decide +kernel
theorem dX4_seek_68 : decode cX4_seek 68 = .ok (.istore 5, 2) := by decide +kernel
theorem dX4_seek_70 : decode cX4_seek 70 = .ok (.aload_n 0, 1) := by decide +kernel
theorem dX4_seek_71 : decode cX4_seek 71 = .ok (.getfield 67, 3) := by decide +kernel
theorem dX4_seek_74 : decode cX4_seek 74 = .ok (.iload_n 3, 1) := by decide +kernel
theorem dX4_seek_75 : decode cX4_seek 75 = .ok (.iaload, 1) := by decide +kernel
theorem dX4_seek_76 : decode cX4_seek 76 = .ok (.istore 6, 2) := by decide +kernel
theorem dX4_seek_78 : decode cX4_seek 78 = .ok (.aload_n 0, 1) := by decide +kernel
theorem dX4_seek_79 : decode cX4_seek 79 = .ok (.iload_n 1, 1) := by decide +kernel
theorem dX4_seek_80 : decode cX4_seek 80 = .ok (.iload 5, 2) := by decide +kernel
theorem dX4_seek_82 : decode cX4_seek 82 = .ok (.iload 6, 2) := by decide +kernel
theorem dX4_seek_84 : decode cX4_seek 84 = .ok (.invokevirtual 131, 3) := by decide +kernel
theorem dX4_seek_87 : decode cX4_seek 87 = .ok (.iload 4, 2) := by decide +kernel
theorem dX4_seek_89 : decode cX4_seek 89 = .ok (.ifCond .eq 28, 3) := by decide +kernel
theorem dX4_seek_92 : decode cX4_seek 92 = .ok (.iload 5, 2) := by decide +kernel
theorem dX4_seek_94 : decode cX4_seek 94 = .ok (.aload_n 0, 1) := by decide +kernel
theorem dX4_seek_95 : decode cX4_seek 95 = .ok (.getfield 86, 3) := by decide +kernel
theorem dX4_seek_98 : decode cX4_seek 98 = .ok (.if_icmp .ne 19, 3) := by decide +kernel
theorem dX4_seek_101 : decode cX4_seek 101 = .ok (.aload_n 0, 1) := by decide +kernel
theorem dX4_seek_102 : decode cX4_seek 102 = .ok (.getfield 112, 3) := by decide +kernel
theorem dX4_seek_105 : decode cX4_seek 105 = .ok (.aload_n 0, 1) := by decide +kernel
theorem dX4_seek_106 : decode cX4_seek 106 = .ok (.getfield 109, 3) := by decide +kernel
theorem dX4_seek_109 : decode cX4_seek 109 = .ok (.if_icmp .le 8, 3) := by decide +kernel
theorem dX4_seek_112 : decode cX4_seek 112 = .ok (.aload_n 0, 1) := by decide +kernel
theorem dX4_seek_113 : decode cX4_seek 113 = .ok (.iload_n 1, 1) := by decide +kernel
theorem dX4_seek_114 : decode cX4_seek 114 = .ok (.invokevirtual 135, 3) := by decide +kernel
theorem dX4_seek_117 : decode cX4_seek 117 = .ok (.iload 5, 2) := by decide +kernel
theorem dX4_seek_119 : decode cX4_seek 119 = .ok (.aload_n 0, 1) := by decide +kernel
theorem dX4_seek_120 : decode cX4_seek 120 = .ok (.getfield 86, 3) := by decide +kernel
theorem dX4_seek_123 : decode cX4_seek 123 = .ok (.if_icmp .eq 16, 3) := by decide +kernel
theorem dX4_seek_126 : decode cX4_seek 126 = .ok (.iload 4, 2) := by decide +kernel
theorem dX4_seek_128 : decode cX4_seek 128 = .ok (.ifCond .eq 15, 3) := by decide +kernel
theorem dX4_seek_131 : decode cX4_seek 131 = .ok (.aload_n 0, 1) := by decide +kernel
theorem dX4_seek_132 : decode cX4_seek 132 = .ok (.iload_n 1, 1) := by decide +kernel
theorem dX4_seek_133 : decode cX4_seek 133 = .ok (.invokevirtual 139, 3) := by decide +kernel
theorem dX4_seek_136 : decode cX4_seek 136 = .ok (.ifCond .ne 7, 3) := by decide +kernel
theorem dX4_seek_139 : decode cX4_seek 139 = .ok (.iconst 1, 1) := by decide +kernel
theorem dX4_seek_140 : decode cX4_seek 140 = .ok (.goto 4, 3) := by decide +kernel
theorem dX4_seek_143 : decode cX4_seek 143 = .ok (.iconst 0, 1) := by decide +kernel
theorem dX4_seek_144 : decode cX4_seek 144 = .ok (.istore 7, 2) := by decide +kernel
theorem dX4_seek_146 : decode cX4_seek 146 = .ok (.iinc 6 1, 3) := by decide +kernel
theorem dX4_seek_149 : decode cX4_seek 149 = .ok (.iload 7, 2) := by decide +kernel
theorem dX4_seek_151 : decode cX4_seek 151 = .ok (.ifCond .ne 27, 3) := by decide +kernel
theorem dX4_seek_154 : decode cX4_seek 154 = .ok (.iload 6, 2) := by decide +kernel
theorem dX4_seek_156 : decode cX4_seek 156 = .ok (.iconst 3, 1) := by decide +kernel
theorem dX4_seek_157 : decode cX4_seek 157 = .ok (.if_icmp .ge 21, 3) := by decide +kernel
theorem dX4_seek_160 : decode cX4_seek 160 = .ok (.aload_n 0, 1) := by decide +kernel
theorem dX4_seek_161 : decode cX4_seek 161 = .ok (.iload_n 1, 1) := by decide +kernel
theorem dX4_seek_162 : decode cX4_seek 162 = .ok (.iload 5, 2) := by decide +kernel
theorem dX4_seek_164 : decode cX4_seek 164 = .ok (.iload 6, 2) := by decide +kernel
theorem dX4_seek_166 : decode cX4_seek 166 = .ok (.invokevirtual 143, 3) := by decide +kernel
theorem dX4_seek_169 : decode cX4_seek 169 = .ok (.ifCond .ne 9, 3) := by decide +kernel
theorem dX4_seek_172 : decode cX4_seek 172 = .ok (.iinc 6 1, 3) := by decide +kernel
theorem dX4_seek_175 : decode cX4_seek 175 = .ok (.goto (-26), 3) := by decide +kernel
theorem dX4_seek_178 : decode cX4_seek 178 = .ok (.iload 7, 2) := by decide +kernel
theorem dX4_seek_180 : decode cX4_seek 180 = .ok (.ifCond .ne 27, 3) := by decide +kernel
theorem dX4_seek_183 : decode cX4_seek 183 = .ok (.iload 6, 2) := by decide +kernel
theorem dX4_seek_185 : decode cX4_seek 185 = .ok (.iconst 3, 1) := by decide +kernel
theorem dX4_seek_186 : decode cX4_seek 186 = .ok (.if_icmp .gt 21, 3) := by decide +kernel
theorem dX4_seek_189 : decode cX4_seek 189 = .ok (.aload_n 0, 1) := by decide +kernel
theorem dX4_seek_190 : decode cX4_seek 190 = .ok (.getfield 128, 3) := by decide +kernel
theorem dX4_seek_193 : decode cX4_seek 193 = .ok (.iload_n 2, 1) := by decide +kernel
theorem dX4_seek_194 : decode cX4_seek 194 = .ok (.if_icmp .ne 13, 3) := by decide +kernel
theorem dX4_seek_197 : decode cX4_seek 197 = .ok (.aload_n 0, 1) := by decide +kernel
theorem dX4_seek_198 : decode cX4_seek 198 = .ok (.getfield 25, 3) := by decide +kernel
theorem dX4_seek_201 : decode cX4_seek 201 = .ok (.iload_n 1, 1) := by decide +kernel
theorem dX4_seek_202 : decode cX4_seek 202 = .ok (.iconst 0, 1) := by decide +kernel
theorem dX4_seek_203 : decode cX4_seek 203 = .ok (.bastore, 1) := by decide +kernel
theorem dX4_seek_204 : decode cX4_seek 204 = .ok (.iconst 1, 1) := by decide +kernel
theorem dX4_seek_205 : decode cX4_seek 205 = .ok (.istore 7, 2) := by decide +kernel
theorem dX4_seek_207 : decode cX4_seek 207 = .ok (.iload 7, 2) := by decide +kernel
theorem dX4_seek_209 : decode cX4_seek 209 = .ok (.ifCond .ne 13, 3) := by decide +kernel
theorem dX4_seek_212 : decode cX4_seek 212 = .ok (.iload 6, 2) := by decide +kernel
theorem dX4_seek_214 : decode cX4_seek 214 = .ok (.iconst 3, 1) := by decide +kernel
theorem dX4_seek_215 : decode cX4_seek 215 = .ok (.if_icmp .gt 7, 3) := by decide +kernel
theorem dX4_seek_218 : decode cX4_seek 218 = .ok (.iconst 1, 1) := by decide +kernel
theorem dX4_seek_219 : decode cX4_seek 219 = .ok (.goto 4, 3) := by decide +kernel
theorem dX4_seek_222 : decode cX4_seek 222 = .ok (.iconst 0, 1) := by decide +kernel
theorem dX4_seek_223 : decode cX4_seek 223 = .ok (.istore 4, 2) := by decide +kernel
theorem dX4_seek_225 : decode cX4_seek 225 = .ok (.iload 4, 2) := by decide +kernel
theorem dX4_seek_227 : decode cX4_seek 227 = .ok (.ifCond .eq 53, 3) := by decide +kernel
theorem dX4_seek_230 : decode cX4_seek 230 = .ok (.aload_n 0, 1) := by decide +kernel
theorem dX4_seek_231 : decode cX4_seek 231 = .ok (.dup, 1) := by decide +kernel
theorem dX4_seek_232 : decode cX4_seek 232 = .ok (.getfield 128, 3) := by decide +kernel
theorem dX4_seek_235 : decode cX4_seek 235 = .ok (.iconst 1, 1) := by decide +kernel
theorem dX4_seek_236 : decode cX4_seek 236 = .ok (.iadd, 1) := by decide +kernel
theorem dX4_seek_237 : decode cX4_seek 237 = .ok (.putfield 128, 3) := by decide +kernel
theorem dX4_seek_240 : decode cX4_seek 240 = .ok (.aload_n 0, 1) := by decide +kernel
theorem dX4_seek_241 : decode cX4_seek 241 = .ok (.getfield 67, 3) := by decide +kernel
theorem dX4_seek_244 : decode cX4_seek 244 = .ok (.iload_n 3, 1) := by decide +kernel
theorem dX4_seek_245 : decode cX4_seek 245 = .ok (.iload 6, 2) := by decide +kernel
theorem dX4_seek_247 : decode cX4_seek 247 = .ok (.iastore, 1) := by decide +kernel
theorem dX4_seek_248 : decode cX4_seek 248 = .ok (.aload_n 0, 1) := by decide +kernel
theorem dX4_seek_249 : decode cX4_seek 249 = .ok (.iload_n 1, 1) := by decide +kernel
theorem dX4_seek_250 : decode cX4_seek 250 = .ok (.iload 5, 2) := by decide +kernel
theorem dX4_seek_252 : decode cX4_seek 252 = .ok (.iload 6, 2) := by decide +kernel
theorem dX4_seek_254 : decode cX4_seek 254 = .ok (.invokevirtual 146, 3) := by decide +kernel
theorem dX4_seek_257 : decode cX4_seek 257 = .ok (.iinc 3 1, 3) := by decide +kernel
theorem dX4_seek_260 : decode cX4_seek 260 = .ok (.aload_n 0, 1) := by decide +kernel
theorem dX4_seek_261 : decode cX4_seek 261 = .ok (.getfield 64, 3) := by decide +kernel
theorem dX4_seek_264 : decode cX4_seek 264 = .ok (.iload_n 3, 1) := by decide +kernel
theorem dX4_seek_265 : decode cX4_seek 265 = .ok (.aload_n 0, 1) := by decide +kernel
theorem dX4_seek_266 : decode cX4_seek 266 = .ok (.invokevirtual 149, 3) := by decide +kernel
theorem dX4_seek_269 : decode cX4_seek 269 = .ok (.iastore, 1) := by decide +kernel
theorem dX4_seek_270 : decode cX4_seek 270 = .ok (.aload_n 0, 1) := by decide +kernel
theorem dX4_seek_271 : decode cX4_seek 271 = .ok (.getfield 67, 3) := by decide +kernel
theorem dX4_seek_274 : decode cX4_seek 274 = .ok (.iload_n 3, 1) := by decide +kernel
theorem dX4_seek_275 : decode cX4_seek 275 = .ok (.iconst 0, 1) := by decide +kernel
theorem dX4_seek_276 : decode cX4_seek 276 = .ok (.iastore, 1) := by decide +kernel
theorem dX4_seek_277 : decode cX4_seek 277 = .ok (.goto 6, 3) := by decide +kernel
theorem dX4_seek_280 : decode cX4_seek 280 = .ok (.iinc 3 (-1), 3) := by decide +kernel
theorem dX4_seek_283 : decode cX4_seek 283 = .ok (.goto (-225), 3) := by decide +kernel
theorem dX4_seek_286 : decode cX4_seek 286 = .ok (.return_, 1) := by decide +kernel
theorem dX4_hasLayers_0 : decode cX4_hasLayers 0 = .ok (.iconst 0, 1) := by decide +kernel
theorem dX4_hasLayers_1 : decode cX4_hasLayers 1 = .ok (.istore_n 2, 1) := by decide +kernel
theorem dX4_hasLayers_2 : decode cX4_hasLayers 2 = .ok (.iload_n 2, 1) := by decide +kernel
theorem dX4_hasLayers_3 : decode cX4_hasLayers 3 = .ok (.aload_n 0, 1) := by decide +kernel
theorem dX4_hasLayers_4 : decode cX4_hasLayers 4 = .ok (.getfield 99, 3) := by decide +kernel
theorem dX4_hasLayers_7 : decode cX4_hasLayers 7 = .ok (.if_icmp .ge 44, 3) := by decide +kernel
theorem dX4_hasLayers_10 : decode cX4_hasLayers 10 = .ok (.iconst 0, 1) := by decide +kernel
theorem dX4_hasLayers_11 : decode cX4_hasLayers 11 = .ok (.istore_n 3, 1) := by decide +kernel
theorem dX4_hasLayers_12 : decode cX4_hasLayers 12 = .ok (.iload_n 3, 1) := by decide +kernel
theorem dX4_hasLayers_13 : decode cX4_hasLayers 13 = .ok (.aload_n 0, 1) := by decide +kernel
theorem dX4_hasLayers_14 : decode cX4_hasLayers 14 = .ok (.getfield 49, 3) := by decide +kernel
theorem dX4_hasLayers_17 : decode cX4_hasLayers 17 = .ok (.iload_n 2, 1) := by decide +kernel
theorem dX4_hasLayers_18 : decode cX4_hasLayers 18 = .ok (.iaload, 1) := by decide +kernel
theorem dX4_hasLayers_19 : decode cX4_hasLayers 19 = .ok (.if_icmp .ge 26, 3) := by decide +kernel
theorem dX4_hasLayers_22 : decode cX4_hasLayers 22 = .ok (.aload_n 0, 1) := by decide +kernel
theorem dX4_hasLayers_23 : decode cX4_hasLayers 23 = .ok (.getfield 52, 3) := by decide +kernel
theorem dX4_hasLayers_26 : decode cX4_hasLayers 26 = .ok (.bipush 10, 2) := by decide +kernel
theorem dX4_hasLayers_28 : decode cX4_hasLayers 28 = .ok (.iload_n 2, 1) := by decide +kernel
theorem dX4_hasLayers_29 : decode cX4_hasLayers 29 = .ok (.imul, 1) := by decide +kernel
theorem dX4_hasLayers_30 : decode cX4_hasLayers 30 = .ok (.iload_n 3, 1) := by decide +kernel
theorem dX4_hasLayers_31 : decode cX4_hasLayers 31 = .ok (.iadd, 1) := by decide +kernel
theorem dX4_hasLayers_32 : decode cX4_hasLayers 32 = .ok (.iaload, 1) := by decide +kernel
theorem dX4_hasLayers_33 : decode cX4_hasLayers 33 = .ok (.iload_n 1, 1) := by decide +kernel
theorem dX4_hasLayers_34 : decode cX4_hasLayers 34 = .ok (.if_icmp .ne 5, 3) := by decide +kernel
theorem dX4_hasLayers_37 : decode cX4_hasLayers 37 = .ok (.iconst 1, 1) := by decide +kernel
theorem dX4_hasLayers_38 : decode cX4_hasLayers 38 = .ok (.ireturn, 1) := by decide +kernel
theorem dX4_hasLayers_39 : decode cX4_hasLayers 39 = .ok (.iinc 3 1, 3) := by decide +kernel
theorem dX4_hasLayers_42 : decode cX4_hasLayers 42 = .ok (.goto (-30), 3) := by decide +kernel
theorem dX4_hasLayers_45 : decode cX4_hasLayers 45 = .ok (.iinc 2 1, 3) := by decide +kernel
theorem dX4_hasLayers_48 : decode cX4_hasLayers 48 = .ok (.goto (-46), 3) := by decide +kernel
theorem dX4_hasLayers_51 : decode cX4_hasLayers 51 = .ok (.iconst 0, 1) := by decide +kernel
theorem dX4_hasLayers_52 : decode cX4_hasLayers 52 = .ok (.ireturn, 1) := by decide +kernel
set_option maxRecDepth 20000 in
theorem ggX4_search_X4_isKind : GoodIn wsX4_search wsX4_isKind := goodIn_r _ [7, 8, 9, 10, 6, 11, 77, 78, 79, 80, 81, 82, 83, 84, 85, 86, 87, 88, 89, 90, 91, 92, 93, 94, 95, 96, 97, 98, 99, 100, 101, 102, 103, 104, 105, 106, 107, 108, 109] (by decide +kernel) (by decide +kernel)
set_option maxRecDepth 20000 in
theorem gX4_search_X4_isKind : GoodIn wsX4_search (wsV RX4 153 RX4 yX4_isKind wsX4_isKind) := goodIn_app (goodIn_of _ (by decide +kernel)) ggX4_search_X4_isKind
set_option maxRecDepth 20000 in
theorem ggX4_search_X4_within : GoodIn wsX4_search wsX4_within := goodIn_r _ [11] (by decide +kernel) (by decide +kernel)
set_option maxRecDepth 20000 in
theorem gX4_search_X4_within : GoodIn wsX4_search (va_wsS RX4 95 yX4_within wsX4_within) := goodIn_app (goodIn_of _ (by decide +kernel)) ggX4_search_X4_within
set_option maxRecDepth 20000 in
theorem ggX4_search_X4_hasLayers : GoodIn wsX4_search wsX4_hasLayers := goodIn_ca (goodIn_r _ [15, 16, 17, 18, 77, 78, 79, 80, 81, 82, 83, 84, 85, 86, 87, 88, 89, 90, 91, 92, 93, 94, 95, 96, 97, 98, 99, 100, 101, 102, 103, 104, 105, 106, 107, 108, 109] (by decide +kernel) (by decide +kernel)) (goodIn_sub (fun _ h => List.mem_cons_of_mem _ (List.mem_append_right _ h)) (by decide +kernel))
set_option maxRecDepth 20000 in
theorem gX4_search_X4_hasLayers : GoodIn wsX4_search (wsV RX4 156 RX4 yX4_hasLayers wsX4_hasLayers) := goodIn_app (goodIn_of _ (by decide +kernel)) ggX4_search_X4_hasLayers
set_option maxRecDepth 20000 in
theorem ggX4_search_X4_seek : GoodIn wsX4_search wsX4_seek := goodIn_ca (goodIn_r _ [22, 23, 24, 25, 26, 27, 28, 2, 29, 30, 31, 32, 33, 34, 6, 35, 36, 37, 38, 39, 40, 41, 42, 43, 44, 45, 46, 47, 48, 49, 50, 51, 52, 53, 54, 55, 56, 57, 58, 59, 60, 61, 62, 63, 64, 65, 66, 67, 68, 69, 70, 71, 72, 73, 74, 75, 76, 77, 78, 79, 80, 81, 82, 83, 84, 85, 86, 87, 88, 89, 90, 91, 92, 93, 94, 95, 96, 97, 98, 99, 100, 101, 102, 103, 104, 105, 106, 107, 108, 109] (by decide +kernel) (by decide +kernel)) (goodIn_sub (fun _ h => List.mem_cons_of_mem _ (List.mem_append_right _ h)) (by decide +kernel))
set_option maxRecDepth 20000 in
theorem gX4_search_X4_seek : GoodIn wsX4_search (wsV RX4 159 RX4 yX4_seek wsX4_seek) := goodIn_app (goodIn_of _ (by decide +kernel)) ggX4_search_X4_seek
theorem dX4_search_0 : decode cX4_search 0 = .ok (.aload_n 0, 1) := by decide +kernel
theorem dX4_search_1 : decode cX4_search 1 = .ok (.aload_n 0, 1) := by decide +kernel
theorem dX4_search_2 : decode cX4_search 2 = .ok (.iload_n 1, 1) := by decide +kernel
theorem dX4_search_3 : decode cX4_search 3 = .ok (.invokevirtual 153, 3) := by decide +kernel
theorem dX4_search_6 : decode cX4_search 6 = .ok (.ifCond .ne 7, 3) := by decide +kernel
theorem dX4_search_9 : decode cX4_search 9 = .ok (.iconst 1, 1) := by decide +kernel
theorem dX4_search_10 : decode cX4_search 10 = .ok (.goto 31, 3) := by decide +kernel
theorem dX4_search_13 : decode cX4_search 13 = .ok (.iload_n 2, 1) := by decide +kernel
theorem dX4_search_14 : decode cX4_search 14 = .ok (.iconst 0, 1) := by decide +kernel
theorem dX4_search_15 : decode cX4_search 15 = .ok (.sipush 5000, 3) := by decide +kernel
theorem dX4_search_18 : decode cX4_search 18 = .ok (.invokestatic 95, 3) := by decide +kernel
theorem dX4_search_21 : decode cX4_search 21 = .ok (.ifCond .ne 7, 3) := by decide +kernel
theorem dX4_search_24 : decode cX4_search 24 = .ok (.iconst 2, 1) := by decide +kernel
theorem dX4_search_25 : decode cX4_search 25 = .ok (.goto 16, 3) := by decide +kernel
theorem dX4_search_28 : decode cX4_search 28 = .ok (.aload_n 0, 1) := by decide +kernel
theorem dX4_search_29 : decode cX4_search 29 = .ok (.iload_n 1, 1) := by decide +kernel
theorem dX4_search_30 : decode cX4_search 30 = .ok (.invokevirtual 156, 3) := by decide +kernel
theorem dX4_search_33 : decode cX4_search 33 = .ok (.ifCond .eq 7, 3) := by decide +kernel
theorem dX4_search_36 : decode cX4_search 36 = .ok (.iconst 3, 1) := by decide +kernel
theorem dX4_search_37 : decode cX4_search 37 = .ok (.goto 4, 3) := by decide +kernel
theorem dX4_search_40 : decode cX4_search 40 = .ok (.iconst 0, 1) := by decide +kernel
theorem dX4_search_41 : decode cX4_search 41 = .ok (.putfield 89, 3) := by decide +kernel
theorem dX4_search_44 : decode cX4_search 44 = .ok (.aload_n 0, 1) := by decide +kernel
theorem dX4_search_45 : decode cX4_search 45 = .ok (.getfield 89, 3) := by decide +kernel
theorem dX4_search_48 : decode cX4_search 48 = .ok (.ifCond .eq 5, 3) := by decide +kernel
theorem dX4_search_51 : decode cX4_search 51 = .ok (.iconst 0, 1) := by decide +kernel
theorem dX4_search_52 : decode cX4_search 52 = .ok (.ireturn, 1) := by decide +kernel
theorem dX4_search_53 : decode cX4_search 53 = .ok (.aload_n 0, 1) := by decide +kernel
theorem dX4_search_54 : decode cX4_search 54 = .ok (.iload_n 1, 1) := by decide +kernel
theorem dX4_search_55 : decode cX4_search 55 = .ok (.iload_n 2, 1) := by decide +kernel
theorem dX4_search_56 : decode cX4_search 56 = .ok (.invokevirtual 159, 3) := by decide +kernel
theorem dX4_search_59 : decode cX4_search 59 = .ok (.aload_n 0, 1) := by decide +kernel
end
section
theorem dX4_search_60 : decode cX4_search 60 = .ok (.getfield 22, 3) := by decide +kernel
theorem dX4_search_63 : decode cX4_search 63 = .ok (.iload_n 1, 1) := by decide +kernel
theorem dX4_search_64 : decode cX4_search 64 = .ok (.iaload, 1) := by decide +kernel
theorem dX4_search_65 : decode cX4_search 65 = .ok (.ireturn, 1) := by decide +kernel
set_option maxRecDepth 20000 in
theorem ggX4_pattern_X4_isKind : GoodIn wsX4_pattern wsX4_isKind := goodIn_r _ [10, 11, 12, 13, 9, 14, 15, 16, 17, 18, 19, 20, 21, 22, 23, 24, 25, 26, 27, 28, 29, 30, 31, 32, 33, 34, 35, 36, 37, 38, 39, 40, 41, 42, 43, 44, 45, 46, 47] (by decide +kernel) (by decide +kernel)
set_option maxRecDepth 20000 in
theorem gX4_pattern_X4_isKind : GoodIn wsX4_pattern (wsV RX4 153 RX4 yX4_isKind wsX4_isKind) := goodIn_app (goodIn_of _ (by decide +kernel)) ggX4_pattern_X4_isKind
set_option maxRecDepth 20000 in
theorem ggX4_pattern_X4_within : GoodIn wsX4_pattern wsX4_within := goodIn_r _ [14] (by decide +kernel) (by decide +kernel)
set_option maxRecDepth 20000 in
theorem gX4_pattern_X4_within : GoodIn wsX4_pattern (va_wsS RX4 95 yX4_within wsX4_within) := goodIn_app (goodIn_of _ (by decide +kernel)) ggX4_pattern_X4_within
theorem dX4_pattern_0 : decode cX4_pattern 0 = .ok (.aload_n 0, 1) := by decide +kernel
theorem dX4_pattern_1 : decode cX4_pattern 1 = .ok (.aload_n 0, 1) := by decide +kernel
theorem dX4_pattern_2 : decode cX4_pattern 2 = .ok (.iload_n 1, 1) := by decide +kernel
theorem dX4_pattern_3 : decode cX4_pattern 3 = .ok (.invokevirtual 153, 3) := by decide +kernel
theorem dX4_pattern_6 : decode cX4_pattern 6 = .ok (.ifCond .ne 7, 3) := by decide +kernel
theorem dX4_pattern_9 : decode cX4_pattern 9 = .ok (.iconst 1, 1) := by decide +kernel
theorem dX4_pattern_10 : decode cX4_pattern 10 = .ok (.goto 37, 3) := by decide +kernel
theorem dX4_pattern_13 : decode cX4_pattern 13 = .ok (.iload_n 3, 1) := by decide +kernel
theorem dX4_pattern_14 : decode cX4_pattern 14 = .ok (.iconst 0, 1) := by decide +kernel
theorem dX4_pattern_15 : decode cX4_pattern 15 = .ok (.iconst 2, 1) := by decide +kernel
theorem dX4_pattern_16 : decode cX4_pattern 16 = .ok (.invokestatic 95, 3) := by decide +kernel
theorem dX4_pattern_19 : decode cX4_pattern 19 = .ok (.ifCond .ne 7, 3) := by decide +kernel
theorem dX4_pattern_22 : decode cX4_pattern 22 = .ok (.iconst 2, 1) := by decide +kernel
theorem dX4_pattern_23 : decode cX4_pattern 23 = .ok (.goto 24, 3) := by decide +kernel
theorem dX4_pattern_26 : decode cX4_pattern 26 = .ok (.iload_n 2, 1) := by decide +kernel
theorem dX4_pattern_27 : decode cX4_pattern 27 = .ok (.iconst 0, 1) := by decide +kernel
theorem dX4_pattern_28 : decode cX4_pattern 28 = .ok (.aload_n 0, 1) := by decide +kernel
theorem dX4_pattern_29 : decode cX4_pattern 29 = .ok (.getfield 22, 3) := by decide +kernel
theorem dX4_pattern_32 : decode cX4_pattern 32 = .ok (.iload_n 1, 1) := by decide +kernel
theorem dX4_pattern_33 : decode cX4_pattern 33 = .ok (.iaload, 1) := by decide +kernel
theorem dX4_pattern_34 : decode cX4_pattern 34 = .ok (.iconst 1, 1) := by decide +kernel
theorem dX4_pattern_35 : decode cX4_pattern 35 = .ok (.isub, 1) := by decide +kernel
theorem dX4_pattern_36 : decode cX4_pattern 36 = .ok (.invokestatic 95, 3) := by decide +kernel
theorem dX4_pattern_39 : decode cX4_pattern 39 = .ok (.ifCond .ne 7, 3) := by decide +kernel
theorem dX4_pattern_42 : decode cX4_pattern 42 = .ok (.iconst 3, 1) := by decide +kernel
theorem dX4_pattern_43 : decode cX4_pattern 43 = .ok (.goto 4, 3) := by decide +kernel
theorem dX4_pattern_46 : decode cX4_pattern 46 = .ok (.iconst 0, 1) := by decide +kernel
theorem dX4_pattern_47 : decode cX4_pattern 47 = .ok (.putfield 89, 3) := by decide +kernel
theorem dX4_pattern_50 : decode cX4_pattern 50 = .ok (.aload_n 0, 1) := by decide +kernel
theorem dX4_pattern_51 : decode cX4_pattern 51 = .ok (.getfield 89, 3) := by decide +kernel
theorem dX4_pattern_54 : decode cX4_pattern 54 = .ok (.ifCond .eq 5, 3) := by decide +kernel
theorem dX4_pattern_57 : decode cX4_pattern 57 = .ok (.iconst 0, 1) := by decide +kernel
theorem dX4_pattern_58 : decode cX4_pattern 58 = .ok (.ireturn, 1) := by decide +kernel
theorem dX4_pattern_59 : decode cX4_pattern 59 = .ok (.aload_n 0, 1) := by decide +kernel
theorem dX4_pattern_60 : decode cX4_pattern 60 = .ok (.getfield 33, 3) := by decide +kernel
theorem dX4_pattern_63 : decode cX4_pattern 63 = .ok (.bipush 36, 2) := by decide +kernel
theorem dX4_pattern_65 : decode cX4_pattern 65 = .ok (.iload_n 1, 1) := by decide +kernel
theorem dX4_pattern_66 : decode cX4_pattern 66 = .ok (.imul, 1) := by decide +kernel
theorem dX4_pattern_67 : decode cX4_pattern 67 = .ok (.iload_n 2, 1) := by decide +kernel
theorem dX4_pattern_68 : decode cX4_pattern 68 = .ok (.iadd, 1) := by decide +kernel
theorem dX4_pattern_69 : decode cX4_pattern 69 = .ok (.iaload, 1) := by decide +kernel
theorem dX4_pattern_70 : decode cX4_pattern 70 = .ok (.istore 4, 2) := by decide +kernel
theorem dX4_pattern_72 : decode cX4_pattern 72 = .ok (.iload_n 3, 1) := by decide +kernel
theorem dX4_pattern_73 : decode cX4_pattern 73 = .ok (.ifCond .ne 13, 3) := by decide +kernel
theorem dX4_pattern_76 : decode cX4_pattern 76 = .ok (.iload 4, 2) := by decide +kernel
theorem dX4_pattern_78 : decode cX4_pattern 78 = .ok (.aload_n 0, 1) := by decide +kernel
theorem dX4_pattern_79 : decode cX4_pattern 79 = .ok (.getfield 80, 3) := by decide +kernel
theorem dX4_pattern_82 : decode cX4_pattern 82 = .ok (.irem, 1) := by decide +kernel
theorem dX4_pattern_83 : decode cX4_pattern 83 = .ok (.goto 29, 3) := by decide +kernel
theorem dX4_pattern_86 : decode cX4_pattern 86 = .ok (.iload_n 3, 1) := by decide +kernel
theorem dX4_pattern_87 : decode cX4_pattern 87 = .ok (.iconst 1, 1) := by decide +kernel
theorem dX4_pattern_88 : decode cX4_pattern 88 = .ok (.if_icmp .ne 13, 3) := by decide +kernel
theorem dX4_pattern_91 : decode cX4_pattern 91 = .ok (.iload 4, 2) := by decide +kernel
theorem dX4_pattern_93 : decode cX4_pattern 93 = .ok (.aload_n 0, 1) := by decide +kernel
theorem dX4_pattern_94 : decode cX4_pattern 94 = .ok (.getfield 80, 3) := by decide +kernel
theorem dX4_pattern_97 : decode cX4_pattern 97 = .ok (.idiv, 1) := by decide +kernel
theorem dX4_pattern_98 : decode cX4_pattern 98 = .ok (.goto 14, 3) := by decide +kernel
theorem dX4_pattern_101 : decode cX4_pattern 101 = .ok (.aload_n 0, 1) := by decide +kernel
theorem dX4_pattern_102 : decode cX4_pattern 102 = .ok (.getfield 36, 3) := by decide +kernel
theorem dX4_pattern_105 : decode cX4_pattern 105 = .ok (.bipush 36, 2) := by decide +kernel
theorem dX4_pattern_107 : decode cX4_pattern 107 = .ok (.iload_n 1, 1) := by decide +kernel
theorem dX4_pattern_108 : decode cX4_pattern 108 = .ok (.imul, 1) := by decide +kernel
theorem dX4_pattern_109 : decode cX4_pattern 109 = .ok (.iload_n 2, 1) := by decide +kernel
theorem dX4_pattern_110 : decode cX4_pattern 110 = .ok (.iadd, 1) := by decide +kernel
theorem dX4_pattern_111 : decode cX4_pattern 111 = .ok (.iaload, 1) := by decide +kernel
theorem dX4_pattern_112 : decode cX4_pattern 112 = .ok (.ireturn, 1) := by decide +kernel
set_option maxRecDepth 20000 in
theorem ggX4_exact_X4_isKind : GoodIn wsX4_exact wsX4_isKind := goodIn_r _ [7, 8, 9, 10, 6, 11, 12, 13, 14, 15, 16, 17, 18, 19, 20, 21, 22, 23, 24, 25, 26, 27, 28, 29, 30, 31, 32, 33, 34, 35, 36, 37, 38, 39, 40, 41, 42, 43, 44] (by decide +kernel) (by decide +kernel)
set_option maxRecDepth 20000 in
theorem gX4_exact_X4_isKind : GoodIn wsX4_exact (wsV RX4 153 RX4 yX4_isKind wsX4_isKind) := goodIn_app (goodIn_of _ (by decide +kernel)) ggX4_exact_X4_isKind
theorem dX4_exact_0 : decode cX4_exact 0 = .ok (.aload_n 0, 1) := by decide +kernel
theorem dX4_exact_1 : decode cX4_exact 1 = .ok (.aload_n 0, 1) := by decide +kernel
theorem dX4_exact_2 : decode cX4_exact 2 = .ok (.iload_n 1, 1) := by decide +kernel
theorem dX4_exact_3 : decode cX4_exact 3 = .ok (.invokevirtual 153, 3) := by decide +kernel
theorem dX4_exact_6 : decode cX4_exact 6 = .ok (.ifCond .eq 7, 3) := by decide +kernel
theorem dX4_exact_9 : decode cX4_exact 9 = .ok (.iconst 0, 1) := by decide +kernel
theorem dX4_exact_10 : decode cX4_exact 10 = .ok (.goto 4, 3) := by decide +kernel
theorem dX4_exact_13 : decode cX4_exact 13 = .ok (.iconst 1, 1) := by decide +kernel
theorem dX4_exact_14 : decode cX4_exact 14 = .ok (.putfield 89, 3) := by decide +kernel
theorem dX4_exact_17 : decode cX4_exact 17 = .ok (.aload_n 0, 1) := by decide +kernel
theorem dX4_exact_18 : decode cX4_exact 18 = .ok (.getfield 89, 3) := by decide +kernel
theorem dX4_exact_21 : decode cX4_exact 21 = .ok (.ifCond .ne 16, 3) := by decide +kernel
theorem dX4_exact_24 : decode cX4_exact 24 = .ok (.aload_n 0, 1) := by decide +kernel
theorem dX4_exact_25 : decode cX4_exact 25 = .ok (.getfield 25, 3) := by decide +kernel
theorem dX4_exact_28 : decode cX4_exact 28 = .ok (.iload_n 1, 1) := by decide +kernel
theorem dX4_exact_29 : decode cX4_exact 29 = .ok (.baload, 1) := by decide +kernel
theorem dX4_exact_30 : decode cX4_exact 30 = .ok (.ifCond .eq 7, 3) := by decide +kernel
theorem dX4_exact_33 : decode cX4_exact 33 = .ok (.iconst 1, 1) := by decide +kernel
theorem dX4_exact_34 : decode cX4_exact 34 = .ok (.goto 4, 3) := by decide +kernel
theorem dX4_exact_37 : decode cX4_exact 37 = .ok (.iconst 0, 1) := by decide +kernel
theorem dX4_exact_38 : decode cX4_exact 38 = .ok (.ireturn, 1) := by decide +kernel
set_option maxRecDepth 20000 in
theorem ggX4_bound_X4_isKind : GoodIn wsX4_bound wsX4_isKind := goodIn_r _ [7, 8, 9, 10, 6, 11, 18, 19, 20, 21, 22, 23, 24, 25, 26, 27, 28, 29, 30, 31, 32, 33, 34, 35, 36, 37, 38, 39, 40, 41, 42, 43, 44, 45, 46, 47, 48, 49, 50] (by decide +kernel) (by decide +kernel)
set_option maxRecDepth 20000 in
theorem gX4_bound_X4_isKind : GoodIn wsX4_bound (wsV RX4 153 RX4 yX4_isKind wsX4_isKind) := goodIn_app (goodIn_of _ (by decide +kernel)) ggX4_bound_X4_isKind
set_option maxRecDepth 20000 in
theorem ggX4_bound_X4_areaOf : GoodIn wsX4_bound wsX4_areaOf := goodIn_ca (goodIn_r _ [15, 16, 17, 18, 19, 20, 21, 22, 23, 24, 25, 26, 27, 28, 29, 30, 31, 32, 33, 34, 35, 36, 37, 38, 39, 40, 41, 42, 43, 44, 45, 46, 47, 48, 49, 50] (by decide +kernel) (by decide +kernel)) (goodIn_sub (fun _ h => List.mem_cons_of_mem _ (List.mem_append_right _ h)) (by decide +kernel))
set_option maxRecDepth 20000 in
theorem gX4_bound_X4_areaOf : GoodIn wsX4_bound (wsV RX4 119 RX4 yX4_areaOf wsX4_areaOf) := goodIn_app (goodIn_of _ (by decide +kernel)) ggX4_bound_X4_areaOf
theorem dX4_bound_0 : decode cX4_bound 0 = .ok (.aload_n 0, 1) := by decide +kernel
theorem dX4_bound_1 : decode cX4_bound 1 = .ok (.aload_n 0, 1) := by decide +kernel
theorem dX4_bound_2 : decode cX4_bound 2 = .ok (.iload_n 1, 1) := by decide +kernel
theorem dX4_bound_3 : decode cX4_bound 3 = .ok (.invokevirtual 153, 3) := by decide +kernel
theorem dX4_bound_6 : decode cX4_bound 6 = .ok (.ifCond .eq 7, 3) := by decide +kernel
theorem dX4_bound_9 : decode cX4_bound 9 = .ok (.iconst 0, 1) := by decide +kernel
theorem dX4_bound_10 : decode cX4_bound 10 = .ok (.goto 4, 3) := by decide +kernel
theorem dX4_bound_13 : decode cX4_bound 13 = .ok (.iconst 1, 1) := by decide +kernel
theorem dX4_bound_14 : decode cX4_bound 14 = .ok (.putfield 89, 3) := by decide +kernel
theorem dX4_bound_17 : decode cX4_bound 17 = .ok (.aload_n 0, 1) := by decide +kernel
theorem dX4_bound_18 : decode cX4_bound 18 = .ok (.getfield 89, 3) := by decide +kernel
theorem dX4_bound_21 : decode cX4_bound 21 = .ok (.ifCond .eq 7, 3) := by decide +kernel
theorem dX4_bound_24 : decode cX4_bound 24 = .ok (.iconst 0, 1) := by decide +kernel
theorem dX4_bound_25 : decode cX4_bound 25 = .ok (.goto 13, 3) := by decide +kernel
theorem dX4_bound_28 : decode cX4_bound 28 = .ok (.aload_n 0, 1) := by decide +kernel
theorem dX4_bound_29 : decode cX4_bound 29 = .ok (.getfield 86, 3) := by decide +kernel
theorem dX4_bound_32 : decode cX4_bound 32 = .ok (.aload_n 0, 1) := by decide +kernel
theorem dX4_bound_33 : decode cX4_bound 33 = .ok (.iload_n 1, 1) := by decide +kernel
theorem dX4_bound_34 : decode cX4_bound 34 = .ok (.invokevirtual 119, 3) := by decide +kernel
theorem dX4_bound_37 : decode cX4_bound 37 = .ok (.idiv, 1) := by decide +kernel
theorem dX4_bound_38 : decode cX4_bound 38 = .ok (.ireturn, 1) := by decide +kernel
set_option maxRecDepth 20000 in
theorem ggX4_rules_X4_within : GoodIn wsX4_rules wsX4_within := goodIn_r _ [8] (by decide +kernel) (by decide +kernel)
set_option maxRecDepth 20000 in
theorem gX4_rules_X4_within : GoodIn wsX4_rules (va_wsS RX4 95 yX4_within wsX4_within) := goodIn_app (goodIn_of _ (by decide +kernel)) ggX4_rules_X4_within
theorem dX4_rules_0 : decode cX4_rules 0 = .ok (.aload_n 0, 1) := by decide +kernel
theorem dX4_rules_1 : decode cX4_rules 1 = .ok (.iload_n 1, 1) := by decide +kernel
theorem dX4_rules_2 : decode cX4_rules 2 = .ok (.iconst 0, 1) := by decide +kernel
theorem dX4_rules_3 : decode cX4_rules 3 = .ok (.bipush 100, 2) := by decide +kernel
theorem dX4_rules_5 : decode cX4_rules 5 = .ok (.invokestatic 95, 3) := by decide +kernel
theorem dX4_rules_8 : decode cX4_rules 8 = .ok (.ifCond .eq 28, 3) := by decide +kernel
theorem dX4_rules_11 : decode cX4_rules 11 = .ok (.iload_n 2, 1) := by decide +kernel
theorem dX4_rules_12 : decode cX4_rules 12 = .ok (.iconst 1, 1) := by decide +kernel
theorem dX4_rules_13 : decode cX4_rules 13 = .ok (.bipush 100, 2) := by decide +kernel
theorem dX4_rules_15 : decode cX4_rules 15 = .ok (.invokestatic 95, 3) := by decide +kernel
theorem dX4_rules_18 : decode cX4_rules 18 = .ok (.ifCond .eq 18, 3) := by decide +kernel
theorem dX4_rules_21 : decode cX4_rules 21 = .ok (.iload_n 3, 1) := by decide +kernel
theorem dX4_rules_22 : decode cX4_rules 22 = .ok (.iconst 0, 1) := by decide +kernel
theorem dX4_rules_23 : decode cX4_rules 23 = .ok (.sipush 10000, 3) := by decide +kernel
theorem dX4_rules_26 : decode cX4_rules 26 = .ok (.invokestatic 95, 3) := by decide +kernel
theorem dX4_rules_29 : decode cX4_rules 29 = .ok (.ifCond .eq 7, 3) := by decide +kernel
theorem dX4_rules_32 : decode cX4_rules 32 = .ok (.iconst 0, 1) := by decide +kernel
theorem dX4_rules_33 : decode cX4_rules 33 = .ok (.goto 4, 3) := by decide +kernel
theorem dX4_rules_36 : decode cX4_rules 36 = .ok (.iconst 1, 1) := by decide +kernel
theorem dX4_rules_37 : decode cX4_rules 37 = .ok (.putfield 89, 3) := by decide +kernel
theorem dX4_rules_40 : decode cX4_rules 40 = .ok (.aload_n 0, 1) := by decide +kernel
theorem dX4_rules_41 : decode cX4_rules 41 = .ok (.getfield 89, 3) := by decide +kernel
theorem dX4_rules_44 : decode cX4_rules 44 = .ok (.ifCond .eq 4, 3) := by decide +kernel
theorem dX4_rules_47 : decode cX4_rules 47 = .ok (.return_, 1) := by decide +kernel
theorem dX4_rules_48 : decode cX4_rules 48 = .ok (.aload_n 0, 1) := by decide +kernel
theorem dX4_rules_49 : decode cX4_rules 49 = .ok (.iload_n 1, 1) := by decide +kernel
theorem dX4_rules_50 : decode cX4_rules 50 = .ok (.putfield 39, 3) := by decide +kernel
theorem dX4_rules_53 : decode cX4_rules 53 = .ok (.aload_n 0, 1) := by decide +kernel
theorem dX4_rules_54 : decode cX4_rules 54 = .ok (.iload_n 2, 1) := by decide +kernel
theorem dX4_rules_55 : decode cX4_rules 55 = .ok (.putfield 43, 3) := by decide +kernel
theorem dX4_rules_58 : decode cX4_rules 58 = .ok (.aload_n 0, 1) := by decide +kernel
theorem dX4_rules_59 : decode cX4_rules 59 = .ok (.iload_n 3, 1) := by decide +kernel
theorem dX4_rules_60 : decode cX4_rules 60 = .ok (.putfield 46, 3) := by decide +kernel
theorem dX4_rules_63 : decode cX4_rules 63 = .ok (.return_, 1) := by decide +kernel
theorem dX4_pallet_0 : decode cX4_pallet 0 = .ok (.aload_n 0, 1) := by decide +kernel
theorem dX4_pallet_1 : decode cX4_pallet 1 = .ok (.aload_n 0, 1) := by decide +kernel
theorem dX4_pallet_2 : decode cX4_pallet 2 = .ok (.getfield 99, 3) := by decide +kernel
theorem dX4_pallet_5 : decode cX4_pallet 5 = .ok (.bipush 8, 2) := by decide +kernel
theorem dX4_pallet_7 : decode cX4_pallet 7 = .ok (.if_icmp .ne 7, 3) := by decide +kernel
theorem dX4_pallet_10 : decode cX4_pallet 10 = .ok (.iconst 1, 1) := by decide +kernel
theorem dX4_pallet_11 : decode cX4_pallet 11 = .ok (.goto 4, 3) := by decide +kernel
theorem dX4_pallet_14 : decode cX4_pallet 14 = .ok (.iconst 0, 1) := by decide +kernel
theorem dX4_pallet_15 : decode cX4_pallet 15 = .ok (.putfield 89, 3) := by decide +kernel
theorem dX4_pallet_18 : decode cX4_pallet 18 = .ok (.aload_n 0, 1) := by decide +kernel
theorem dX4_pallet_19 : decode cX4_pallet 19 = .ok (.getfield 89, 3) := by decide +kernel
theorem dX4_pallet_22 : decode cX4_pallet 22 = .ok (.ifCond .eq 5, 3) := by decide +kernel
theorem dX4_pallet_25 : decode cX4_pallet 25 = .ok (.iconst 0, 1) := by decide +kernel
theorem dX4_pallet_26 : decode cX4_pallet 26 = .ok (.ireturn, 1) := by decide +kernel
theorem dX4_pallet_27 : decode cX4_pallet 27 = .ok (.aload_n 0, 1) := by decide +kernel
theorem dX4_pallet_28 : decode cX4_pallet 28 = .ok (.getfield 49, 3) := by decide +kernel
theorem dX4_pallet_31 : decode cX4_pallet 31 = .ok (.aload_n 0, 1) := by decide +kernel
theorem dX4_pallet_32 : decode cX4_pallet 32 = .ok (.getfield 99, 3) := by decide +kernel
theorem dX4_pallet_35 : decode cX4_pallet 35 = .ok (.iconst 0, 1) := by decide +kernel
theorem dX4_pallet_36 : decode cX4_pallet 36 = .ok (.iastore, 1) := by decide +kernel
theorem dX4_pallet_37 : decode cX4_pallet 37 = .ok (.aload_n 0, 1) := by decide +kernel
theorem dX4_pallet_38 : decode cX4_pallet 38 = .ok (.getfield 58, 3) := by decide +kernel
theorem dX4_pallet_41 : decode cX4_pallet 41 = .ok (.aload_n 0, 1) := by decide +kernel
theorem dX4_pallet_42 : decode cX4_pallet 42 = .ok (.getfield 99, 3) := by decide +kernel
theorem dX4_pallet_45 : decode cX4_pallet 45 = .ok (.iconst (-1), 1) := by decide +kernel
theorem dX4_pallet_46 : decode cX4_pallet 46 = .ok (.iastore, 1) := by decide +kernel
theorem dX4_pallet_47 : decode cX4_pallet 47 = .ok (.aload_n 0, 1) := by decide +kernel
theorem dX4_pallet_48 : decode cX4_pallet 48 = .ok (.dup, 1) := by decide +kernel
theorem dX4_pallet_49 : decode cX4_pallet 49 = .ok (.getfield 99, 3) := by decide +kernel
theorem dX4_pallet_52 : decode cX4_pallet 52 = .ok (.iconst 1, 1) := by decide +kernel
theorem dX4_pallet_53 : decode cX4_pallet 53 = .ok (.iadd, 1) := by decide +kernel
theorem dX4_pallet_54 : decode cX4_pallet 54 = .ok (.putfield 99, 3) := by decide +kernel
theorem dX4_pallet_57 : decode cX4_pallet 57 = .ok (.aload_n 0, 1) := by decide +kernel
theorem dX4_pallet_58 : decode cX4_pallet 58 = .ok (.getfield 99, 3) := by decide +kernel
theorem dX4_pallet_61 : decode cX4_pallet 61 = .ok (.iconst 1, 1) := by decide +kernel
theorem dX4_pallet_62 : decode cX4_pallet 62 = .ok (.isub, 1) := by decide +kernel
theorem dX4_pallet_63 : decode cX4_pallet 63 = .ok (.ireturn, 1) := by decide +kernel
theorem dX4_heightOf_0 : decode cX4_heightOf 0 = .ok (.iconst 0, 1) := by decide +kernel
theorem dX4_heightOf_1 : decode cX4_heightOf 1 = .ok (.istore_n 3, 1) := by decide +kernel
theorem dX4_heightOf_2 : decode cX4_heightOf 2 = .ok (.iconst 0, 1) := by decide +kernel
theorem dX4_heightOf_3 : decode cX4_heightOf 3 = .ok (.istore 4, 2) := by decide +kernel
theorem dX4_heightOf_5 : decode cX4_heightOf 5 = .ok (.iload 4, 2) := by decide +kernel
theorem dX4_heightOf_7 : decode cX4_heightOf 7 = .ok (.iload_n 2, 1) := by decide +kernel
theorem dX4_heightOf_8 : decode cX4_heightOf 8 = .ok (.if_icmp .ge 29, 3) := by decide +kernel
theorem dX4_heightOf_11 : decode cX4_heightOf 11 = .ok (.iload_n 3, 1) := by decide +kernel
theorem dX4_heightOf_12 : decode cX4_heightOf 12 = .ok (.aload_n 0, 1) := by decide +kernel
theorem dX4_heightOf_13 : decode cX4_heightOf 13 = .ok (.getfield 16, 3) := by decide +kernel
theorem dX4_heightOf_16 : decode cX4_heightOf 16 = .ok (.aload_n 0, 1) := by decide +kernel
theorem dX4_heightOf_17 : decode cX4_heightOf 17 = .ok (.getfield 52, 3) := by decide +kernel
theorem dX4_heightOf_20 : decode cX4_heightOf 20 = .ok (.bipush 10, 2) := by decide +kernel
theorem dX4_heightOf_22 : decode cX4_heightOf 22 = .ok (.iload_n 1, 1) := by decide +kernel
theorem dX4_heightOf_23 : decode cX4_heightOf 23 = .ok (.imul, 1) := by decide +kernel
theorem dX4_heightOf_24 : decode cX4_heightOf 24 = .ok (.iload 4, 2) := by decide +kernel
theorem dX4_heightOf_26 : decode cX4_heightOf 26 = .ok (.iadd, 1) := by decide +kernel
theorem dX4_heightOf_27 : decode cX4_heightOf 27 = .ok (.iaload, 1) := by decide +kernel
theorem dX4_heightOf_28 : decode cX4_heightOf 28 = .ok (.iaload, 1) := by decide +kernel
theorem dX4_heightOf_29 : decode cX4_heightOf 29 = .ok (.iadd, 1) := by decide +kernel
theorem dX4_heightOf_30 : decode cX4_heightOf 30 = .ok (.istore_n 3, 1) := by decide +kernel
theorem dX4_heightOf_31 : decode cX4_heightOf 31 = .ok (.iinc 4 1, 3) := by decide +kernel
theorem dX4_heightOf_34 : decode cX4_heightOf 34 = .ok (.goto (-29), 3) := by decide +kernel
theorem dX4_heightOf_37 : decode cX4_heightOf 37 = .ok (.iload_n 3, 1) := by decide +kernel
theorem dX4_heightOf_38 : decode cX4_heightOf 38 = .ok (.ireturn, 1) := by decide +kernel
theorem dX4_weightOf_0 : decode cX4_weightOf 0 = .ok (.iconst 0, 1) := by decide +kernel
theorem dX4_weightOf_1 : decode cX4_weightOf 1 = .ok (.istore_n 2, 1) := by decide +kernel
theorem dX4_weightOf_2 : decode cX4_weightOf 2 = .ok (.iconst 0, 1) := by decide +kernel
theorem dX4_weightOf_3 : decode cX4_weightOf 3 = .ok (.istore_n 3, 1) := by decide +kernel
theorem dX4_weightOf_4 : decode cX4_weightOf 4 = .ok (.iload_n 3, 1) := by decide +kernel
theorem dX4_weightOf_5 : decode cX4_weightOf 5 = .ok (.aload_n 0, 1) := by decide +kernel
theorem dX4_weightOf_6 : decode cX4_weightOf 6 = .ok (.getfield 49, 3) := by decide +kernel
theorem dX4_weightOf_9 : decode cX4_weightOf 9 = .ok (.iload_n 1, 1) := by decide +kernel
theorem dX4_weightOf_10 : decode cX4_weightOf 10 = .ok (.iaload, 1) := by decide +kernel
theorem dX4_weightOf_11 : decode cX4_weightOf 11 = .ok (.if_icmp .ge 40, 3) := by decide +kernel
theorem dX4_weightOf_14 : decode cX4_weightOf 14 = .ok (.iload_n 2, 1) := by decide +kernel
theorem dX4_weightOf_15 : decode cX4_weightOf 15 = .ok (.aload_n 0, 1) := by decide +kernel
theorem dX4_weightOf_16 : decode cX4_weightOf 16 = .ok (.getfield 19, 3) := by decide +kernel
theorem dX4_weightOf_19 : decode cX4_weightOf 19 = .ok (.aload_n 0, 1) := by decide +kernel
theorem dX4_weightOf_20 : decode cX4_weightOf 20 = .ok (.getfield 52, 3) := by decide +kernel
theorem dX4_weightOf_23 : decode cX4_weightOf 23 = .ok (.bipush 10, 2) := by decide +kernel
theorem dX4_weightOf_25 : decode cX4_weightOf 25 = .ok (.iload_n 1, 1) := by decide +kernel
theorem dX4_weightOf_26 : decode cX4_weightOf 26 = .ok (.imul, 1) := by decide +kernel
theorem dX4_weightOf_27 : decode cX4_weightOf 27 = .ok (.iload_n 3, 1) := by decide +kernel
theorem dX4_weightOf_28 : decode cX4_weightOf 28 = .ok (.iadd, 1) := by decide +kernel
theorem dX4_weightOf_29 : decode cX4_weightOf 29 = .ok (.iaload, 1) := by decide +kernel
theorem dX4_weightOf_30 : decode cX4_weightOf 30 = .ok (.iaload, 1) := by decide +kernel
theorem dX4_weightOf_31 : decode cX4_weightOf 31 = .ok (.aload_n 0, 1) := by decide +kernel
theorem dX4_weightOf_32 : decode cX4_weightOf 32 = .ok (.getfield 55, 3) := by decide +kernel
theorem dX4_weightOf_35 : decode cX4_weightOf 35 = .ok (.bipush 10, 2) := by decide +kernel
theorem dX4_weightOf_37 : decode cX4_weightOf 37 = .ok (.iload_n 1, 1) := by decide +kernel
theorem dX4_weightOf_38 : decode cX4_weightOf 38 = .ok (.imul, 1) := by decide +kernel
theorem dX4_weightOf_39 : decode cX4_weightOf 39 = .ok (.iload_n 3, 1) := by decide +kernel
theorem dX4_weightOf_40 : decode cX4_weightOf 40 = .ok (.iadd, 1) := by decide +kernel
theorem dX4_weightOf_41 : decode cX4_weightOf 41 = .ok (.iaload, 1) := by decide +kernel
theorem dX4_weightOf_42 : decode cX4_weightOf 42 = .ok (.imul, 1) := by decide +kernel
theorem dX4_weightOf_43 : decode cX4_weightOf 43 = .ok (.iadd, 1) := by decide +kernel
theorem dX4_weightOf_44 : decode cX4_weightOf 44 = .ok (.istore_n 2, 1) := by decide +kernel
theorem dX4_weightOf_45 : decode cX4_weightOf 45 = .ok (.iinc 3 1, 3) := by decide +kernel
theorem dX4_weightOf_48 : decode cX4_weightOf 48 = .ok (.goto (-44), 3) := by decide +kernel
theorem dX4_weightOf_51 : decode cX4_weightOf 51 = .ok (.iload_n 2, 1) := by decide +kernel
theorem dX4_weightOf_52 : decode cX4_weightOf 52 = .ok (.ireturn, 1) := by decide +kernel
theorem dX4_boxesOn_0 : decode cX4_boxesOn 0 = .ok (.iconst 0, 1) := by decide +kernel
theorem dX4_boxesOn_1 : decode cX4_boxesOn 1 = .ok (.istore_n 2, 1) := by decide +kernel
theorem dX4_boxesOn_2 : decode cX4_boxesOn 2 = .ok (.iconst 0, 1) := by decide +kernel
theorem dX4_boxesOn_3 : decode cX4_boxesOn 3 = .ok (.istore_n 3, 1) := by decide +kernel
theorem dX4_boxesOn_4 : decode cX4_boxesOn 4 = .ok (.iload_n 3, 1) := by decide +kernel
theorem dX4_boxesOn_5 : decode cX4_boxesOn 5 = .ok (.aload_n 0, 1) := by decide +kernel
theorem dX4_boxesOn_6 : decode cX4_boxesOn 6 = .ok (.getfield 49, 3) := by decide +kernel
theorem dX4_boxesOn_9 : decode cX4_boxesOn 9 = .ok (.iload_n 1, 1) := by decide +kernel
theorem dX4_boxesOn_10 : decode cX4_boxesOn 10 = .ok (.iaload, 1) := by decide +kernel
theorem dX4_boxesOn_11 : decode cX4_boxesOn 11 = .ok (.if_icmp .ge 23, 3) := by decide +kernel
theorem dX4_boxesOn_14 : decode cX4_boxesOn 14 = .ok (.iload_n 2, 1) := by decide +kernel
theorem dX4_boxesOn_15 : decode cX4_boxesOn 15 = .ok (.aload_n 0, 1) := by decide +kernel
theorem dX4_boxesOn_16 : decode cX4_boxesOn 16 = .ok (.getfield 55, 3) := by decide +kernel
theorem dX4_boxesOn_19 : decode cX4_boxesOn 19 = .ok (.bipush 10, 2) := by decide +kernel
theorem dX4_boxesOn_21 : decode cX4_boxesOn 21 = .ok (.iload_n 1, 1) := by decide +kernel
theorem dX4_boxesOn_22 : decode cX4_boxesOn 22 = .ok (.imul, 1) := by decide +kernel
theorem dX4_boxesOn_23 : decode cX4_boxesOn 23 = .ok (.iload_n 3, 1) := by decide +kernel
theorem dX4_boxesOn_24 : decode cX4_boxesOn 24 = .ok (.iadd, 1) := by decide +kernel
theorem dX4_boxesOn_25 : decode cX4_boxesOn 25 = .ok (.iaload, 1) := by decide +kernel
theorem dX4_boxesOn_26 : decode cX4_boxesOn 26 = .ok (.iadd, 1) := by decide +kernel
theorem dX4_boxesOn_27 : decode cX4_boxesOn 27 = .ok (.istore_n 2, 1) := by decide +kernel
theorem dX4_boxesOn_28 : decode cX4_boxesOn 28 = .ok (.iinc 3 1, 3) := by decide +kernel
theorem dX4_boxesOn_31 : decode cX4_boxesOn 31 = .ok (.goto (-27), 3) := by decide +kernel
theorem dX4_boxesOn_34 : decode cX4_boxesOn 34 = .ok (.iload_n 2, 1) := by decide +kernel
theorem dX4_boxesOn_35 : decode cX4_boxesOn 35 = .ok (.ireturn, 1) := by decide +kernel
set_option maxRecDepth 20000 in
theorem ggX4_supportOf_X4_areaOf : GoodIn wsX4_supportOf wsX4_areaOf := goodIn_ca (goodIn_r _ [8, 9, 10, 14, 15, 16, 17, 18, 19, 20, 21, 22, 23, 24, 25, 26, 27, 28, 29, 30, 31, 32, 33, 34, 35, 36, 37, 38, 39, 40, 41, 42, 43, 44, 45, 46] (by decide +kernel) (by decide +kernel)) (goodIn_sub (fun _ h => List.mem_cons_of_mem _ (List.mem_append_right _ h)) (by decide +kernel))
set_option maxRecDepth 20000 in
theorem gX4_supportOf_X4_areaOf : GoodIn wsX4_supportOf (wsV RX4 119 RX4 yX4_areaOf wsX4_areaOf) := goodIn_app (goodIn_of _ (by decide +kernel)) ggX4_supportOf_X4_areaOf
set_option maxRecDepth 20000 in
theorem ggX4_supportOf_X4_count : GoodIn wsX4_supportOf wsX4_count := goodIn_r _ [13] (by decide +kernel) (by decide +kernel)
set_option maxRecDepth 20000 in
theorem gX4_supportOf_X4_count : GoodIn wsX4_supportOf (va_wsS RX4 115 yX4_count wsX4_count) := goodIn_app (goodIn_of _ (by decide +kernel)) ggX4_supportOf_X4_count
theorem dX4_supportOf_0 : decode cX4_supportOf 0 = .ok (.iload 4, 2) := by decide +kernel
theorem dX4_supportOf_2 : decode cX4_supportOf 2 = .ok (.ifCond .ge 9, 3) := by decide +kernel
theorem dX4_supportOf_5 : decode cX4_supportOf 5 = .ok (.aload_n 0, 1) := by decide +kernel
theorem dX4_supportOf_6 : decode cX4_supportOf 6 = .ok (.iload_n 1, 1) := by decide +kernel
theorem dX4_supportOf_7 : decode cX4_supportOf 7 = .ok (.invokevirtual 119, 3) := by decide +kernel
theorem dX4_supportOf_10 : decode cX4_supportOf 10 = .ok (.ireturn, 1) := by decide +kernel
theorem dX4_supportOf_11 : decode cX4_supportOf 11 = .ok (.iconst 0, 1) := by decide +kernel
theorem dX4_supportOf_12 : decode cX4_supportOf 12 = .ok (.istore 5, 2) := by decide +kernel
theorem dX4_supportOf_14 : decode cX4_supportOf 14 = .ok (.aload_n 0, 1) := by decide +kernel
theorem dX4_supportOf_15 : decode cX4_supportOf 15 = .ok (.getfield 52, 3) := by decide +kernel
theorem dX4_supportOf_18 : decode cX4_supportOf 18 = .ok (.bipush 10, 2) := by decide +kernel
theorem dX4_supportOf_20 : decode cX4_supportOf 20 = .ok (.iload_n 3, 1) := by decide +kernel
theorem dX4_supportOf_21 : decode cX4_supportOf 21 = .ok (.imul, 1) := by decide +kernel
theorem dX4_supportOf_22 : decode cX4_supportOf 22 = .ok (.iload 4, 2) := by decide +kernel
theorem dX4_supportOf_24 : decode cX4_supportOf 24 = .ok (.iadd, 1) := by decide +kernel
theorem dX4_supportOf_25 : decode cX4_supportOf 25 = .ok (.iaload, 1) := by decide +kernel
theorem dX4_supportOf_26 : decode cX4_supportOf 26 = .ok (.istore 6, 2) := by decide +kernel
theorem dX4_supportOf_28 : decode cX4_supportOf 28 = .ok (.iconst 0, 1) := by decide +kernel
theorem dX4_supportOf_29 : decode cX4_supportOf 29 = .ok (.istore 7, 2) := by decide +kernel
theorem dX4_supportOf_31 : decode cX4_supportOf 31 = .ok (.iload 7, 2) := by decide +kernel
theorem dX4_supportOf_33 : decode cX4_supportOf 33 = .ok (.aload_n 0, 1) := by decide +kernel
theorem dX4_supportOf_34 : decode cX4_supportOf 34 = .ok (.getfield 55, 3) := by decide +kernel
theorem dX4_supportOf_37 : decode cX4_supportOf 37 = .ok (.bipush 10, 2) := by decide +kernel
theorem dX4_supportOf_39 : decode cX4_supportOf 39 = .ok (.iload_n 3, 1) := by decide +kernel
theorem dX4_supportOf_40 : decode cX4_supportOf 40 = .ok (.imul, 1) := by decide +kernel
theorem dX4_supportOf_41 : decode cX4_supportOf 41 = .ok (.iload 4, 2) := by decide +kernel
theorem dX4_supportOf_43 : decode cX4_supportOf 43 = .ok (.iadd, 1) := by decide +kernel
theorem dX4_supportOf_44 : decode cX4_supportOf 44 = .ok (.iaload, 1) := by decide +kernel
theorem dX4_supportOf_45 : decode cX4_supportOf 45 = .ok (.if_icmp .ge 42, 3) := by decide +kernel
theorem dX4_supportOf_48 : decode cX4_supportOf 48 = .ok (.iload 5, 2) := by decide +kernel
theorem dX4_supportOf_50 : decode cX4_supportOf 50 = .ok (.aload_n 0, 1) := by decide +kernel
theorem dX4_supportOf_51 : decode cX4_supportOf 51 = .ok (.getfield 29, 3) := by decide +kernel
theorem dX4_supportOf_54 : decode cX4_supportOf 54 = .ok (.bipush 36, 2) := by decide +kernel
theorem dX4_supportOf_56 : decode cX4_supportOf 56 = .ok (.iload_n 1, 1) := by decide +kernel
theorem dX4_supportOf_57 : decode cX4_supportOf 57 = .ok (.imul, 1) := by decide +kernel
theorem dX4_supportOf_58 : decode cX4_supportOf 58 = .ok (.iload_n 2, 1) := by decide +kernel
theorem dX4_supportOf_59 : decode cX4_supportOf 59 = .ok (.iadd, 1) := by decide +kernel
theorem dX4_supportOf_60 : decode cX4_supportOf 60 = .ok (.laload, 1) := by decide +kernel
theorem dX4_supportOf_61 : decode cX4_supportOf 61 = .ok (.aload_n 0, 1) := by decide +kernel
theorem dX4_supportOf_62 : decode cX4_supportOf 62 = .ok (.getfield 29, 3) := by decide +kernel
theorem dX4_supportOf_65 : decode cX4_supportOf 65 = .ok (.bipush 36, 2) := by decide +kernel
theorem dX4_supportOf_67 : decode cX4_supportOf 67 = .ok (.iload 6, 2) := by decide +kernel
theorem dX4_supportOf_69 : decode cX4_supportOf 69 = .ok (.imul, 1) := by decide +kernel
theorem dX4_supportOf_70 : decode cX4_supportOf 70 = .ok (.iload 7, 2) := by decide +kernel
theorem dX4_supportOf_72 : decode cX4_supportOf 72 = .ok (.iadd, 1) := by decide +kernel
theorem dX4_supportOf_73 : decode cX4_supportOf 73 = .ok (.laload, 1) := by decide +kernel
theorem dX4_supportOf_74 : decode cX4_supportOf 74 = .ok (.land, 1) := by decide +kernel
theorem dX4_supportOf_75 : decode cX4_supportOf 75 = .ok (.invokestatic 115, 3) := by decide +kernel
theorem dX4_supportOf_78 : decode cX4_supportOf 78 = .ok (.iadd, 1) := by decide +kernel
theorem dX4_supportOf_79 : decode cX4_supportOf 79 = .ok (.istore 5, 2) := by decide +kernel
theorem dX4_supportOf_81 : decode cX4_supportOf 81 = .ok (.iinc 7 1, 3) := by decide +kernel
theorem dX4_supportOf_84 : decode cX4_supportOf 84 = .ok (.goto (-53), 3) := by decide +kernel
theorem dX4_supportOf_87 : decode cX4_supportOf 87 = .ok (.iload 5, 2) := by decide +kernel
theorem dX4_supportOf_89 : decode cX4_supportOf 89 = .ok (.ireturn, 1) := by decide +kernel
set_option maxRecDepth 20000 in
theorem ggX4_reason_X4_supportOf : GoodIn wsX4_reason wsX4_supportOf := goodIn_ca (goodIn_r _ [12, 13, 14, 15, 16, 17, 18, 11, 19, 20, 21, 22, 23, 24, 33, 34, 35, 36, 37, 38, 39, 40, 41, 42, 43, 44, 45, 46, 47, 48, 49, 50, 51, 52, 53, 54, 55, 56, 57, 58, 59, 60, 61, 62, 63, 64, 65] (by decide +kernel) (by decide +kernel)) (goodIn_sub (fun _ h => List.mem_cons_of_mem _ (List.mem_append_right _ h)) (by decide +kernel))
set_option maxRecDepth 20000 in
theorem gX4_reason_X4_supportOf : GoodIn wsX4_reason (wsV RX4 163 RX4 yX4_supportOf wsX4_supportOf) := goodIn_app (goodIn_of _ (by decide +kernel)) ggX4_reason_X4_supportOf
set_option maxRecDepth 20000 in
theorem ggX4_reason_X4_areaOf : GoodIn wsX4_reason wsX4_areaOf := goodIn_ca (goodIn_r _ [19, 20, 21, 33, 34, 35, 36, 37, 38, 39, 40, 41, 42, 43, 44, 45, 46, 47, 48, 49, 50, 51, 52, 53, 54, 55, 56, 57, 58, 59, 60, 61, 62, 63, 64, 65] (by decide +kernel) (by decide +kernel)) (goodIn_sub (fun _ h => List.mem_cons_of_mem _ (List.mem_append_right _ h)) (by decide +kernel))
set_option maxRecDepth 20000 in
theorem gX4_reason_X4_areaOf : GoodIn wsX4_reason (wsV RX4 119 RX4 yX4_areaOf wsX4_areaOf) := goodIn_app (goodIn_of _ (by decide +kernel)) ggX4_reason_X4_areaOf
set_option maxRecDepth 20000 in
theorem ggX4_reason_X4_heightOf : GoodIn wsX4_reason wsX4_heightOf := goodIn_ca (goodIn_r _ [28, 4, 13, 33, 34, 35, 36, 37, 38, 39, 40, 41, 42, 43, 44, 45, 46, 47, 48, 49, 50, 51, 52, 53, 54, 55, 56, 57, 58, 59, 60, 61, 62, 63, 64, 65] (by decide +kernel) (by decide +kernel)) (goodIn_sub (fun _ h => List.mem_cons_of_mem _ (List.mem_append_right _ h)) (by decide +kernel))
set_option maxRecDepth 20000 in
theorem gX4_reason_X4_heightOf : GoodIn wsX4_reason (wsV RX4 167 RX4 yX4_heightOf wsX4_heightOf) := goodIn_app (goodIn_of _ (by decide +kernel)) ggX4_reason_X4_heightOf
set_option maxRecDepth 20000 in
theorem ggX4_reason_X4_weightOf : GoodIn wsX4_reason wsX4_weightOf := goodIn_ca (goodIn_r _ [32, 2, 6, 13, 14, 33, 34, 35, 36, 37, 38, 39, 40, 41, 42, 43, 44, 45, 46, 47, 48, 49, 50, 51, 52, 53, 54, 55, 56, 57, 58, 59, 60, 61, 62, 63, 64, 65] (by decide +kernel) (by decide +kernel)) (goodIn_sub (fun _ h => List.mem_cons_of_mem _ (List.mem_append_right _ h)) (by decide +kernel))
set_option maxRecDepth 20000 in
theorem gX4_reason_X4_weightOf : GoodIn wsX4_reason (wsV RX4 171 RX4 yX4_weightOf wsX4_weightOf) := goodIn_app (goodIn_of _ (by decide +kernel)) ggX4_reason_X4_weightOf
theorem dX4_reason_0 : decode cX4_reason 0 = .ok (.iload_n 3, 1) := by decide +kernel
theorem dX4_reason_1 : decode cX4_reason 1 = .ok (.aload_n 0, 1) := by decide +kernel
theorem dX4_reason_2 : decode cX4_reason 2 = .ok (.getfield 22, 3) := by decide +kernel
theorem dX4_reason_5 : decode cX4_reason 5 = .ok (.iload_n 2, 1) := by decide +kernel
theorem dX4_reason_6 : decode cX4_reason 6 = .ok (.iaload, 1) := by decide +kernel
theorem dX4_reason_7 : decode cX4_reason 7 = .ok (.if_icmp .le 5, 3) := by decide +kernel
theorem dX4_reason_10 : decode cX4_reason 10 = .ok (.iconst (-1), 1) := by decide +kernel
theorem dX4_reason_11 : decode cX4_reason 11 = .ok (.ireturn, 1) := by decide +kernel
theorem dX4_reason_12 : decode cX4_reason 12 = .ok (.iconst 0, 1) := by decide +kernel
theorem dX4_reason_13 : decode cX4_reason 13 = .ok (.istore 4, 2) := by decide +kernel
theorem dX4_reason_15 : decode cX4_reason 15 = .ok (.iload 4, 2) := by decide +kernel
theorem dX4_reason_17 : decode cX4_reason 17 = .ok (.iload_n 3, 1) := by decide +kernel
theorem dX4_reason_18 : decode cX4_reason 18 = .ok (.if_icmp .ge 44, 3) := by decide +kernel
theorem dX4_reason_21 : decode cX4_reason 21 = .ok (.bipush 100, 2) := by decide +kernel
theorem dX4_reason_23 : decode cX4_reason 23 = .ok (.aload_n 0, 1) := by decide +kernel
theorem dX4_reason_24 : decode cX4_reason 24 = .ok (.iload_n 2, 1) := by decide +kernel
theorem dX4_reason_25 : decode cX4_reason 25 = .ok (.iload 4, 2) := by decide +kernel
theorem dX4_reason_27 : decode cX4_reason 27 = .ok (.iload_n 1, 1) := by decide +kernel
theorem dX4_reason_28 : decode cX4_reason 28 = .ok (.aload_n 0, 1) := by decide +kernel
theorem dX4_reason_29 : decode cX4_reason 29 = .ok (.getfield 49, 3) := by decide +kernel
theorem dX4_reason_32 : decode cX4_reason 32 = .ok (.iload_n 1, 1) := by decide +kernel
theorem dX4_reason_33 : decode cX4_reason 33 = .ok (.iaload, 1) := by decide +kernel
theorem dX4_reason_34 : decode cX4_reason 34 = .ok (.iconst 1, 1) := by decide +kernel
theorem dX4_reason_35 : decode cX4_reason 35 = .ok (.isub, 1) := by decide +kernel
theorem dX4_reason_36 : decode cX4_reason 36 = .ok (.invokevirtual 163, 3) := by decide +kernel
theorem dX4_reason_39 : decode cX4_reason 39 = .ok (.imul, 1) := by decide +kernel
theorem dX4_reason_40 : decode cX4_reason 40 = .ok (.aload_n 0, 1) := by decide +kernel
theorem dX4_reason_41 : decode cX4_reason 41 = .ok (.getfield 39, 3) := by decide +kernel
theorem dX4_reason_44 : decode cX4_reason 44 = .ok (.aload_n 0, 1) := by decide +kernel
theorem dX4_reason_45 : decode cX4_reason 45 = .ok (.iload_n 2, 1) := by decide +kernel
theorem dX4_reason_46 : decode cX4_reason 46 = .ok (.invokevirtual 119, 3) := by decide +kernel
theorem dX4_reason_49 : decode cX4_reason 49 = .ok (.imul, 1) := by decide +kernel
theorem dX4_reason_50 : decode cX4_reason 50 = .ok (.if_icmp .ge 6, 3) := by decide +kernel
theorem dX4_reason_53 : decode cX4_reason 53 = .ok (.bipush (-2), 2) := by decide +kernel
theorem dX4_reason_55 : decode cX4_reason 55 = .ok (.ireturn, 1) := by decide +kernel
theorem dX4_reason_56 : decode cX4_reason 56 = .ok (.iinc 4 1, 3) := by decide +kernel
theorem dX4_reason_59 : decode cX4_reason 59 = .ok (.goto (-44), 3) := by decide +kernel
theorem dX4_reason_62 : decode cX4_reason 62 = .ok (.aload_n 0, 1) := by decide +kernel
theorem dX4_reason_63 : decode cX4_reason 63 = .ok (.iload_n 1, 1) := by decide +kernel
theorem dX4_reason_64 : decode cX4_reason 64 = .ok (.aload_n 0, 1) := by decide +kernel
theorem dX4_reason_65 : decode cX4_reason 65 = .ok (.getfield 49, 3) := by decide +kernel
theorem dX4_reason_68 : decode cX4_reason 68 = .ok (.iload_n 1, 1) := by decide +kernel
theorem dX4_reason_69 : decode cX4_reason 69 = .ok (.iaload, 1) := by decide +kernel
theorem dX4_reason_70 : decode cX4_reason 70 = .ok (.invokevirtual 167, 3) := by decide +kernel
theorem dX4_reason_73 : decode cX4_reason 73 = .ok (.aload_n 0, 1) := by decide +kernel
theorem dX4_reason_74 : decode cX4_reason 74 = .ok (.getfield 16, 3) := by decide +kernel
theorem dX4_reason_77 : decode cX4_reason 77 = .ok (.iload_n 2, 1) := by decide +kernel
theorem dX4_reason_78 : decode cX4_reason 78 = .ok (.iaload, 1) := by decide +kernel
theorem dX4_reason_79 : decode cX4_reason 79 = .ok (.iadd, 1) := by decide +kernel
theorem dX4_reason_80 : decode cX4_reason 80 = .ok (.aload_n 0, 1) := by decide +kernel
theorem dX4_reason_81 : decode cX4_reason 81 = .ok (.getfield 43, 3) := by decide +kernel
theorem dX4_reason_84 : decode cX4_reason 84 = .ok (.if_icmp .le 6, 3) := by decide +kernel
theorem dX4_reason_87 : decode cX4_reason 87 = .ok (.bipush (-3), 2) := by decide +kernel
theorem dX4_reason_89 : decode cX4_reason 89 = .ok (.ireturn, 1) := by decide +kernel
theorem dX4_reason_90 : decode cX4_reason 90 = .ok (.aload_n 0, 1) := by decide +kernel
theorem dX4_reason_91 : decode cX4_reason 91 = .ok (.iload_n 1, 1) := by decide +kernel
theorem dX4_reason_92 : decode cX4_reason 92 = .ok (.invokevirtual 171, 3) := by decide +kernel
theorem dX4_reason_95 : decode cX4_reason 95 = .ok (.iload_n 3, 1) := by decide +kernel
theorem dX4_reason_96 : decode cX4_reason 96 = .ok (.aload_n 0, 1) := by decide +kernel
theorem dX4_reason_97 : decode cX4_reason 97 = .ok (.getfield 19, 3) := by decide +kernel
theorem dX4_reason_100 : decode cX4_reason 100 = .ok (.iload_n 2, 1) := by decide +kernel
theorem dX4_reason_101 : decode cX4_reason 101 = .ok (.iaload, 1) := by decide +kernel
theorem dX4_reason_102 : decode cX4_reason 102 = .ok (.imul, 1) := by decide +kernel
theorem dX4_reason_103 : decode cX4_reason 103 = .ok (.iadd, 1) := by decide +kernel
theorem dX4_reason_104 : decode cX4_reason 104 = .ok (.aload_n 0, 1) := by decide +kernel
theorem dX4_reason_105 : decode cX4_reason 105 = .ok (.getfield 46, 3) := by decide +kernel
theorem dX4_reason_108 : decode cX4_reason 108 = .ok (.if_icmp .le 8, 3) := by decide +kernel
theorem dX4_reason_111 : decode cX4_reason 111 = .ok (.bipush (-4), 2) := by decide +kernel
theorem dX4_reason_113 : decode cX4_reason 113 = .ok (.goto 4, 3) := by decide +kernel
theorem dX4_reason_116 : decode cX4_reason 116 = .ok (.iconst 0, 1) := by decide +kernel
theorem dX4_reason_117 : decode cX4_reason 117 = .ok (.ireturn, 1) := by decide +kernel
theorem dX4_add_0 : decode cX4_add 0 = .ok (.aload_n 0, 1) := by decide +kernel
theorem dX4_add_1 : decode cX4_add 1 = .ok (.getfield 52, 3) := by decide +kernel
theorem dX4_add_4 : decode cX4_add 4 = .ok (.bipush 10, 2) := by decide +kernel
theorem dX4_add_6 : decode cX4_add 6 = .ok (.iload_n 1, 1) := by decide +kernel
theorem dX4_add_7 : decode cX4_add 7 = .ok (.imul, 1) := by decide +kernel
theorem dX4_add_8 : decode cX4_add 8 = .ok (.aload_n 0, 1) := by decide +kernel
theorem dX4_add_9 : decode cX4_add 9 = .ok (.getfield 49, 3) := by decide +kernel
theorem dX4_add_12 : decode cX4_add 12 = .ok (.iload_n 1, 1) := by decide +kernel
theorem dX4_add_13 : decode cX4_add 13 = .ok (.iaload, 1) := by decide +kernel
theorem dX4_add_14 : decode cX4_add 14 = .ok (.iadd, 1) := by decide +kernel
theorem dX4_add_15 : decode cX4_add 15 = .ok (.iload_n 2, 1) := by decide +kernel
theorem dX4_add_16 : decode cX4_add 16 = .ok (.iastore, 1) := by decide +kernel
theorem dX4_add_17 : decode cX4_add 17 = .ok (.aload_n 0, 1) := by decide +kernel
theorem dX4_add_18 : decode cX4_add 18 = .ok (.getfield 55, 3) := by decide +kernel
theorem dX4_add_21 : decode cX4_add 21 = .ok (.bipush 10, 2) := by decide +kernel
theorem dX4_add_23 : decode cX4_add 23 = .ok (.iload_n 1, 1) := by decide +kernel
theorem dX4_add_24 : decode cX4_add 24 = .ok (.imul, 1) := by decide +kernel
theorem dX4_add_25 : decode cX4_add 25 = .ok (.aload_n 0, 1) := by decide +kernel
theorem dX4_add_26 : decode cX4_add 26 = .ok (.getfield 49, 3) := by decide +kernel
theorem dX4_add_29 : decode cX4_add 29 = .ok (.iload_n 1, 1) := by decide +kernel
theorem dX4_add_30 : decode cX4_add 30 = .ok (.iaload, 1) := by decide +kernel
theorem dX4_add_31 : decode cX4_add 31 = .ok (.iadd, 1) := by decide +kernel
theorem dX4_add_32 : decode cX4_add 32 = .ok (.iload_n 3, 1) := by decide +kernel
theorem dX4_add_33 : decode cX4_add 33 = .ok (.iastore, 1) := by decide +kernel
theorem dX4_add_34 : decode cX4_add 34 = .ok (.aload_n 0, 1) := by decide +kernel
theorem dX4_add_35 : decode cX4_add 35 = .ok (.getfield 49, 3) := by decide +kernel
theorem dX4_add_38 : decode cX4_add 38 = .ok (.iload_n 1, 1) := by decide +kernel
theorem dX4_add_39 : decode cX4_add 39 = .ok (.dup2, 1) := by decide +kernel
theorem dX4_add_40 : decode cX4_add 40 = .ok (.iaload, 1) := by decide +kernel
theorem dX4_add_41 : decode cX4_add 41 = .ok (.iconst 1, 1) := by decide +kernel
theorem dX4_add_42 : decode cX4_add 42 = .ok (.iadd, 1) := by decide +kernel
theorem dX4_add_43 : decode cX4_add 43 = .ok (.iastore, 1) := by decide +kernel
theorem dX4_add_44 : decode cX4_add 44 = .ok (.return_, 1) := by decide +kernel
set_option maxRecDepth 20000 in
theorem ggX4_put_X4_isPallet : GoodIn wsX4_put wsX4_isPallet := goodIn_r _ [8, 9, 10, 11, 7, 12, 56, 57, 58, 59, 60, 61, 62, 63, 64, 65, 66, 67, 68, 69, 70, 71, 72, 73, 74, 75, 76, 77, 78, 79, 80, 81, 82, 83, 84, 85, 86, 87, 88] (by decide +kernel) (by decide +kernel)
set_option maxRecDepth 20000 in
theorem gX4_put_X4_isPallet : GoodIn wsX4_put (wsV RX4 174 RX4 yX4_isPallet wsX4_isPallet) := goodIn_app (goodIn_of _ (by decide +kernel)) ggX4_put_X4_isPallet
set_option maxRecDepth 20000 in
theorem ggX4_put_X4_isKind : GoodIn wsX4_put wsX4_isKind := goodIn_r _ [16, 17, 10, 11, 7, 12, 56, 57, 58, 59, 60, 61, 62, 63, 64, 65, 66, 67, 68, 69, 70, 71, 72, 73, 74, 75, 76, 77, 78, 79, 80, 81, 82, 83, 84, 85, 86, 87, 88] (by decide +kernel) (by decide +kernel)
set_option maxRecDepth 20000 in
theorem gX4_put_X4_isKind : GoodIn wsX4_put (wsV RX4 153 RX4 yX4_isKind wsX4_isKind) := goodIn_app (goodIn_of _ (by decide +kernel)) ggX4_put_X4_isKind
set_option maxRecDepth 20000 in
theorem ggX4_put_X4_within : GoodIn wsX4_put wsX4_within := goodIn_r _ [12] (by decide +kernel) (by decide +kernel)
set_option maxRecDepth 20000 in
theorem gX4_put_X4_within : GoodIn wsX4_put (va_wsS RX4 95 yX4_within wsX4_within) := goodIn_app (goodIn_of _ (by decide +kernel)) ggX4_put_X4_within
set_option maxRecDepth 20000 in
theorem ggX4_put_X4_reason : GoodIn wsX4_put wsX4_reason := goodIn_ca (goodIn_r _ [21, 22, 2, 23, 24, 25, 26, 27, 28, 29, 30, 7, 31, 32, 33, 34, 35, 36, 37, 38, 39, 40, 41, 42, 43, 44, 45, 46, 47, 48, 49, 50, 51, 56, 57, 58, 59, 60, 61, 62, 63, 64, 65, 66, 67, 68, 69, 70, 71, 72, 73, 74, 75, 76, 77, 78, 79, 80, 81, 82, 83, 84, 85, 86, 87, 88] (by decide +kernel) (by decide +kernel)) (goodIn_sub (fun _ h => List.mem_cons_of_mem _ (List.mem_append_right _ h)) (by decide +kernel))
set_option maxRecDepth 20000 in
theorem gX4_put_X4_reason : GoodIn wsX4_put (wsV RX4 177 RX4 yX4_reason wsX4_reason) := goodIn_app (goodIn_of _ (by decide +kernel)) ggX4_put_X4_reason
set_option maxRecDepth 20000 in
theorem ggX4_put_X4_add : GoodIn wsX4_put wsX4_add := goodIn_ca (goodIn_r _ [55, 32, 2, 33, 56, 57, 58, 59, 60, 61, 62, 63, 64, 65, 66, 67, 68, 69, 70, 71, 72, 73, 74, 75, 76, 77, 78, 79, 80, 81, 82, 83, 84, 85, 86, 87, 88] (by decide +kernel) (by decide +kernel)) (goodIn_sub (fun _ h => List.mem_cons_of_mem _ (List.mem_append_right _ h)) (by decide +kernel))
set_option maxRecDepth 20000 in
theorem gX4_put_X4_add : GoodIn wsX4_put (wsV RX4 181 RX4 yX4_add wsX4_add) := goodIn_app (goodIn_of _ (by decide +kernel)) ggX4_put_X4_add
theorem dX4_put_0 : decode cX4_put 0 = .ok (.aload_n 0, 1) := by decide +kernel
theorem dX4_put_1 : decode cX4_put 1 = .ok (.aload_n 0, 1) := by decide +kernel
theorem dX4_put_2 : decode cX4_put 2 = .ok (.iload_n 1, 1) := by decide +kernel
theorem dX4_put_3 : decode cX4_put 3 = .ok (.invokevirtual 174, 3) := by decide +kernel
theorem dX4_put_6 : decode cX4_put 6 = .ok (.ifCond .eq 11, 3) := by decide +kernel
theorem dX4_put_9 : decode cX4_put 9 = .ok (.aload_n 0, 1) := by decide +kernel
theorem dX4_put_10 : decode cX4_put 10 = .ok (.iload_n 2, 1) := by decide +kernel
theorem dX4_put_11 : decode cX4_put 11 = .ok (.invokevirtual 153, 3) := by decide +kernel
theorem dX4_put_14 : decode cX4_put 14 = .ok (.ifCond .ne 7, 3) := by decide +kernel
theorem dX4_put_17 : decode cX4_put 17 = .ok (.iconst 1, 1) := by decide +kernel
theorem dX4_put_18 : decode cX4_put 18 = .ok (.goto 47, 3) := by decide +kernel
theorem dX4_put_21 : decode cX4_put 21 = .ok (.iload_n 3, 1) := by decide +kernel
theorem dX4_put_22 : decode cX4_put 22 = .ok (.iconst 1, 1) := by decide +kernel
theorem dX4_put_23 : decode cX4_put 23 = .ok (.bipush 100, 2) := by decide +kernel
theorem dX4_put_25 : decode cX4_put 25 = .ok (.invokestatic 95, 3) := by decide +kernel
theorem dX4_put_28 : decode cX4_put 28 = .ok (.ifCond .ne 7, 3) := by decide +kernel
theorem dX4_put_31 : decode cX4_put 31 = .ok (.iconst 2, 1) := by decide +kernel
theorem dX4_put_32 : decode cX4_put 32 = .ok (.goto 33, 3) := by decide +kernel
theorem dX4_put_35 : decode cX4_put 35 = .ok (.aload_n 0, 1) := by decide +kernel
theorem dX4_put_36 : decode cX4_put 36 = .ok (.getfield 58, 3) := by decide +kernel
theorem dX4_put_39 : decode cX4_put 39 = .ok (.iload_n 1, 1) := by decide +kernel
theorem dX4_put_40 : decode cX4_put 40 = .ok (.iaload, 1) := by decide +kernel
theorem dX4_put_41 : decode cX4_put 41 = .ok (.iconst (-1), 1) := by decide +kernel
theorem dX4_put_42 : decode cX4_put 42 = .ok (.if_icmp .eq 7, 3) := by decide +kernel
theorem dX4_put_45 : decode cX4_put 45 = .ok (.iconst 3, 1) := by decide +kernel
theorem dX4_put_46 : decode cX4_put 46 = .ok (.goto 19, 3) := by decide +kernel
theorem dX4_put_49 : decode cX4_put 49 = .ok (.aload_n 0, 1) := by decide +kernel
theorem dX4_put_50 : decode cX4_put 50 = .ok (.getfield 49, 3) := by decide +kernel
theorem dX4_put_53 : decode cX4_put 53 = .ok (.iload_n 1, 1) := by decide +kernel
theorem dX4_put_54 : decode cX4_put 54 = .ok (.iaload, 1) := by decide +kernel
theorem dX4_put_55 : decode cX4_put 55 = .ok (.bipush 10, 2) := by decide +kernel
theorem dX4_put_57 : decode cX4_put 57 = .ok (.if_icmp .ne 7, 3) := by decide +kernel
theorem dX4_put_60 : decode cX4_put 60 = .ok (.iconst 4, 1) := by decide +kernel
theorem dX4_put_61 : decode cX4_put 61 = .ok (.goto 4, 3) := by decide +kernel
theorem dX4_put_64 : decode cX4_put 64 = .ok (.iconst 0, 1) := by decide +kernel
theorem dX4_put_65 : decode cX4_put 65 = .ok (.putfield 89, 3) := by decide +kernel
theorem dX4_put_68 : decode cX4_put 68 = .ok (.aload_n 0, 1) := by decide +kernel
theorem dX4_put_69 : decode cX4_put 69 = .ok (.getfield 89, 3) := by decide +kernel
theorem dX4_put_72 : decode cX4_put 72 = .ok (.ifCond .eq 5, 3) := by decide +kernel
theorem dX4_put_75 : decode cX4_put 75 = .ok (.iconst 0, 1) := by decide +kernel
theorem dX4_put_76 : decode cX4_put 76 = .ok (.ireturn, 1) := by decide +kernel
theorem dX4_put_77 : decode cX4_put 77 = .ok (.aload_n 0, 1) := by decide +kernel
theorem dX4_put_78 : decode cX4_put 78 = .ok (.iload_n 1, 1) := by decide +kernel
theorem dX4_put_79 : decode cX4_put 79 = .ok (.iload_n 2, 1) := by decide +kernel
theorem dX4_put_80 : decode cX4_put 80 = .ok (.iload_n 3, 1) := by decide +kernel
theorem dX4_put_81 : decode cX4_put 81 = .ok (.invokevirtual 177, 3) := by decide +kernel
theorem dX4_put_84 : decode cX4_put 84 = .ok (.istore 4, 2) := by decide +kernel
theorem dX4_put_86 : decode cX4_put 86 = .ok (.iload 4, 2) := by decide +kernel
theorem dX4_put_88 : decode cX4_put 88 = .ok (.ifCond .eq 6, 3) := by decide +kernel
theorem dX4_put_91 : decode cX4_put 91 = .ok (.iload 4, 2) := by decide +kernel
theorem dX4_put_93 : decode cX4_put 93 = .ok (.ireturn, 1) := by decide +kernel
theorem dX4_put_94 : decode cX4_put 94 = .ok (.aload_n 0, 1) := by decide +kernel
theorem dX4_put_95 : decode cX4_put 95 = .ok (.iload_n 1, 1) := by decide +kernel
theorem dX4_put_96 : decode cX4_put 96 = .ok (.iload_n 2, 1) := by decide +kernel
theorem dX4_put_97 : decode cX4_put 97 = .ok (.iload_n 3, 1) := by decide +kernel
theorem dX4_put_98 : decode cX4_put 98 = .ok (.invokevirtual 181, 3) := by decide +kernel
theorem dX4_put_101 : decode cX4_put 101 = .ok (.aload_n 0, 1) := by decide +kernel
theorem dX4_put_102 : decode cX4_put 102 = .ok (.getfield 49, 3) := by decide +kernel
theorem dX4_put_105 : decode cX4_put 105 = .ok (.iload_n 1, 1) := by decide +kernel
theorem dX4_put_106 : decode cX4_put 106 = .ok (.iaload, 1) := by decide +kernel
theorem dX4_put_107 : decode cX4_put 107 = .ok (.ireturn, 1) := by decide +kernel
set_option maxRecDepth 20000 in
theorem ggX4_fill_X4_isPallet : GoodIn wsX4_fill wsX4_isPallet := goodIn_r _ [9, 10, 11, 12, 8, 13, 56, 57, 58, 59, 60, 61, 62, 63, 64, 65, 66, 67, 68, 69, 70, 71, 72, 73, 74, 75, 76, 77, 78, 79, 80, 81, 82, 83, 84, 85, 86, 87, 88] (by decide +kernel) (by decide +kernel)
set_option maxRecDepth 20000 in
theorem gX4_fill_X4_isPallet : GoodIn wsX4_fill (wsV RX4 174 RX4 yX4_isPallet wsX4_isPallet) := goodIn_app (goodIn_of _ (by decide +kernel)) ggX4_fill_X4_isPallet
set_option maxRecDepth 20000 in
theorem ggX4_fill_X4_isKind : GoodIn wsX4_fill wsX4_isKind := goodIn_r _ [17, 18, 11, 12, 8, 13, 56, 57, 58, 59, 60, 61, 62, 63, 64, 65, 66, 67, 68, 69, 70, 71, 72, 73, 74, 75, 76, 77, 78, 79, 80, 81, 82, 83, 84, 85, 86, 87, 88] (by decide +kernel) (by decide +kernel)
set_option maxRecDepth 20000 in
theorem gX4_fill_X4_isKind : GoodIn wsX4_fill (wsV RX4 153 RX4 yX4_isKind wsX4_isKind) := goodIn_app (goodIn_of _ (by decide +kernel)) ggX4_fill_X4_isKind
set_option maxRecDepth 20000 in
theorem ggX4_fill_X4_within : GoodIn wsX4_fill wsX4_within := goodIn_r _ [13] (by decide +kernel) (by decide +kernel)
set_option maxRecDepth 20000 in
theorem gX4_fill_X4_within : GoodIn wsX4_fill (va_wsS RX4 95 yX4_within wsX4_within) := goodIn_app (goodIn_of _ (by decide +kernel)) ggX4_fill_X4_within
set_option maxRecDepth 20000 in
theorem ggX4_fill_X4_reason : GoodIn wsX4_fill wsX4_reason := goodIn_ca (goodIn_r _ [22, 3, 4, 23, 24, 25, 26, 27, 28, 29, 30, 8, 31, 32, 33, 34, 35, 36, 37, 38, 39, 40, 41, 42, 43, 44, 45, 46, 47, 48, 49, 50, 51, 56, 57, 58, 59, 60, 61, 62, 63, 64, 65, 66, 67, 68, 69, 70, 71, 72, 73, 74, 75, 76, 77, 78, 79, 80, 81, 82, 83, 84, 85, 86, 87, 88] (by decide +kernel) (by decide +kernel)) (goodIn_sub (fun _ h => List.mem_cons_of_mem _ (List.mem_append_right _ h)) (by decide +kernel))
set_option maxRecDepth 20000 in
theorem gX4_fill_X4_reason : GoodIn wsX4_fill (wsV RX4 177 RX4 yX4_reason wsX4_reason) := goodIn_app (goodIn_of _ (by decide +kernel)) ggX4_fill_X4_reason
set_option maxRecDepth 20000 in
theorem ggX4_fill_X4_add : GoodIn wsX4_fill wsX4_add := goodIn_ca (goodIn_r _ [55, 32, 4, 33, 56, 57, 58, 59, 60, 61, 62, 63, 64, 65, 66, 67, 68, 69, 70, 71, 72, 73, 74, 75, 76, 77, 78, 79, 80, 81, 82, 83, 84, 85, 86, 87, 88] (by decide +kernel) (by decide +kernel)) (goodIn_sub (fun _ h => List.mem_cons_of_mem _ (List.mem_append_right _ h)) (by decide +kernel))
set_option maxRecDepth 20000 in
theorem gX4_fill_X4_add : GoodIn wsX4_fill (wsV RX4 181 RX4 yX4_add wsX4_add) := goodIn_app (goodIn_of _ (by decide +kernel)) ggX4_fill_X4_add
theorem dX4_fill_0 : decode cX4_fill 0 = .ok (.aload_n 0, 1) := by decide +kernel
theorem dX4_fill_1 : decode cX4_fill 1 = .ok (.aload_n 0, 1) := by decide +kernel
theorem dX4_fill_2 : decode cX4_fill 2 = .ok (.iload_n 1, 1) := by decide +kernel
theorem dX4_fill_3 : decode cX4_fill 3 = .ok (.invokevirtual 174, 3) := by decide +kernel
theorem dX4_fill_6 : decode cX4_fill 6 = .ok (.ifCond .eq 11, 3) := by decide +kernel
theorem dX4_fill_9 : decode cX4_fill 9 = .ok (.aload_n 0, 1) := by decide +kernel
theorem dX4_fill_10 : decode cX4_fill 10 = .ok (.iload_n 2, 1) := by decide +kernel
theorem dX4_fill_11 : decode cX4_fill 11 = .ok (.invokevirtual 153, 3) := by decide +kernel
theorem dX4_fill_14 : decode cX4_fill 14 = .ok (.ifCond .ne 7, 3) := by decide +kernel
theorem dX4_fill_17 : decode cX4_fill 17 = .ok (.iconst 1, 1) := by decide +kernel
theorem dX4_fill_18 : decode cX4_fill 18 = .ok (.goto 33, 3) := by decide +kernel
theorem dX4_fill_21 : decode cX4_fill 21 = .ok (.iload_n 3, 1) := by decide +kernel
theorem dX4_fill_22 : decode cX4_fill 22 = .ok (.iconst 1, 1) := by decide +kernel
theorem dX4_fill_23 : decode cX4_fill 23 = .ok (.sipush 600, 3) := by decide +kernel
theorem dX4_fill_26 : decode cX4_fill 26 = .ok (.invokestatic 95, 3) := by decide +kernel
theorem dX4_fill_29 : decode cX4_fill 29 = .ok (.ifCond .ne 7, 3) := by decide +kernel
theorem dX4_fill_32 : decode cX4_fill 32 = .ok (.iconst 2, 1) := by decide +kernel
theorem dX4_fill_33 : decode cX4_fill 33 = .ok (.goto 18, 3) := by decide +kernel
theorem dX4_fill_36 : decode cX4_fill 36 = .ok (.aload_n 0, 1) := by decide +kernel
theorem dX4_fill_37 : decode cX4_fill 37 = .ok (.getfield 58, 3) := by decide +kernel
theorem dX4_fill_40 : decode cX4_fill 40 = .ok (.iload_n 1, 1) := by decide +kernel
theorem dX4_fill_41 : decode cX4_fill 41 = .ok (.iaload, 1) := by decide +kernel
theorem dX4_fill_42 : decode cX4_fill 42 = .ok (.iconst (-1), 1) := by decide +kernel
theorem dX4_fill_43 : decode cX4_fill 43 = .ok (.if_icmp .eq 7, 3) := by decide +kernel
theorem dX4_fill_46 : decode cX4_fill 46 = .ok (.iconst 3, 1) := by decide +kernel
theorem dX4_fill_47 : decode cX4_fill 47 = .ok (.goto 4, 3) := by decide +kernel
theorem dX4_fill_50 : decode cX4_fill 50 = .ok (.iconst 0, 1) := by decide +kernel
theorem dX4_fill_51 : decode cX4_fill 51 = .ok (.putfield 89, 3) := by decide +kernel
theorem dX4_fill_54 : decode cX4_fill 54 = .ok (.aload_n 0, 1) := by decide +kernel
theorem dX4_fill_55 : decode cX4_fill 55 = .ok (.getfield 89, 3) := by decide +kernel
theorem dX4_fill_58 : decode cX4_fill 58 = .ok (.ifCond .ne 12, 3) := by decide +kernel
theorem dX4_fill_61 : decode cX4_fill 61 = .ok (.aload_n 0, 1) := by decide +kernel
theorem dX4_fill_62 : decode cX4_fill 62 = .ok (.getfield 22, 3) := by decide +kernel
theorem dX4_fill_65 : decode cX4_fill 65 = .ok (.iload_n 2, 1) := by decide +kernel
theorem dX4_fill_66 : decode cX4_fill 66 = .ok (.iaload, 1) := by decide +kernel
theorem dX4_fill_67 : decode cX4_fill 67 = .ok (.ifCond .ne 5, 3) := by decide +kernel
theorem dX4_fill_70 : decode cX4_fill 70 = .ok (.iconst 0, 1) := by decide +kernel
theorem dX4_fill_71 : decode cX4_fill 71 = .ok (.ireturn, 1) := by decide +kernel
theorem dX4_fill_72 : decode cX4_fill 72 = .ok (.iload_n 3, 1) := by decide +kernel
theorem dX4_fill_73 : decode cX4_fill 73 = .ok (.istore 4, 2) := by decide +kernel
theorem dX4_fill_75 : decode cX4_fill 75 = .ok (.iconst 1, 1) := by decide +kernel
theorem dX4_fill_76 : decode cX4_fill 76 = .ok (.istore 5, 2) := by decide +kernel
theorem dX4_fill_78 : decode cX4_fill 78 = .ok (.iload 4, 2) := by decide +kernel
theorem dX4_fill_80 : decode cX4_fill 80 = .ok (.ifCond .le 84, 3) := by decide +kernel
theorem dX4_fill_83 : decode cX4_fill 83 = .ok (.iload 5, 2) := by decide +kernel
theorem dX4_fill_85 : decode cX4_fill 85 = .ok (.ifCond .eq 79, 3) := by decide +kernel
theorem dX4_fill_88 : decode cX4_fill 88 = .ok (.iload 4, 2) := by decide +kernel
theorem dX4_fill_90 : decode cX4_fill 90 = .ok (.aload_n 0, 1) := by decide +kernel
theorem dX4_fill_91 : decode cX4_fill 91 = .ok (.getfield 22, 3) := by decide +kernel
theorem dX4_fill_94 : decode cX4_fill 94 = .ok (.iload_n 2, 1) := by decide +kernel
theorem dX4_fill_95 : decode cX4_fill 95 = .ok (.iaload, 1) := by decide +kernel
theorem dX4_fill_96 : decode cX4_fill 96 = .ok (.if_icmp .ge 8, 3) := by decide +kernel
theorem dX4_fill_99 : decode cX4_fill 99 = .ok (.iload 4, 2) := by decide +kernel
theorem dX4_fill_101 : decode cX4_fill 101 = .ok (.goto 9, 3) := by decide +kernel
theorem dX4_fill_104 : decode cX4_fill 104 = .ok (.aload_n 0, 1) := by decide +kernel
theorem dX4_fill_105 : decode cX4_fill 105 = .ok (.getfield 22, 3) := by decide +kernel
theorem dX4_fill_108 : decode cX4_fill 108 = .ok (.iload_n 2, 1) := by decide +kernel
theorem dX4_fill_109 : decode cX4_fill 109 = .ok (.iaload, 1) := by decide +kernel
theorem dX4_fill_110 : decode cX4_fill 110 = .ok (.istore 6, 2) := by decide +kernel
theorem dX4_fill_112 : decode cX4_fill 112 = .ok (.aload_n 0, 1) := by decide +kernel
theorem dX4_fill_113 : decode cX4_fill 113 = .ok (.getfield 49, 3) := by decide +kernel
theorem dX4_fill_116 : decode cX4_fill 116 = .ok (.iload_n 1, 1) := by decide +kernel
theorem dX4_fill_117 : decode cX4_fill 117 = .ok (.iaload, 1) := by decide +kernel
theorem dX4_fill_118 : decode cX4_fill 118 = .ok (.bipush 10, 2) := by decide +kernel
theorem dX4_fill_120 : decode cX4_fill 120 = .ok (.if_icmp .ge 18, 3) := by decide +kernel
theorem dX4_fill_123 : decode cX4_fill 123 = .ok (.aload_n 0, 1) := by decide +kernel
theorem dX4_fill_124 : decode cX4_fill 124 = .ok (.iload_n 1, 1) := by decide +kernel
theorem dX4_fill_125 : decode cX4_fill 125 = .ok (.iload_n 2, 1) := by decide +kernel
theorem dX4_fill_126 : decode cX4_fill 126 = .ok (.iload 6, 2) := by decide +kernel
theorem dX4_fill_128 : decode cX4_fill 128 = .ok (.invokevirtual 177, 3) := by decide +kernel
theorem dX4_fill_131 : decode cX4_fill 131 = .ok (.ifCond .ne 7, 3) := by decide +kernel
theorem dX4_fill_134 : decode cX4_fill 134 = .ok (.iconst 1, 1) := by decide +kernel
theorem dX4_fill_135 : decode cX4_fill 135 = .ok (.goto 4, 3) := by decide +kernel
theorem dX4_fill_138 : decode cX4_fill 138 = .ok (.iconst 0, 1) := by decide +kernel
theorem dX4_fill_139 : decode cX4_fill 139 = .ok (.istore 5, 2) := by decide +kernel
theorem dX4_fill_141 : decode cX4_fill 141 = .ok (.iload 5, 2) := by decide +kernel
theorem dX4_fill_143 : decode cX4_fill 143 = .ok (.ifCond .eq 18, 3) := by decide +kernel
theorem dX4_fill_146 : decode cX4_fill 146 = .ok (.aload_n 0, 1) := by decide +kernel
theorem dX4_fill_147 : decode cX4_fill 147 = .ok (.iload_n 1, 1) := by decide +kernel
theorem dX4_fill_148 : decode cX4_fill 148 = .ok (.iload_n 2, 1) := by decide +kernel
theorem dX4_fill_149 : decode cX4_fill 149 = .ok (.iload 6, 2) := by decide +kernel
theorem dX4_fill_151 : decode cX4_fill 151 = .ok (.invokevirtual 181, 3) := by decide +kernel
theorem dX4_fill_154 : decode cX4_fill 154 = .ok (.iload 4, 2) := by decide +kernel
theorem dX4_fill_156 : decode cX4_fill 156 = .ok (.iload 6, 2) := by decide +kernel
theorem dX4_fill_158 : decode cX4_fill 158 = .ok (.isub, 1) := by decide +kernel
theorem dX4_fill_159 : decode cX4_fill 159 = .ok (.istore 4, 2) := by decide +kernel
theorem dX4_fill_161 : decode cX4_fill 161 = .ok (.goto (-83), 3) := by decide +kernel
theorem dX4_fill_164 : decode cX4_fill 164 = .ok (.iload_n 3, 1) := by decide +kernel
theorem dX4_fill_165 : decode cX4_fill 165 = .ok (.iload 4, 2) := by decide +kernel
theorem dX4_fill_167 : decode cX4_fill 167 = .ok (.isub, 1) := by decide +kernel
theorem dX4_fill_168 : decode cX4_fill 168 = .ok (.ireturn, 1) := by decide +kernel
set_option maxRecDepth 20000 in
theorem ggX4_take_X4_isPallet : GoodIn wsX4_take wsX4_isPallet := goodIn_r _ [9, 10, 11, 12, 8, 13, 14, 15, 16, 17, 18, 19, 20, 21, 22, 23, 24, 25, 26, 27, 28, 29, 30, 31, 32, 33, 34, 35, 36, 37, 38, 39, 40, 41, 42, 43, 44, 45, 46] (by decide +kernel) (by decide +kernel)
set_option maxRecDepth 20000 in
theorem gX4_take_X4_isPallet : GoodIn wsX4_take (wsV RX4 174 RX4 yX4_isPallet wsX4_isPallet) := goodIn_app (goodIn_of _ (by decide +kernel)) ggX4_take_X4_isPallet
theorem dX4_take_0 : decode cX4_take 0 = .ok (.aload_n 0, 1) := by decide +kernel
theorem dX4_take_1 : decode cX4_take 1 = .ok (.aload_n 0, 1) := by decide +kernel
theorem dX4_take_2 : decode cX4_take 2 = .ok (.iload_n 1, 1) := by decide +kernel
theorem dX4_take_3 : decode cX4_take 3 = .ok (.invokevirtual 174, 3) := by decide +kernel
theorem dX4_take_6 : decode cX4_take 6 = .ok (.ifCond .ne 7, 3) := by decide +kernel
theorem dX4_take_9 : decode cX4_take 9 = .ok (.iconst 1, 1) := by decide +kernel
theorem dX4_take_10 : decode cX4_take 10 = .ok (.goto 27, 3) := by decide +kernel
theorem dX4_take_13 : decode cX4_take 13 = .ok (.aload_n 0, 1) := by decide +kernel
theorem dX4_take_14 : decode cX4_take 14 = .ok (.getfield 58, 3) := by decide +kernel
theorem dX4_take_17 : decode cX4_take 17 = .ok (.iload_n 1, 1) := by decide +kernel
theorem dX4_take_18 : decode cX4_take 18 = .ok (.iaload, 1) := by decide +kernel
theorem dX4_take_19 : decode cX4_take 19 = .ok (.iconst (-1), 1) := by decide +kernel
theorem dX4_take_20 : decode cX4_take 20 = .ok (.if_icmp .ne 12, 3) := by decide +kernel
theorem dX4_take_23 : decode cX4_take 23 = .ok (.aload_n 0, 1) := by decide +kernel
theorem dX4_take_24 : decode cX4_take 24 = .ok (.getfield 49, 3) := by decide +kernel
theorem dX4_take_27 : decode cX4_take 27 = .ok (.iload_n 1, 1) := by decide +kernel
theorem dX4_take_28 : decode cX4_take 28 = .ok (.iaload, 1) := by decide +kernel
theorem dX4_take_29 : decode cX4_take 29 = .ok (.ifCond .ne 7, 3) := by decide +kernel
theorem dX4_take_32 : decode cX4_take 32 = .ok (.iconst 2, 1) := by decide +kernel
theorem dX4_take_33 : decode cX4_take 33 = .ok (.goto 4, 3) := by decide +kernel
theorem dX4_take_36 : decode cX4_take 36 = .ok (.iconst 0, 1) := by decide +kernel
theorem dX4_take_37 : decode cX4_take 37 = .ok (.putfield 89, 3) := by decide +kernel
theorem dX4_take_40 : decode cX4_take 40 = .ok (.aload_n 0, 1) := by decide +kernel
theorem dX4_take_41 : decode cX4_take 41 = .ok (.getfield 89, 3) := by decide +kernel
theorem dX4_take_44 : decode cX4_take 44 = .ok (.ifCond .eq 5, 3) := by decide +kernel
theorem dX4_take_47 : decode cX4_take 47 = .ok (.iconst 0, 1) := by decide +kernel
theorem dX4_take_48 : decode cX4_take 48 = .ok (.ireturn, 1) := by decide +kernel
theorem dX4_take_49 : decode cX4_take 49 = .ok (.aload_n 0, 1) := by decide +kernel
theorem dX4_take_50 : decode cX4_take 50 = .ok (.getfield 49, 3) := by decide +kernel
theorem dX4_take_53 : decode cX4_take 53 = .ok (.iload_n 1, 1) := by decide +kernel
theorem dX4_take_54 : decode cX4_take 54 = .ok (.dup2, 1) := by decide +kernel
theorem dX4_take_55 : decode cX4_take 55 = .ok (.iaload, 1) := by decide +kernel
theorem dX4_take_56 : decode cX4_take 56 = .ok (.iconst 1, 1) := by decide +kernel
theorem dX4_take_57 : decode cX4_take 57 = .ok (.isub, 1) := by decide +kernel
theorem dX4_take_58 : decode cX4_take 58 = .ok (.iastore, 1) := by decide +kernel
theorem dX4_take_59 : decode cX4_take 59 = .ok (.aload_n 0, 1) := by decide +kernel
theorem dX4_take_60 : decode cX4_take 60 = .ok (.getfield 55, 3) := by decide +kernel
theorem dX4_take_63 : decode cX4_take 63 = .ok (.bipush 10, 2) := by decide +kernel
theorem dX4_take_65 : decode cX4_take 65 = .ok (.iload_n 1, 1) := by decide +kernel
theorem dX4_take_66 : decode cX4_take 66 = .ok (.imul, 1) := by decide +kernel
theorem dX4_take_67 : decode cX4_take 67 = .ok (.aload_n 0, 1) := by decide +kernel
theorem dX4_take_68 : decode cX4_take 68 = .ok (.getfield 49, 3) := by decide +kernel
theorem dX4_take_71 : decode cX4_take 71 = .ok (.iload_n 1, 1) := by decide +kernel
theorem dX4_take_72 : decode cX4_take 72 = .ok (.iaload, 1) := by decide +kernel
theorem dX4_take_73 : decode cX4_take 73 = .ok (.iadd, 1) := by decide +kernel
theorem dX4_take_74 : decode cX4_take 74 = .ok (.iaload, 1) := by decide +kernel
theorem dX4_take_75 : decode cX4_take 75 = .ok (.ireturn, 1) := by decide +kernel
set_option maxRecDepth 20000 in
theorem ggX4_isLayer_X4_isPallet : GoodIn wsX4_isLayer wsX4_isPallet := goodIn_r _ [6, 7, 8, 9, 5, 10, 11, 12, 13, 14, 15, 16, 17, 18, 19, 20, 21, 22, 23, 24, 25, 26, 27, 28, 29, 30, 31, 32, 33, 34, 35, 36, 37, 38, 39, 40, 41, 42, 43] (by decide +kernel) (by decide +kernel)
set_option maxRecDepth 20000 in
theorem gX4_isLayer_X4_isPallet : GoodIn wsX4_isLayer (wsV RX4 174 RX4 yX4_isPallet wsX4_isPallet) := goodIn_app (goodIn_of _ (by decide +kernel)) ggX4_isLayer_X4_isPallet
set_option maxRecDepth 20000 in
theorem ggX4_isLayer_X4_within : GoodIn wsX4_isLayer wsX4_within := goodIn_r _ [10] (by decide +kernel) (by decide +kernel)
set_option maxRecDepth 20000 in
theorem gX4_isLayer_X4_within : GoodIn wsX4_isLayer (va_wsS RX4 95 yX4_within wsX4_within) := goodIn_app (goodIn_of _ (by decide +kernel)) ggX4_isLayer_X4_within
theorem dX4_isLayer_0 : decode cX4_isLayer 0 = .ok (.aload_n 0, 1) := by decide +kernel
theorem dX4_isLayer_1 : decode cX4_isLayer 1 = .ok (.iload_n 1, 1) := by decide +kernel
theorem dX4_isLayer_2 : decode cX4_isLayer 2 = .ok (.invokevirtual 174, 3) := by decide +kernel
theorem dX4_isLayer_5 : decode cX4_isLayer 5 = .ok (.ifCond .eq 23, 3) := by decide +kernel
theorem dX4_isLayer_8 : decode cX4_isLayer 8 = .ok (.iload_n 2, 1) := by decide +kernel
theorem dX4_isLayer_9 : decode cX4_isLayer 9 = .ok (.iconst 0, 1) := by decide +kernel
theorem dX4_isLayer_10 : decode cX4_isLayer 10 = .ok (.aload_n 0, 1) := by decide +kernel
theorem dX4_isLayer_11 : decode cX4_isLayer 11 = .ok (.getfield 49, 3) := by decide +kernel
theorem dX4_isLayer_14 : decode cX4_isLayer 14 = .ok (.iload_n 1, 1) := by decide +kernel
theorem dX4_isLayer_15 : decode cX4_isLayer 15 = .ok (.iaload, 1) := by decide +kernel
theorem dX4_isLayer_16 : decode cX4_isLayer 16 = .ok (.iconst 1, 1) := by decide +kernel
theorem dX4_isLayer_17 : decode cX4_isLayer 17 = .ok (.isub, 1) := by decide +kernel
theorem dX4_isLayer_18 : decode cX4_isLayer 18 = .ok (.invokestatic 95, 3) := by decide +kernel
theorem dX4_isLayer_21 : decode cX4_isLayer 21 = .ok (.ifCond .eq 7, 3) := by decide +kernel
theorem dX4_isLayer_24 : decode cX4_isLayer 24 = .ok (.iconst 1, 1) := by decide +kernel
theorem dX4_isLayer_25 : decode cX4_isLayer 25 = .ok (.goto 4, 3) := by decide +kernel
theorem dX4_isLayer_28 : decode cX4_isLayer 28 = .ok (.iconst 0, 1) := by decide +kernel
theorem dX4_isLayer_29 : decode cX4_isLayer 29 = .ok (.ireturn, 1) := by decide +kernel
set_option maxRecDepth 20000 in
theorem ggX4_support_X4_isLayer : GoodIn wsX4_support wsX4_isLayer := goodIn_ca (goodIn_r _ [8, 9, 10, 11, 12, 7, 13, 14, 15, 16, 17, 32, 33, 34, 35, 36, 37, 38, 39, 40, 41, 42, 43, 44, 45, 46, 47, 48, 49, 50, 51, 52, 53, 54, 55, 56, 57, 58, 59, 60, 61, 62, 63, 64] (by decide +kernel) (by decide +kernel)) (goodIn_sub (fun _ h => List.mem_cons_of_mem _ (List.mem_append_right _ h)) (by decide +kernel))
set_option maxRecDepth 20000 in
theorem gX4_support_X4_isLayer : GoodIn wsX4_support (wsV RX4 184 RX4 yX4_isLayer wsX4_isLayer) := goodIn_app (goodIn_of _ (by decide +kernel)) ggX4_support_X4_isLayer
set_option maxRecDepth 20000 in
theorem ggX4_support_X4_within : GoodIn wsX4_support wsX4_within := goodIn_r _ [17] (by decide +kernel) (by decide +kernel)
set_option maxRecDepth 20000 in
theorem gX4_support_X4_within : GoodIn wsX4_support (va_wsS RX4 95 yX4_within wsX4_within) := goodIn_app (goodIn_of _ (by decide +kernel)) ggX4_support_X4_within
set_option maxRecDepth 20000 in
theorem ggX4_support_X4_supportOf : GoodIn wsX4_support wsX4_supportOf := goodIn_ca (goodIn_r _ [21, 3, 1, 22, 23, 24, 25, 7, 26, 27, 28, 29, 30, 31, 32, 33, 34, 35, 36, 37, 38, 39, 40, 41, 42, 43, 44, 45, 46, 47, 48, 49, 50, 51, 52, 53, 54, 55, 56, 57, 58, 59, 60, 61, 62, 63, 64] (by decide +kernel) (by decide +kernel)) (goodIn_sub (fun _ h => List.mem_cons_of_mem _ (List.mem_append_right _ h)) (by decide +kernel))
set_option maxRecDepth 20000 in
theorem gX4_support_X4_supportOf : GoodIn wsX4_support (wsV RX4 163 RX4 yX4_supportOf wsX4_supportOf) := goodIn_app (goodIn_of _ (by decide +kernel)) ggX4_support_X4_supportOf
set_option maxRecDepth 20000 in
theorem ggX4_support_X4_areaOf : GoodIn wsX4_support wsX4_areaOf := goodIn_ca (goodIn_r _ [26, 27, 28, 32, 33, 34, 35, 36, 37, 38, 39, 40, 41, 42, 43, 44, 45, 46, 47, 48, 49, 50, 51, 52, 53, 54, 55, 56, 57, 58, 59, 60, 61, 62, 63, 64] (by decide +kernel) (by decide +kernel)) (goodIn_sub (fun _ h => List.mem_cons_of_mem _ (List.mem_append_right _ h)) (by decide +kernel))
set_option maxRecDepth 20000 in
theorem gX4_support_X4_areaOf : GoodIn wsX4_support (wsV RX4 119 RX4 yX4_areaOf wsX4_areaOf) := goodIn_app (goodIn_of _ (by decide +kernel)) ggX4_support_X4_areaOf
theorem dX4_support_0 : decode cX4_support 0 = .ok (.aload_n 0, 1) := by decide +kernel
theorem dX4_support_1 : decode cX4_support 1 = .ok (.aload_n 0, 1) := by decide +kernel
theorem dX4_support_2 : decode cX4_support 2 = .ok (.iload_n 1, 1) := by decide +kernel
theorem dX4_support_3 : decode cX4_support 3 = .ok (.iload_n 2, 1) := by decide +kernel
theorem dX4_support_4 : decode cX4_support 4 = .ok (.invokevirtual 184, 3) := by decide +kernel
theorem dX4_support_7 : decode cX4_support 7 = .ok (.ifCond .eq 28, 3) := by decide +kernel
theorem dX4_support_10 : decode cX4_support 10 = .ok (.iload_n 3, 1) := by decide +kernel
theorem dX4_support_11 : decode cX4_support 11 = .ok (.iconst 0, 1) := by decide +kernel
theorem dX4_support_12 : decode cX4_support 12 = .ok (.aload_n 0, 1) := by decide +kernel
theorem dX4_support_13 : decode cX4_support 13 = .ok (.getfield 55, 3) := by decide +kernel
theorem dX4_support_16 : decode cX4_support 16 = .ok (.bipush 10, 2) := by decide +kernel
theorem dX4_support_18 : decode cX4_support 18 = .ok (.iload_n 1, 1) := by decide +kernel
theorem dX4_support_19 : decode cX4_support 19 = .ok (.imul, 1) := by decide +kernel
theorem dX4_support_20 : decode cX4_support 20 = .ok (.iload_n 2, 1) := by decide +kernel
theorem dX4_support_21 : decode cX4_support 21 = .ok (.iadd, 1) := by decide +kernel
theorem dX4_support_22 : decode cX4_support 22 = .ok (.iaload, 1) := by decide +kernel
theorem dX4_support_23 : decode cX4_support 23 = .ok (.iconst 1, 1) := by decide +kernel
theorem dX4_support_24 : decode cX4_support 24 = .ok (.isub, 1) := by decide +kernel
theorem dX4_support_25 : decode cX4_support 25 = .ok (.invokestatic 95, 3) := by decide +kernel
theorem dX4_support_28 : decode cX4_support 28 = .ok (.ifCond .eq 7, 3) := by decide +kernel
theorem dX4_support_31 : decode cX4_support 31 = .ok (.iconst 0, 1) := by decide +kernel
theorem dX4_support_32 : decode cX4_support 32 = .ok (.goto 4, 3) := by decide +kernel
theorem dX4_support_35 : decode cX4_support 35 = .ok (.iconst 1, 1) := by decide +kernel
theorem dX4_support_36 : decode cX4_support 36 = .ok (.putfield 89, 3) := by decide +kernel
theorem dX4_support_39 : decode cX4_support 39 = .ok (.aload_n 0, 1) := by decide +kernel
theorem dX4_support_40 : decode cX4_support 40 = .ok (.getfield 89, 3) := by decide +kernel
theorem dX4_support_43 : decode cX4_support 43 = .ok (.ifCond .eq 5, 3) := by decide +kernel
theorem dX4_support_46 : decode cX4_support 46 = .ok (.iconst 0, 1) := by decide +kernel
theorem dX4_support_47 : decode cX4_support 47 = .ok (.ireturn, 1) := by decide +kernel
theorem dX4_support_48 : decode cX4_support 48 = .ok (.aload_n 0, 1) := by decide +kernel
theorem dX4_support_49 : decode cX4_support 49 = .ok (.getfield 52, 3) := by decide +kernel
theorem dX4_support_52 : decode cX4_support 52 = .ok (.bipush 10, 2) := by decide +kernel
theorem dX4_support_54 : decode cX4_support 54 = .ok (.iload_n 1, 1) := by decide +kernel
theorem dX4_support_55 : decode cX4_support 55 = .ok (.imul, 1) := by decide +kernel
theorem dX4_support_56 : decode cX4_support 56 = .ok (.iload_n 2, 1) := by decide +kernel
theorem dX4_support_57 : decode cX4_support 57 = .ok (.iadd, 1) := by decide +kernel
theorem dX4_support_58 : decode cX4_support 58 = .ok (.iaload, 1) := by decide +kernel
theorem dX4_support_59 : decode cX4_support 59 = .ok (.istore 4, 2) := by decide +kernel
theorem dX4_support_61 : decode cX4_support 61 = .ok (.bipush 100, 2) := by decide +kernel
theorem dX4_support_63 : decode cX4_support 63 = .ok (.aload_n 0, 1) := by decide +kernel
theorem dX4_support_64 : decode cX4_support 64 = .ok (.iload 4, 2) := by decide +kernel
theorem dX4_support_66 : decode cX4_support 66 = .ok (.iload_n 3, 1) := by decide +kernel
theorem dX4_support_67 : decode cX4_support 67 = .ok (.iload_n 1, 1) := by decide +kernel
theorem dX4_support_68 : decode cX4_support 68 = .ok (.iload_n 2, 1) := by decide +kernel
theorem dX4_support_69 : decode cX4_support 69 = .ok (.iconst 1, 1) := by decide +kernel
theorem dX4_support_70 : decode cX4_support 70 = .ok (.isub, 1) := by decide +kernel
theorem dX4_support_71 : decode cX4_support 71 = .ok (.invokevirtual 163, 3) := by decide +kernel
theorem dX4_support_74 : decode cX4_support 74 = .ok (.imul, 1) := by decide +kernel
theorem dX4_support_75 : decode cX4_support 75 = .ok (.aload_n 0, 1) := by decide +kernel
theorem dX4_support_76 : decode cX4_support 76 = .ok (.iload 4, 2) := by decide +kernel
theorem dX4_support_78 : decode cX4_support 78 = .ok (.invokevirtual 119, 3) := by decide +kernel
theorem dX4_support_81 : decode cX4_support 81 = .ok (.idiv, 1) := by decide +kernel
theorem dX4_support_82 : decode cX4_support 82 = .ok (.ireturn, 1) := by decide +kernel
set_option maxRecDepth 20000 in
theorem ggX4_told_X4_isPallet : GoodIn wsX4_told wsX4_isPallet := goodIn_r _ [9, 10, 11, 12, 8, 13, 29, 30, 31, 32, 33, 34, 35, 36, 37, 38, 39, 40, 41, 42, 43, 44, 45, 46, 47, 48, 49, 50, 51, 52, 53, 54, 55, 56, 57, 58, 59, 60, 61] (by decide +kernel) (by decide +kernel)
set_option maxRecDepth 20000 in
theorem gX4_told_X4_isPallet : GoodIn wsX4_told (wsV RX4 174 RX4 yX4_isPallet wsX4_isPallet) := goodIn_app (goodIn_of _ (by decide +kernel)) ggX4_told_X4_isPallet
set_option maxRecDepth 20000 in
theorem ggX4_told_X4_within : GoodIn wsX4_told wsX4_within := goodIn_r _ [13] (by decide +kernel) (by decide +kernel)
set_option maxRecDepth 20000 in
theorem gX4_told_X4_within : GoodIn wsX4_told (va_wsS RX4 95 yX4_within wsX4_within) := goodIn_app (goodIn_of _ (by decide +kernel)) ggX4_told_X4_within
set_option maxRecDepth 20000 in
theorem ggX4_told_X4_heightOf : GoodIn wsX4_told wsX4_heightOf := goodIn_ca (goodIn_r _ [17, 18, 4, 29, 30, 31, 32, 33, 34, 35, 36, 37, 38, 39, 40, 41, 42, 43, 44, 45, 46, 47, 48, 49, 50, 51, 52, 53, 54, 55, 56, 57, 58, 59, 60, 61] (by decide +kernel) (by decide +kernel)) (goodIn_sub (fun _ h => List.mem_cons_of_mem _ (List.mem_append_right _ h)) (by decide +kernel))
set_option maxRecDepth 20000 in
theorem gX4_told_X4_heightOf : GoodIn wsX4_told (wsV RX4 167 RX4 yX4_heightOf wsX4_heightOf) := goodIn_app (goodIn_of _ (by decide +kernel)) ggX4_told_X4_heightOf
set_option maxRecDepth 20000 in
theorem ggX4_told_X4_weightOf : GoodIn wsX4_told wsX4_weightOf := goodIn_ca (goodIn_r _ [22, 2, 23, 4, 24, 29, 30, 31, 32, 33, 34, 35, 36, 37, 38, 39, 40, 41, 42, 43, 44, 45, 46, 47, 48, 49, 50, 51, 52, 53, 54, 55, 56, 57, 58, 59, 60, 61] (by decide +kernel) (by decide +kernel)) (goodIn_sub (fun _ h => List.mem_cons_of_mem _ (List.mem_append_right _ h)) (by decide +kernel))
set_option maxRecDepth 20000 in
theorem gX4_told_X4_weightOf : GoodIn wsX4_told (wsV RX4 171 RX4 yX4_weightOf wsX4_weightOf) := goodIn_app (goodIn_of _ (by decide +kernel)) ggX4_told_X4_weightOf
set_option maxRecDepth 20000 in
theorem ggX4_told_X4_boxesOn : GoodIn wsX4_told wsX4_boxesOn := goodIn_ca (goodIn_r _ [28, 2, 24, 29, 30, 31, 32, 33, 34, 35, 36, 37, 38, 39, 40, 41, 42, 43, 44, 45, 46, 47, 48, 49, 50, 51, 52, 53, 54, 55, 56, 57, 58, 59, 60, 61] (by decide +kernel) (by decide +kernel)) (goodIn_sub (fun _ h => List.mem_cons_of_mem _ (List.mem_append_right _ h)) (by decide +kernel))
set_option maxRecDepth 20000 in
theorem gX4_told_X4_boxesOn : GoodIn wsX4_told (wsV RX4 188 RX4 yX4_boxesOn wsX4_boxesOn) := goodIn_app (goodIn_of _ (by decide +kernel)) ggX4_told_X4_boxesOn
theorem dX4_told_0 : decode cX4_told 0 = .ok (.aload_n 0, 1) := by decide +kernel
theorem dX4_told_1 : decode cX4_told 1 = .ok (.aload_n 0, 1) := by decide +kernel
theorem dX4_told_2 : decode cX4_told 2 = .ok (.iload_n 1, 1) := by decide +kernel
theorem dX4_told_3 : decode cX4_told 3 = .ok (.invokevirtual 174, 3) := by decide +kernel
theorem dX4_told_6 : decode cX4_told 6 = .ok (.ifCond .ne 7, 3) := by decide +kernel
theorem dX4_told_9 : decode cX4_told 9 = .ok (.iconst 1, 1) := by decide +kernel
theorem dX4_told_10 : decode cX4_told 10 = .ok (.goto 17, 3) := by decide +kernel
theorem dX4_told_13 : decode cX4_told 13 = .ok (.iload_n 2, 1) := by decide +kernel
theorem dX4_told_14 : decode cX4_told 14 = .ok (.iconst 0, 1) := by decide +kernel
theorem dX4_told_15 : decode cX4_told 15 = .ok (.iconst 5, 1) := by decide +kernel
theorem dX4_told_16 : decode cX4_told 16 = .ok (.invokestatic 95, 3) := by decide +kernel
theorem dX4_told_19 : decode cX4_told 19 = .ok (.ifCond .ne 7, 3) := by decide +kernel
theorem dX4_told_22 : decode cX4_told 22 = .ok (.iconst 2, 1) := by decide +kernel
theorem dX4_told_23 : decode cX4_told 23 = .ok (.goto 4, 3) := by decide +kernel
theorem dX4_told_26 : decode cX4_told 26 = .ok (.iconst 0, 1) := by decide +kernel
theorem dX4_told_27 : decode cX4_told 27 = .ok (.putfield 89, 3) := by decide +kernel
theorem dX4_told_30 : decode cX4_told 30 = .ok (.aload_n 0, 1) := by decide +kernel
theorem dX4_told_31 : decode cX4_told 31 = .ok (.getfield 89, 3) := by decide +kernel
theorem dX4_told_34 : decode cX4_told 34 = .ok (.ifCond .eq 5, 3) := by decide +kernel
theorem dX4_told_37 : decode cX4_told 37 = .ok (.iconst 0, 1) := by decide +kernel
theorem dX4_told_38 : decode cX4_told 38 = .ok (.ireturn, 1) := by decide +kernel
theorem dX4_told_39 : decode cX4_told 39 = .ok (.iload_n 2, 1) := by decide +kernel
theorem dX4_told_40 : decode cX4_told 40 = .ok (.tableswitch 74 0 4 #[36, 48, 54, 61, 67], 36) := by decide +kernel
theorem dX4_told_76 : decode cX4_told 76 = .ok (.aload_n 0, 1) := by decide +kernel
theorem dX4_told_77 : decode cX4_told 77 = .ok (.iload_n 1, 1) := by decide +kernel
theorem dX4_told_78 : decode cX4_told 78 = .ok (.aload_n 0, 1) := by decide +kernel
theorem dX4_told_79 : decode cX4_told 79 = .ok (.getfield 49, 3) := by decide +kernel
theorem dX4_told_82 : decode cX4_told 82 = .ok (.iload_n 1, 1) := by decide +kernel
theorem dX4_told_83 : decode cX4_told 83 = .ok (.iaload, 1) := by decide +kernel
theorem dX4_told_84 : decode cX4_told 84 = .ok (.invokevirtual 167, 3) := by decide +kernel
theorem dX4_told_87 : decode cX4_told 87 = .ok (.ireturn, 1) := by decide +kernel
theorem dX4_told_88 : decode cX4_told 88 = .ok (.aload_n 0, 1) := by decide +kernel
theorem dX4_told_89 : decode cX4_told 89 = .ok (.iload_n 1, 1) := by decide +kernel
theorem dX4_told_90 : decode cX4_told 90 = .ok (.invokevirtual 171, 3) := by decide +kernel
theorem dX4_told_93 : decode cX4_told 93 = .ok (.ireturn, 1) := by decide +kernel
theorem dX4_told_94 : decode cX4_told 94 = .ok (.aload_n 0, 1) := by decide +kernel
theorem dX4_told_95 : decode cX4_told 95 = .ok (.getfield 49, 3) := by decide +kernel
theorem dX4_told_98 : decode cX4_told 98 = .ok (.iload_n 1, 1) := by decide +kernel
theorem dX4_told_99 : decode cX4_told 99 = .ok (.iaload, 1) := by decide +kernel
theorem dX4_told_100 : decode cX4_told 100 = .ok (.ireturn, 1) := by decide +kernel
theorem dX4_told_101 : decode cX4_told 101 = .ok (.aload_n 0, 1) := by decide +kernel
theorem dX4_told_102 : decode cX4_told 102 = .ok (.iload_n 1, 1) := by decide +kernel
theorem dX4_told_103 : decode cX4_told 103 = .ok (.invokevirtual 188, 3) := by decide +kernel
theorem dX4_told_106 : decode cX4_told 106 = .ok (.ireturn, 1) := by decide +kernel
theorem dX4_told_107 : decode cX4_told 107 = .ok (.aload_n 0, 1) := by decide +kernel
theorem dX4_told_108 : decode cX4_told 108 = .ok (.getfield 58, 3) := by decide +kernel
theorem dX4_told_111 : decode cX4_told 111 = .ok (.iload_n 1, 1) := by decide +kernel
theorem dX4_told_112 : decode cX4_told 112 = .ok (.iaload, 1) := by decide +kernel
theorem dX4_told_113 : decode cX4_told 113 = .ok (.ireturn, 1) := by decide +kernel
theorem dX4_told_114 : decode cX4_told 114 = .ok (.iconst 0, 1) := by decide +kernel
theorem dX4_told_115 : decode cX4_told 115 = .ok (.istore_n 3, 1) := by decide +kernel
theorem dX4_told_116 : decode cX4_told 116 = .ok (.iconst 0, 1) := by decide +kernel
theorem dX4_told_117 : decode cX4_told 117 = .ok (.istore 4, 2) := by decide +kernel
theorem dX4_told_119 : decode cX4_told 119 = .ok (.iload 4, 2) := by decide +kernel
theorem dX4_told_121 : decode cX4_told 121 = .ok (.aload_n 0, 1) := by decide +kernel
theorem dX4_told_122 : decode cX4_told 122 = .ok (.getfield 49, 3) := by decide +kernel
theorem dX4_told_125 : decode cX4_told 125 = .ok (.iload_n 1, 1) := by decide +kernel
theorem dX4_told_126 : decode cX4_told 126 = .ok (.iaload, 1) := by decide +kernel
theorem dX4_told_127 : decode cX4_told 127 = .ok (.if_icmp .ge 26, 3) := by decide +kernel
theorem dX4_told_130 : decode cX4_told 130 = .ok (.iload_n 3, 1) := by decide +kernel
theorem dX4_told_131 : decode cX4_told 131 = .ok (.iconst 1, 1) := by decide +kernel
theorem dX4_told_132 : decode cX4_told 132 = .ok (.aload_n 0, 1) := by decide +kernel
theorem dX4_told_133 : decode cX4_told 133 = .ok (.getfield 52, 3) := by decide +kernel
theorem dX4_told_136 : decode cX4_told 136 = .ok (.bipush 10, 2) := by decide +kernel
theorem dX4_told_138 : decode cX4_told 138 = .ok (.iload_n 1, 1) := by decide +kernel
theorem dX4_told_139 : decode cX4_told 139 = .ok (.imul, 1) := by decide +kernel
theorem dX4_told_140 : decode cX4_told 140 = .ok (.iload 4, 2) := by decide +kernel
theorem dX4_told_142 : decode cX4_told 142 = .ok (.iadd, 1) := by decide +kernel
theorem dX4_told_143 : decode cX4_told 143 = .ok (.iaload, 1) := by decide +kernel
theorem dX4_told_144 : decode cX4_told 144 = .ok (.ishl, 1) := by decide +kernel
theorem dX4_told_145 : decode cX4_told 145 = .ok (.ior, 1) := by decide +kernel
theorem dX4_told_146 : decode cX4_told 146 = .ok (.istore_n 3, 1) := by decide +kernel
theorem dX4_told_147 : decode cX4_told 147 = .ok (.iinc 4 1, 3) := by decide +kernel
theorem dX4_told_150 : decode cX4_told 150 = .ok (.goto (-31), 3) := by decide +kernel
theorem dX4_told_153 : decode cX4_told 153 = .ok (.iload_n 3, 1) := by decide +kernel
theorem dX4_told_154 : decode cX4_told 154 = .ok (.ireturn, 1) := by decide +kernel
set_option maxRecDepth 20000 in
theorem ggX4_layer_X4_isLayer : GoodIn wsX4_layer wsX4_isLayer := goodIn_ca (goodIn_r _ [9, 10, 11, 12, 13, 8, 14, 15, 16, 17, 18, 24, 25, 26, 27, 28, 29, 30, 31, 32, 33, 34, 35, 36, 37, 38, 39, 40, 41, 42, 43, 44, 45, 46, 47, 48, 49, 50, 51, 52, 53, 54, 55, 56] (by decide +kernel) (by decide +kernel)) (goodIn_sub (fun _ h => List.mem_cons_of_mem _ (List.mem_append_right _ h)) (by decide +kernel))
set_option maxRecDepth 20000 in
theorem gX4_layer_X4_isLayer : GoodIn wsX4_layer (wsV RX4 184 RX4 yX4_isLayer wsX4_isLayer) := goodIn_app (goodIn_of _ (by decide +kernel)) ggX4_layer_X4_isLayer
set_option maxRecDepth 20000 in
theorem ggX4_layer_X4_within : GoodIn wsX4_layer wsX4_within := goodIn_r _ [18] (by decide +kernel) (by decide +kernel)
set_option maxRecDepth 20000 in
theorem gX4_layer_X4_within : GoodIn wsX4_layer (va_wsS RX4 95 yX4_within wsX4_within) := goodIn_app (goodIn_of _ (by decide +kernel)) ggX4_layer_X4_within
set_option maxRecDepth 20000 in
theorem ggX4_layer_X4_heightOf : GoodIn wsX4_layer wsX4_heightOf := goodIn_ca (goodIn_r _ [22, 23, 2, 24, 25, 26, 27, 28, 29, 30, 31, 32, 33, 34, 35, 36, 37, 38, 39, 40, 41, 42, 43, 44, 45, 46, 47, 48, 49, 50, 51, 52, 53, 54, 55, 56] (by decide +kernel) (by decide +kernel)) (goodIn_sub (fun _ h => List.mem_cons_of_mem _ (List.mem_append_right _ h)) (by decide +kernel))
set_option maxRecDepth 20000 in
theorem gX4_layer_X4_heightOf : GoodIn wsX4_layer (wsV RX4 167 RX4 yX4_heightOf wsX4_heightOf) := goodIn_app (goodIn_of _ (by decide +kernel)) ggX4_layer_X4_heightOf
theorem dX4_layer_0 : decode cX4_layer 0 = .ok (.aload_n 0, 1) := by decide +kernel
theorem dX4_layer_1 : decode cX4_layer 1 = .ok (.aload_n 0, 1) := by decide +kernel
theorem dX4_layer_2 : decode cX4_layer 2 = .ok (.iload_n 1, 1) := by decide +kernel
theorem dX4_layer_3 : decode cX4_layer 3 = .ok (.iload_n 2, 1) := by decide +kernel
theorem dX4_layer_4 : decode cX4_layer 4 = .ok (.invokevirtual 184, 3) := by decide +kernel
theorem dX4_layer_7 : decode cX4_layer 7 = .ok (.ifCond .ne 7, 3) := by decide +kernel
theorem dX4_layer_10 : decode cX4_layer 10 = .ok (.iconst 1, 1) := by decide +kernel
theorem dX4_layer_11 : decode cX4_layer 11 = .ok (.goto 17, 3) := by decide +kernel
theorem dX4_layer_14 : decode cX4_layer 14 = .ok (.iload_n 3, 1) := by decide +kernel
theorem dX4_layer_15 : decode cX4_layer 15 = .ok (.iconst 0, 1) := by decide +kernel
theorem dX4_layer_16 : decode cX4_layer 16 = .ok (.iconst 3, 1) := by decide +kernel
theorem dX4_layer_17 : decode cX4_layer 17 = .ok (.invokestatic 95, 3) := by decide +kernel
theorem dX4_layer_20 : decode cX4_layer 20 = .ok (.ifCond .ne 7, 3) := by decide +kernel
theorem dX4_layer_23 : decode cX4_layer 23 = .ok (.iconst 2, 1) := by decide +kernel
theorem dX4_layer_24 : decode cX4_layer 24 = .ok (.goto 4, 3) := by decide +kernel
theorem dX4_layer_27 : decode cX4_layer 27 = .ok (.iconst 0, 1) := by decide +kernel
theorem dX4_layer_28 : decode cX4_layer 28 = .ok (.putfield 89, 3) := by decide +kernel
theorem dX4_layer_31 : decode cX4_layer 31 = .ok (.aload_n 0, 1) := by decide +kernel
theorem dX4_layer_32 : decode cX4_layer 32 = .ok (.getfield 89, 3) := by decide +kernel
theorem dX4_layer_35 : decode cX4_layer 35 = .ok (.ifCond .eq 5, 3) := by decide +kernel
theorem dX4_layer_38 : decode cX4_layer 38 = .ok (.iconst 0, 1) := by decide +kernel
theorem dX4_layer_39 : decode cX4_layer 39 = .ok (.ireturn, 1) := by decide +kernel
theorem dX4_layer_40 : decode cX4_layer 40 = .ok (.aload_n 0, 1) := by decide +kernel
theorem dX4_layer_41 : decode cX4_layer 41 = .ok (.getfield 52, 3) := by decide +kernel
theorem dX4_layer_44 : decode cX4_layer 44 = .ok (.bipush 10, 2) := by decide +kernel
theorem dX4_layer_46 : decode cX4_layer 46 = .ok (.iload_n 1, 1) := by decide +kernel
theorem dX4_layer_47 : decode cX4_layer 47 = .ok (.imul, 1) := by decide +kernel
theorem dX4_layer_48 : decode cX4_layer 48 = .ok (.iload_n 2, 1) := by decide +kernel
theorem dX4_layer_49 : decode cX4_layer 49 = .ok (.iadd, 1) := by decide +kernel
theorem dX4_layer_50 : decode cX4_layer 50 = .ok (.iaload, 1) := by decide +kernel
theorem dX4_layer_51 : decode cX4_layer 51 = .ok (.istore 4, 2) := by decide +kernel
theorem dX4_layer_53 : decode cX4_layer 53 = .ok (.aload_n 0, 1) := by decide +kernel
theorem dX4_layer_54 : decode cX4_layer 54 = .ok (.getfield 55, 3) := by decide +kernel
theorem dX4_layer_57 : decode cX4_layer 57 = .ok (.bipush 10, 2) := by decide +kernel
theorem dX4_layer_59 : decode cX4_layer 59 = .ok (.iload_n 1, 1) := by decide +kernel
theorem dX4_layer_60 : decode cX4_layer 60 = .ok (.imul, 1) := by decide +kernel
theorem dX4_layer_61 : decode cX4_layer 61 = .ok (.iload_n 2, 1) := by decide +kernel
theorem dX4_layer_62 : decode cX4_layer 62 = .ok (.iadd, 1) := by decide +kernel
theorem dX4_layer_63 : decode cX4_layer 63 = .ok (.iaload, 1) := by decide +kernel
theorem dX4_layer_64 : decode cX4_layer 64 = .ok (.istore 5, 2) := by decide +kernel
theorem dX4_layer_66 : decode cX4_layer 66 = .ok (.iload_n 3, 1) := by decide +kernel
theorem dX4_layer_67 : decode cX4_layer 67 = .ok (.ifCond .ne 8, 3) := by decide +kernel
theorem dX4_layer_70 : decode cX4_layer 70 = .ok (.iload 4, 2) := by decide +kernel
theorem dX4_layer_72 : decode cX4_layer 72 = .ok (.goto 44, 3) := by decide +kernel
theorem dX4_layer_75 : decode cX4_layer 75 = .ok (.iload_n 3, 1) := by decide +kernel
theorem dX4_layer_76 : decode cX4_layer 76 = .ok (.iconst 1, 1) := by decide +kernel
theorem dX4_layer_77 : decode cX4_layer 77 = .ok (.if_icmp .ne 8, 3) := by decide +kernel
theorem dX4_layer_80 : decode cX4_layer 80 = .ok (.iload 5, 2) := by decide +kernel
theorem dX4_layer_82 : decode cX4_layer 82 = .ok (.goto 34, 3) := by decide +kernel
theorem dX4_layer_85 : decode cX4_layer 85 = .ok (.iload_n 3, 1) := by decide +kernel
theorem dX4_layer_86 : decode cX4_layer 86 = .ok (.iconst 2, 1) := by decide +kernel
theorem dX4_layer_87 : decode cX4_layer 87 = .ok (.if_icmp .ne 12, 3) := by decide +kernel
theorem dX4_layer_90 : decode cX4_layer 90 = .ok (.aload_n 0, 1) := by decide +kernel
theorem dX4_layer_91 : decode cX4_layer 91 = .ok (.iload_n 1, 1) := by decide +kernel
theorem dX4_layer_92 : decode cX4_layer 92 = .ok (.iload_n 2, 1) := by decide +kernel
theorem dX4_layer_93 : decode cX4_layer 93 = .ok (.invokevirtual 167, 3) := by decide +kernel
theorem dX4_layer_96 : decode cX4_layer 96 = .ok (.goto 20, 3) := by decide +kernel
theorem dX4_layer_99 : decode cX4_layer 99 = .ok (.iload 5, 2) := by decide +kernel
theorem dX4_layer_101 : decode cX4_layer 101 = .ok (.aload_n 0, 1) := by decide +kernel
theorem dX4_layer_102 : decode cX4_layer 102 = .ok (.getfield 22, 3) := by decide +kernel
theorem dX4_layer_105 : decode cX4_layer 105 = .ok (.iload 4, 2) := by decide +kernel
theorem dX4_layer_107 : decode cX4_layer 107 = .ok (.iaload, 1) := by decide +kernel
theorem dX4_layer_108 : decode cX4_layer 108 = .ok (.if_icmp .ne 7, 3) := by decide +kernel
theorem dX4_layer_111 : decode cX4_layer 111 = .ok (.iconst 1, 1) := by decide +kernel
theorem dX4_layer_112 : decode cX4_layer 112 = .ok (.goto 4, 3) := by decide +kernel
theorem dX4_layer_115 : decode cX4_layer 115 = .ok (.iconst 0, 1) := by decide +kernel
theorem dX4_layer_116 : decode cX4_layer 116 = .ok (.ireturn, 1) := by decide +kernel
set_option maxRecDepth 20000 in
theorem ggX4_truck_X4_isPallet : GoodIn wsX4_truck wsX4_isPallet := goodIn_r _ [10, 11, 12, 13, 9, 14, 15, 16, 17, 18, 19, 20, 21, 22, 23, 24, 25, 26, 27, 28, 29, 30, 31, 32, 33, 34, 35, 36, 37, 38, 39, 40, 41, 42, 43, 44, 45, 46, 47] (by decide +kernel) (by decide +kernel)
set_option maxRecDepth 20000 in
theorem gX4_truck_X4_isPallet : GoodIn wsX4_truck (wsV RX4 174 RX4 yX4_isPallet wsX4_isPallet) := goodIn_app (goodIn_of _ (by decide +kernel)) ggX4_truck_X4_isPallet
set_option maxRecDepth 20000 in
theorem ggX4_truck_X4_within : GoodIn wsX4_truck wsX4_within := goodIn_r _ [14] (by decide +kernel) (by decide +kernel)
set_option maxRecDepth 20000 in
theorem gX4_truck_X4_within : GoodIn wsX4_truck (va_wsS RX4 95 yX4_within wsX4_within) := goodIn_app (goodIn_of _ (by decide +kernel)) ggX4_truck_X4_within
theorem dX4_truck_0 : decode cX4_truck 0 = .ok (.aload_n 0, 1) := by decide +kernel
theorem dX4_truck_1 : decode cX4_truck 1 = .ok (.aload_n 0, 1) := by decide +kernel
theorem dX4_truck_2 : decode cX4_truck 2 = .ok (.iload_n 1, 1) := by decide +kernel
theorem dX4_truck_3 : decode cX4_truck 3 = .ok (.invokevirtual 174, 3) := by decide +kernel
theorem dX4_truck_6 : decode cX4_truck 6 = .ok (.ifCond .ne 7, 3) := by decide +kernel
theorem dX4_truck_9 : decode cX4_truck 9 = .ok (.iconst 1, 1) := by decide +kernel
theorem dX4_truck_10 : decode cX4_truck 10 = .ok (.goto 41, 3) := by decide +kernel
theorem dX4_truck_13 : decode cX4_truck 13 = .ok (.iload_n 2, 1) := by decide +kernel
theorem dX4_truck_14 : decode cX4_truck 14 = .ok (.iconst 0, 1) := by decide +kernel
theorem dX4_truck_15 : decode cX4_truck 15 = .ok (.bipush 9, 2) := by decide +kernel
theorem dX4_truck_17 : decode cX4_truck 17 = .ok (.invokestatic 95, 3) := by decide +kernel
theorem dX4_truck_20 : decode cX4_truck 20 = .ok (.ifCond .ne 7, 3) := by decide +kernel
theorem dX4_truck_23 : decode cX4_truck 23 = .ok (.iconst 2, 1) := by decide +kernel
theorem dX4_truck_24 : decode cX4_truck 24 = .ok (.goto 27, 3) := by decide +kernel
theorem dX4_truck_27 : decode cX4_truck 27 = .ok (.aload_n 0, 1) := by decide +kernel
theorem dX4_truck_28 : decode cX4_truck 28 = .ok (.getfield 58, 3) := by decide +kernel
theorem dX4_truck_31 : decode cX4_truck 31 = .ok (.iload_n 1, 1) := by decide +kernel
theorem dX4_truck_32 : decode cX4_truck 32 = .ok (.iaload, 1) := by decide +kernel
theorem dX4_truck_33 : decode cX4_truck 33 = .ok (.iconst (-1), 1) := by decide +kernel
theorem dX4_truck_34 : decode cX4_truck 34 = .ok (.if_icmp .ne 12, 3) := by decide +kernel
theorem dX4_truck_37 : decode cX4_truck 37 = .ok (.aload_n 0, 1) := by decide +kernel
theorem dX4_truck_38 : decode cX4_truck 38 = .ok (.getfield 49, 3) := by decide +kernel
theorem dX4_truck_41 : decode cX4_truck 41 = .ok (.iload_n 1, 1) := by decide +kernel
theorem dX4_truck_42 : decode cX4_truck 42 = .ok (.iaload, 1) := by decide +kernel
theorem dX4_truck_43 : decode cX4_truck 43 = .ok (.ifCond .ne 7, 3) := by decide +kernel
theorem dX4_truck_46 : decode cX4_truck 46 = .ok (.iconst 3, 1) := by decide +kernel
theorem dX4_truck_47 : decode cX4_truck 47 = .ok (.goto 4, 3) := by decide +kernel
theorem dX4_truck_50 : decode cX4_truck 50 = .ok (.iconst 0, 1) := by decide +kernel
theorem dX4_truck_51 : decode cX4_truck 51 = .ok (.putfield 89, 3) := by decide +kernel
theorem dX4_truck_54 : decode cX4_truck 54 = .ok (.iconst 0, 1) := by decide +kernel
theorem dX4_truck_55 : decode cX4_truck 55 = .ok (.istore_n 3, 1) := by decide +kernel
theorem dX4_truck_56 : decode cX4_truck 56 = .ok (.iload_n 3, 1) := by decide +kernel
theorem dX4_truck_57 : decode cX4_truck 57 = .ok (.aload_n 0, 1) := by decide +kernel
theorem dX4_truck_58 : decode cX4_truck 58 = .ok (.getfield 191, 3) := by decide +kernel
theorem dX4_truck_61 : decode cX4_truck 61 = .ok (.if_icmp .ge 36, 3) := by decide +kernel
theorem dX4_truck_64 : decode cX4_truck 64 = .ok (.aload_n 0, 1) := by decide +kernel
theorem dX4_truck_65 : decode cX4_truck 65 = .ok (.getfield 89, 3) := by decide +kernel
theorem dX4_truck_68 : decode cX4_truck 68 = .ok (.ifCond .ne 29, 3) := by decide +kernel
theorem dX4_truck_71 : decode cX4_truck 71 = .ok (.aload_n 0, 1) := by decide +kernel
theorem dX4_truck_72 : decode cX4_truck 72 = .ok (.getfield 58, 3) := by decide +kernel
theorem dX4_truck_75 : decode cX4_truck 75 = .ok (.aload_n 0, 1) := by decide +kernel
theorem dX4_truck_76 : decode cX4_truck 76 = .ok (.getfield 61, 3) := by decide +kernel
theorem dX4_truck_79 : decode cX4_truck 79 = .ok (.iload_n 3, 1) := by decide +kernel
theorem dX4_truck_80 : decode cX4_truck 80 = .ok (.iaload, 1) := by decide +kernel
theorem dX4_truck_81 : decode cX4_truck 81 = .ok (.iaload, 1) := by decide +kernel
theorem dX4_truck_82 : decode cX4_truck 82 = .ok (.iload_n 2, 1) := by decide +kernel
theorem dX4_truck_83 : decode cX4_truck 83 = .ok (.if_icmp .ge 8, 3) := by decide +kernel
theorem dX4_truck_86 : decode cX4_truck 86 = .ok (.aload_n 0, 1) := by decide +kernel
theorem dX4_truck_87 : decode cX4_truck 87 = .ok (.iconst 3, 1) := by decide +kernel
theorem dX4_truck_88 : decode cX4_truck 88 = .ok (.putfield 89, 3) := by decide +kernel
theorem dX4_truck_91 : decode cX4_truck 91 = .ok (.iinc 3 1, 3) := by decide +kernel
theorem dX4_truck_94 : decode cX4_truck 94 = .ok (.goto (-38), 3) := by decide +kernel
theorem dX4_truck_97 : decode cX4_truck 97 = .ok (.aload_n 0, 1) := by decide +kernel
theorem dX4_truck_98 : decode cX4_truck 98 = .ok (.getfield 89, 3) := by decide +kernel
theorem dX4_truck_101 : decode cX4_truck 101 = .ok (.ifCond .eq 5, 3) := by decide +kernel
theorem dX4_truck_104 : decode cX4_truck 104 = .ok (.iconst 0, 1) := by decide +kernel
theorem dX4_truck_105 : decode cX4_truck 105 = .ok (.ireturn, 1) := by decide +kernel
theorem dX4_truck_106 : decode cX4_truck 106 = .ok (.aload_n 0, 1) := by decide +kernel
theorem dX4_truck_107 : decode cX4_truck 107 = .ok (.getfield 58, 3) := by decide +kernel
theorem dX4_truck_110 : decode cX4_truck 110 = .ok (.iload_n 1, 1) := by decide +kernel
theorem dX4_truck_111 : decode cX4_truck 111 = .ok (.iload_n 2, 1) := by decide +kernel
theorem dX4_truck_112 : decode cX4_truck 112 = .ok (.iastore, 1) := by decide +kernel
theorem dX4_truck_113 : decode cX4_truck 113 = .ok (.aload_n 0, 1) := by decide +kernel
theorem dX4_truck_114 : decode cX4_truck 114 = .ok (.getfield 61, 3) := by decide +kernel
theorem dX4_truck_117 : decode cX4_truck 117 = .ok (.aload_n 0, 1) := by decide +kernel
theorem dX4_truck_118 : decode cX4_truck 118 = .ok (.getfield 191, 3) := by decide +kernel
theorem dX4_truck_121 : decode cX4_truck 121 = .ok (.iload_n 1, 1) := by decide +kernel
theorem dX4_truck_122 : decode cX4_truck 122 = .ok (.iastore, 1) := by decide +kernel
theorem dX4_truck_123 : decode cX4_truck 123 = .ok (.aload_n 0, 1) := by decide +kernel
theorem dX4_truck_124 : decode cX4_truck 124 = .ok (.dup, 1) := by decide +kernel
theorem dX4_truck_125 : decode cX4_truck 125 = .ok (.getfield 191, 3) := by decide +kernel
theorem dX4_truck_128 : decode cX4_truck 128 = .ok (.iconst 1, 1) := by decide +kernel
theorem dX4_truck_129 : decode cX4_truck 129 = .ok (.iadd, 1) := by decide +kernel
theorem dX4_truck_130 : decode cX4_truck 130 = .ok (.putfield 191, 3) := by decide +kernel
theorem dX4_truck_133 : decode cX4_truck 133 = .ok (.aload_n 0, 1) := by decide +kernel
theorem dX4_truck_134 : decode cX4_truck 134 = .ok (.getfield 191, 3) := by decide +kernel
theorem dX4_truck_137 : decode cX4_truck 137 = .ok (.ireturn, 1) := by decide +kernel
set_option maxRecDepth 20000 in
theorem ggX4_unload_X4_within : GoodIn wsX4_unload wsX4_within := goodIn_r _ [9] (by decide +kernel) (by decide +kernel)
set_option maxRecDepth 20000 in
theorem gX4_unload_X4_within : GoodIn wsX4_unload (va_wsS RX4 95 yX4_within wsX4_within) := goodIn_app (goodIn_of _ (by decide +kernel)) ggX4_unload_X4_within
theorem dX4_unload_0 : decode cX4_unload 0 = .ok (.aload_n 0, 1) := by decide +kernel
theorem dX4_unload_1 : decode cX4_unload 1 = .ok (.iload_n 1, 1) := by decide +kernel
theorem dX4_unload_2 : decode cX4_unload 2 = .ok (.iconst 0, 1) := by decide +kernel
theorem dX4_unload_3 : decode cX4_unload 3 = .ok (.bipush 9, 2) := by decide +kernel
theorem dX4_unload_5 : decode cX4_unload 5 = .ok (.invokestatic 95, 3) := by decide +kernel
theorem dX4_unload_8 : decode cX4_unload 8 = .ok (.ifCond .ne 7, 3) := by decide +kernel
theorem dX4_unload_11 : decode cX4_unload 11 = .ok (.iconst 1, 1) := by decide +kernel
theorem dX4_unload_12 : decode cX4_unload 12 = .ok (.goto 4, 3) := by decide +kernel
theorem dX4_unload_15 : decode cX4_unload 15 = .ok (.iconst 0, 1) := by decide +kernel
theorem dX4_unload_16 : decode cX4_unload 16 = .ok (.putfield 89, 3) := by decide +kernel
theorem dX4_unload_19 : decode cX4_unload 19 = .ok (.iconst 0, 1) := by decide +kernel
theorem dX4_unload_20 : decode cX4_unload 20 = .ok (.istore_n 2, 1) := by decide +kernel
theorem dX4_unload_21 : decode cX4_unload 21 = .ok (.iconst 0, 1) := by decide +kernel
theorem dX4_unload_22 : decode cX4_unload 22 = .ok (.istore_n 3, 1) := by decide +kernel
theorem dX4_unload_23 : decode cX4_unload 23 = .ok (.iload_n 3, 1) := by decide +kernel
theorem dX4_unload_24 : decode cX4_unload 24 = .ok (.aload_n 0, 1) := by decide +kernel
theorem dX4_unload_25 : decode cX4_unload 25 = .ok (.getfield 191, 3) := by decide +kernel
theorem dX4_unload_28 : decode cX4_unload 28 = .ok (.if_icmp .ge 67, 3) := by decide +kernel
theorem dX4_unload_31 : decode cX4_unload 31 = .ok (.aload_n 0, 1) := by decide +kernel
theorem dX4_unload_32 : decode cX4_unload 32 = .ok (.getfield 89, 3) := by decide +kernel
theorem dX4_unload_35 : decode cX4_unload 35 = .ok (.ifCond .ne 60, 3) := by decide +kernel
theorem dX4_unload_38 : decode cX4_unload 38 = .ok (.aload_n 0, 1) := by decide +kernel
theorem dX4_unload_39 : decode cX4_unload 39 = .ok (.getfield 58, 3) := by decide +kernel
theorem dX4_unload_42 : decode cX4_unload 42 = .ok (.aload_n 0, 1) := by decide +kernel
theorem dX4_unload_43 : decode cX4_unload 43 = .ok (.getfield 61, 3) := by decide +kernel
theorem dX4_unload_46 : decode cX4_unload 46 = .ok (.iload_n 3, 1) := by decide +kernel
theorem dX4_unload_47 : decode cX4_unload 47 = .ok (.iaload, 1) := by decide +kernel
theorem dX4_unload_48 : decode cX4_unload 48 = .ok (.iaload, 1) := by decide +kernel
theorem dX4_unload_49 : decode cX4_unload 49 = .ok (.iload_n 1, 1) := by decide +kernel
theorem dX4_unload_50 : decode cX4_unload 50 = .ok (.if_icmp .ne 7, 3) := by decide +kernel
theorem dX4_unload_53 : decode cX4_unload 53 = .ok (.iconst 1, 1) := by decide +kernel
theorem dX4_unload_54 : decode cX4_unload 54 = .ok (.goto 4, 3) := by decide +kernel
theorem dX4_unload_57 : decode cX4_unload 57 = .ok (.iconst 0, 1) := by decide +kernel
theorem dX4_unload_58 : decode cX4_unload 58 = .ok (.istore 4, 2) := by decide +kernel
theorem dX4_unload_60 : decode cX4_unload 60 = .ok (.iload_n 2, 1) := by decide +kernel
theorem dX4_unload_61 : decode cX4_unload 61 = .ok (.ifCond .eq 13, 3) := by decide +kernel
theorem dX4_unload_64 : decode cX4_unload 64 = .ok (.iload 4, 2) := by decide +kernel
theorem dX4_unload_66 : decode cX4_unload 66 = .ok (.ifCond .ne 8, 3) := by decide +kernel
theorem dX4_unload_69 : decode cX4_unload 69 = .ok (.aload_n 0, 1) := by decide +kernel
theorem dX4_unload_70 : decode cX4_unload 70 = .ok (.iconst 2, 1) := by decide +kernel
theorem dX4_unload_71 : decode cX4_unload 71 = .ok (.putfield 89, 3) := by decide +kernel
theorem dX4_unload_74 : decode cX4_unload 74 = .ok (.iload_n 2, 1) := by decide +kernel
theorem dX4_unload_75 : decode cX4_unload 75 = .ok (.ifCond .ne 8, 3) := by decide +kernel
theorem dX4_unload_78 : decode cX4_unload 78 = .ok (.iload 4, 2) := by decide +kernel
theorem dX4_unload_80 : decode cX4_unload 80 = .ok (.ifCond .eq 7, 3) := by decide +kernel
theorem dX4_unload_83 : decode cX4_unload 83 = .ok (.iconst 1, 1) := by decide +kernel
theorem dX4_unload_84 : decode cX4_unload 84 = .ok (.goto 4, 3) := by decide +kernel
theorem dX4_unload_87 : decode cX4_unload 87 = .ok (.iconst 0, 1) := by decide +kernel
theorem dX4_unload_88 : decode cX4_unload 88 = .ok (.istore_n 2, 1) := by decide +kernel
theorem dX4_unload_89 : decode cX4_unload 89 = .ok (.iinc 3 1, 3) := by decide +kernel
theorem dX4_unload_92 : decode cX4_unload 92 = .ok (.goto (-69), 3) := by decide +kernel
theorem dX4_unload_95 : decode cX4_unload 95 = .ok (.aload_n 0, 1) := by decide +kernel
theorem dX4_unload_96 : decode cX4_unload 96 = .ok (.getfield 89, 3) := by decide +kernel
theorem dX4_unload_99 : decode cX4_unload 99 = .ok (.ifCond .eq 5, 3) := by decide +kernel
theorem dX4_unload_102 : decode cX4_unload 102 = .ok (.iconst 0, 1) := by decide +kernel
theorem dX4_unload_103 : decode cX4_unload 103 = .ok (.ireturn, 1) := by decide +kernel
theorem dX4_unload_104 : decode cX4_unload 104 = .ok (.iconst 0, 1) := by decide +kernel
theorem dX4_unload_105 : decode cX4_unload 105 = .ok (.istore_n 3, 1) := by decide +kernel
theorem dX4_unload_106 : decode cX4_unload 106 = .ok (.aload_n 0, 1) := by decide +kernel
theorem dX4_unload_107 : decode cX4_unload 107 = .ok (.getfield 191, 3) := by decide +kernel
theorem dX4_unload_110 : decode cX4_unload 110 = .ok (.ifCond .le 69, 3) := by decide +kernel
theorem dX4_unload_113 : decode cX4_unload 113 = .ok (.aload_n 0, 1) := by decide +kernel
theorem dX4_unload_114 : decode cX4_unload 114 = .ok (.getfield 58, 3) := by decide +kernel
theorem dX4_unload_117 : decode cX4_unload 117 = .ok (.aload_n 0, 1) := by decide +kernel
theorem dX4_unload_118 : decode cX4_unload 118 = .ok (.getfield 61, 3) := by decide +kernel
theorem dX4_unload_121 : decode cX4_unload 121 = .ok (.aload_n 0, 1) := by decide +kernel
theorem dX4_unload_122 : decode cX4_unload 122 = .ok (.getfield 191, 3) := by decide +kernel
theorem dX4_unload_125 : decode cX4_unload 125 = .ok (.iconst 1, 1) := by decide +kernel
theorem dX4_unload_126 : decode cX4_unload 126 = .ok (.isub, 1) := by decide +kernel
theorem dX4_unload_127 : decode cX4_unload 127 = .ok (.iaload, 1) := by decide +kernel
theorem dX4_unload_128 : decode cX4_unload 128 = .ok (.iaload, 1) := by decide +kernel
theorem dX4_unload_129 : decode cX4_unload 129 = .ok (.iload_n 1, 1) := by decide +kernel
theorem dX4_unload_130 : decode cX4_unload 130 = .ok (.if_icmp .ne 49, 3) := by decide +kernel
theorem dX4_unload_133 : decode cX4_unload 133 = .ok (.aload_n 0, 1) := by decide +kernel
theorem dX4_unload_134 : decode cX4_unload 134 = .ok (.dup, 1) := by decide +kernel
theorem dX4_unload_135 : decode cX4_unload 135 = .ok (.getfield 191, 3) := by decide +kernel
theorem dX4_unload_138 : decode cX4_unload 138 = .ok (.iconst 1, 1) := by decide +kernel
theorem dX4_unload_139 : decode cX4_unload 139 = .ok (.isub, 1) := by decide +kernel
theorem dX4_unload_140 : decode cX4_unload 140 = .ok (.putfield 191, 3) := by decide +kernel
theorem dX4_unload_143 : decode cX4_unload 143 = .ok (.aload_n 0, 1) := by decide +kernel
theorem dX4_unload_144 : decode cX4_unload 144 = .ok (.getfield 58, 3) := by decide +kernel
theorem dX4_unload_147 : decode cX4_unload 147 = .ok (.aload_n 0, 1) := by decide +kernel
theorem dX4_unload_148 : decode cX4_unload 148 = .ok (.getfield 61, 3) := by decide +kernel
theorem dX4_unload_151 : decode cX4_unload 151 = .ok (.aload_n 0, 1) := by decide +kernel
theorem dX4_unload_152 : decode cX4_unload 152 = .ok (.getfield 191, 3) := by decide +kernel
theorem dX4_unload_155 : decode cX4_unload 155 = .ok (.iaload, 1) := by decide +kernel
theorem dX4_unload_156 : decode cX4_unload 156 = .ok (.iconst (-1), 1) := by decide +kernel
theorem dX4_unload_157 : decode cX4_unload 157 = .ok (.iastore, 1) := by decide +kernel
theorem dX4_unload_158 : decode cX4_unload 158 = .ok (.aload_n 0, 1) := by decide +kernel
theorem dX4_unload_159 : decode cX4_unload 159 = .ok (.getfield 49, 3) := by decide +kernel
theorem dX4_unload_162 : decode cX4_unload 162 = .ok (.aload_n 0, 1) := by decide +kernel
theorem dX4_unload_163 : decode cX4_unload 163 = .ok (.getfield 61, 3) := by decide +kernel
theorem dX4_unload_166 : decode cX4_unload 166 = .ok (.aload_n 0, 1) := by decide +kernel
theorem dX4_unload_167 : decode cX4_unload 167 = .ok (.getfield 191, 3) := by decide +kernel
theorem dX4_unload_170 : decode cX4_unload 170 = .ok (.iaload, 1) := by decide +kernel
theorem dX4_unload_171 : decode cX4_unload 171 = .ok (.iconst 0, 1) := by decide +kernel
theorem dX4_unload_172 : decode cX4_unload 172 = .ok (.iastore, 1) := by decide +kernel
theorem dX4_unload_173 : decode cX4_unload 173 = .ok (.iinc 3 1, 3) := by decide +kernel
theorem dX4_unload_176 : decode cX4_unload 176 = .ok (.goto (-70), 3) := by decide +kernel
theorem dX4_unload_179 : decode cX4_unload 179 = .ok (.iload_n 3, 1) := by decide +kernel
theorem dX4_unload_180 : decode cX4_unload 180 = .ok (.ireturn, 1) := by decide +kernel
set_option maxRecDepth 20000 in
theorem ggX4_order_X4_within : GoodIn wsX4_order wsX4_within := goodIn_r _ [7] (by decide +kernel) (by decide +kernel)
set_option maxRecDepth 20000 in
theorem gX4_order_X4_within : GoodIn wsX4_order (va_wsS RX4 95 yX4_within wsX4_within) := goodIn_app (goodIn_of _ (by decide +kernel)) ggX4_order_X4_within
theorem dX4_order_0 : decode cX4_order 0 = .ok (.aload_n 0, 1) := by decide +kernel
theorem dX4_order_1 : decode cX4_order 1 = .ok (.iload_n 1, 1) := by decide +kernel
theorem dX4_order_2 : decode cX4_order 2 = .ok (.iconst 0, 1) := by decide +kernel
theorem dX4_order_3 : decode cX4_order 3 = .ok (.aload_n 0, 1) := by decide +kernel
theorem dX4_order_4 : decode cX4_order 4 = .ok (.getfield 191, 3) := by decide +kernel
theorem dX4_order_7 : decode cX4_order 7 = .ok (.iconst 1, 1) := by decide +kernel
theorem dX4_order_8 : decode cX4_order 8 = .ok (.isub, 1) := by decide +kernel
theorem dX4_order_9 : decode cX4_order 9 = .ok (.invokestatic 95, 3) := by decide +kernel
theorem dX4_order_12 : decode cX4_order 12 = .ok (.ifCond .eq 7, 3) := by decide +kernel
theorem dX4_order_15 : decode cX4_order 15 = .ok (.iconst 0, 1) := by decide +kernel
theorem dX4_order_16 : decode cX4_order 16 = .ok (.goto 4, 3) := by decide +kernel
theorem dX4_order_19 : decode cX4_order 19 = .ok (.iconst 1, 1) := by decide +kernel
theorem dX4_order_20 : decode cX4_order 20 = .ok (.putfield 89, 3) := by decide +kernel
theorem dX4_order_23 : decode cX4_order 23 = .ok (.aload_n 0, 1) := by decide +kernel
theorem dX4_order_24 : decode cX4_order 24 = .ok (.getfield 89, 3) := by decide +kernel
theorem dX4_order_27 : decode cX4_order 27 = .ok (.ifCond .eq 7, 3) := by decide +kernel
theorem dX4_order_30 : decode cX4_order 30 = .ok (.iconst 0, 1) := by decide +kernel
theorem dX4_order_31 : decode cX4_order 31 = .ok (.goto 16, 3) := by decide +kernel
theorem dX4_order_34 : decode cX4_order 34 = .ok (.aload_n 0, 1) := by decide +kernel
theorem dX4_order_35 : decode cX4_order 35 = .ok (.getfield 61, 3) := by decide +kernel
theorem dX4_order_38 : decode cX4_order 38 = .ok (.aload_n 0, 1) := by decide +kernel
theorem dX4_order_39 : decode cX4_order 39 = .ok (.getfield 191, 3) := by decide +kernel
theorem dX4_order_42 : decode cX4_order 42 = .ok (.iconst 1, 1) := by decide +kernel
theorem dX4_order_43 : decode cX4_order 43 = .ok (.isub, 1) := by decide +kernel
theorem dX4_order_44 : decode cX4_order 44 = .ok (.iload_n 1, 1) := by decide +kernel
theorem dX4_order_45 : decode cX4_order 45 = .ok (.isub, 1) := by decide +kernel
theorem dX4_order_46 : decode cX4_order 46 = .ok (.iaload, 1) := by decide +kernel
theorem dX4_order_47 : decode cX4_order 47 = .ok (.ireturn, 1) := by decide +kernel
set_option maxRecDepth 20000 in
theorem ggX4_count__X4_boxesOn : GoodIn wsX4_count_ wsX4_boxesOn := goodIn_ca (goodIn_r _ [11, 12, 13, 14, 15, 16, 17, 18, 19, 20, 21, 22, 23, 24, 25, 26, 27, 28, 29, 30, 31, 32, 33, 34, 35, 36, 37, 38, 39, 40, 41, 42, 43, 44, 45, 46] (by decide +kernel) (by decide +kernel)) (goodIn_sub (fun _ h => List.mem_cons_of_mem _ (List.mem_append_right _ h)) (by decide +kernel))
set_option maxRecDepth 20000 in
theorem gX4_count__X4_boxesOn : GoodIn wsX4_count_ (wsV RX4 188 RX4 yX4_boxesOn wsX4_boxesOn) := goodIn_app (goodIn_of _ (by decide +kernel)) ggX4_count__X4_boxesOn
theorem dX4_count__0 : decode cX4_count_ 0 = .ok (.aload_n 0, 1) := by decide +kernel
theorem dX4_count__1 : decode cX4_count_ 1 = .ok (.iconst 0, 1) := by decide +kernel
theorem dX4_count__2 : decode cX4_count_ 2 = .ok (.putfield 89, 3) := by decide +kernel
theorem dX4_count__5 : decode cX4_count_ 5 = .ok (.iconst 0, 1) := by decide +kernel
theorem dX4_count__6 : decode cX4_count_ 6 = .ok (.istore_n 2, 1) := by decide +kernel
theorem dX4_count__7 : decode cX4_count_ 7 = .ok (.iload_n 1, 1) := by decide +kernel
theorem dX4_count__8 : decode cX4_count_ 8 = .ok (.tableswitch 122 0 5 #[40, 45, 50, 55, 81, 117], 40) := by decide +kernel
theorem dX4_count__48 : decode cX4_count_ 48 = .ok (.aload_n 0, 1) := by decide +kernel
theorem dX4_count__49 : decode cX4_count_ 49 = .ok (.getfield 92, 3) := by decide +kernel
theorem dX4_count__52 : decode cX4_count_ 52 = .ok (.ireturn, 1) := by decide +kernel
theorem dX4_count__53 : decode cX4_count_ 53 = .ok (.aload_n 0, 1) := by decide +kernel
theorem dX4_count__54 : decode cX4_count_ 54 = .ok (.getfield 99, 3) := by decide +kernel
theorem dX4_count__57 : decode cX4_count_ 57 = .ok (.ireturn, 1) := by decide +kernel
theorem dX4_count__58 : decode cX4_count_ 58 = .ok (.aload_n 0, 1) := by decide +kernel
theorem dX4_count__59 : decode cX4_count_ 59 = .ok (.getfield 191, 3) := by decide +kernel
theorem dX4_count__62 : decode cX4_count_ 62 = .ok (.ireturn, 1) := by decide +kernel
theorem dX4_count__63 : decode cX4_count_ 63 = .ok (.iconst 0, 1) := by decide +kernel
theorem dX4_count__64 : decode cX4_count_ 64 = .ok (.istore_n 3, 1) := by decide +kernel
theorem dX4_count__65 : decode cX4_count_ 65 = .ok (.iload_n 3, 1) := by decide +kernel
theorem dX4_count__66 : decode cX4_count_ 66 = .ok (.aload_n 0, 1) := by decide +kernel
theorem dX4_count__67 : decode cX4_count_ 67 = .ok (.getfield 99, 3) := by decide +kernel
theorem dX4_count__70 : decode cX4_count_ 70 = .ok (.if_icmp .ge 17, 3) := by decide +kernel
theorem dX4_count__73 : decode cX4_count_ 73 = .ok (.iload_n 2, 1) := by decide +kernel
theorem dX4_count__74 : decode cX4_count_ 74 = .ok (.aload_n 0, 1) := by decide +kernel
theorem dX4_count__75 : decode cX4_count_ 75 = .ok (.iload_n 3, 1) := by decide +kernel
theorem dX4_count__76 : decode cX4_count_ 76 = .ok (.invokevirtual 188, 3) := by decide +kernel
theorem dX4_count__79 : decode cX4_count_ 79 = .ok (.iadd, 1) := by decide +kernel
theorem dX4_count__80 : decode cX4_count_ 80 = .ok (.istore_n 2, 1) := by decide +kernel
theorem dX4_count__81 : decode cX4_count_ 81 = .ok (.iinc 3 1, 3) := by decide +kernel
theorem dX4_count__84 : decode cX4_count_ 84 = .ok (.goto (-19), 3) := by decide +kernel
theorem dX4_count__87 : decode cX4_count_ 87 = .ok (.iload_n 2, 1) := by decide +kernel
theorem dX4_count__88 : decode cX4_count_ 88 = .ok (.ireturn, 1) := by decide +kernel
theorem dX4_count__89 : decode cX4_count_ 89 = .ok (.iconst 0, 1) := by decide +kernel
theorem dX4_count__90 : decode cX4_count_ 90 = .ok (.istore_n 3, 1) := by decide +kernel
theorem dX4_count__91 : decode cX4_count_ 91 = .ok (.iload_n 3, 1) := by decide +kernel
theorem dX4_count__92 : decode cX4_count_ 92 = .ok (.aload_n 0, 1) := by decide +kernel
theorem dX4_count__93 : decode cX4_count_ 93 = .ok (.getfield 99, 3) := by decide +kernel
theorem dX4_count__96 : decode cX4_count_ 96 = .ok (.if_icmp .ge 27, 3) := by decide +kernel
theorem dX4_count__99 : decode cX4_count_ 99 = .ok (.aload_n 0, 1) := by decide +kernel
theorem dX4_count__100 : decode cX4_count_ 100 = .ok (.getfield 58, 3) := by decide +kernel
theorem dX4_count__103 : decode cX4_count_ 103 = .ok (.iload_n 3, 1) := by decide +kernel
theorem dX4_count__104 : decode cX4_count_ 104 = .ok (.iaload, 1) := by decide +kernel
theorem dX4_count__105 : decode cX4_count_ 105 = .ok (.iconst (-1), 1) := by decide +kernel
theorem dX4_count__106 : decode cX4_count_ 106 = .ok (.if_icmp .eq 11, 3) := by decide +kernel
theorem dX4_count__109 : decode cX4_count_ 109 = .ok (.iload_n 2, 1) := by decide +kernel
theorem dX4_count__110 : decode cX4_count_ 110 = .ok (.aload_n 0, 1) := by decide +kernel
theorem dX4_count__111 : decode cX4_count_ 111 = .ok (.iload_n 3, 1) := by decide +kernel
theorem dX4_count__112 : decode cX4_count_ 112 = .ok (.invokevirtual 188, 3) := by decide +kernel
theorem dX4_count__115 : decode cX4_count_ 115 = .ok (.iadd, 1) := by decide +kernel
theorem dX4_count__116 : decode cX4_count_ 116 = .ok (.istore_n 2, 1) := by decide +kernel
theorem dX4_count__117 : decode cX4_count_ 117 = .ok (.iinc 3 1, 3) := by decide +kernel
theorem dX4_count__120 : decode cX4_count_ 120 = .ok (.goto (-29), 3) := by decide +kernel
theorem dX4_count__123 : decode cX4_count_ 123 = .ok (.iload_n 2, 1) := by decide +kernel
theorem dX4_count__124 : decode cX4_count_ 124 = .ok (.ireturn, 1) := by decide +kernel
theorem dX4_count__125 : decode cX4_count_ 125 = .ok (.aload_n 0, 1) := by decide +kernel
theorem dX4_count__126 : decode cX4_count_ 126 = .ok (.getfield 128, 3) := by decide +kernel
theorem dX4_count__129 : decode cX4_count_ 129 = .ok (.ireturn, 1) := by decide +kernel
theorem dX4_count__130 : decode cX4_count_ 130 = .ok (.iconst (-1), 1) := by decide +kernel
theorem dX4_count__131 : decode cX4_count_ 131 = .ok (.ireturn, 1) := by decide +kernel
theorem dJx00060_init_a7421_0 : decode cJx00060_init_a7421 0 = .ok (.aload_n 0, 1) := by decide +kernel
theorem dJx00060_init_a7421_1 : decode cJx00060_init_a7421 1 = .ok (.aload_n 1, 1) := by decide +kernel
theorem dJx00060_init_a7421_2 : decode cJx00060_init_a7421 2 = .ok (.invokespecial 7, 3) := by decide +kernel
theorem dJx00060_init_a7421_5 : decode cJx00060_init_a7421 5 = .ok (.return_, 1) := by decide +kernel
theorem dJ13_bitCount_95d88_0 : decode cJ13_bitCount_95d88 0 = .ok (.lload_n 0, 1) := by decide +kernel
theorem dJ13_bitCount_95d88_1 : decode cJ13_bitCount_95d88 1 = .ok (.lload_n 0, 1) := by decide +kernel
theorem dJ13_bitCount_95d88_2 : decode cJ13_bitCount_95d88 2 = .ok (.iconst 1, 1) := by decide +kernel
theorem dJ13_bitCount_95d88_3 : decode cJ13_bitCount_95d88 3 = .ok (.lushr, 1) := by decide +kernel
theorem dJ13_bitCount_95d88_4 : decode cJ13_bitCount_95d88 4 = .ok (.ldc2_w 314, 3) := by decide +kernel
theorem dJ13_bitCount_95d88_7 : decode cJ13_bitCount_95d88 7 = .ok (.land, 1) := by decide +kernel
theorem dJ13_bitCount_95d88_8 : decode cJ13_bitCount_95d88 8 = .ok (.lsub, 1) := by decide +kernel
theorem dJ13_bitCount_95d88_9 : decode cJ13_bitCount_95d88 9 = .ok (.lstore_n 0, 1) := by decide +kernel
theorem dJ13_bitCount_95d88_10 : decode cJ13_bitCount_95d88 10 = .ok (.lload_n 0, 1) := by decide +kernel
theorem dJ13_bitCount_95d88_11 : decode cJ13_bitCount_95d88 11 = .ok (.ldc2_w 316, 3) := by decide +kernel
theorem dJ13_bitCount_95d88_14 : decode cJ13_bitCount_95d88 14 = .ok (.land, 1) := by decide +kernel
theorem dJ13_bitCount_95d88_15 : decode cJ13_bitCount_95d88 15 = .ok (.lload_n 0, 1) := by decide +kernel
theorem dJ13_bitCount_95d88_16 : decode cJ13_bitCount_95d88 16 = .ok (.iconst 2, 1) := by decide +kernel
theorem dJ13_bitCount_95d88_17 : decode cJ13_bitCount_95d88 17 = .ok (.lushr, 1) := by decide +kernel
theorem dJ13_bitCount_95d88_18 : decode cJ13_bitCount_95d88 18 = .ok (.ldc2_w 316, 3) := by decide +kernel
theorem dJ13_bitCount_95d88_21 : decode cJ13_bitCount_95d88 21 = .ok (.land, 1) := by decide +kernel
theorem dJ13_bitCount_95d88_22 : decode cJ13_bitCount_95d88 22 = .ok (.ladd, 1) := by decide +kernel
theorem dJ13_bitCount_95d88_23 : decode cJ13_bitCount_95d88 23 = .ok (.lstore_n 0, 1) := by decide +kernel
theorem dJ13_bitCount_95d88_24 : decode cJ13_bitCount_95d88 24 = .ok (.lload_n 0, 1) := by decide +kernel
theorem dJ13_bitCount_95d88_25 : decode cJ13_bitCount_95d88 25 = .ok (.lload_n 0, 1) := by decide +kernel
theorem dJ13_bitCount_95d88_26 : decode cJ13_bitCount_95d88 26 = .ok (.iconst 4, 1) := by decide +kernel
theorem dJ13_bitCount_95d88_27 : decode cJ13_bitCount_95d88 27 = .ok (.lushr, 1) := by decide +kernel
theorem dJ13_bitCount_95d88_28 : decode cJ13_bitCount_95d88 28 = .ok (.ladd, 1) := by decide +kernel
theorem dJ13_bitCount_95d88_29 : decode cJ13_bitCount_95d88 29 = .ok (.ldc2_w 318, 3) := by decide +kernel
theorem dJ13_bitCount_95d88_32 : decode cJ13_bitCount_95d88 32 = .ok (.land, 1) := by decide +kernel
theorem dJ13_bitCount_95d88_33 : decode cJ13_bitCount_95d88 33 = .ok (.lstore_n 0, 1) := by decide +kernel
theorem dJ13_bitCount_95d88_34 : decode cJ13_bitCount_95d88 34 = .ok (.lload_n 0, 1) := by decide +kernel
theorem dJ13_bitCount_95d88_35 : decode cJ13_bitCount_95d88 35 = .ok (.lload_n 0, 1) := by decide +kernel
theorem dJ13_bitCount_95d88_36 : decode cJ13_bitCount_95d88 36 = .ok (.bipush 8, 2) := by decide +kernel
theorem dJ13_bitCount_95d88_38 : decode cJ13_bitCount_95d88 38 = .ok (.lushr, 1) := by decide +kernel
theorem dJ13_bitCount_95d88_39 : decode cJ13_bitCount_95d88 39 = .ok (.ladd, 1) := by decide +kernel
theorem dJ13_bitCount_95d88_40 : decode cJ13_bitCount_95d88 40 = .ok (.lstore_n 0, 1) := by decide +kernel
theorem dJ13_bitCount_95d88_41 : decode cJ13_bitCount_95d88 41 = .ok (.lload_n 0, 1) := by decide +kernel
theorem dJ13_bitCount_95d88_42 : decode cJ13_bitCount_95d88 42 = .ok (.lload_n 0, 1) := by decide +kernel
theorem dJ13_bitCount_95d88_43 : decode cJ13_bitCount_95d88 43 = .ok (.bipush 16, 2) := by decide +kernel
theorem dJ13_bitCount_95d88_45 : decode cJ13_bitCount_95d88 45 = .ok (.lushr, 1) := by decide +kernel
theorem dJ13_bitCount_95d88_46 : decode cJ13_bitCount_95d88 46 = .ok (.ladd, 1) := by decide +kernel
theorem dJ13_bitCount_95d88_47 : decode cJ13_bitCount_95d88 47 = .ok (.lstore_n 0, 1) := by decide +kernel
theorem dJ13_bitCount_95d88_48 : decode cJ13_bitCount_95d88 48 = .ok (.lload_n 0, 1) := by decide +kernel
theorem dJ13_bitCount_95d88_49 : decode cJ13_bitCount_95d88 49 = .ok (.lload_n 0, 1) := by decide +kernel
theorem dJ13_bitCount_95d88_50 : decode cJ13_bitCount_95d88 50 = .ok (.bipush 32, 2) := by decide +kernel
theorem dJ13_bitCount_95d88_52 : decode cJ13_bitCount_95d88 52 = .ok (.lushr, 1) := by decide +kernel
theorem dJ13_bitCount_95d88_53 : decode cJ13_bitCount_95d88 53 = .ok (.ladd, 1) := by decide +kernel
theorem dJ13_bitCount_95d88_54 : decode cJ13_bitCount_95d88 54 = .ok (.lstore_n 0, 1) := by decide +kernel
theorem dJ13_bitCount_95d88_55 : decode cJ13_bitCount_95d88 55 = .ok (.lload_n 0, 1) := by decide +kernel
theorem dJ13_bitCount_95d88_56 : decode cJ13_bitCount_95d88 56 = .ok (.l2i, 1) := by decide +kernel
theorem dJ13_bitCount_95d88_57 : decode cJ13_bitCount_95d88 57 = .ok (.bipush 127, 2) := by decide +kernel
theorem dJ13_bitCount_95d88_59 : decode cJ13_bitCount_95d88 59 = .ok (.iand, 1) := by decide +kernel
theorem dJ13_bitCount_95d88_60 : decode cJ13_bitCount_95d88 60 = .ok (.ireturn, 1) := by decide +kernel
theorem dJ9_max_7cf53_0 : decode cJ9_max_7cf53 0 = .ok (.iload_n 0, 1) := by decide +kernel
theorem dJ9_max_7cf53_1 : decode cJ9_max_7cf53 1 = .ok (.iload_n 1, 1) := by decide +kernel
theorem dJ9_max_7cf53_2 : decode cJ9_max_7cf53 2 = .ok (.if_icmp .lt 7, 3) := by decide +kernel
theorem dJ9_max_7cf53_5 : decode cJ9_max_7cf53 5 = .ok (.iload_n 0, 1) := by decide +kernel
theorem dJ9_max_7cf53_6 : decode cJ9_max_7cf53 6 = .ok (.goto 4, 3) := by decide +kernel
theorem dJ9_max_7cf53_9 : decode cJ9_max_7cf53 9 = .ok (.iload_n 1, 1) := by decide +kernel
theorem dJ9_max_7cf53_10 : decode cJ9_max_7cf53 10 = .ok (.ireturn, 1) := by decide +kernel
theorem dJ9_min_7cf53_0 : decode cJ9_min_7cf53 0 = .ok (.iload_n 0, 1) := by decide +kernel
theorem dJ9_min_7cf53_1 : decode cJ9_min_7cf53 1 = .ok (.iload_n 1, 1) := by decide +kernel
theorem dJ9_min_7cf53_2 : decode cJ9_min_7cf53 2 = .ok (.if_icmp .gt 7, 3) := by decide +kernel
theorem dJ9_min_7cf53_5 : decode cJ9_min_7cf53 5 = .ok (.iload_n 0, 1) := by decide +kernel
theorem dJ9_min_7cf53_6 : decode cJ9_min_7cf53 6 = .ok (.goto 4, 3) := by decide +kernel
theorem dJ9_min_7cf53_9 : decode cJ9_min_7cf53 9 = .ok (.iload_n 1, 1) := by decide +kernel
theorem dJ9_min_7cf53_10 : decode cJ9_min_7cf53 10 = .ok (.ireturn, 1) := by decide +kernel
theorem dL_cell_0 : decode cL_cell 0 = .ok (.iload_n 1, 1) := by decide +kernel
theorem dL_cell_1 : decode cL_cell 1 = .ok (.aload_n 0, 1) := by decide +kernel
theorem dL_cell_2 : decode cL_cell 2 = .ok (.arraylength, 1) := by decide +kernel
theorem dL_cell_3 : decode cL_cell 3 = .ok (.if_icmp .ge 9, 3) := by decide +kernel
theorem dL_cell_6 : decode cL_cell 6 = .ok (.aload_n 0, 1) := by decide +kernel
theorem dL_cell_7 : decode cL_cell 7 = .ok (.iload_n 1, 1) := by decide +kernel
theorem dL_cell_8 : decode cL_cell 8 = .ok (.iaload, 1) := by decide +kernel
theorem dL_cell_9 : decode cL_cell 9 = .ok (.goto 4, 3) := by decide +kernel
theorem dL_cell_12 : decode cL_cell 12 = .ok (.iconst 0, 1) := by decide +kernel
theorem dL_cell_13 : decode cL_cell 13 = .ok (.ireturn, 1) := by decide +kernel
set_option maxRecDepth 20000 in
theorem ggL_kind_X3_kind : GoodIn wsL_kind wsX3_kind := goodIn_ca (goodIn_ca (goodIn_r _ [7, 8, 9, 10, 11, 12, 13, 14, 15, 16, 17, 18, 19, 6, 20, 21, 22, 23, 24, 25, 26, 27, 28, 29, 30, 31, 32, 33, 34, 35, 36, 37, 38, 39, 40, 41, 42, 43, 44, 45, 46, 47, 48, 49, 50, 51, 52, 53, 54, 55, 56, 57, 58, 59, 60, 61, 62, 63, 64] (by decide +kernel) (by decide +kernel)) (goodIn_sub (fun _ h => List.mem_cons_of_mem _ (List.mem_append_left _ (List.mem_append_right _ h))) (by decide +kernel))) (goodIn_sub (fun _ h => List.mem_cons_of_mem _ (List.mem_append_right _ h)) (by decide +kernel))
set_option maxRecDepth 20000 in
theorem gL_kind_X3_kind : GoodIn wsL_kind (wsV RL 7 RX3 yX3_kind wsX3_kind) := goodIn_app (goodIn_of _ (by decide +kernel)) ggL_kind_X3_kind
theorem dL_kind_0 : decode cL_kind 0 = .ok (.aload 5, 2) := by decide +kernel
theorem dL_kind_2 : decode cL_kind 2 = .ok (.iconst 0, 1) := by decide +kernel
theorem dL_kind_3 : decode cL_kind 3 = .ok (.aload_n 0, 1) := by decide +kernel
theorem dL_kind_4 : decode cL_kind 4 = .ok (.iload_n 1, 1) := by decide +kernel
theorem dL_kind_5 : decode cL_kind 5 = .ok (.iload_n 2, 1) := by decide +kernel
theorem dL_kind_6 : decode cL_kind 6 = .ok (.iload_n 3, 1) := by decide +kernel
theorem dL_kind_7 : decode cL_kind 7 = .ok (.iload 4, 2) := by decide +kernel
theorem dL_kind_9 : decode cL_kind 9 = .ok (.invokevirtual 7, 3) := by decide +kernel
theorem dL_kind_12 : decode cL_kind 12 = .ok (.i2l, 1) := by decide +kernel
theorem dL_kind_13 : decode cL_kind 13 = .ok (.lastore, 1) := by decide +kernel
theorem dL_kind_14 : decode cL_kind 14 = .ok (.goto 11, 3) := by decide +kernel
theorem dL_kind_17 : decode cL_kind 17 = .ok (.astore 6, 2) := by decide +kernel
theorem dL_kind_19 : decode cL_kind 19 = .ok (.iconst 1, 1) := by decide +kernel
theorem dL_kind_20 : decode cL_kind 20 = .ok (.ireturn, 1) := by decide +kernel
theorem dL_kind_21 : decode cL_kind 21 = .ok (.astore 6, 2) := by decide +kernel
theorem dL_kind_23 : decode cL_kind 23 = .ok (.iconst 2, 1) := by decide +kernel
theorem dL_kind_24 : decode cL_kind 24 = .ok (.ireturn, 1) := by decide +kernel
theorem dL_kind_25 : decode cL_kind 25 = .ok (.iconst 0, 1) := by decide +kernel
theorem dL_kind_26 : decode cL_kind 26 = .ok (.ireturn, 1) := by decide +kernel
set_option maxRecDepth 20000 in
theorem ggL_search_X3_search : GoodIn wsL_search wsX3_search := goodIn_ca (goodIn_ca (goodIn_ca (goodIn_ca (goodIn_r _ [8, 9, 10, 11, 12, 13, 14, 15, 16, 17, 7, 18, 19, 20, 21, 22, 23, 24, 25, 26, 27, 28, 29, 30, 31, 32, 33, 34, 35, 36, 37, 38, 39, 40, 41, 42, 43, 44, 45, 46, 47, 48, 49, 50, 51, 52, 53, 54, 55, 56, 57, 58, 59, 60, 61, 62, 63, 64, 65, 66, 67, 68, 69, 70, 71, 72, 73, 74, 75, 76, 77, 78, 79, 80, 81, 82, 83, 84, 85, 86, 87, 88, 89, 90, 91, 92, 93, 94, 95, 96, 97, 98, 99, 100, 101, 102, 103, 104, 105, 106, 107, 108, 109, 110, 111, 112, 113, 114, 115, 116, 117, 118, 119, 120, 121, 122, 123, 124, 125, 126, 127, 128, 129, 130, 131, 132, 133, 134, 135, 136, 137, 138, 139, 140, 141, 142, 143, 144, 145, 146, 147, 148, 149, 150, 151, 152, 153, 154, 155] (by decide +kernel) (by decide +kernel)) (goodIn_sub (fun _ h => List.mem_cons_of_mem _ (List.mem_append_left _ (List.mem_append_left _ (List.mem_append_right _ h)))) (by decide +kernel))) (goodIn_sub (fun _ h => List.mem_cons_of_mem _ (List.mem_append_left _ (List.mem_append_right _ h))) (by decide +kernel))) (goodIn_sub (fun _ h => List.mem_cons_of_mem _ (List.mem_append_right _ h)) (by decide +kernel))) (goodIn_sub (fun _ h => List.mem_cons_of_mem _ (List.mem_append_left _ (List.mem_append_left _ (List.mem_append_left _ (List.mem_append_right _ h))))) (by decide +kernel))
set_option maxRecDepth 20000 in
theorem gL_search_X3_search : GoodIn wsL_search (wsV RL 17 RX3 yX3_search wsX3_search) := goodIn_app (goodIn_of _ (by decide +kernel)) ggL_search_X3_search
theorem dL_search_0 : decode cL_search 0 = .ok (.aload_n 3, 1) := by decide +kernel
theorem dL_search_1 : decode cL_search 1 = .ok (.iconst 0, 1) := by decide +kernel
theorem dL_search_2 : decode cL_search 2 = .ok (.aload_n 0, 1) := by decide +kernel
theorem dL_search_3 : decode cL_search 3 = .ok (.iload_n 1, 1) := by decide +kernel
theorem dL_search_4 : decode cL_search 4 = .ok (.iload_n 2, 1) := by decide +kernel
theorem dL_search_5 : decode cL_search 5 = .ok (.invokevirtual 17, 3) := by decide +kernel
theorem dL_search_8 : decode cL_search 8 = .ok (.i2l, 1) := by decide +kernel
theorem dL_search_9 : decode cL_search 9 = .ok (.lastore, 1) := by decide +kernel
theorem dL_search_10 : decode cL_search 10 = .ok (.goto 15, 3) := by decide +kernel
theorem dL_search_13 : decode cL_search 13 = .ok (.astore 4, 2) := by decide +kernel
theorem dL_search_15 : decode cL_search 15 = .ok (.iconst 1, 1) := by decide +kernel
theorem dL_search_16 : decode cL_search 16 = .ok (.ireturn, 1) := by decide +kernel
theorem dL_search_17 : decode cL_search 17 = .ok (.astore 4, 2) := by decide +kernel
theorem dL_search_19 : decode cL_search 19 = .ok (.iconst 2, 1) := by decide +kernel
theorem dL_search_20 : decode cL_search 20 = .ok (.ireturn, 1) := by decide +kernel
theorem dL_search_21 : decode cL_search 21 = .ok (.astore 4, 2) := by decide +kernel
theorem dL_search_23 : decode cL_search 23 = .ok (.iconst 3, 1) := by decide +kernel
theorem dL_search_24 : decode cL_search 24 = .ok (.ireturn, 1) := by decide +kernel
theorem dL_search_25 : decode cL_search 25 = .ok (.iconst 0, 1) := by decide +kernel
theorem dL_search_26 : decode cL_search 26 = .ok (.ireturn, 1) := by decide +kernel
set_option maxRecDepth 20000 in
theorem ggL_pattern_X3_pattern : GoodIn wsL_pattern wsX3_pattern := goodIn_ca (goodIn_ca (goodIn_ca (goodIn_r _ [8, 9, 10, 11, 12, 13, 14, 15, 16, 17, 18, 19, 20, 7, 21, 22, 23, 24, 25, 26, 27, 28, 29, 30, 31, 32, 33, 34, 35, 36, 37, 38, 39, 40, 41, 42, 43, 44, 45, 46, 47, 48, 49, 50, 51, 52, 53, 54, 55, 56] (by decide +kernel) (by decide +kernel)) (goodIn_sub (fun _ h => List.mem_cons_of_mem _ (List.mem_append_left _ (List.mem_append_right _ h))) (by decide +kernel))) (goodIn_sub (fun _ h => List.mem_cons_of_mem _ (List.mem_append_left _ (List.mem_append_left _ (List.mem_append_right _ h)))) (by decide +kernel))) (goodIn_sub (fun _ h => List.mem_cons_of_mem _ (List.mem_append_right _ h)) (by decide +kernel))
set_option maxRecDepth 20000 in
theorem gL_pattern_X3_pattern : GoodIn wsL_pattern (wsV RL 25 RX3 yX3_pattern wsX3_pattern) := goodIn_app (goodIn_of _ (by decide +kernel)) ggL_pattern_X3_pattern
theorem dL_pattern_0 : decode cL_pattern 0 = .ok (.aload 4, 2) := by decide +kernel
theorem dL_pattern_2 : decode cL_pattern 2 = .ok (.iconst 0, 1) := by decide +kernel
theorem dL_pattern_3 : decode cL_pattern 3 = .ok (.aload_n 0, 1) := by decide +kernel
theorem dL_pattern_4 : decode cL_pattern 4 = .ok (.iload_n 1, 1) := by decide +kernel
theorem dL_pattern_5 : decode cL_pattern 5 = .ok (.iload_n 2, 1) := by decide +kernel
theorem dL_pattern_6 : decode cL_pattern 6 = .ok (.iload_n 3, 1) := by decide +kernel
theorem dL_pattern_7 : decode cL_pattern 7 = .ok (.invokevirtual 25, 3) := by decide +kernel
theorem dL_pattern_10 : decode cL_pattern 10 = .ok (.i2l, 1) := by decide +kernel
theorem dL_pattern_11 : decode cL_pattern 11 = .ok (.lastore, 1) := by decide +kernel
theorem dL_pattern_12 : decode cL_pattern 12 = .ok (.goto 15, 3) := by decide +kernel
theorem dL_pattern_15 : decode cL_pattern 15 = .ok (.astore 5, 2) := by decide +kernel
theorem dL_pattern_17 : decode cL_pattern 17 = .ok (.iconst 1, 1) := by decide +kernel
theorem dL_pattern_18 : decode cL_pattern 18 = .ok (.ireturn, 1) := by decide +kernel
theorem dL_pattern_19 : decode cL_pattern 19 = .ok (.astore 5, 2) := by decide +kernel
theorem dL_pattern_21 : decode cL_pattern 21 = .ok (.iconst 2, 1) := by decide +kernel
theorem dL_pattern_22 : decode cL_pattern 22 = .ok (.ireturn, 1) := by decide +kernel
theorem dL_pattern_23 : decode cL_pattern 23 = .ok (.astore 5, 2) := by decide +kernel
theorem dL_pattern_25 : decode cL_pattern 25 = .ok (.iconst 3, 1) := by decide +kernel
theorem dL_pattern_26 : decode cL_pattern 26 = .ok (.ireturn, 1) := by decide +kernel
theorem dL_pattern_27 : decode cL_pattern 27 = .ok (.iconst 0, 1) := by decide +kernel
theorem dL_pattern_28 : decode cL_pattern 28 = .ok (.ireturn, 1) := by decide +kernel
set_option maxRecDepth 20000 in
theorem ggL_exact_X3_exact : GoodIn wsL_exact wsX3_exact := goodIn_ca (goodIn_r _ [6, 7, 8, 9, 10, 5, 11, 12, 13, 14, 15, 16, 17, 18, 19, 20, 21, 22, 23, 24, 25, 26, 27, 28, 29, 30, 31, 32, 33, 34, 35, 36, 37, 38, 39, 40] (by decide +kernel) (by decide +kernel)) (goodIn_sub (fun _ h => List.mem_cons_of_mem _ (List.mem_append_right _ h)) (by decide +kernel))
set_option maxRecDepth 20000 in
theorem gL_exact_X3_exact : GoodIn wsL_exact (wsV RL 31 RX3 yX3_exact wsX3_exact) := goodIn_app (goodIn_of _ (by decide +kernel)) ggL_exact_X3_exact
theorem dL_exact_0 : decode cL_exact 0 = .ok (.aload_n 2, 1) := by decide +kernel
theorem dL_exact_1 : decode cL_exact 1 = .ok (.iconst 0, 1) := by decide +kernel
theorem dL_exact_2 : decode cL_exact 2 = .ok (.aload_n 0, 1) := by decide +kernel
theorem dL_exact_3 : decode cL_exact 3 = .ok (.iload_n 1, 1) := by decide +kernel
theorem dL_exact_4 : decode cL_exact 4 = .ok (.invokevirtual 31, 3) := by decide +kernel
theorem dL_exact_7 : decode cL_exact 7 = .ok (.ifCond .eq 7, 3) := by decide +kernel
theorem dL_exact_10 : decode cL_exact 10 = .ok (.lconst 1, 1) := by decide +kernel
theorem dL_exact_11 : decode cL_exact 11 = .ok (.goto 4, 3) := by decide +kernel
theorem dL_exact_14 : decode cL_exact 14 = .ok (.lconst 0, 1) := by decide +kernel
theorem dL_exact_15 : decode cL_exact 15 = .ok (.lastore, 1) := by decide +kernel
theorem dL_exact_16 : decode cL_exact 16 = .ok (.goto 6, 3) := by decide +kernel
theorem dL_exact_19 : decode cL_exact 19 = .ok (.astore_n 3, 1) := by decide +kernel
theorem dL_exact_20 : decode cL_exact 20 = .ok (.iconst 1, 1) := by decide +kernel
theorem dL_exact_21 : decode cL_exact 21 = .ok (.ireturn, 1) := by decide +kernel
theorem dL_exact_22 : decode cL_exact 22 = .ok (.iconst 0, 1) := by decide +kernel
theorem dL_exact_23 : decode cL_exact 23 = .ok (.ireturn, 1) := by decide +kernel
set_option maxRecDepth 20000 in
theorem ggL_bound_X3_bound : GoodIn wsL_bound wsX3_bound := goodIn_ca (goodIn_r _ [6, 7, 8, 9, 10, 11, 12, 5, 13, 14, 15, 16, 17, 18, 19, 20, 21, 22, 23, 24, 25, 26, 27, 28, 29, 30, 31, 32, 33, 34, 35, 36, 37, 38, 39, 40, 41, 42] (by decide +kernel) (by decide +kernel)) (goodIn_sub (fun _ h => List.mem_cons_of_mem _ (List.mem_append_right _ h)) (by decide +kernel))
set_option maxRecDepth 20000 in
theorem gL_bound_X3_bound : GoodIn wsL_bound (wsV RL 35 RX3 yX3_bound wsX3_bound) := goodIn_app (goodIn_of _ (by decide +kernel)) ggL_bound_X3_bound
theorem dL_bound_0 : decode cL_bound 0 = .ok (.aload_n 2, 1) := by decide +kernel
theorem dL_bound_1 : decode cL_bound 1 = .ok (.iconst 0, 1) := by decide +kernel
theorem dL_bound_2 : decode cL_bound 2 = .ok (.aload_n 0, 1) := by decide +kernel
theorem dL_bound_3 : decode cL_bound 3 = .ok (.iload_n 1, 1) := by decide +kernel
theorem dL_bound_4 : decode cL_bound 4 = .ok (.invokevirtual 35, 3) := by decide +kernel
theorem dL_bound_7 : decode cL_bound 7 = .ok (.i2l, 1) := by decide +kernel
theorem dL_bound_8 : decode cL_bound 8 = .ok (.lastore, 1) := by decide +kernel
theorem dL_bound_9 : decode cL_bound 9 = .ok (.goto 6, 3) := by decide +kernel
theorem dL_bound_12 : decode cL_bound 12 = .ok (.astore_n 3, 1) := by decide +kernel
theorem dL_bound_13 : decode cL_bound 13 = .ok (.iconst 1, 1) := by decide +kernel
theorem dL_bound_14 : decode cL_bound 14 = .ok (.ireturn, 1) := by decide +kernel
theorem dL_bound_15 : decode cL_bound 15 = .ok (.iconst 0, 1) := by decide +kernel
theorem dL_bound_16 : decode cL_bound 16 = .ok (.ireturn, 1) := by decide +kernel
set_option maxRecDepth 20000 in
theorem ggL_rules_X3_rules : GoodIn wsL_rules wsX3_rules := goodIn_ca (goodIn_r _ [6, 7, 8, 9, 10, 11, 12, 13, 5, 14, 15, 16, 17, 18, 19, 20, 21, 22, 23, 24, 25, 26] (by decide +kernel) (by decide +kernel)) (goodIn_sub (fun _ h => List.mem_cons_of_mem _ (List.mem_append_right _ h)) (by decide +kernel))
set_option maxRecDepth 20000 in
theorem gL_rules_X3_rules : GoodIn wsL_rules (wsV RL 39 RX3 yX3_rules wsX3_rules) := goodIn_app (goodIn_of _ (by decide +kernel)) ggL_rules_X3_rules
theorem dL_rules_0 : decode cL_rules 0 = .ok (.aload_n 0, 1) := by decide +kernel
theorem dL_rules_1 : decode cL_rules 1 = .ok (.iload_n 1, 1) := by decide +kernel
theorem dL_rules_2 : decode cL_rules 2 = .ok (.iload_n 2, 1) := by decide +kernel
theorem dL_rules_3 : decode cL_rules 3 = .ok (.iload_n 3, 1) := by decide +kernel
theorem dL_rules_4 : decode cL_rules 4 = .ok (.invokevirtual 39, 3) := by decide +kernel
theorem dL_rules_7 : decode cL_rules 7 = .ok (.goto 7, 3) := by decide +kernel
theorem dL_rules_10 : decode cL_rules 10 = .ok (.astore 4, 2) := by decide +kernel
theorem dL_rules_12 : decode cL_rules 12 = .ok (.iconst 1, 1) := by decide +kernel
theorem dL_rules_13 : decode cL_rules 13 = .ok (.ireturn, 1) := by decide +kernel
theorem dL_rules_14 : decode cL_rules 14 = .ok (.iconst 0, 1) := by decide +kernel
theorem dL_rules_15 : decode cL_rules 15 = .ok (.ireturn, 1) := by decide +kernel
set_option maxRecDepth 20000 in
theorem ggL_pallet_X3_pallet : GoodIn wsL_pallet wsX3_pallet := goodIn_ca (goodIn_r _ [6, 7, 8, 9, 10, 11, 12, 13, 14, 15, 16, 17, 18, 19, 20, 21, 22, 23, 24, 25, 26, 27, 28, 29, 30, 31, 32, 33, 34, 35, 36, 37, 38, 39, 40, 41, 42, 43, 44, 45, 46, 47, 48, 49, 50, 51, 52] (by decide +kernel) (by decide +kernel)) (goodIn_sub (fun _ h => List.mem_cons_of_mem _ (List.mem_append_right _ h)) (by decide +kernel))
set_option maxRecDepth 20000 in
theorem gL_pallet_X3_pallet : GoodIn wsL_pallet (wsV RL 43 RX3 yX3_pallet wsX3_pallet) := goodIn_app (goodIn_of _ (by decide +kernel)) ggL_pallet_X3_pallet
theorem dL_pallet_0 : decode cL_pallet 0 = .ok (.aload_n 1, 1) := by decide +kernel
theorem dL_pallet_1 : decode cL_pallet 1 = .ok (.iconst 0, 1) := by decide +kernel
theorem dL_pallet_2 : decode cL_pallet 2 = .ok (.aload_n 0, 1) := by decide +kernel
theorem dL_pallet_3 : decode cL_pallet 3 = .ok (.invokevirtual 43, 3) := by decide +kernel
theorem dL_pallet_6 : decode cL_pallet 6 = .ok (.i2l, 1) := by decide +kernel
theorem dL_pallet_7 : decode cL_pallet 7 = .ok (.lastore, 1) := by decide +kernel
theorem dL_pallet_8 : decode cL_pallet 8 = .ok (.goto 6, 3) := by decide +kernel
theorem dL_pallet_11 : decode cL_pallet 11 = .ok (.astore_n 2, 1) := by decide +kernel
theorem dL_pallet_12 : decode cL_pallet 12 = .ok (.iconst 1, 1) := by decide +kernel
theorem dL_pallet_13 : decode cL_pallet 13 = .ok (.ireturn, 1) := by decide +kernel
theorem dL_pallet_14 : decode cL_pallet 14 = .ok (.iconst 0, 1) := by decide +kernel
theorem dL_pallet_15 : decode cL_pallet 15 = .ok (.ireturn, 1) := by decide +kernel
set_option maxRecDepth 20000 in
theorem ggL_put_X3_put : GoodIn wsL_put wsX3_put := goodIn_ca (goodIn_ca (goodIn_ca (goodIn_ca (goodIn_ca (goodIn_r _ [9, 10, 11, 12, 13, 14, 15, 16, 17, 8, 18, 19, 20, 21, 22, 23, 24, 25, 26, 27, 28, 29, 30, 31, 32, 33, 34, 35, 36, 37, 38, 39, 40, 41, 42, 43, 44, 45, 46, 47, 48, 49, 50, 51, 52, 53, 54, 55, 56, 57, 58, 59, 60, 61, 62, 63, 64, 65, 66, 67, 68, 69, 70, 71, 72, 73, 74, 75, 76, 77, 78, 79, 80, 81, 82, 83, 84, 85, 86, 87, 88, 89, 90, 91, 92, 93, 94, 95, 96, 97, 98, 99, 100, 101, 102, 103, 104, 105, 106, 107, 108, 109, 110, 111, 112, 113, 114, 115, 116, 117, 118, 119, 120, 121, 122, 123, 124, 125, 126, 127, 128, 129, 130] (by decide +kernel) (by decide +kernel)) (goodIn_sub (fun _ h => List.mem_cons_of_mem _ (List.mem_append_left _ (List.mem_append_left _ (List.mem_append_left _ (List.mem_append_right _ h))))) (by decide +kernel))) (goodIn_sub (fun _ h => List.mem_cons_of_mem _ (List.mem_append_left _ (List.mem_append_left _ (List.mem_append_right _ h)))) (by decide +kernel))) (goodIn_sub (fun _ h => List.mem_cons_of_mem _ (List.mem_append_left _ (List.mem_append_right _ h))) (by decide +kernel))) (goodIn_sub (fun _ h => List.mem_cons_of_mem _ (List.mem_append_right _ h)) (by decide +kernel))) (goodIn_sub (fun _ h => List.mem_cons_of_mem _ (List.mem_append_left _ (List.mem_append_left _ (List.mem_append_left _ (List.mem_append_left _ (List.mem_append_right _ h)))))) (by decide +kernel))
set_option maxRecDepth 20000 in
theorem gL_put_X3_put : GoodIn wsL_put (wsV RL 47 RX3 yX3_put wsX3_put) := goodIn_app (goodIn_of _ (by decide +kernel)) ggL_put_X3_put
theorem dL_put_0 : decode cL_put 0 = .ok (.aload 4, 2) := by decide +kernel
theorem dL_put_2 : decode cL_put 2 = .ok (.iconst 0, 1) := by decide +kernel
theorem dL_put_3 : decode cL_put 3 = .ok (.aload_n 0, 1) := by decide +kernel
theorem dL_put_4 : decode cL_put 4 = .ok (.iload_n 1, 1) := by decide +kernel
theorem dL_put_5 : decode cL_put 5 = .ok (.iload_n 2, 1) := by decide +kernel
theorem dL_put_6 : decode cL_put 6 = .ok (.iload_n 3, 1) := by decide +kernel
theorem dL_put_7 : decode cL_put 7 = .ok (.invokevirtual 47, 3) := by decide +kernel
theorem dL_put_10 : decode cL_put 10 = .ok (.i2l, 1) := by decide +kernel
theorem dL_put_11 : decode cL_put 11 = .ok (.lastore, 1) := by decide +kernel
theorem dL_put_12 : decode cL_put 12 = .ok (.goto 19, 3) := by decide +kernel
theorem dL_put_15 : decode cL_put 15 = .ok (.astore 5, 2) := by decide +kernel
theorem dL_put_17 : decode cL_put 17 = .ok (.iconst 1, 1) := by decide +kernel
theorem dL_put_18 : decode cL_put 18 = .ok (.ireturn, 1) := by decide +kernel
theorem dL_put_19 : decode cL_put 19 = .ok (.astore 5, 2) := by decide +kernel
theorem dL_put_21 : decode cL_put 21 = .ok (.iconst 2, 1) := by decide +kernel
theorem dL_put_22 : decode cL_put 22 = .ok (.ireturn, 1) := by decide +kernel
theorem dL_put_23 : decode cL_put 23 = .ok (.astore 5, 2) := by decide +kernel
theorem dL_put_25 : decode cL_put 25 = .ok (.iconst 3, 1) := by decide +kernel
theorem dL_put_26 : decode cL_put 26 = .ok (.ireturn, 1) := by decide +kernel
theorem dL_put_27 : decode cL_put 27 = .ok (.astore 5, 2) := by decide +kernel
theorem dL_put_29 : decode cL_put 29 = .ok (.iconst 4, 1) := by decide +kernel
theorem dL_put_30 : decode cL_put 30 = .ok (.ireturn, 1) := by decide +kernel
theorem dL_put_31 : decode cL_put 31 = .ok (.iconst 0, 1) := by decide +kernel
theorem dL_put_32 : decode cL_put 32 = .ok (.ireturn, 1) := by decide +kernel
set_option maxRecDepth 20000 in
theorem ggL_fill_X3_fill : GoodIn wsL_fill wsX3_fill := goodIn_ca (goodIn_ca (goodIn_ca (goodIn_ca (goodIn_r _ [8, 9, 10, 11, 12, 13, 14, 15, 16, 17, 18, 19, 7, 20, 21, 22, 23, 24, 25, 26, 27, 28, 29, 30, 31, 32, 33, 34, 35, 36, 37, 38, 39, 40, 41, 42, 43, 44, 45, 46, 47, 48, 49, 50, 51, 52, 53, 54, 55, 56, 57, 58, 59, 60, 61, 62, 63, 64, 65, 66, 67, 68, 69, 70, 71, 72, 73, 74, 75, 76, 77, 78, 79, 80, 81, 82, 83, 84, 85, 86, 87, 88, 89, 90, 91, 92, 93, 94, 95, 96, 97, 98, 99, 100, 101, 102, 103, 104, 105, 106, 107, 108, 109, 110, 111, 112, 113, 114, 115, 116, 117, 118, 119, 120, 121, 122, 123, 124, 125, 126, 127, 128, 129, 130, 131] (by decide +kernel) (by decide +kernel)) (goodIn_sub (fun _ h => List.mem_cons_of_mem _ (List.mem_append_left _ (List.mem_append_left _ (List.mem_append_right _ h)))) (by decide +kernel))) (goodIn_sub (fun _ h => List.mem_cons_of_mem _ (List.mem_append_left _ (List.mem_append_right _ h))) (by decide +kernel))) (goodIn_sub (fun _ h => List.mem_cons_of_mem _ (List.mem_append_right _ h)) (by decide +kernel))) (goodIn_sub (fun _ h => List.mem_cons_of_mem _ (List.mem_append_left _ (List.mem_append_left _ (List.mem_append_left _ (List.mem_append_right _ h))))) (by decide +kernel))
set_option maxRecDepth 20000 in
theorem gL_fill_X3_fill : GoodIn wsL_fill (wsV RL 50 RX3 yX3_fill wsX3_fill) := goodIn_app (goodIn_of _ (by decide +kernel)) ggL_fill_X3_fill
theorem dL_fill_0 : decode cL_fill 0 = .ok (.aload 4, 2) := by decide +kernel
theorem dL_fill_2 : decode cL_fill 2 = .ok (.iconst 0, 1) := by decide +kernel
theorem dL_fill_3 : decode cL_fill 3 = .ok (.aload_n 0, 1) := by decide +kernel
theorem dL_fill_4 : decode cL_fill 4 = .ok (.iload_n 1, 1) := by decide +kernel
theorem dL_fill_5 : decode cL_fill 5 = .ok (.iload_n 2, 1) := by decide +kernel
theorem dL_fill_6 : decode cL_fill 6 = .ok (.iload_n 3, 1) := by decide +kernel
theorem dL_fill_7 : decode cL_fill 7 = .ok (.invokevirtual 50, 3) := by decide +kernel
theorem dL_fill_10 : decode cL_fill 10 = .ok (.i2l, 1) := by decide +kernel
theorem dL_fill_11 : decode cL_fill 11 = .ok (.lastore, 1) := by decide +kernel
theorem dL_fill_12 : decode cL_fill 12 = .ok (.goto 15, 3) := by decide +kernel
theorem dL_fill_15 : decode cL_fill 15 = .ok (.astore 5, 2) := by decide +kernel
theorem dL_fill_17 : decode cL_fill 17 = .ok (.iconst 1, 1) := by decide +kernel
theorem dL_fill_18 : decode cL_fill 18 = .ok (.ireturn, 1) := by decide +kernel
theorem dL_fill_19 : decode cL_fill 19 = .ok (.astore 5, 2) := by decide +kernel
theorem dL_fill_21 : decode cL_fill 21 = .ok (.iconst 2, 1) := by decide +kernel
theorem dL_fill_22 : decode cL_fill 22 = .ok (.ireturn, 1) := by decide +kernel
theorem dL_fill_23 : decode cL_fill 23 = .ok (.astore 5, 2) := by decide +kernel
theorem dL_fill_25 : decode cL_fill 25 = .ok (.iconst 3, 1) := by decide +kernel
theorem dL_fill_26 : decode cL_fill 26 = .ok (.ireturn, 1) := by decide +kernel
theorem dL_fill_27 : decode cL_fill 27 = .ok (.iconst 0, 1) := by decide +kernel
theorem dL_fill_28 : decode cL_fill 28 = .ok (.ireturn, 1) := by decide +kernel
set_option maxRecDepth 20000 in
theorem ggL_take_X3_take : GoodIn wsL_take wsX3_take := goodIn_ca (goodIn_ca (goodIn_ca (goodIn_r _ [7, 8, 9, 10, 6, 11, 12, 13, 14, 15, 16, 17, 18, 19, 20, 21, 22, 23, 24, 25, 26, 27, 28, 29, 30, 31, 32, 33, 34, 35, 36, 37, 38, 39, 40, 41, 42, 43, 44, 45, 46, 47, 48, 49, 50, 51, 52, 53, 54, 55, 56, 57, 58, 59, 60, 61] (by decide +kernel) (by decide +kernel)) (goodIn_sub (fun _ h => List.mem_cons_of_mem _ (List.mem_append_left _ (List.mem_append_right _ h))) (by decide +kernel))) (goodIn_sub (fun _ h => List.mem_cons_of_mem _ (List.mem_append_right _ h)) (by decide +kernel))) (goodIn_sub (fun _ h => List.mem_cons_of_mem _ (List.mem_append_left _ (List.mem_append_left _ (List.mem_append_right _ h)))) (by decide +kernel))
set_option maxRecDepth 20000 in
theorem gL_take_X3_take : GoodIn wsL_take (wsV RL 53 RX3 yX3_take wsX3_take) := goodIn_app (goodIn_of _ (by decide +kernel)) ggL_take_X3_take
theorem dL_take_0 : decode cL_take 0 = .ok (.aload_n 2, 1) := by decide +kernel
theorem dL_take_1 : decode cL_take 1 = .ok (.iconst 0, 1) := by decide +kernel
theorem dL_take_2 : decode cL_take 2 = .ok (.aload_n 0, 1) := by decide +kernel
theorem dL_take_3 : decode cL_take 3 = .ok (.iload_n 1, 1) := by decide +kernel
theorem dL_take_4 : decode cL_take 4 = .ok (.invokevirtual 53, 3) := by decide +kernel
theorem dL_take_7 : decode cL_take 7 = .ok (.i2l, 1) := by decide +kernel
theorem dL_take_8 : decode cL_take 8 = .ok (.lastore, 1) := by decide +kernel
theorem dL_take_9 : decode cL_take 9 = .ok (.goto 9, 3) := by decide +kernel
theorem dL_take_12 : decode cL_take 12 = .ok (.astore_n 3, 1) := by decide +kernel
theorem dL_take_13 : decode cL_take 13 = .ok (.iconst 1, 1) := by decide +kernel
theorem dL_take_14 : decode cL_take 14 = .ok (.ireturn, 1) := by decide +kernel
theorem dL_take_15 : decode cL_take 15 = .ok (.astore_n 3, 1) := by decide +kernel
theorem dL_take_16 : decode cL_take 16 = .ok (.iconst 2, 1) := by decide +kernel
theorem dL_take_17 : decode cL_take 17 = .ok (.ireturn, 1) := by decide +kernel
theorem dL_take_18 : decode cL_take 18 = .ok (.iconst 0, 1) := by decide +kernel
theorem dL_take_19 : decode cL_take 19 = .ok (.ireturn, 1) := by decide +kernel
set_option maxRecDepth 20000 in
theorem ggL_support_X3_support : GoodIn wsL_support wsX3_support := goodIn_ca (goodIn_ca (goodIn_r _ [6, 7, 8, 9, 10, 11, 12, 13, 14, 5, 15, 16, 17, 18, 19, 20, 21, 22, 23, 24, 25, 26, 27, 28, 29, 30, 31, 32, 33, 34, 35, 36, 37, 38, 39, 40, 41, 42, 43, 44, 45, 46, 47, 48, 49, 50, 51, 52, 53, 54, 55, 56, 57, 58, 59, 60, 61, 62, 63, 64, 65, 66, 67, 68, 69, 70, 71, 72, 73, 74, 75, 76, 77, 78, 79, 80, 81, 82, 83, 84, 85, 86, 87, 88, 89, 90, 91, 92, 93] (by decide +kernel) (by decide +kernel)) (goodIn_sub (fun _ h => List.mem_cons_of_mem _ (List.mem_append_left _ (List.mem_append_right _ h))) (by decide +kernel))) (goodIn_sub (fun _ h => List.mem_cons_of_mem _ (List.mem_append_right _ h)) (by decide +kernel))
set_option maxRecDepth 20000 in
theorem gL_support_X3_support : GoodIn wsL_support (wsV RL 56 RX3 yX3_support wsX3_support) := goodIn_app (goodIn_of _ (by decide +kernel)) ggL_support_X3_support
theorem dL_support_0 : decode cL_support 0 = .ok (.aload 4, 2) := by decide +kernel
theorem dL_support_2 : decode cL_support 2 = .ok (.iconst 0, 1) := by decide +kernel
theorem dL_support_3 : decode cL_support 3 = .ok (.aload_n 0, 1) := by decide +kernel
theorem dL_support_4 : decode cL_support 4 = .ok (.iload_n 1, 1) := by decide +kernel
theorem dL_support_5 : decode cL_support 5 = .ok (.iload_n 2, 1) := by decide +kernel
theorem dL_support_6 : decode cL_support 6 = .ok (.iload_n 3, 1) := by decide +kernel
theorem dL_support_7 : decode cL_support 7 = .ok (.invokevirtual 56, 3) := by decide +kernel
theorem dL_support_10 : decode cL_support 10 = .ok (.i2l, 1) := by decide +kernel
theorem dL_support_11 : decode cL_support 11 = .ok (.lastore, 1) := by decide +kernel
theorem dL_support_12 : decode cL_support 12 = .ok (.goto 7, 3) := by decide +kernel
theorem dL_support_15 : decode cL_support 15 = .ok (.astore 5, 2) := by decide +kernel
theorem dL_support_17 : decode cL_support 17 = .ok (.iconst 1, 1) := by decide +kernel
theorem dL_support_18 : decode cL_support 18 = .ok (.ireturn, 1) := by decide +kernel
theorem dL_support_19 : decode cL_support 19 = .ok (.iconst 0, 1) := by decide +kernel
theorem dL_support_20 : decode cL_support 20 = .ok (.ireturn, 1) := by decide +kernel
set_option maxRecDepth 20000 in
theorem ggL_told_X3_told : GoodIn wsL_told wsX3_told := goodIn_ca (goodIn_ca (goodIn_ca (goodIn_r _ [7, 8, 9, 10, 11, 12, 13, 14, 15, 16, 17, 6, 18, 19, 20, 21, 22, 23, 24, 25, 26, 27, 28, 29, 30, 31, 32, 33, 34, 35, 36, 37, 38, 39, 40, 41, 42, 43, 44, 45, 46, 47, 48, 49, 50, 51, 52, 53] (by decide +kernel) (by decide +kernel)) (goodIn_sub (fun _ h => List.mem_cons_of_mem _ (List.mem_append_left _ (List.mem_append_right _ h))) (by decide +kernel))) (goodIn_sub (fun _ h => List.mem_cons_of_mem _ (List.mem_append_right _ h)) (by decide +kernel))) (goodIn_sub (fun _ h => List.mem_cons_of_mem _ (List.mem_append_left _ (List.mem_append_left _ (List.mem_append_right _ h)))) (by decide +kernel))
set_option maxRecDepth 20000 in
theorem gL_told_X3_told : GoodIn wsL_told (wsV RL 59 RX3 yX3_told wsX3_told) := goodIn_app (goodIn_of _ (by decide +kernel)) ggL_told_X3_told
theorem dL_told_0 : decode cL_told 0 = .ok (.aload_n 3, 1) := by decide +kernel
theorem dL_told_1 : decode cL_told 1 = .ok (.iconst 0, 1) := by decide +kernel
theorem dL_told_2 : decode cL_told 2 = .ok (.aload_n 0, 1) := by decide +kernel
theorem dL_told_3 : decode cL_told 3 = .ok (.iload_n 1, 1) := by decide +kernel
theorem dL_told_4 : decode cL_told 4 = .ok (.iload_n 2, 1) := by decide +kernel
theorem dL_told_5 : decode cL_told 5 = .ok (.invokevirtual 59, 3) := by decide +kernel
theorem dL_told_8 : decode cL_told 8 = .ok (.i2l, 1) := by decide +kernel
theorem dL_told_9 : decode cL_told 9 = .ok (.lastore, 1) := by decide +kernel
theorem dL_told_10 : decode cL_told 10 = .ok (.goto 11, 3) := by decide +kernel
theorem dL_told_13 : decode cL_told 13 = .ok (.astore 4, 2) := by decide +kernel
theorem dL_told_15 : decode cL_told 15 = .ok (.iconst 1, 1) := by decide +kernel
theorem dL_told_16 : decode cL_told 16 = .ok (.ireturn, 1) := by decide +kernel
theorem dL_told_17 : decode cL_told 17 = .ok (.astore 4, 2) := by decide +kernel
theorem dL_told_19 : decode cL_told 19 = .ok (.iconst 2, 1) := by decide +kernel
theorem dL_told_20 : decode cL_told 20 = .ok (.ireturn, 1) := by decide +kernel
theorem dL_told_21 : decode cL_told 21 = .ok (.iconst 0, 1) := by decide +kernel
theorem dL_told_22 : decode cL_told 22 = .ok (.ireturn, 1) := by decide +kernel
set_option maxRecDepth 20000 in
theorem ggL_layer_X3_layer : GoodIn wsL_layer wsX3_layer := goodIn_ca (goodIn_ca (goodIn_ca (goodIn_r _ [7, 8, 9, 10, 11, 12, 13, 14, 15, 16, 6, 17, 18, 19, 20, 21, 22, 23, 24, 25, 26, 27, 28, 29, 30, 31, 32, 33, 34, 35, 36, 37, 38, 39, 40, 41, 42, 43, 44, 45, 46, 47, 48, 49, 50, 51, 52, 53, 54, 55, 56, 57, 58, 59, 60, 61, 62, 63, 64, 65, 66] (by decide +kernel) (by decide +kernel)) (goodIn_sub (fun _ h => List.mem_cons_of_mem _ (List.mem_append_left _ (List.mem_append_left _ (List.mem_append_right _ h)))) (by decide +kernel))) (goodIn_sub (fun _ h => List.mem_cons_of_mem _ (List.mem_append_left _ (List.mem_append_right _ h))) (by decide +kernel))) (goodIn_sub (fun _ h => List.mem_cons_of_mem _ (List.mem_append_right _ h)) (by decide +kernel))
set_option maxRecDepth 20000 in
theorem gL_layer_X3_layer : GoodIn wsL_layer (wsV RL 62 RX3 yX3_layer wsX3_layer) := goodIn_app (goodIn_of _ (by decide +kernel)) ggL_layer_X3_layer
theorem dL_layer_0 : decode cL_layer 0 = .ok (.aload 4, 2) := by decide +kernel
theorem dL_layer_2 : decode cL_layer 2 = .ok (.iconst 0, 1) := by decide +kernel
theorem dL_layer_3 : decode cL_layer 3 = .ok (.aload_n 0, 1) := by decide +kernel
theorem dL_layer_4 : decode cL_layer 4 = .ok (.iload_n 1, 1) := by decide +kernel
theorem dL_layer_5 : decode cL_layer 5 = .ok (.iload_n 2, 1) := by decide +kernel
theorem dL_layer_6 : decode cL_layer 6 = .ok (.iload_n 3, 1) := by decide +kernel
theorem dL_layer_7 : decode cL_layer 7 = .ok (.invokevirtual 62, 3) := by decide +kernel
theorem dL_layer_10 : decode cL_layer 10 = .ok (.i2l, 1) := by decide +kernel
theorem dL_layer_11 : decode cL_layer 11 = .ok (.lastore, 1) := by decide +kernel
theorem dL_layer_12 : decode cL_layer 12 = .ok (.goto 11, 3) := by decide +kernel
theorem dL_layer_15 : decode cL_layer 15 = .ok (.astore 5, 2) := by decide +kernel
theorem dL_layer_17 : decode cL_layer 17 = .ok (.iconst 1, 1) := by decide +kernel
theorem dL_layer_18 : decode cL_layer 18 = .ok (.ireturn, 1) := by decide +kernel
theorem dL_layer_19 : decode cL_layer 19 = .ok (.astore 5, 2) := by decide +kernel
theorem dL_layer_21 : decode cL_layer 21 = .ok (.iconst 2, 1) := by decide +kernel
theorem dL_layer_22 : decode cL_layer 22 = .ok (.ireturn, 1) := by decide +kernel
theorem dL_layer_23 : decode cL_layer 23 = .ok (.iconst 0, 1) := by decide +kernel
theorem dL_layer_24 : decode cL_layer 24 = .ok (.ireturn, 1) := by decide +kernel
set_option maxRecDepth 20000 in
theorem ggL_truck_X3_truck : GoodIn wsL_truck wsX3_truck := goodIn_ca (goodIn_ca (goodIn_ca (goodIn_ca (goodIn_r _ [8, 9, 10, 11, 12, 13, 14, 15, 16, 17, 18, 7, 19, 20, 21, 22, 23, 24, 25, 26, 27, 28, 29, 30, 31, 32, 33, 34, 35, 36, 37, 38, 39, 40, 41, 42, 43, 44, 45, 46, 47, 48, 49, 50, 51, 52, 53, 54, 55, 56, 57, 58] (by decide +kernel) (by decide +kernel)) (goodIn_sub (fun _ h => List.mem_cons_of_mem _ (List.mem_append_left _ (List.mem_append_left _ (List.mem_append_right _ h)))) (by decide +kernel))) (goodIn_sub (fun _ h => List.mem_cons_of_mem _ (List.mem_append_left _ (List.mem_append_right _ h))) (by decide +kernel))) (goodIn_sub (fun _ h => List.mem_cons_of_mem _ (List.mem_append_left _ (List.mem_append_left _ (List.mem_append_left _ (List.mem_append_right _ h))))) (by decide +kernel))) (goodIn_sub (fun _ h => List.mem_cons_of_mem _ (List.mem_append_right _ h)) (by decide +kernel))
set_option maxRecDepth 20000 in
theorem gL_truck_X3_truck : GoodIn wsL_truck (wsV RL 65 RX3 yX3_truck wsX3_truck) := goodIn_app (goodIn_of _ (by decide +kernel)) ggL_truck_X3_truck
theorem dL_truck_0 : decode cL_truck 0 = .ok (.aload_n 3, 1) := by decide +kernel
theorem dL_truck_1 : decode cL_truck 1 = .ok (.iconst 0, 1) := by decide +kernel
theorem dL_truck_2 : decode cL_truck 2 = .ok (.aload_n 0, 1) := by decide +kernel
theorem dL_truck_3 : decode cL_truck 3 = .ok (.iload_n 1, 1) := by decide +kernel
theorem dL_truck_4 : decode cL_truck 4 = .ok (.iload_n 2, 1) := by decide +kernel
theorem dL_truck_5 : decode cL_truck 5 = .ok (.invokevirtual 65, 3) := by decide +kernel
theorem dL_truck_8 : decode cL_truck 8 = .ok (.i2l, 1) := by decide +kernel
theorem dL_truck_9 : decode cL_truck 9 = .ok (.lastore, 1) := by decide +kernel
theorem dL_truck_10 : decode cL_truck 10 = .ok (.goto 15, 3) := by decide +kernel
theorem dL_truck_13 : decode cL_truck 13 = .ok (.astore 4, 2) := by decide +kernel
theorem dL_truck_15 : decode cL_truck 15 = .ok (.iconst 1, 1) := by decide +kernel
theorem dL_truck_16 : decode cL_truck 16 = .ok (.ireturn, 1) := by decide +kernel
theorem dL_truck_17 : decode cL_truck 17 = .ok (.astore 4, 2) := by decide +kernel
theorem dL_truck_19 : decode cL_truck 19 = .ok (.iconst 2, 1) := by decide +kernel
theorem dL_truck_20 : decode cL_truck 20 = .ok (.ireturn, 1) := by decide +kernel
theorem dL_truck_21 : decode cL_truck 21 = .ok (.astore 4, 2) := by decide +kernel
theorem dL_truck_23 : decode cL_truck 23 = .ok (.iconst 3, 1) := by decide +kernel
theorem dL_truck_24 : decode cL_truck 24 = .ok (.ireturn, 1) := by decide +kernel
theorem dL_truck_25 : decode cL_truck 25 = .ok (.iconst 0, 1) := by decide +kernel
theorem dL_truck_26 : decode cL_truck 26 = .ok (.ireturn, 1) := by decide +kernel
set_option maxRecDepth 20000 in
theorem ggL_unload_X3_unload : GoodIn wsL_unload wsX3_unload := goodIn_ca (goodIn_ca (goodIn_ca (goodIn_ca (goodIn_r _ [7, 8, 9, 10, 11, 12, 13, 14, 15, 16, 6, 17, 18, 19, 20, 21, 22, 23, 24, 25, 26, 27, 28, 29, 30, 31, 32, 33, 34, 35, 36, 37, 38, 39, 40, 41, 42, 43, 44, 45, 46, 47, 48, 49, 50, 51, 52, 53, 54, 55, 56, 57, 58, 59, 60] (by decide +kernel) (by decide +kernel)) (goodIn_sub (fun _ h => List.mem_cons_of_mem _ (List.mem_append_left _ (List.mem_append_left _ (List.mem_append_right _ h)))) (by decide +kernel))) (goodIn_sub (fun _ h => List.mem_cons_of_mem _ (List.mem_append_left _ (List.mem_append_right _ h))) (by decide +kernel))) (goodIn_sub (fun _ h => List.mem_cons_of_mem _ (List.mem_append_left _ (List.mem_append_left _ (List.mem_append_left _ (List.mem_append_right _ h))))) (by decide +kernel))) (goodIn_sub (fun _ h => List.mem_cons_of_mem _ (List.mem_append_right _ h)) (by decide +kernel))
set_option maxRecDepth 20000 in
theorem gL_unload_X3_unload : GoodIn wsL_unload (wsV RL 68 RX3 yX3_unload wsX3_unload) := goodIn_app (goodIn_of _ (by decide +kernel)) ggL_unload_X3_unload
theorem dL_unload_0 : decode cL_unload 0 = .ok (.aload_n 2, 1) := by decide +kernel
theorem dL_unload_1 : decode cL_unload 1 = .ok (.iconst 0, 1) := by decide +kernel
theorem dL_unload_2 : decode cL_unload 2 = .ok (.aload_n 0, 1) := by decide +kernel
theorem dL_unload_3 : decode cL_unload 3 = .ok (.iload_n 1, 1) := by decide +kernel
theorem dL_unload_4 : decode cL_unload 4 = .ok (.invokevirtual 68, 3) := by decide +kernel
theorem dL_unload_7 : decode cL_unload 7 = .ok (.i2l, 1) := by decide +kernel
theorem dL_unload_8 : decode cL_unload 8 = .ok (.lastore, 1) := by decide +kernel
theorem dL_unload_9 : decode cL_unload 9 = .ok (.goto 9, 3) := by decide +kernel
theorem dL_unload_12 : decode cL_unload 12 = .ok (.astore_n 3, 1) := by decide +kernel
theorem dL_unload_13 : decode cL_unload 13 = .ok (.iconst 1, 1) := by decide +kernel
theorem dL_unload_14 : decode cL_unload 14 = .ok (.ireturn, 1) := by decide +kernel
theorem dL_unload_15 : decode cL_unload 15 = .ok (.astore_n 3, 1) := by decide +kernel
theorem dL_unload_16 : decode cL_unload 16 = .ok (.iconst 2, 1) := by decide +kernel
theorem dL_unload_17 : decode cL_unload 17 = .ok (.ireturn, 1) := by decide +kernel
theorem dL_unload_18 : decode cL_unload 18 = .ok (.iconst 0, 1) := by decide +kernel
theorem dL_unload_19 : decode cL_unload 19 = .ok (.ireturn, 1) := by decide +kernel
set_option maxRecDepth 20000 in
theorem ggL_order_X3_order : GoodIn wsL_order wsX3_order := goodIn_ca (goodIn_ca (goodIn_r _ [6, 7, 8, 9, 10, 11, 12, 5, 13, 14, 15, 16, 17, 18, 19, 20, 21, 22, 23, 24, 25] (by decide +kernel) (by decide +kernel)) (goodIn_sub (fun _ h => List.mem_cons_of_mem _ (List.mem_append_right _ h)) (by decide +kernel))) (goodIn_sub (fun _ h => List.mem_cons_of_mem _ (List.mem_append_left _ (List.mem_append_right _ h))) (by decide +kernel))
set_option maxRecDepth 20000 in
theorem gL_order_X3_order : GoodIn wsL_order (wsV RL 71 RX3 yX3_order wsX3_order) := goodIn_app (goodIn_of _ (by decide +kernel)) ggL_order_X3_order
theorem dL_order_0 : decode cL_order 0 = .ok (.aload_n 2, 1) := by decide +kernel
theorem dL_order_1 : decode cL_order 1 = .ok (.iconst 0, 1) := by decide +kernel
theorem dL_order_2 : decode cL_order 2 = .ok (.aload_n 0, 1) := by decide +kernel
theorem dL_order_3 : decode cL_order 3 = .ok (.iload_n 1, 1) := by decide +kernel
theorem dL_order_4 : decode cL_order 4 = .ok (.invokevirtual 71, 3) := by decide +kernel
theorem dL_order_7 : decode cL_order 7 = .ok (.i2l, 1) := by decide +kernel
theorem dL_order_8 : decode cL_order 8 = .ok (.lastore, 1) := by decide +kernel
theorem dL_order_9 : decode cL_order 9 = .ok (.goto 6, 3) := by decide +kernel
theorem dL_order_12 : decode cL_order 12 = .ok (.astore_n 3, 1) := by decide +kernel
theorem dL_order_13 : decode cL_order 13 = .ok (.iconst 1, 1) := by decide +kernel
theorem dL_order_14 : decode cL_order 14 = .ok (.ireturn, 1) := by decide +kernel
theorem dL_order_15 : decode cL_order 15 = .ok (.iconst 0, 1) := by decide +kernel
theorem dL_order_16 : decode cL_order 16 = .ok (.ireturn, 1) := by decide +kernel
set_option maxRecDepth 20000 in
theorem ggL_law_L_cell : GoodIn wsL_law wsL_cell := goodIn_ca (goodIn_r _ [10] (by decide +kernel) (by decide +kernel)) (goodIn_sub (fun _ h => List.mem_append_left _ (List.mem_append_left _ (List.mem_append_left _ (List.mem_append_left _ (List.mem_append_right _ h))))) (by decide +kernel))
set_option maxRecDepth 20000 in
theorem gL_law_L_cell : GoodIn wsL_law (va_wsS RL 74 yL_cell wsL_cell) := goodIn_app (goodIn_of _ (by decide +kernel)) ggL_law_L_cell
set_option maxRecDepth 20000 in
theorem ggL_law_X3_init : GoodIn wsL_law wsX3_init := goodIn_r _ [13, 14, 15, 16, 17, 18, 19, 20, 21, 22, 23, 24, 25, 26, 27, 28, 29, 30, 31, 32, 33, 34, 35, 36, 37, 38, 39, 40, 41, 42, 43, 44, 45, 46, 47, 48, 49, 50, 51, 52, 53, 54, 567, 568, 569, 570, 571, 572, 573, 574, 575, 576, 577, 578, 612, 613, 614, 615, 616, 617, 618, 619, 620] (by decide +kernel) (by decide +kernel)
set_option maxRecDepth 20000 in
theorem gL_law_X3_init : GoodIn wsL_law (wsX3_init) := ggL_law_X3_init
set_option maxRecDepth 20000 in
theorem ggL_law_X4_init : GoodIn wsL_law wsX4_init := goodIn_r _ [57, 58, 15, 16, 21, 59, 60, 61, 62, 63, 64, 65, 6, 66, 67, 68, 69, 70, 71, 72, 73, 74, 75, 76, 77, 78, 79, 80, 81, 82, 83, 84, 85, 5, 86, 579, 580, 581, 582, 583, 584, 585, 586, 587, 588, 589, 590, 591, 592, 593, 594, 595, 596, 597, 598, 599, 600, 601, 602, 603, 604, 605, 606, 607, 608, 609, 610, 611] (by decide +kernel) (by decide +kernel)
set_option maxRecDepth 20000 in
theorem gL_law_X4_init : GoodIn wsL_law (wsX4_init) := ggL_law_X4_init
set_option maxRecDepth 20000 in
theorem ggL_law_L_kind : GoodIn wsL_law wsL_kind := goodIn_ca (goodIn_ca (goodIn_ca (goodIn_r _ [89, 90, 91, 92, 93, 94, 2, 95, 96, 97, 98, 99, 23, 18, 17, 100, 101, 36, 102, 103, 104, 105, 106, 107, 108, 15, 16, 21, 109, 110, 111, 112, 113, 114, 115, 116, 117, 118, 119, 120, 121, 122, 567, 568, 569, 570, 571, 572, 573, 574, 575, 576, 577, 578, 621, 622, 623, 624, 625, 626, 627, 628, 629, 630, 631] (by decide +kernel) (by decide +kernel)) (goodIn_sub (fun _ h => List.mem_append_left _ (List.mem_append_left _ (List.mem_append_left _ (List.mem_append_left _ (List.mem_append_right _ h))))) (by decide +kernel))) (goodIn_sub (fun _ h => List.mem_append_left _ (List.mem_append_left _ (List.mem_append_left _ (List.mem_append_right _ h)))) (by decide +kernel))) (goodIn_sub (fun _ h => List.mem_append_left _ (List.mem_append_left _ (List.mem_append_right _ h))) (by decide +kernel))
set_option maxRecDepth 20000 in
theorem gL_law_L_kind : GoodIn wsL_law (va_wsS RL 86 yL_kind wsL_kind) := goodIn_app (goodIn_of _ (by decide +kernel)) ggL_law_L_kind
set_option maxRecDepth 20000 in
theorem ggL_law_X4_kind : GoodIn wsL_law wsX4_kind := goodIn_ca (goodIn_r _ [126, 127, 128, 59, 60, 61, 62, 129, 130, 5, 131, 579, 580, 581, 582, 583, 584, 585, 586, 587, 588, 589, 590, 591, 592, 593, 594, 595, 596, 597, 598, 599, 600, 601, 602, 603, 604, 605, 606, 607, 608, 609, 610, 611] (by decide +kernel) (by decide +kernel)) (goodIn_sub (fun _ h => List.mem_append_left _ (List.mem_append_left _ (List.mem_append_left _ (List.mem_append_left _ (List.mem_append_right _ h))))) (by decide +kernel))
set_option maxRecDepth 20000 in
theorem gL_law_X4_kind : GoodIn wsL_law (wsV RL 89 RX4 yX4_kind wsX4_kind) := goodIn_app (goodIn_of _ (by decide +kernel)) ggL_law_X4_kind
set_option maxRecDepth 20000 in
theorem ggL_law_X4_thrown : GoodIn wsL_law wsX4_thrown := goodIn_r _ [135, 128, 579, 580, 581, 582, 583, 584, 585, 586, 587, 588, 589, 590, 591, 592, 593, 594, 595, 596, 597, 598, 599, 600, 601, 602, 603, 604, 605, 606, 607, 608, 609, 610, 611] (by decide +kernel) (by decide +kernel)
set_option maxRecDepth 20000 in
theorem gL_law_X4_thrown : GoodIn wsL_law (wsV RL 90 RX4 yX4_thrown wsX4_thrown) := goodIn_app (goodIn_of _ (by decide +kernel)) ggL_law_X4_thrown
set_option maxRecDepth 20000 in
theorem ggL_law_L_search : GoodIn wsL_law wsL_search := goodIn_ca (goodIn_ca (goodIn_ca (goodIn_ca (goodIn_r _ [138, 139, 90, 140, 141, 142, 143, 2, 144, 96, 97, 145, 146, 41, 147, 148, 149, 150, 151, 152, 153, 18, 102, 103, 104, 154, 155, 156, 157, 20, 158, 159, 160, 161, 162, 163, 164, 165, 166, 167, 40, 168, 48, 49, 50, 51, 46, 47, 169, 170, 171, 172, 101, 173, 174, 30, 31, 32, 111, 109, 110, 175, 176, 177, 178, 54, 179, 180, 181, 182, 183, 184, 185, 186, 187, 188, 189, 190, 191, 192, 193, 194, 195, 196, 197, 198, 199, 200, 201, 202, 203, 204, 205, 206, 207, 208, 52, 53, 209, 210, 211, 212, 118, 119, 213, 214, 215, 216, 113, 114, 217, 218, 219, 220, 567, 568, 569, 570, 571, 572, 573, 574, 575, 576, 577, 578, 621, 622, 623, 624, 625, 626, 627, 628, 629, 630, 631, 632, 633, 634, 635, 636, 637, 638, 639, 640, 641, 612, 613, 614, 615, 616, 617, 618, 619, 620] (by decide +kernel) (by decide +kernel)) (goodIn_sub (fun _ h => List.mem_append_left _ (List.mem_append_left _ (List.mem_append_left _ (List.mem_append_left _ (List.mem_append_right _ h))))) (by decide +kernel))) (goodIn_sub (fun _ h => List.mem_append_left _ (List.mem_append_left _ (List.mem_append_left _ (List.mem_append_right _ h)))) (by decide +kernel))) (goodIn_sub (fun _ h => List.mem_append_left _ (List.mem_append_right _ h)) (by decide +kernel))) (goodIn_sub (fun _ h => List.mem_append_right _ h) (by decide +kernel))
set_option maxRecDepth 20000 in
theorem gL_law_L_search : GoodIn wsL_law (va_wsS RL 93 yL_search wsL_search) := goodIn_app (goodIn_of _ (by decide +kernel)) ggL_law_L_search
set_option maxRecDepth 20000 in
theorem ggL_law_X4_search : GoodIn wsL_law wsX4_search := goodIn_ca (goodIn_r _ [224, 128, 63, 225, 226, 227, 5, 228, 127, 129, 130, 131, 229, 230, 231, 232, 233, 72, 73, 234, 235, 236, 237, 238, 239, 240, 241, 242, 65, 77, 78, 83, 243, 244, 245, 246, 247, 248, 249, 250, 251, 59, 60, 81, 82, 252, 253, 254, 255, 67, 79, 68, 80, 66, 256, 257, 258, 259, 260, 261, 262, 263, 264, 265, 266, 267, 268, 269, 270, 271, 272, 273, 274, 275, 276, 277, 278, 579, 580, 581, 582, 583, 584, 585, 586, 587, 588, 589, 590, 591, 592, 593, 594, 595, 596, 597, 598, 599, 600, 601, 602, 603, 604, 605, 606, 607, 608, 609, 610, 611] (by decide +kernel) (by decide +kernel)) (goodIn_sub (fun _ h => List.mem_append_left _ (List.mem_append_left _ (List.mem_append_left _ (List.mem_append_left _ (List.mem_append_right _ h))))) (by decide +kernel))
set_option maxRecDepth 20000 in
theorem gL_law_X4_search : GoodIn wsL_law (wsV RL 96 RX4 yX4_search wsX4_search) := goodIn_app (goodIn_of _ (by decide +kernel)) ggL_law_X4_search
set_option maxRecDepth 20000 in
theorem ggL_law_L_pattern : GoodIn wsL_law wsL_pattern := goodIn_ca (goodIn_ca (goodIn_ca (goodIn_r _ [281, 139, 90, 282, 283, 284, 285, 2, 286, 96, 97, 147, 287, 288, 289, 290, 36, 291, 148, 149, 150, 151, 152, 153, 18, 102, 103, 104, 621, 622, 623, 624, 625, 626, 627, 628, 629, 630, 631, 642, 643, 644, 645, 646, 647, 567, 568, 569, 570, 571, 572, 573, 574, 575, 576, 577, 578] (by decide +kernel) (by decide +kernel)) (goodIn_sub (fun _ h => List.mem_append_left _ (List.mem_append_left _ (List.mem_append_left _ (List.mem_append_left _ (List.mem_append_right _ h))))) (by decide +kernel))) (goodIn_sub (fun _ h => List.mem_append_left _ (List.mem_append_left _ (List.mem_append_left _ (List.mem_append_right _ h)))) (by decide +kernel))) (goodIn_sub (fun _ h => List.mem_append_right _ h) (by decide +kernel))
set_option maxRecDepth 20000 in
theorem gL_law_L_pattern : GoodIn wsL_law (va_wsS RL 97 yL_pattern wsL_pattern) := goodIn_app (goodIn_of _ (by decide +kernel)) ggL_law_L_pattern
set_option maxRecDepth 20000 in
theorem ggL_law_X4_pattern : GoodIn wsL_law wsX4_pattern := goodIn_ca (goodIn_r _ [295, 63, 128, 67, 81, 68, 225, 226, 227, 5, 228, 127, 129, 130, 131, 579, 580, 581, 582, 583, 584, 585, 586, 587, 588, 589, 590, 591, 592, 593, 594, 595, 596, 597, 598, 599, 600, 601, 602, 603, 604, 605, 606, 607, 608, 609, 610, 611] (by decide +kernel) (by decide +kernel)) (goodIn_sub (fun _ h => List.mem_append_left _ (List.mem_append_left _ (List.mem_append_left _ (List.mem_append_left _ (List.mem_append_right _ h))))) (by decide +kernel))
set_option maxRecDepth 20000 in
theorem gL_law_X4_pattern : GoodIn wsL_law (wsV RL 100 RX4 yX4_pattern wsX4_pattern) := goodIn_app (goodIn_of _ (by decide +kernel)) ggL_law_X4_pattern
set_option maxRecDepth 20000 in
theorem ggL_law_L_exact : GoodIn wsL_law wsL_exact := goodIn_ca (goodIn_ca (goodIn_r _ [298, 139, 299, 300, 301, 2, 302, 303, 148, 149, 150, 151, 152, 153, 18, 102, 103, 104, 621, 622, 623, 624, 625, 626, 627, 628, 629, 630, 631, 567, 568, 569, 570, 571, 572, 573, 574, 575, 576, 577, 578] (by decide +kernel) (by decide +kernel)) (goodIn_sub (fun _ h => List.mem_append_left _ (List.mem_append_left _ (List.mem_append_left _ (List.mem_append_left _ (List.mem_append_right _ h))))) (by decide +kernel))) (goodIn_sub (fun _ h => List.mem_append_right _ h) (by decide +kernel))
set_option maxRecDepth 20000 in
theorem gL_law_L_exact : GoodIn wsL_law (va_wsS RL 101 yL_exact wsL_exact) := goodIn_app (goodIn_of _ (by decide +kernel)) ggL_law_L_exact
set_option maxRecDepth 20000 in
theorem ggL_law_X4_exact : GoodIn wsL_law wsX4_exact := goodIn_ca (goodIn_r _ [307, 128, 65, 225, 226, 227, 5, 228, 127, 129, 130, 131, 579, 580, 581, 582, 583, 584, 585, 586, 587, 588, 589, 590, 591, 592, 593, 594, 595, 596, 597, 598, 599, 600, 601, 602, 603, 604, 605, 606, 607, 608, 609, 610, 611] (by decide +kernel) (by decide +kernel)) (goodIn_sub (fun _ h => List.mem_append_left _ (List.mem_append_left _ (List.mem_append_left _ (List.mem_append_left _ (List.mem_append_right _ h))))) (by decide +kernel))
set_option maxRecDepth 20000 in
theorem gL_law_X4_exact : GoodIn wsL_law (wsV RL 104 RX4 yX4_exact wsX4_exact) := goodIn_app (goodIn_of _ (by decide +kernel)) ggL_law_X4_exact
set_option maxRecDepth 20000 in
theorem ggL_law_L_bound : GoodIn wsL_law wsL_bound := goodIn_ca (goodIn_ca (goodIn_r _ [310, 139, 311, 312, 313, 2, 314, 36, 37, 315, 148, 149, 150, 151, 152, 153, 18, 102, 103, 104, 567, 568, 569, 570, 571, 572, 573, 574, 575, 576, 577, 578, 621, 622, 623, 624, 625, 626, 627, 628, 629, 630, 631] (by decide +kernel) (by decide +kernel)) (goodIn_sub (fun _ h => List.mem_append_left _ (List.mem_append_left _ (List.mem_append_left _ (List.mem_append_left _ (List.mem_append_right _ h))))) (by decide +kernel))) (goodIn_sub (fun _ h => List.mem_append_right _ h) (by decide +kernel))
set_option maxRecDepth 20000 in
theorem gL_law_L_bound : GoodIn wsL_law (va_wsS RL 105 yL_bound wsL_bound) := goodIn_app (goodIn_of _ (by decide +kernel)) ggL_law_L_bound
set_option maxRecDepth 20000 in
theorem ggL_law_X4_bound : GoodIn wsL_law wsX4_bound := goodIn_ca (goodIn_r _ [319, 128, 83, 225, 226, 227, 5, 228, 127, 129, 130, 131, 263, 264, 265, 266, 59, 60, 579, 580, 581, 582, 583, 584, 585, 586, 587, 588, 589, 590, 591, 592, 593, 594, 595, 596, 597, 598, 599, 600, 601, 602, 603, 604, 605, 606, 607, 608, 609, 610, 611] (by decide +kernel) (by decide +kernel)) (goodIn_sub (fun _ h => List.mem_append_left _ (List.mem_append_left _ (List.mem_append_left _ (List.mem_append_left _ (List.mem_append_right _ h))))) (by decide +kernel))
set_option maxRecDepth 20000 in
theorem gL_law_X4_bound : GoodIn wsL_law (wsV RL 107 RX4 yX4_bound wsX4_bound) := goodIn_app (goodIn_of _ (by decide +kernel)) ggL_law_X4_bound
set_option maxRecDepth 20000 in
theorem ggL_law_L_rules : GoodIn wsL_law wsL_rules := goodIn_ca (goodIn_r _ [322, 90, 323, 324, 325, 2, 326, 96, 97, 26, 27, 28, 102, 103, 104, 567, 568, 569, 570, 571, 572, 573, 574, 575, 576, 577, 578] (by decide +kernel) (by decide +kernel)) (goodIn_sub (fun _ h => List.mem_append_left _ (List.mem_append_left _ (List.mem_append_left _ (List.mem_append_right _ h)))) (by decide +kernel))
set_option maxRecDepth 20000 in
theorem gL_law_L_rules : GoodIn wsL_law (va_wsS RL 108 yL_rules wsL_rules) := goodIn_app (goodIn_of _ (by decide +kernel)) ggL_law_L_rules
set_option maxRecDepth 20000 in
theorem ggL_law_X4_rules : GoodIn wsL_law wsX4_rules := goodIn_r _ [330, 128, 69, 70, 71, 129, 130, 5, 131, 579, 580, 581, 582, 583, 584, 585, 586, 587, 588, 589, 590, 591, 592, 593, 594, 595, 596, 597, 598, 599, 600, 601, 602, 603, 604, 605, 606, 607, 608, 609, 610, 611] (by decide +kernel) (by decide +kernel)
set_option maxRecDepth 20000 in
theorem gL_law_X4_rules : GoodIn wsL_law (wsV RL 111 RX4 yX4_rules wsX4_rules) := goodIn_app (goodIn_of _ (by decide +kernel)) ggL_law_X4_rules
set_option maxRecDepth 20000 in
theorem ggL_law_L_pallet : GoodIn wsL_law wsL_pallet := goodIn_ca (goodIn_ca (goodIn_r _ [333, 91, 334, 335, 336, 2, 337, 98, 99, 24, 20, 19, 338, 161, 339, 340, 341, 15, 16, 21, 164, 342, 343, 344, 6, 345, 163, 346, 347, 348, 349, 567, 568, 569, 570, 571, 572, 573, 574, 575, 576, 577, 578, 632, 633, 634, 635, 636, 637, 638, 639, 640, 641] (by decide +kernel) (by decide +kernel)) (goodIn_sub (fun _ h => List.mem_append_left _ (List.mem_append_left _ (List.mem_append_left _ (List.mem_append_left _ (List.mem_append_right _ h))))) (by decide +kernel))) (goodIn_sub (fun _ h => List.mem_append_left _ (List.mem_append_left _ (List.mem_append_right _ h))) (by decide +kernel))
set_option maxRecDepth 20000 in
theorem gL_law_L_pallet : GoodIn wsL_law (va_wsS RL 112 yL_pallet wsL_pallet) := goodIn_app (goodIn_of _ (by decide +kernel)) ggL_law_L_pallet
set_option maxRecDepth 20000 in
theorem ggL_law_X4_pallet : GoodIn wsL_law wsX4_pallet := goodIn_ca (goodIn_r _ [353, 233, 128, 72, 75, 579, 580, 581, 582, 583, 584, 585, 586, 587, 588, 589, 590, 591, 592, 593, 594, 595, 596, 597, 598, 599, 600, 601, 602, 603, 604, 605, 606, 607, 608, 609, 610, 611] (by decide +kernel) (by decide +kernel)) (goodIn_sub (fun _ h => List.mem_append_left _ (List.mem_append_left _ (List.mem_append_left _ (List.mem_append_left _ (List.mem_append_right _ h))))) (by decide +kernel))
set_option maxRecDepth 20000 in
theorem gL_law_X4_pallet : GoodIn wsL_law (wsV RL 115 RX4 yX4_pallet wsX4_pallet) := goodIn_app (goodIn_of _ (by decide +kernel)) ggL_law_X4_pallet
set_option maxRecDepth 20000 in
theorem ggL_law_L_put : GoodIn wsL_law wsL_put := goodIn_ca (goodIn_ca (goodIn_ca (goodIn_ca (goodIn_ca (goodIn_r _ [356, 139, 90, 140, 91, 357, 358, 359, 2, 360, 96, 97, 98, 99, 361, 362, 363, 364, 365, 152, 153, 20, 102, 103, 104, 148, 149, 150, 151, 18, 366, 367, 368, 145, 146, 369, 370, 371, 372, 373, 147, 26, 315, 374, 375, 27, 376, 377, 28, 378, 379, 380, 101, 381, 111, 109, 110, 382, 210, 211, 212, 118, 119, 383, 384, 385, 386, 387, 388, 161, 389, 163, 345, 390, 195, 196, 197, 198, 199, 200, 391, 392, 393, 394, 164, 342, 343, 346, 344, 395, 396, 347, 348, 397, 398, 399, 400, 401, 632, 633, 634, 635, 636, 637, 638, 639, 640, 641, 567, 568, 569, 570, 571, 572, 573, 574, 575, 576, 577, 578, 621, 622, 623, 624, 625, 626, 627, 628, 629, 630, 631] (by decide +kernel) (by decide +kernel)) (goodIn_sub (fun _ h => List.mem_append_left _ (List.mem_append_left _ (List.mem_append_left _ (List.mem_append_left _ (List.mem_append_right _ h))))) (by decide +kernel))) (goodIn_sub (fun _ h => List.mem_append_left _ (List.mem_append_left _ (List.mem_append_left _ (List.mem_append_right _ h)))) (by decide +kernel))) (goodIn_sub (fun _ h => List.mem_append_left _ (List.mem_append_left _ (List.mem_append_right _ h))) (by decide +kernel))) (goodIn_sub (fun _ h => List.mem_append_right _ h) (by decide +kernel))) (goodIn_sub (fun _ h => List.mem_append_left _ (List.mem_append_right _ h)) (by decide +kernel))
set_option maxRecDepth 20000 in
theorem gL_law_L_put : GoodIn wsL_law (va_wsS RL 116 yL_put wsL_put) := goodIn_app (goodIn_of _ (by decide +kernel)) ggL_law_L_put
set_option maxRecDepth 20000 in
theorem ggL_law_X4_put : GoodIn wsL_law wsX4_put := goodIn_ca (goodIn_r _ [405, 75, 72, 128, 406, 407, 408, 5, 409, 233, 129, 130, 131, 225, 226, 227, 228, 127, 410, 411, 412, 413, 63, 69, 61, 70, 62, 71, 414, 415, 416, 417, 73, 74, 66, 263, 264, 265, 266, 59, 60, 260, 261, 262, 418, 419, 420, 421, 422, 423, 424, 425, 426, 427, 428, 429, 579, 580, 581, 582, 583, 584, 585, 586, 587, 588, 589, 590, 591, 592, 593, 594, 595, 596, 597, 598, 599, 600, 601, 602, 603, 604, 605, 606, 607, 608, 609, 610, 611] (by decide +kernel) (by decide +kernel)) (goodIn_sub (fun _ h => List.mem_append_left _ (List.mem_append_left _ (List.mem_append_left _ (List.mem_append_left _ (List.mem_append_right _ h))))) (by decide +kernel))
set_option maxRecDepth 20000 in
theorem gL_law_X4_put : GoodIn wsL_law (wsV RL 118 RX4 yX4_put wsX4_put) := goodIn_app (goodIn_of _ (by decide +kernel)) ggL_law_X4_put
set_option maxRecDepth 20000 in
theorem ggL_law_L_fill : GoodIn wsL_law wsL_fill := goodIn_ca (goodIn_ca (goodIn_ca (goodIn_ca (goodIn_r _ [432, 139, 90, 140, 433, 434, 435, 2, 436, 96, 97, 147, 361, 29, 30, 31, 32, 362, 363, 364, 365, 152, 153, 20, 102, 103, 104, 148, 149, 150, 151, 18, 366, 367, 368, 145, 146, 369, 370, 371, 372, 373, 26, 315, 374, 375, 27, 376, 377, 28, 378, 379, 380, 101, 381, 111, 109, 110, 382, 210, 211, 212, 118, 119, 383, 384, 385, 386, 387, 388, 161, 389, 163, 345, 390, 195, 196, 197, 198, 199, 200, 391, 392, 393, 394, 164, 342, 343, 346, 344, 395, 396, 347, 348, 397, 398, 399, 400, 401, 621, 622, 623, 624, 625, 626, 627, 628, 629, 630, 631, 632, 633, 634, 635, 636, 637, 638, 639, 640, 641, 567, 568, 569, 570, 571, 572, 573, 574, 575, 576, 577, 578] (by decide +kernel) (by decide +kernel)) (goodIn_sub (fun _ h => List.mem_append_left _ (List.mem_append_left _ (List.mem_append_left _ (List.mem_append_left _ (List.mem_append_right _ h))))) (by decide +kernel))) (goodIn_sub (fun _ h => List.mem_append_left _ (List.mem_append_left _ (List.mem_append_left _ (List.mem_append_right _ h)))) (by decide +kernel))) (goodIn_sub (fun _ h => List.mem_append_right _ h) (by decide +kernel))) (goodIn_sub (fun _ h => List.mem_append_left _ (List.mem_append_right _ h)) (by decide +kernel))
set_option maxRecDepth 20000 in
theorem gL_law_L_fill : GoodIn wsL_law (va_wsS RL 119 yL_fill wsL_fill) := goodIn_app (goodIn_of _ (by decide +kernel)) ggL_law_L_fill
set_option maxRecDepth 20000 in
theorem ggL_law_X4_fill : GoodIn wsL_law wsX4_fill := goodIn_ca (goodIn_r _ [440, 75, 128, 63, 72, 406, 407, 408, 5, 409, 233, 129, 130, 131, 225, 226, 227, 228, 127, 410, 411, 412, 413, 69, 61, 70, 62, 71, 414, 415, 416, 417, 73, 74, 66, 263, 264, 265, 266, 59, 60, 260, 261, 262, 418, 419, 420, 421, 422, 423, 424, 425, 426, 427, 428, 429, 579, 580, 581, 582, 583, 584, 585, 586, 587, 588, 589, 590, 591, 592, 593, 594, 595, 596, 597, 598, 599, 600, 601, 602, 603, 604, 605, 606, 607, 608, 609, 610, 611] (by decide +kernel) (by decide +kernel)) (goodIn_sub (fun _ h => List.mem_append_left _ (List.mem_append_left _ (List.mem_append_left _ (List.mem_append_left _ (List.mem_append_right _ h))))) (by decide +kernel))
set_option maxRecDepth 20000 in
theorem gL_law_X4_fill : GoodIn wsL_law (wsV RL 121 RX4 yX4_fill wsX4_fill) := goodIn_app (goodIn_of _ (by decide +kernel)) ggL_law_X4_fill
set_option maxRecDepth 20000 in
theorem ggL_law_L_take : GoodIn wsL_law wsL_take := goodIn_ca (goodIn_ca (goodIn_ca (goodIn_r _ [443, 139, 140, 444, 445, 446, 2, 447, 362, 363, 364, 365, 152, 153, 20, 102, 103, 104, 366, 367, 368, 145, 146, 369, 448, 449, 450, 361, 451, 452, 453, 161, 454, 163, 343, 346, 347, 344, 348, 342, 567, 568, 569, 570, 571, 572, 573, 574, 575, 576, 577, 578, 632, 633, 634, 635, 636, 637, 638, 639, 640, 641] (by decide +kernel) (by decide +kernel)) (goodIn_sub (fun _ h => List.mem_append_left _ (List.mem_append_left _ (List.mem_append_left _ (List.mem_append_left _ (List.mem_append_right _ h))))) (by decide +kernel))) (goodIn_sub (fun _ h => List.mem_append_right _ h) (by decide +kernel))) (goodIn_sub (fun _ h => List.mem_append_left _ (List.mem_append_right _ h)) (by decide +kernel))
set_option maxRecDepth 20000 in
theorem gL_law_L_take : GoodIn wsL_law (va_wsS RL 122 yL_take wsL_take) := goodIn_app (goodIn_of _ (by decide +kernel)) ggL_law_L_take
set_option maxRecDepth 20000 in
theorem ggL_law_X4_take : GoodIn wsL_law wsX4_take := goodIn_ca (goodIn_r _ [458, 75, 72, 128, 74, 406, 407, 408, 5, 409, 233, 129, 130, 131, 579, 580, 581, 582, 583, 584, 585, 586, 587, 588, 589, 590, 591, 592, 593, 594, 595, 596, 597, 598, 599, 600, 601, 602, 603, 604, 605, 606, 607, 608, 609, 610, 611] (by decide +kernel) (by decide +kernel)) (goodIn_sub (fun _ h => List.mem_append_left _ (List.mem_append_left _ (List.mem_append_left _ (List.mem_append_left _ (List.mem_append_right _ h))))) (by decide +kernel))
set_option maxRecDepth 20000 in
theorem gL_law_X4_take : GoodIn wsL_law (wsV RL 124 RX4 yX4_take wsX4_take) := goodIn_app (goodIn_of _ (by decide +kernel)) ggL_law_X4_take
set_option maxRecDepth 20000 in
theorem ggL_law_L_support : GoodIn wsL_law wsL_support := goodIn_ca (goodIn_ca (goodIn_r _ [461, 139, 462, 463, 464, 2, 465, 152, 153, 466, 467, 315, 468, 469, 470, 471, 361, 362, 363, 364, 365, 20, 102, 103, 104, 148, 149, 150, 151, 18, 378, 379, 380, 101, 381, 111, 109, 110, 382, 210, 211, 212, 118, 119, 383, 384, 385, 386, 387, 388, 161, 389, 163, 345, 390, 195, 196, 197, 198, 199, 200, 632, 633, 634, 635, 636, 637, 638, 639, 640, 641, 621, 622, 623, 624, 625, 626, 627, 628, 629, 630, 631, 567, 568, 569, 570, 571, 572, 573, 574, 575, 576, 577, 578] (by decide +kernel) (by decide +kernel)) (goodIn_sub (fun _ h => List.mem_append_left _ (List.mem_append_left _ (List.mem_append_left _ (List.mem_append_left _ (List.mem_append_right _ h))))) (by decide +kernel))) (goodIn_sub (fun _ h => List.mem_append_right _ h) (by decide +kernel))
set_option maxRecDepth 20000 in
theorem gL_law_L_support : GoodIn wsL_law (va_wsS RL 125 yL_support wsL_support) := goodIn_app (goodIn_of _ (by decide +kernel)) ggL_law_L_support
set_option maxRecDepth 20000 in
theorem ggL_law_X4_support : GoodIn wsL_law wsX4_support := goodIn_ca (goodIn_r _ [475, 74, 128, 73, 476, 477, 478, 5, 479, 72, 406, 407, 408, 409, 233, 129, 130, 131, 414, 415, 416, 417, 66, 263, 264, 265, 266, 59, 60, 260, 261, 262, 579, 580, 581, 582, 583, 584, 585, 586, 587, 588, 589, 590, 591, 592, 593, 594, 595, 596, 597, 598, 599, 600, 601, 602, 603, 604, 605, 606, 607, 608, 609, 610, 611] (by decide +kernel) (by decide +kernel)) (goodIn_sub (fun _ h => List.mem_append_left _ (List.mem_append_left _ (List.mem_append_left _ (List.mem_append_left _ (List.mem_append_right _ h))))) (by decide +kernel))
set_option maxRecDepth 20000 in
theorem gL_law_X4_support : GoodIn wsL_law (wsV RL 127 RX4 yX4_support wsX4_support) := goodIn_app (goodIn_of _ (by decide +kernel)) ggL_law_X4_support
set_option maxRecDepth 20000 in
theorem ggL_law_L_told : GoodIn wsL_law wsL_told := goodIn_ca (goodIn_ca (goodIn_ca (goodIn_r _ [482, 139, 90, 483, 484, 485, 2, 486, 96, 97, 374, 376, 361, 487, 369, 362, 363, 364, 365, 152, 153, 20, 102, 103, 104, 158, 159, 160, 161, 162, 163, 164, 632, 633, 634, 635, 636, 637, 638, 639, 640, 641, 567, 568, 569, 570, 571, 572, 573, 574, 575, 576, 577, 578] (by decide +kernel) (by decide +kernel)) (goodIn_sub (fun _ h => List.mem_append_left _ (List.mem_append_left _ (List.mem_append_left _ (List.mem_append_left _ (List.mem_append_right _ h))))) (by decide +kernel))) (goodIn_sub (fun _ h => List.mem_append_left _ (List.mem_append_left _ (List.mem_append_left _ (List.mem_append_right _ h)))) (by decide +kernel))) (goodIn_sub (fun _ h => List.mem_append_right _ h) (by decide +kernel))
set_option maxRecDepth 20000 in
theorem gL_law_L_told : GoodIn wsL_law (va_wsS RL 128 yL_told wsL_told) := goodIn_app (goodIn_of _ (by decide +kernel)) ggL_law_L_told
set_option maxRecDepth 20000 in
theorem ggL_law_X4_told : GoodIn wsL_law wsX4_told := goodIn_ca (goodIn_r _ [491, 128, 72, 75, 73, 406, 407, 408, 5, 409, 233, 129, 130, 131, 418, 419, 420, 421, 61, 422, 423, 424, 425, 62, 74, 492, 493, 494, 495, 579, 580, 581, 582, 583, 584, 585, 586, 587, 588, 589, 590, 591, 592, 593, 594, 595, 596, 597, 598, 599, 600, 601, 602, 603, 604, 605, 606, 607, 608, 609, 610, 611] (by decide +kernel) (by decide +kernel)) (goodIn_sub (fun _ h => List.mem_append_left _ (List.mem_append_left _ (List.mem_append_left _ (List.mem_append_left _ (List.mem_append_right _ h))))) (by decide +kernel))
set_option maxRecDepth 20000 in
theorem gL_law_X4_told : GoodIn wsL_law (wsV RL 130 RX4 yX4_told wsX4_told) := goodIn_app (goodIn_of _ (by decide +kernel)) ggL_law_X4_told
set_option maxRecDepth 20000 in
theorem ggL_law_L_layer : GoodIn wsL_law wsL_layer := goodIn_ca (goodIn_ca (goodIn_ca (goodIn_r _ [498, 139, 90, 499, 500, 501, 2, 502, 96, 97, 466, 467, 503, 147, 468, 469, 470, 471, 152, 153, 361, 362, 363, 364, 365, 20, 102, 103, 104, 148, 149, 150, 151, 18, 632, 633, 634, 635, 636, 637, 638, 639, 640, 641, 621, 622, 623, 624, 625, 626, 627, 628, 629, 630, 631, 567, 568, 569, 570, 571, 572, 573, 574, 575, 576, 577, 578] (by decide +kernel) (by decide +kernel)) (goodIn_sub (fun _ h => List.mem_append_left _ (List.mem_append_left _ (List.mem_append_left _ (List.mem_append_left _ (List.mem_append_right _ h))))) (by decide +kernel))) (goodIn_sub (fun _ h => List.mem_append_left _ (List.mem_append_left _ (List.mem_append_left _ (List.mem_append_right _ h)))) (by decide +kernel))) (goodIn_sub (fun _ h => List.mem_append_right _ h) (by decide +kernel))
set_option maxRecDepth 20000 in
theorem gL_law_L_layer : GoodIn wsL_law (va_wsS RL 131 yL_layer wsL_layer) := goodIn_app (goodIn_of _ (by decide +kernel)) ggL_law_L_layer
set_option maxRecDepth 20000 in
theorem ggL_law_X4_layer : GoodIn wsL_law wsX4_layer := goodIn_ca (goodIn_r _ [507, 128, 73, 74, 63, 476, 477, 478, 5, 479, 72, 406, 407, 408, 409, 233, 129, 130, 131, 418, 419, 420, 421, 61, 579, 580, 581, 582, 583, 584, 585, 586, 587, 588, 589, 590, 591, 592, 593, 594, 595, 596, 597, 598, 599, 600, 601, 602, 603, 604, 605, 606, 607, 608, 609, 610, 611] (by decide +kernel) (by decide +kernel)) (goodIn_sub (fun _ h => List.mem_append_left _ (List.mem_append_left _ (List.mem_append_left _ (List.mem_append_left _ (List.mem_append_right _ h))))) (by decide +kernel))
set_option maxRecDepth 20000 in
theorem gL_law_X4_layer : GoodIn wsL_law (wsV RL 133 RX4 yX4_layer wsX4_layer) := goodIn_app (goodIn_of _ (by decide +kernel)) ggL_law_X4_layer
set_option maxRecDepth 20000 in
theorem ggL_law_L_truck : GoodIn wsL_law wsL_truck := goodIn_ca (goodIn_ca (goodIn_ca (goodIn_ca (goodIn_r _ [510, 139, 90, 140, 511, 512, 513, 2, 514, 96, 97, 145, 146, 25, 22, 369, 362, 363, 364, 365, 152, 153, 20, 102, 103, 104, 366, 367, 368, 448, 449, 450, 361, 515, 516, 517, 518, 567, 568, 569, 570, 571, 572, 573, 574, 575, 576, 577, 578, 632, 633, 634, 635, 636, 637, 638, 639, 640, 641] (by decide +kernel) (by decide +kernel)) (goodIn_sub (fun _ h => List.mem_append_left _ (List.mem_append_left _ (List.mem_append_left _ (List.mem_append_left _ (List.mem_append_right _ h))))) (by decide +kernel))) (goodIn_sub (fun _ h => List.mem_append_left _ (List.mem_append_left _ (List.mem_append_left _ (List.mem_append_right _ h)))) (by decide +kernel))) (goodIn_sub (fun _ h => List.mem_append_left _ (List.mem_append_right _ h)) (by decide +kernel))) (goodIn_sub (fun _ h => List.mem_append_right _ h) (by decide +kernel))
set_option maxRecDepth 20000 in
theorem gL_law_L_truck : GoodIn wsL_law (va_wsS RL 134 yL_truck wsL_truck) := goodIn_app (goodIn_of _ (by decide +kernel)) ggL_law_L_truck
set_option maxRecDepth 20000 in
theorem ggL_law_X4_truck : GoodIn wsL_law wsX4_truck := goodIn_ca (goodIn_r _ [522, 75, 72, 128, 523, 76, 406, 407, 408, 5, 409, 233, 129, 130, 131, 579, 580, 581, 582, 583, 584, 585, 586, 587, 588, 589, 590, 591, 592, 593, 594, 595, 596, 597, 598, 599, 600, 601, 602, 603, 604, 605, 606, 607, 608, 609, 610, 611] (by decide +kernel) (by decide +kernel)) (goodIn_sub (fun _ h => List.mem_append_left _ (List.mem_append_left _ (List.mem_append_left _ (List.mem_append_left _ (List.mem_append_right _ h))))) (by decide +kernel))
set_option maxRecDepth 20000 in
theorem gL_law_X4_truck : GoodIn wsL_law (wsV RL 136 RX4 yX4_truck wsX4_truck) := goodIn_app (goodIn_of _ (by decide +kernel)) ggL_law_X4_truck
set_option maxRecDepth 20000 in
theorem ggL_law_L_unload : GoodIn wsL_law wsL_unload := goodIn_ca (goodIn_ca (goodIn_ca (goodIn_ca (goodIn_r _ [526, 90, 140, 527, 528, 529, 2, 530, 96, 97, 145, 146, 25, 22, 369, 102, 103, 104, 531, 532, 533, 534, 362, 363, 364, 365, 152, 153, 20, 535, 536, 537, 161, 538, 163, 346, 347, 348, 349, 567, 568, 569, 570, 571, 572, 573, 574, 575, 576, 577, 578, 632, 633, 634, 635, 636, 637, 638, 639, 640, 641] (by decide +kernel) (by decide +kernel)) (goodIn_sub (fun _ h => List.mem_append_left _ (List.mem_append_left _ (List.mem_append_left _ (List.mem_append_left _ (List.mem_append_right _ h))))) (by decide +kernel))) (goodIn_sub (fun _ h => List.mem_append_left _ (List.mem_append_left _ (List.mem_append_left _ (List.mem_append_right _ h)))) (by decide +kernel))) (goodIn_sub (fun _ h => List.mem_append_left _ (List.mem_append_right _ h)) (by decide +kernel))) (goodIn_sub (fun _ h => List.mem_append_right _ h) (by decide +kernel))
set_option maxRecDepth 20000 in
theorem gL_law_L_unload : GoodIn wsL_law (va_wsS RL 137 yL_unload wsL_unload) := goodIn_app (goodIn_of _ (by decide +kernel)) ggL_law_L_unload
set_option maxRecDepth 20000 in
theorem ggL_law_X4_unload : GoodIn wsL_law wsX4_unload := goodIn_ca (goodIn_r _ [542, 128, 523, 75, 76, 72, 129, 130, 5, 131, 579, 580, 581, 582, 583, 584, 585, 586, 587, 588, 589, 590, 591, 592, 593, 594, 595, 596, 597, 598, 599, 600, 601, 602, 603, 604, 605, 606, 607, 608, 609, 610, 611] (by decide +kernel) (by decide +kernel)) (goodIn_sub (fun _ h => List.mem_append_left _ (List.mem_append_left _ (List.mem_append_left _ (List.mem_append_left _ (List.mem_append_right _ h))))) (by decide +kernel))
set_option maxRecDepth 20000 in
theorem gL_law_X4_unload : GoodIn wsL_law (wsV RL 139 RX4 yX4_unload wsX4_unload) := goodIn_app (goodIn_of _ (by decide +kernel)) ggL_law_X4_unload
set_option maxRecDepth 20000 in
theorem ggL_law_L_order : GoodIn wsL_law wsL_order := goodIn_ca (goodIn_ca (goodIn_r _ [545, 139, 546, 547, 548, 2, 549, 152, 153, 25, 22, 102, 103, 104, 567, 568, 569, 570, 571, 572, 573, 574, 575, 576, 577, 578] (by decide +kernel) (by decide +kernel)) (goodIn_sub (fun _ h => List.mem_append_left _ (List.mem_append_left _ (List.mem_append_left _ (List.mem_append_left _ (List.mem_append_right _ h))))) (by decide +kernel))) (goodIn_sub (fun _ h => List.mem_append_right _ h) (by decide +kernel))
set_option maxRecDepth 20000 in
theorem gL_law_L_order : GoodIn wsL_law (va_wsS RL 140 yL_order wsL_order) := goodIn_app (goodIn_of _ (by decide +kernel)) ggL_law_L_order
set_option maxRecDepth 20000 in
theorem ggL_law_X4_order : GoodIn wsL_law wsX4_order := goodIn_ca (goodIn_r _ [553, 523, 128, 76, 129, 130, 5, 131, 579, 580, 581, 582, 583, 584, 585, 586, 587, 588, 589, 590, 591, 592, 593, 594, 595, 596, 597, 598, 599, 600, 601, 602, 603, 604, 605, 606, 607, 608, 609, 610, 611] (by decide +kernel) (by decide +kernel)) (goodIn_sub (fun _ h => List.mem_append_left _ (List.mem_append_left _ (List.mem_append_left _ (List.mem_append_left _ (List.mem_append_right _ h))))) (by decide +kernel))
set_option maxRecDepth 20000 in
theorem gL_law_X4_order : GoodIn wsL_law (wsV RL 142 RX4 yX4_order wsX4_order) := goodIn_app (goodIn_of _ (by decide +kernel)) ggL_law_X4_order
set_option maxRecDepth 20000 in
theorem ggL_law_X3_count : GoodIn wsL_law wsX3_count := goodIn_r _ [557, 23, 24, 25, 41, 558, 559, 560, 561, 2, 562, 20, 369, 487, 567, 568, 569, 570, 571, 572, 573, 574, 575, 576, 577, 578, 612, 613, 614, 615, 616, 617, 618, 619, 620, 632, 633, 634, 635, 636, 637, 638, 639, 640, 641] (by decide +kernel) (by decide +kernel)
set_option maxRecDepth 20000 in
theorem gL_law_X3_count : GoodIn wsL_law (wsV RL 143 RX3 yX3_count wsX3_count) := goodIn_app (goodIn_of _ (by decide +kernel)) ggL_law_X3_count
set_option maxRecDepth 20000 in
theorem ggL_law_X4_count_ : GoodIn wsL_law wsX4_count_ := goodIn_ca (goodIn_r _ [566, 128, 127, 233, 523, 75, 242, 492, 493, 494, 5, 495, 72, 74, 579, 580, 581, 582, 583, 584, 585, 586, 587, 588, 589, 590, 591, 592, 593, 594, 595, 596, 597, 598, 599, 600, 601, 602, 603, 604, 605, 606, 607, 608, 609, 610, 611] (by decide +kernel) (by decide +kernel)) (goodIn_sub (fun _ h => List.mem_append_left _ (List.mem_append_left _ (List.mem_append_left _ (List.mem_append_left _ (List.mem_append_right _ h))))) (by decide +kernel))
set_option maxRecDepth 20000 in
theorem gL_law_X4_count_ : GoodIn wsL_law (wsV RL 146 RX4 yX4_count_ wsX4_count_) := goodIn_app (goodIn_of _ (by decide +kernel)) ggL_law_X4_count_
theorem dL_law_0 : decode cL_law 0 = .ok (.new 8, 3) := by decide +kernel
theorem dL_law_3 : decode cL_law 3 = .ok (.dup, 1) := by decide +kernel
theorem dL_law_4 : decode cL_law 4 = .ok (.aload_n 0, 1) := by decide +kernel
theorem dL_law_5 : decode cL_law 5 = .ok (.iconst 0, 1) := by decide +kernel
theorem dL_law_6 : decode cL_law 6 = .ok (.invokestatic 74, 3) := by decide +kernel
theorem dL_law_9 : decode cL_law 9 = .ok (.aload_n 0, 1) := by decide +kernel
theorem dL_law_10 : decode cL_law 10 = .ok (.iconst 1, 1) := by decide +kernel
theorem dL_law_11 : decode cL_law 11 = .ok (.invokestatic 74, 3) := by decide +kernel
theorem dL_law_14 : decode cL_law 14 = .ok (.invokespecial 80, 3) := by decide +kernel
theorem dL_law_17 : decode cL_law 17 = .ok (.astore_n 1, 1) := by decide +kernel
theorem dL_law_18 : decode cL_law 18 = .ok (.new 83, 3) := by decide +kernel
theorem dL_law_21 : decode cL_law 21 = .ok (.dup, 1) := by decide +kernel
theorem dL_law_22 : decode cL_law 22 = .ok (.aload_n 0, 1) := by decide +kernel
theorem dL_law_23 : decode cL_law 23 = .ok (.iconst 0, 1) := by decide +kernel
theorem dL_law_24 : decode cL_law 24 = .ok (.invokestatic 74, 3) := by decide +kernel
theorem dL_law_27 : decode cL_law 27 = .ok (.aload_n 0, 1) := by decide +kernel
theorem dL_law_28 : decode cL_law 28 = .ok (.iconst 1, 1) := by decide +kernel
theorem dL_law_29 : decode cL_law 29 = .ok (.invokestatic 74, 3) := by decide +kernel
theorem dL_law_32 : decode cL_law 32 = .ok (.invokespecial 85, 3) := by decide +kernel
theorem dL_law_35 : decode cL_law 35 = .ok (.astore_n 2, 1) := by decide +kernel
theorem dL_law_36 : decode cL_law 36 = .ok (.iconst 1, 1) := by decide +kernel
theorem dL_law_37 : decode cL_law 37 = .ok (.newarray .long, 2) := by decide +kernel
theorem dL_law_39 : decode cL_law 39 = .ok (.astore_n 3, 1) := by decide +kernel
theorem dL_law_40 : decode cL_law 40 = .ok (.iconst 2, 1) := by decide +kernel
theorem dL_law_41 : decode cL_law 41 = .ok (.istore 4, 2) := by decide +kernel
theorem dL_law_43 : decode cL_law 43 = .ok (.iload 4, 2) := by decide +kernel
theorem dL_law_45 : decode cL_law 45 = .ok (.aload_n 0, 1) := by decide +kernel
theorem dL_law_46 : decode cL_law 46 = .ok (.arraylength, 1) := by decide +kernel
theorem dL_law_47 : decode cL_law 47 = .ok (.iconst 5, 1) := by decide +kernel
theorem dL_law_48 : decode cL_law 48 = .ok (.isub, 1) := by decide +kernel
theorem dL_law_49 : decode cL_law 49 = .ok (.if_icmp .gt 1209, 3) := by decide +kernel
theorem dL_law_52 : decode cL_law 52 = .ok (.aload_n 0, 1) := by decide +kernel
theorem dL_law_53 : decode cL_law 53 = .ok (.iload 4, 2) := by decide +kernel
theorem dL_law_55 : decode cL_law 55 = .ok (.iaload, 1) := by decide +kernel
theorem dL_law_56 : decode cL_law 56 = .ok (.bipush 31, 2) := by decide +kernel
theorem dL_law_58 : decode cL_law 58 = .ok (.iand, 1) := by decide +kernel
theorem dL_law_59 : decode cL_law 59 = .ok (.tableswitch 1193 0 16 #[81, 173, 241, 321, 384, 440, 500, 544, 624, 704, 760, 840, 908, 988, 1056, 1112, 1168], 81) := by decide +kernel
theorem dL_law_140 : decode cL_law 140 = .ok (.aload_n 1, 1) := by decide +kernel
theorem dL_law_141 : decode cL_law 141 = .ok (.aload_n 0, 1) := by decide +kernel
theorem dL_law_142 : decode cL_law 142 = .ok (.iload 4, 2) := by decide +kernel
theorem dL_law_144 : decode cL_law 144 = .ok (.iconst 1, 1) := by decide +kernel
theorem dL_law_145 : decode cL_law 145 = .ok (.iadd, 1) := by decide +kernel
theorem dL_law_146 : decode cL_law 146 = .ok (.iaload, 1) := by decide +kernel
theorem dL_law_147 : decode cL_law 147 = .ok (.aload_n 0, 1) := by decide +kernel
theorem dL_law_148 : decode cL_law 148 = .ok (.iload 4, 2) := by decide +kernel
theorem dL_law_150 : decode cL_law 150 = .ok (.iconst 2, 1) := by decide +kernel
theorem dL_law_151 : decode cL_law 151 = .ok (.iadd, 1) := by decide +kernel
theorem dL_law_152 : decode cL_law 152 = .ok (.iaload, 1) := by decide +kernel
theorem dL_law_153 : decode cL_law 153 = .ok (.aload_n 0, 1) := by decide +kernel
theorem dL_law_154 : decode cL_law 154 = .ok (.iload 4, 2) := by decide +kernel
theorem dL_law_156 : decode cL_law 156 = .ok (.iconst 3, 1) := by decide +kernel
theorem dL_law_157 : decode cL_law 157 = .ok (.iadd, 1) := by decide +kernel
theorem dL_law_158 : decode cL_law 158 = .ok (.iaload, 1) := by decide +kernel
theorem dL_law_159 : decode cL_law 159 = .ok (.aload_n 0, 1) := by decide +kernel
theorem dL_law_160 : decode cL_law 160 = .ok (.iload 4, 2) := by decide +kernel
theorem dL_law_162 : decode cL_law 162 = .ok (.iconst 4, 1) := by decide +kernel
theorem dL_law_163 : decode cL_law 163 = .ok (.iadd, 1) := by decide +kernel
theorem dL_law_164 : decode cL_law 164 = .ok (.iaload, 1) := by decide +kernel
theorem dL_law_165 : decode cL_law 165 = .ok (.aload_n 3, 1) := by decide +kernel
theorem dL_law_166 : decode cL_law 166 = .ok (.invokestatic 86, 3) := by decide +kernel
theorem dL_law_169 : decode cL_law 169 = .ok (.istore 5, 2) := by decide +kernel
theorem dL_law_171 : decode cL_law 171 = .ok (.aload_n 2, 1) := by decide +kernel
theorem dL_law_172 : decode cL_law 172 = .ok (.aload_n 0, 1) := by decide +kernel
theorem dL_law_173 : decode cL_law 173 = .ok (.iload 4, 2) := by decide +kernel
theorem dL_law_175 : decode cL_law 175 = .ok (.iconst 1, 1) := by decide +kernel
theorem dL_law_176 : decode cL_law 176 = .ok (.iadd, 1) := by decide +kernel
theorem dL_law_177 : decode cL_law 177 = .ok (.iaload, 1) := by decide +kernel
theorem dL_law_178 : decode cL_law 178 = .ok (.aload_n 0, 1) := by decide +kernel
theorem dL_law_179 : decode cL_law 179 = .ok (.iload 4, 2) := by decide +kernel
theorem dL_law_181 : decode cL_law 181 = .ok (.iconst 2, 1) := by decide +kernel
theorem dL_law_182 : decode cL_law 182 = .ok (.iadd, 1) := by decide +kernel
theorem dL_law_183 : decode cL_law 183 = .ok (.iaload, 1) := by decide +kernel
theorem dL_law_184 : decode cL_law 184 = .ok (.aload_n 0, 1) := by decide +kernel
theorem dL_law_185 : decode cL_law 185 = .ok (.iload 4, 2) := by decide +kernel
theorem dL_law_187 : decode cL_law 187 = .ok (.iconst 3, 1) := by decide +kernel
theorem dL_law_188 : decode cL_law 188 = .ok (.iadd, 1) := by decide +kernel
theorem dL_law_189 : decode cL_law 189 = .ok (.iaload, 1) := by decide +kernel
theorem dL_law_190 : decode cL_law 190 = .ok (.aload_n 0, 1) := by decide +kernel
theorem dL_law_191 : decode cL_law 191 = .ok (.iload 4, 2) := by decide +kernel
theorem dL_law_193 : decode cL_law 193 = .ok (.iconst 4, 1) := by decide +kernel
theorem dL_law_194 : decode cL_law 194 = .ok (.iadd, 1) := by decide +kernel
theorem dL_law_195 : decode cL_law 195 = .ok (.iaload, 1) := by decide +kernel
theorem dL_law_196 : decode cL_law 196 = .ok (.invokevirtual 89, 3) := by decide +kernel
theorem dL_law_199 : decode cL_law 199 = .ok (.istore 6, 2) := by decide +kernel
theorem dL_law_201 : decode cL_law 201 = .ok (.aload_n 2, 1) := by decide +kernel
theorem dL_law_202 : decode cL_law 202 = .ok (.invokevirtual 90, 3) := by decide +kernel
theorem dL_law_205 : decode cL_law 205 = .ok (.iload 5, 2) := by decide +kernel
theorem dL_law_207 : decode cL_law 207 = .ok (.if_icmp .eq 5, 3) := by decide +kernel
theorem dL_law_210 : decode cL_law 210 = .ok (.iconst 0, 1) := by decide +kernel
theorem dL_law_211 : decode cL_law 211 = .ok (.ireturn, 1) := by decide +kernel
theorem dL_law_212 : decode cL_law 212 = .ok (.iload 5, 2) := by decide +kernel
theorem dL_law_214 : decode cL_law 214 = .ok (.ifCond .ne 15, 3) := by decide +kernel
theorem dL_law_217 : decode cL_law 217 = .ok (.aload_n 3, 1) := by decide +kernel
theorem dL_law_218 : decode cL_law 218 = .ok (.iconst 0, 1) := by decide +kernel
theorem dL_law_219 : decode cL_law 219 = .ok (.laload, 1) := by decide +kernel
theorem dL_law_220 : decode cL_law 220 = .ok (.iload 6, 2) := by decide +kernel
theorem dL_law_222 : decode cL_law 222 = .ok (.i2l, 1) := by decide +kernel
theorem dL_law_223 : decode cL_law 223 = .ok (.lcmp, 1) := by decide +kernel
theorem dL_law_224 : decode cL_law 224 = .ok (.ifCond .eq 5, 3) := by decide +kernel
theorem dL_law_227 : decode cL_law 227 = .ok (.iconst 0, 1) := by decide +kernel
theorem dL_law_228 : decode cL_law 228 = .ok (.ireturn, 1) := by decide +kernel
theorem dL_law_229 : decode cL_law 229 = .ok (.goto 1023, 3) := by decide +kernel
theorem dL_law_232 : decode cL_law 232 = .ok (.aload_n 1, 1) := by decide +kernel
theorem dL_law_233 : decode cL_law 233 = .ok (.aload_n 0, 1) := by decide +kernel
theorem dL_law_234 : decode cL_law 234 = .ok (.iload 4, 2) := by decide +kernel
theorem dL_law_236 : decode cL_law 236 = .ok (.iconst 1, 1) := by decide +kernel
theorem dL_law_237 : decode cL_law 237 = .ok (.iadd, 1) := by decide +kernel
theorem dL_law_238 : decode cL_law 238 = .ok (.iaload, 1) := by decide +kernel
theorem dL_law_239 : decode cL_law 239 = .ok (.aload_n 0, 1) := by decide +kernel
theorem dL_law_240 : decode cL_law 240 = .ok (.iload 4, 2) := by decide +kernel
theorem dL_law_242 : decode cL_law 242 = .ok (.iconst 2, 1) := by decide +kernel
theorem dL_law_243 : decode cL_law 243 = .ok (.iadd, 1) := by decide +kernel
theorem dL_law_244 : decode cL_law 244 = .ok (.iaload, 1) := by decide +kernel
theorem dL_law_245 : decode cL_law 245 = .ok (.aload_n 3, 1) := by decide +kernel
theorem dL_law_246 : decode cL_law 246 = .ok (.invokestatic 93, 3) := by decide +kernel
theorem dL_law_249 : decode cL_law 249 = .ok (.istore 5, 2) := by decide +kernel
theorem dL_law_251 : decode cL_law 251 = .ok (.aload_n 2, 1) := by decide +kernel
theorem dL_law_252 : decode cL_law 252 = .ok (.aload_n 0, 1) := by decide +kernel
theorem dL_law_253 : decode cL_law 253 = .ok (.iload 4, 2) := by decide +kernel
theorem dL_law_255 : decode cL_law 255 = .ok (.iconst 1, 1) := by decide +kernel
theorem dL_law_256 : decode cL_law 256 = .ok (.iadd, 1) := by decide +kernel
theorem dL_law_257 : decode cL_law 257 = .ok (.iaload, 1) := by decide +kernel
theorem dL_law_258 : decode cL_law 258 = .ok (.aload_n 0, 1) := by decide +kernel
theorem dL_law_259 : decode cL_law 259 = .ok (.iload 4, 2) := by decide +kernel
theorem dL_law_261 : decode cL_law 261 = .ok (.iconst 2, 1) := by decide +kernel
theorem dL_law_262 : decode cL_law 262 = .ok (.iadd, 1) := by decide +kernel
theorem dL_law_263 : decode cL_law 263 = .ok (.iaload, 1) := by decide +kernel
theorem dL_law_264 : decode cL_law 264 = .ok (.invokevirtual 96, 3) := by decide +kernel
theorem dL_law_267 : decode cL_law 267 = .ok (.istore 6, 2) := by decide +kernel
theorem dL_law_269 : decode cL_law 269 = .ok (.aload_n 2, 1) := by decide +kernel
theorem dL_law_270 : decode cL_law 270 = .ok (.invokevirtual 90, 3) := by decide +kernel
theorem dL_law_273 : decode cL_law 273 = .ok (.iload 5, 2) := by decide +kernel
theorem dL_law_275 : decode cL_law 275 = .ok (.if_icmp .eq 5, 3) := by decide +kernel
theorem dL_law_278 : decode cL_law 278 = .ok (.iconst 0, 1) := by decide +kernel
theorem dL_law_279 : decode cL_law 279 = .ok (.ireturn, 1) := by decide +kernel
theorem dL_law_280 : decode cL_law 280 = .ok (.iload 5, 2) := by decide +kernel
theorem dL_law_282 : decode cL_law 282 = .ok (.ifCond .ne 15, 3) := by decide +kernel
theorem dL_law_285 : decode cL_law 285 = .ok (.aload_n 3, 1) := by decide +kernel
theorem dL_law_286 : decode cL_law 286 = .ok (.iconst 0, 1) := by decide +kernel
theorem dL_law_287 : decode cL_law 287 = .ok (.laload, 1) := by decide +kernel
theorem dL_law_288 : decode cL_law 288 = .ok (.iload 6, 2) := by decide +kernel
theorem dL_law_290 : decode cL_law 290 = .ok (.i2l, 1) := by decide +kernel
theorem dL_law_291 : decode cL_law 291 = .ok (.lcmp, 1) := by decide +kernel
theorem dL_law_292 : decode cL_law 292 = .ok (.ifCond .eq 5, 3) := by decide +kernel
theorem dL_law_295 : decode cL_law 295 = .ok (.iconst 0, 1) := by decide +kernel
theorem dL_law_296 : decode cL_law 296 = .ok (.ireturn, 1) := by decide +kernel
theorem dL_law_297 : decode cL_law 297 = .ok (.goto 955, 3) := by decide +kernel
theorem dL_law_300 : decode cL_law 300 = .ok (.aload_n 1, 1) := by decide +kernel
theorem dL_law_301 : decode cL_law 301 = .ok (.aload_n 0, 1) := by decide +kernel
theorem dL_law_302 : decode cL_law 302 = .ok (.iload 4, 2) := by decide +kernel
theorem dL_law_304 : decode cL_law 304 = .ok (.iconst 1, 1) := by decide +kernel
theorem dL_law_305 : decode cL_law 305 = .ok (.iadd, 1) := by decide +kernel
theorem dL_law_306 : decode cL_law 306 = .ok (.iaload, 1) := by decide +kernel
theorem dL_law_307 : decode cL_law 307 = .ok (.aload_n 0, 1) := by decide +kernel
theorem dL_law_308 : decode cL_law 308 = .ok (.iload 4, 2) := by decide +kernel
theorem dL_law_310 : decode cL_law 310 = .ok (.iconst 2, 1) := by decide +kernel
theorem dL_law_311 : decode cL_law 311 = .ok (.iadd, 1) := by decide +kernel
theorem dL_law_312 : decode cL_law 312 = .ok (.iaload, 1) := by decide +kernel
theorem dL_law_313 : decode cL_law 313 = .ok (.aload_n 0, 1) := by decide +kernel
theorem dL_law_314 : decode cL_law 314 = .ok (.iload 4, 2) := by decide +kernel
theorem dL_law_316 : decode cL_law 316 = .ok (.iconst 3, 1) := by decide +kernel
theorem dL_law_317 : decode cL_law 317 = .ok (.iadd, 1) := by decide +kernel
theorem dL_law_318 : decode cL_law 318 = .ok (.iaload, 1) := by decide +kernel
theorem dL_law_319 : decode cL_law 319 = .ok (.aload_n 3, 1) := by decide +kernel
theorem dL_law_320 : decode cL_law 320 = .ok (.invokestatic 97, 3) := by decide +kernel
theorem dL_law_323 : decode cL_law 323 = .ok (.istore 5, 2) := by decide +kernel
theorem dL_law_325 : decode cL_law 325 = .ok (.aload_n 2, 1) := by decide +kernel
theorem dL_law_326 : decode cL_law 326 = .ok (.aload_n 0, 1) := by decide +kernel
theorem dL_law_327 : decode cL_law 327 = .ok (.iload 4, 2) := by decide +kernel
theorem dL_law_329 : decode cL_law 329 = .ok (.iconst 1, 1) := by decide +kernel
theorem dL_law_330 : decode cL_law 330 = .ok (.iadd, 1) := by decide +kernel
theorem dL_law_331 : decode cL_law 331 = .ok (.iaload, 1) := by decide +kernel
theorem dL_law_332 : decode cL_law 332 = .ok (.aload_n 0, 1) := by decide +kernel
theorem dL_law_333 : decode cL_law 333 = .ok (.iload 4, 2) := by decide +kernel
theorem dL_law_335 : decode cL_law 335 = .ok (.iconst 2, 1) := by decide +kernel
theorem dL_law_336 : decode cL_law 336 = .ok (.iadd, 1) := by decide +kernel
theorem dL_law_337 : decode cL_law 337 = .ok (.iaload, 1) := by decide +kernel
theorem dL_law_338 : decode cL_law 338 = .ok (.aload_n 0, 1) := by decide +kernel
theorem dL_law_339 : decode cL_law 339 = .ok (.iload 4, 2) := by decide +kernel
theorem dL_law_341 : decode cL_law 341 = .ok (.iconst 3, 1) := by decide +kernel
theorem dL_law_342 : decode cL_law 342 = .ok (.iadd, 1) := by decide +kernel
theorem dL_law_343 : decode cL_law 343 = .ok (.iaload, 1) := by decide +kernel
theorem dL_law_344 : decode cL_law 344 = .ok (.invokevirtual 100, 3) := by decide +kernel
theorem dL_law_347 : decode cL_law 347 = .ok (.istore 6, 2) := by decide +kernel
theorem dL_law_349 : decode cL_law 349 = .ok (.aload_n 2, 1) := by decide +kernel
theorem dL_law_350 : decode cL_law 350 = .ok (.invokevirtual 90, 3) := by decide +kernel
theorem dL_law_353 : decode cL_law 353 = .ok (.iload 5, 2) := by decide +kernel
theorem dL_law_355 : decode cL_law 355 = .ok (.if_icmp .eq 5, 3) := by decide +kernel
theorem dL_law_358 : decode cL_law 358 = .ok (.iconst 0, 1) := by decide +kernel
theorem dL_law_359 : decode cL_law 359 = .ok (.ireturn, 1) := by decide +kernel
theorem dL_law_360 : decode cL_law 360 = .ok (.iload 5, 2) := by decide +kernel
theorem dL_law_362 : decode cL_law 362 = .ok (.ifCond .ne 15, 3) := by decide +kernel
theorem dL_law_365 : decode cL_law 365 = .ok (.aload_n 3, 1) := by decide +kernel
theorem dL_law_366 : decode cL_law 366 = .ok (.iconst 0, 1) := by decide +kernel
theorem dL_law_367 : decode cL_law 367 = .ok (.laload, 1) := by decide +kernel
theorem dL_law_368 : decode cL_law 368 = .ok (.iload 6, 2) := by decide +kernel
theorem dL_law_370 : decode cL_law 370 = .ok (.i2l, 1) := by decide +kernel
theorem dL_law_371 : decode cL_law 371 = .ok (.lcmp, 1) := by decide +kernel
theorem dL_law_372 : decode cL_law 372 = .ok (.ifCond .eq 5, 3) := by decide +kernel
theorem dL_law_375 : decode cL_law 375 = .ok (.iconst 0, 1) := by decide +kernel
theorem dL_law_376 : decode cL_law 376 = .ok (.ireturn, 1) := by decide +kernel
theorem dL_law_377 : decode cL_law 377 = .ok (.goto 875, 3) := by decide +kernel
theorem dL_law_380 : decode cL_law 380 = .ok (.aload_n 1, 1) := by decide +kernel
theorem dL_law_381 : decode cL_law 381 = .ok (.aload_n 0, 1) := by decide +kernel
theorem dL_law_382 : decode cL_law 382 = .ok (.iload 4, 2) := by decide +kernel
theorem dL_law_384 : decode cL_law 384 = .ok (.iconst 1, 1) := by decide +kernel
theorem dL_law_385 : decode cL_law 385 = .ok (.iadd, 1) := by decide +kernel
theorem dL_law_386 : decode cL_law 386 = .ok (.iaload, 1) := by decide +kernel
theorem dL_law_387 : decode cL_law 387 = .ok (.aload_n 3, 1) := by decide +kernel
theorem dL_law_388 : decode cL_law 388 = .ok (.invokestatic 101, 3) := by decide +kernel
theorem dL_law_391 : decode cL_law 391 = .ok (.istore 5, 2) := by decide +kernel
theorem dL_law_393 : decode cL_law 393 = .ok (.aload_n 2, 1) := by decide +kernel
theorem dL_law_394 : decode cL_law 394 = .ok (.aload_n 0, 1) := by decide +kernel
theorem dL_law_395 : decode cL_law 395 = .ok (.iload 4, 2) := by decide +kernel
theorem dL_law_397 : decode cL_law 397 = .ok (.iconst 1, 1) := by decide +kernel
theorem dL_law_398 : decode cL_law 398 = .ok (.iadd, 1) := by decide +kernel
theorem dL_law_399 : decode cL_law 399 = .ok (.iaload, 1) := by decide +kernel
theorem dL_law_400 : decode cL_law 400 = .ok (.invokevirtual 104, 3) := by decide +kernel
theorem dL_law_403 : decode cL_law 403 = .ok (.istore 6, 2) := by decide +kernel
theorem dL_law_405 : decode cL_law 405 = .ok (.aload_n 2, 1) := by decide +kernel
theorem dL_law_406 : decode cL_law 406 = .ok (.invokevirtual 90, 3) := by decide +kernel
theorem dL_law_409 : decode cL_law 409 = .ok (.iload 5, 2) := by decide +kernel
theorem dL_law_411 : decode cL_law 411 = .ok (.if_icmp .eq 5, 3) := by decide +kernel
theorem dL_law_414 : decode cL_law 414 = .ok (.iconst 0, 1) := by decide +kernel
theorem dL_law_415 : decode cL_law 415 = .ok (.ireturn, 1) := by decide +kernel
theorem dL_law_416 : decode cL_law 416 = .ok (.iload 5, 2) := by decide +kernel
theorem dL_law_418 : decode cL_law 418 = .ok (.ifCond .ne 22, 3) := by decide +kernel
theorem dL_law_421 : decode cL_law 421 = .ok (.aload_n 3, 1) := by decide +kernel
theorem dL_law_422 : decode cL_law 422 = .ok (.iconst 0, 1) := by decide +kernel
theorem dL_law_423 : decode cL_law 423 = .ok (.laload, 1) := by decide +kernel
theorem dL_law_424 : decode cL_law 424 = .ok (.iload 6, 2) := by decide +kernel
theorem dL_law_426 : decode cL_law 426 = .ok (.ifCond .eq 7, 3) := by decide +kernel
theorem dL_law_429 : decode cL_law 429 = .ok (.lconst 1, 1) := by decide +kernel
theorem dL_law_430 : decode cL_law 430 = .ok (.goto 4, 3) := by decide +kernel
theorem dL_law_433 : decode cL_law 433 = .ok (.lconst 0, 1) := by decide +kernel
theorem dL_law_434 : decode cL_law 434 = .ok (.lcmp, 1) := by decide +kernel
theorem dL_law_435 : decode cL_law 435 = .ok (.ifCond .eq 5, 3) := by decide +kernel
theorem dL_law_438 : decode cL_law 438 = .ok (.iconst 0, 1) := by decide +kernel
theorem dL_law_439 : decode cL_law 439 = .ok (.ireturn, 1) := by decide +kernel
theorem dL_law_440 : decode cL_law 440 = .ok (.goto 812, 3) := by decide +kernel
theorem dL_law_443 : decode cL_law 443 = .ok (.aload_n 1, 1) := by decide +kernel
theorem dL_law_444 : decode cL_law 444 = .ok (.aload_n 0, 1) := by decide +kernel
theorem dL_law_445 : decode cL_law 445 = .ok (.iload 4, 2) := by decide +kernel
theorem dL_law_447 : decode cL_law 447 = .ok (.iconst 1, 1) := by decide +kernel
theorem dL_law_448 : decode cL_law 448 = .ok (.iadd, 1) := by decide +kernel
theorem dL_law_449 : decode cL_law 449 = .ok (.iaload, 1) := by decide +kernel
theorem dL_law_450 : decode cL_law 450 = .ok (.aload_n 3, 1) := by decide +kernel
theorem dL_law_451 : decode cL_law 451 = .ok (.invokestatic 105, 3) := by decide +kernel
theorem dL_law_454 : decode cL_law 454 = .ok (.istore 5, 2) := by decide +kernel
theorem dL_law_456 : decode cL_law 456 = .ok (.aload_n 2, 1) := by decide +kernel
theorem dL_law_457 : decode cL_law 457 = .ok (.aload_n 0, 1) := by decide +kernel
theorem dL_law_458 : decode cL_law 458 = .ok (.iload 4, 2) := by decide +kernel
theorem dL_law_460 : decode cL_law 460 = .ok (.iconst 1, 1) := by decide +kernel
theorem dL_law_461 : decode cL_law 461 = .ok (.iadd, 1) := by decide +kernel
theorem dL_law_462 : decode cL_law 462 = .ok (.iaload, 1) := by decide +kernel
theorem dL_law_463 : decode cL_law 463 = .ok (.invokevirtual 107, 3) := by decide +kernel
theorem dL_law_466 : decode cL_law 466 = .ok (.istore 6, 2) := by decide +kernel
theorem dL_law_468 : decode cL_law 468 = .ok (.aload_n 2, 1) := by decide +kernel
theorem dL_law_469 : decode cL_law 469 = .ok (.invokevirtual 90, 3) := by decide +kernel
theorem dL_law_472 : decode cL_law 472 = .ok (.iload 5, 2) := by decide +kernel
theorem dL_law_474 : decode cL_law 474 = .ok (.if_icmp .eq 5, 3) := by decide +kernel
theorem dL_law_477 : decode cL_law 477 = .ok (.iconst 0, 1) := by decide +kernel
theorem dL_law_478 : decode cL_law 478 = .ok (.ireturn, 1) := by decide +kernel
theorem dL_law_479 : decode cL_law 479 = .ok (.iload 5, 2) := by decide +kernel
theorem dL_law_481 : decode cL_law 481 = .ok (.ifCond .ne 15, 3) := by decide +kernel
theorem dL_law_484 : decode cL_law 484 = .ok (.aload_n 3, 1) := by decide +kernel
theorem dL_law_485 : decode cL_law 485 = .ok (.iconst 0, 1) := by decide +kernel
theorem dL_law_486 : decode cL_law 486 = .ok (.laload, 1) := by decide +kernel
theorem dL_law_487 : decode cL_law 487 = .ok (.iload 6, 2) := by decide +kernel
theorem dL_law_489 : decode cL_law 489 = .ok (.i2l, 1) := by decide +kernel
theorem dL_law_490 : decode cL_law 490 = .ok (.lcmp, 1) := by decide +kernel
theorem dL_law_491 : decode cL_law 491 = .ok (.ifCond .eq 5, 3) := by decide +kernel
theorem dL_law_494 : decode cL_law 494 = .ok (.iconst 0, 1) := by decide +kernel
theorem dL_law_495 : decode cL_law 495 = .ok (.ireturn, 1) := by decide +kernel
theorem dL_law_496 : decode cL_law 496 = .ok (.goto 756, 3) := by decide +kernel
theorem dL_law_499 : decode cL_law 499 = .ok (.aload_n 1, 1) := by decide +kernel
theorem dL_law_500 : decode cL_law 500 = .ok (.aload_n 0, 1) := by decide +kernel
theorem dL_law_501 : decode cL_law 501 = .ok (.iload 4, 2) := by decide +kernel
theorem dL_law_503 : decode cL_law 503 = .ok (.iconst 1, 1) := by decide +kernel
theorem dL_law_504 : decode cL_law 504 = .ok (.iadd, 1) := by decide +kernel
theorem dL_law_505 : decode cL_law 505 = .ok (.iaload, 1) := by decide +kernel
theorem dL_law_506 : decode cL_law 506 = .ok (.aload_n 0, 1) := by decide +kernel
theorem dL_law_507 : decode cL_law 507 = .ok (.iload 4, 2) := by decide +kernel
theorem dL_law_509 : decode cL_law 509 = .ok (.iconst 2, 1) := by decide +kernel
theorem dL_law_510 : decode cL_law 510 = .ok (.iadd, 1) := by decide +kernel
theorem dL_law_511 : decode cL_law 511 = .ok (.iaload, 1) := by decide +kernel
theorem dL_law_512 : decode cL_law 512 = .ok (.aload_n 0, 1) := by decide +kernel
theorem dL_law_513 : decode cL_law 513 = .ok (.iload 4, 2) := by decide +kernel
theorem dL_law_515 : decode cL_law 515 = .ok (.iconst 3, 1) := by decide +kernel
theorem dL_law_516 : decode cL_law 516 = .ok (.iadd, 1) := by decide +kernel
theorem dL_law_517 : decode cL_law 517 = .ok (.iaload, 1) := by decide +kernel
theorem dL_law_518 : decode cL_law 518 = .ok (.invokestatic 108, 3) := by decide +kernel
theorem dL_law_521 : decode cL_law 521 = .ok (.istore 5, 2) := by decide +kernel
theorem dL_law_523 : decode cL_law 523 = .ok (.aload_n 2, 1) := by decide +kernel
theorem dL_law_524 : decode cL_law 524 = .ok (.aload_n 0, 1) := by decide +kernel
theorem dL_law_525 : decode cL_law 525 = .ok (.iload 4, 2) := by decide +kernel
theorem dL_law_527 : decode cL_law 527 = .ok (.iconst 1, 1) := by decide +kernel
theorem dL_law_528 : decode cL_law 528 = .ok (.iadd, 1) := by decide +kernel
theorem dL_law_529 : decode cL_law 529 = .ok (.iaload, 1) := by decide +kernel
theorem dL_law_530 : decode cL_law 530 = .ok (.aload_n 0, 1) := by decide +kernel
theorem dL_law_531 : decode cL_law 531 = .ok (.iload 4, 2) := by decide +kernel
theorem dL_law_533 : decode cL_law 533 = .ok (.iconst 2, 1) := by decide +kernel
theorem dL_law_534 : decode cL_law 534 = .ok (.iadd, 1) := by decide +kernel
theorem dL_law_535 : decode cL_law 535 = .ok (.iaload, 1) := by decide +kernel
theorem dL_law_536 : decode cL_law 536 = .ok (.aload_n 0, 1) := by decide +kernel
theorem dL_law_537 : decode cL_law 537 = .ok (.iload 4, 2) := by decide +kernel
theorem dL_law_539 : decode cL_law 539 = .ok (.iconst 3, 1) := by decide +kernel
theorem dL_law_540 : decode cL_law 540 = .ok (.iadd, 1) := by decide +kernel
theorem dL_law_541 : decode cL_law 541 = .ok (.iaload, 1) := by decide +kernel
theorem dL_law_542 : decode cL_law 542 = .ok (.invokevirtual 111, 3) := by decide +kernel
theorem dL_law_545 : decode cL_law 545 = .ok (.aload_n 2, 1) := by decide +kernel
theorem dL_law_546 : decode cL_law 546 = .ok (.invokevirtual 90, 3) := by decide +kernel
theorem dL_law_549 : decode cL_law 549 = .ok (.iload 5, 2) := by decide +kernel
theorem dL_law_551 : decode cL_law 551 = .ok (.if_icmp .eq 5, 3) := by decide +kernel
theorem dL_law_554 : decode cL_law 554 = .ok (.iconst 0, 1) := by decide +kernel
theorem dL_law_555 : decode cL_law 555 = .ok (.ireturn, 1) := by decide +kernel
theorem dL_law_556 : decode cL_law 556 = .ok (.goto 696, 3) := by decide +kernel
theorem dL_law_559 : decode cL_law 559 = .ok (.aload_n 1, 1) := by decide +kernel
theorem dL_law_560 : decode cL_law 560 = .ok (.aload_n 3, 1) := by decide +kernel
theorem dL_law_561 : decode cL_law 561 = .ok (.invokestatic 112, 3) := by decide +kernel
theorem dL_law_564 : decode cL_law 564 = .ok (.istore 5, 2) := by decide +kernel
theorem dL_law_566 : decode cL_law 566 = .ok (.aload_n 2, 1) := by decide +kernel
theorem dL_law_567 : decode cL_law 567 = .ok (.invokevirtual 115, 3) := by decide +kernel
theorem dL_law_570 : decode cL_law 570 = .ok (.istore 6, 2) := by decide +kernel
theorem dL_law_572 : decode cL_law 572 = .ok (.aload_n 2, 1) := by decide +kernel
theorem dL_law_573 : decode cL_law 573 = .ok (.invokevirtual 90, 3) := by decide +kernel
theorem dL_law_576 : decode cL_law 576 = .ok (.iload 5, 2) := by decide +kernel
theorem dL_law_578 : decode cL_law 578 = .ok (.if_icmp .eq 5, 3) := by decide +kernel
theorem dL_law_581 : decode cL_law 581 = .ok (.iconst 0, 1) := by decide +kernel
theorem dL_law_582 : decode cL_law 582 = .ok (.ireturn, 1) := by decide +kernel
theorem dL_law_583 : decode cL_law 583 = .ok (.iload 5, 2) := by decide +kernel
theorem dL_law_585 : decode cL_law 585 = .ok (.ifCond .ne 15, 3) := by decide +kernel
theorem dL_law_588 : decode cL_law 588 = .ok (.aload_n 3, 1) := by decide +kernel
theorem dL_law_589 : decode cL_law 589 = .ok (.iconst 0, 1) := by decide +kernel
theorem dL_law_590 : decode cL_law 590 = .ok (.laload, 1) := by decide +kernel
theorem dL_law_591 : decode cL_law 591 = .ok (.iload 6, 2) := by decide +kernel
theorem dL_law_593 : decode cL_law 593 = .ok (.i2l, 1) := by decide +kernel
theorem dL_law_594 : decode cL_law 594 = .ok (.lcmp, 1) := by decide +kernel
theorem dL_law_595 : decode cL_law 595 = .ok (.ifCond .eq 5, 3) := by decide +kernel
theorem dL_law_598 : decode cL_law 598 = .ok (.iconst 0, 1) := by decide +kernel
theorem dL_law_599 : decode cL_law 599 = .ok (.ireturn, 1) := by decide +kernel
theorem dL_law_600 : decode cL_law 600 = .ok (.goto 652, 3) := by decide +kernel
theorem dL_law_603 : decode cL_law 603 = .ok (.aload_n 1, 1) := by decide +kernel
theorem dL_law_604 : decode cL_law 604 = .ok (.aload_n 0, 1) := by decide +kernel
theorem dL_law_605 : decode cL_law 605 = .ok (.iload 4, 2) := by decide +kernel
theorem dL_law_607 : decode cL_law 607 = .ok (.iconst 1, 1) := by decide +kernel
theorem dL_law_608 : decode cL_law 608 = .ok (.iadd, 1) := by decide +kernel
theorem dL_law_609 : decode cL_law 609 = .ok (.iaload, 1) := by decide +kernel
theorem dL_law_610 : decode cL_law 610 = .ok (.aload_n 0, 1) := by decide +kernel
theorem dL_law_611 : decode cL_law 611 = .ok (.iload 4, 2) := by decide +kernel
theorem dL_law_613 : decode cL_law 613 = .ok (.iconst 2, 1) := by decide +kernel
theorem dL_law_614 : decode cL_law 614 = .ok (.iadd, 1) := by decide +kernel
theorem dL_law_615 : decode cL_law 615 = .ok (.iaload, 1) := by decide +kernel
theorem dL_law_616 : decode cL_law 616 = .ok (.aload_n 0, 1) := by decide +kernel
theorem dL_law_617 : decode cL_law 617 = .ok (.iload 4, 2) := by decide +kernel
theorem dL_law_619 : decode cL_law 619 = .ok (.iconst 3, 1) := by decide +kernel
theorem dL_law_620 : decode cL_law 620 = .ok (.iadd, 1) := by decide +kernel
theorem dL_law_621 : decode cL_law 621 = .ok (.iaload, 1) := by decide +kernel
theorem dL_law_622 : decode cL_law 622 = .ok (.aload_n 3, 1) := by decide +kernel
theorem dL_law_623 : decode cL_law 623 = .ok (.invokestatic 116, 3) := by decide +kernel
theorem dL_law_626 : decode cL_law 626 = .ok (.istore 5, 2) := by decide +kernel
theorem dL_law_628 : decode cL_law 628 = .ok (.aload_n 2, 1) := by decide +kernel
theorem dL_law_629 : decode cL_law 629 = .ok (.aload_n 0, 1) := by decide +kernel
theorem dL_law_630 : decode cL_law 630 = .ok (.iload 4, 2) := by decide +kernel
theorem dL_law_632 : decode cL_law 632 = .ok (.iconst 1, 1) := by decide +kernel
theorem dL_law_633 : decode cL_law 633 = .ok (.iadd, 1) := by decide +kernel
theorem dL_law_634 : decode cL_law 634 = .ok (.iaload, 1) := by decide +kernel
theorem dL_law_635 : decode cL_law 635 = .ok (.aload_n 0, 1) := by decide +kernel
theorem dL_law_636 : decode cL_law 636 = .ok (.iload 4, 2) := by decide +kernel
theorem dL_law_638 : decode cL_law 638 = .ok (.iconst 2, 1) := by decide +kernel
theorem dL_law_639 : decode cL_law 639 = .ok (.iadd, 1) := by decide +kernel
theorem dL_law_640 : decode cL_law 640 = .ok (.iaload, 1) := by decide +kernel
theorem dL_law_641 : decode cL_law 641 = .ok (.aload_n 0, 1) := by decide +kernel
theorem dL_law_642 : decode cL_law 642 = .ok (.iload 4, 2) := by decide +kernel
theorem dL_law_644 : decode cL_law 644 = .ok (.iconst 3, 1) := by decide +kernel
theorem dL_law_645 : decode cL_law 645 = .ok (.iadd, 1) := by decide +kernel
theorem dL_law_646 : decode cL_law 646 = .ok (.iaload, 1) := by decide +kernel
theorem dL_law_647 : decode cL_law 647 = .ok (.invokevirtual 118, 3) := by decide +kernel
theorem dL_law_650 : decode cL_law 650 = .ok (.istore 6, 2) := by decide +kernel
theorem dL_law_652 : decode cL_law 652 = .ok (.aload_n 2, 1) := by decide +kernel
theorem dL_law_653 : decode cL_law 653 = .ok (.invokevirtual 90, 3) := by decide +kernel
theorem dL_law_656 : decode cL_law 656 = .ok (.iload 5, 2) := by decide +kernel
theorem dL_law_658 : decode cL_law 658 = .ok (.if_icmp .eq 5, 3) := by decide +kernel
theorem dL_law_661 : decode cL_law 661 = .ok (.iconst 0, 1) := by decide +kernel
theorem dL_law_662 : decode cL_law 662 = .ok (.ireturn, 1) := by decide +kernel
theorem dL_law_663 : decode cL_law 663 = .ok (.iload 5, 2) := by decide +kernel
theorem dL_law_665 : decode cL_law 665 = .ok (.ifCond .ne 15, 3) := by decide +kernel
theorem dL_law_668 : decode cL_law 668 = .ok (.aload_n 3, 1) := by decide +kernel
theorem dL_law_669 : decode cL_law 669 = .ok (.iconst 0, 1) := by decide +kernel
theorem dL_law_670 : decode cL_law 670 = .ok (.laload, 1) := by decide +kernel
theorem dL_law_671 : decode cL_law 671 = .ok (.iload 6, 2) := by decide +kernel
theorem dL_law_673 : decode cL_law 673 = .ok (.i2l, 1) := by decide +kernel
theorem dL_law_674 : decode cL_law 674 = .ok (.lcmp, 1) := by decide +kernel
theorem dL_law_675 : decode cL_law 675 = .ok (.ifCond .eq 5, 3) := by decide +kernel
theorem dL_law_678 : decode cL_law 678 = .ok (.iconst 0, 1) := by decide +kernel
theorem dL_law_679 : decode cL_law 679 = .ok (.ireturn, 1) := by decide +kernel
theorem dL_law_680 : decode cL_law 680 = .ok (.goto 572, 3) := by decide +kernel
theorem dL_law_683 : decode cL_law 683 = .ok (.aload_n 1, 1) := by decide +kernel
theorem dL_law_684 : decode cL_law 684 = .ok (.aload_n 0, 1) := by decide +kernel
theorem dL_law_685 : decode cL_law 685 = .ok (.iload 4, 2) := by decide +kernel
theorem dL_law_687 : decode cL_law 687 = .ok (.iconst 1, 1) := by decide +kernel
theorem dL_law_688 : decode cL_law 688 = .ok (.iadd, 1) := by decide +kernel
theorem dL_law_689 : decode cL_law 689 = .ok (.iaload, 1) := by decide +kernel
theorem dL_law_690 : decode cL_law 690 = .ok (.aload_n 0, 1) := by decide +kernel
theorem dL_law_691 : decode cL_law 691 = .ok (.iload 4, 2) := by decide +kernel
theorem dL_law_693 : decode cL_law 693 = .ok (.iconst 2, 1) := by decide +kernel
theorem dL_law_694 : decode cL_law 694 = .ok (.iadd, 1) := by decide +kernel
theorem dL_law_695 : decode cL_law 695 = .ok (.iaload, 1) := by decide +kernel
theorem dL_law_696 : decode cL_law 696 = .ok (.aload_n 0, 1) := by decide +kernel
theorem dL_law_697 : decode cL_law 697 = .ok (.iload 4, 2) := by decide +kernel
theorem dL_law_699 : decode cL_law 699 = .ok (.iconst 3, 1) := by decide +kernel
theorem dL_law_700 : decode cL_law 700 = .ok (.iadd, 1) := by decide +kernel
theorem dL_law_701 : decode cL_law 701 = .ok (.iaload, 1) := by decide +kernel
theorem dL_law_702 : decode cL_law 702 = .ok (.aload_n 3, 1) := by decide +kernel
theorem dL_law_703 : decode cL_law 703 = .ok (.invokestatic 119, 3) := by decide +kernel
theorem dL_law_706 : decode cL_law 706 = .ok (.istore 5, 2) := by decide +kernel
theorem dL_law_708 : decode cL_law 708 = .ok (.aload_n 2, 1) := by decide +kernel
theorem dL_law_709 : decode cL_law 709 = .ok (.aload_n 0, 1) := by decide +kernel
theorem dL_law_710 : decode cL_law 710 = .ok (.iload 4, 2) := by decide +kernel
theorem dL_law_712 : decode cL_law 712 = .ok (.iconst 1, 1) := by decide +kernel
theorem dL_law_713 : decode cL_law 713 = .ok (.iadd, 1) := by decide +kernel
theorem dL_law_714 : decode cL_law 714 = .ok (.iaload, 1) := by decide +kernel
theorem dL_law_715 : decode cL_law 715 = .ok (.aload_n 0, 1) := by decide +kernel
theorem dL_law_716 : decode cL_law 716 = .ok (.iload 4, 2) := by decide +kernel
theorem dL_law_718 : decode cL_law 718 = .ok (.iconst 2, 1) := by decide +kernel
theorem dL_law_719 : decode cL_law 719 = .ok (.iadd, 1) := by decide +kernel
theorem dL_law_720 : decode cL_law 720 = .ok (.iaload, 1) := by decide +kernel
theorem dL_law_721 : decode cL_law 721 = .ok (.aload_n 0, 1) := by decide +kernel
theorem dL_law_722 : decode cL_law 722 = .ok (.iload 4, 2) := by decide +kernel
theorem dL_law_724 : decode cL_law 724 = .ok (.iconst 3, 1) := by decide +kernel
theorem dL_law_725 : decode cL_law 725 = .ok (.iadd, 1) := by decide +kernel
theorem dL_law_726 : decode cL_law 726 = .ok (.iaload, 1) := by decide +kernel
theorem dL_law_727 : decode cL_law 727 = .ok (.invokevirtual 121, 3) := by decide +kernel
theorem dL_law_730 : decode cL_law 730 = .ok (.istore 6, 2) := by decide +kernel
theorem dL_law_732 : decode cL_law 732 = .ok (.aload_n 2, 1) := by decide +kernel
theorem dL_law_733 : decode cL_law 733 = .ok (.invokevirtual 90, 3) := by decide +kernel
theorem dL_law_736 : decode cL_law 736 = .ok (.iload 5, 2) := by decide +kernel
theorem dL_law_738 : decode cL_law 738 = .ok (.if_icmp .eq 5, 3) := by decide +kernel
theorem dL_law_741 : decode cL_law 741 = .ok (.iconst 0, 1) := by decide +kernel
theorem dL_law_742 : decode cL_law 742 = .ok (.ireturn, 1) := by decide +kernel
theorem dL_law_743 : decode cL_law 743 = .ok (.iload 5, 2) := by decide +kernel
theorem dL_law_745 : decode cL_law 745 = .ok (.ifCond .ne 15, 3) := by decide +kernel
theorem dL_law_748 : decode cL_law 748 = .ok (.aload_n 3, 1) := by decide +kernel
theorem dL_law_749 : decode cL_law 749 = .ok (.iconst 0, 1) := by decide +kernel
theorem dL_law_750 : decode cL_law 750 = .ok (.laload, 1) := by decide +kernel
theorem dL_law_751 : decode cL_law 751 = .ok (.iload 6, 2) := by decide +kernel
theorem dL_law_753 : decode cL_law 753 = .ok (.i2l, 1) := by decide +kernel
theorem dL_law_754 : decode cL_law 754 = .ok (.lcmp, 1) := by decide +kernel
theorem dL_law_755 : decode cL_law 755 = .ok (.ifCond .eq 5, 3) := by decide +kernel
theorem dL_law_758 : decode cL_law 758 = .ok (.iconst 0, 1) := by decide +kernel
theorem dL_law_759 : decode cL_law 759 = .ok (.ireturn, 1) := by decide +kernel
theorem dL_law_760 : decode cL_law 760 = .ok (.goto 492, 3) := by decide +kernel
theorem dL_law_763 : decode cL_law 763 = .ok (.aload_n 1, 1) := by decide +kernel
theorem dL_law_764 : decode cL_law 764 = .ok (.aload_n 0, 1) := by decide +kernel
theorem dL_law_765 : decode cL_law 765 = .ok (.iload 4, 2) := by decide +kernel
theorem dL_law_767 : decode cL_law 767 = .ok (.iconst 1, 1) := by decide +kernel
theorem dL_law_768 : decode cL_law 768 = .ok (.iadd, 1) := by decide +kernel
theorem dL_law_769 : decode cL_law 769 = .ok (.iaload, 1) := by decide +kernel
theorem dL_law_770 : decode cL_law 770 = .ok (.aload_n 3, 1) := by decide +kernel
theorem dL_law_771 : decode cL_law 771 = .ok (.invokestatic 122, 3) := by decide +kernel
theorem dL_law_774 : decode cL_law 774 = .ok (.istore 5, 2) := by decide +kernel
theorem dL_law_776 : decode cL_law 776 = .ok (.aload_n 2, 1) := by decide +kernel
theorem dL_law_777 : decode cL_law 777 = .ok (.aload_n 0, 1) := by decide +kernel
theorem dL_law_778 : decode cL_law 778 = .ok (.iload 4, 2) := by decide +kernel
theorem dL_law_780 : decode cL_law 780 = .ok (.iconst 1, 1) := by decide +kernel
theorem dL_law_781 : decode cL_law 781 = .ok (.iadd, 1) := by decide +kernel
theorem dL_law_782 : decode cL_law 782 = .ok (.iaload, 1) := by decide +kernel
theorem dL_law_783 : decode cL_law 783 = .ok (.invokevirtual 124, 3) := by decide +kernel
theorem dL_law_786 : decode cL_law 786 = .ok (.istore 6, 2) := by decide +kernel
theorem dL_law_788 : decode cL_law 788 = .ok (.aload_n 2, 1) := by decide +kernel
theorem dL_law_789 : decode cL_law 789 = .ok (.invokevirtual 90, 3) := by decide +kernel
theorem dL_law_792 : decode cL_law 792 = .ok (.iload 5, 2) := by decide +kernel
theorem dL_law_794 : decode cL_law 794 = .ok (.if_icmp .eq 5, 3) := by decide +kernel
theorem dL_law_797 : decode cL_law 797 = .ok (.iconst 0, 1) := by decide +kernel
theorem dL_law_798 : decode cL_law 798 = .ok (.ireturn, 1) := by decide +kernel
theorem dL_law_799 : decode cL_law 799 = .ok (.iload 5, 2) := by decide +kernel
theorem dL_law_801 : decode cL_law 801 = .ok (.ifCond .ne 15, 3) := by decide +kernel
theorem dL_law_804 : decode cL_law 804 = .ok (.aload_n 3, 1) := by decide +kernel
theorem dL_law_805 : decode cL_law 805 = .ok (.iconst 0, 1) := by decide +kernel
theorem dL_law_806 : decode cL_law 806 = .ok (.laload, 1) := by decide +kernel
theorem dL_law_807 : decode cL_law 807 = .ok (.iload 6, 2) := by decide +kernel
theorem dL_law_809 : decode cL_law 809 = .ok (.i2l, 1) := by decide +kernel
theorem dL_law_810 : decode cL_law 810 = .ok (.lcmp, 1) := by decide +kernel
theorem dL_law_811 : decode cL_law 811 = .ok (.ifCond .eq 5, 3) := by decide +kernel
theorem dL_law_814 : decode cL_law 814 = .ok (.iconst 0, 1) := by decide +kernel
theorem dL_law_815 : decode cL_law 815 = .ok (.ireturn, 1) := by decide +kernel
theorem dL_law_816 : decode cL_law 816 = .ok (.goto 436, 3) := by decide +kernel
theorem dL_law_819 : decode cL_law 819 = .ok (.aload_n 1, 1) := by decide +kernel
theorem dL_law_820 : decode cL_law 820 = .ok (.aload_n 0, 1) := by decide +kernel
theorem dL_law_821 : decode cL_law 821 = .ok (.iload 4, 2) := by decide +kernel
theorem dL_law_823 : decode cL_law 823 = .ok (.iconst 1, 1) := by decide +kernel
theorem dL_law_824 : decode cL_law 824 = .ok (.iadd, 1) := by decide +kernel
theorem dL_law_825 : decode cL_law 825 = .ok (.iaload, 1) := by decide +kernel
theorem dL_law_826 : decode cL_law 826 = .ok (.aload_n 0, 1) := by decide +kernel
theorem dL_law_827 : decode cL_law 827 = .ok (.iload 4, 2) := by decide +kernel
theorem dL_law_829 : decode cL_law 829 = .ok (.iconst 2, 1) := by decide +kernel
theorem dL_law_830 : decode cL_law 830 = .ok (.iadd, 1) := by decide +kernel
theorem dL_law_831 : decode cL_law 831 = .ok (.iaload, 1) := by decide +kernel
theorem dL_law_832 : decode cL_law 832 = .ok (.aload_n 0, 1) := by decide +kernel
theorem dL_law_833 : decode cL_law 833 = .ok (.iload 4, 2) := by decide +kernel
theorem dL_law_835 : decode cL_law 835 = .ok (.iconst 3, 1) := by decide +kernel
theorem dL_law_836 : decode cL_law 836 = .ok (.iadd, 1) := by decide +kernel
theorem dL_law_837 : decode cL_law 837 = .ok (.iaload, 1) := by decide +kernel
theorem dL_law_838 : decode cL_law 838 = .ok (.aload_n 3, 1) := by decide +kernel
theorem dL_law_839 : decode cL_law 839 = .ok (.invokestatic 125, 3) := by decide +kernel
theorem dL_law_842 : decode cL_law 842 = .ok (.istore 5, 2) := by decide +kernel
theorem dL_law_844 : decode cL_law 844 = .ok (.aload_n 2, 1) := by decide +kernel
theorem dL_law_845 : decode cL_law 845 = .ok (.aload_n 0, 1) := by decide +kernel
theorem dL_law_846 : decode cL_law 846 = .ok (.iload 4, 2) := by decide +kernel
theorem dL_law_848 : decode cL_law 848 = .ok (.iconst 1, 1) := by decide +kernel
theorem dL_law_849 : decode cL_law 849 = .ok (.iadd, 1) := by decide +kernel
theorem dL_law_850 : decode cL_law 850 = .ok (.iaload, 1) := by decide +kernel
theorem dL_law_851 : decode cL_law 851 = .ok (.aload_n 0, 1) := by decide +kernel
theorem dL_law_852 : decode cL_law 852 = .ok (.iload 4, 2) := by decide +kernel
theorem dL_law_854 : decode cL_law 854 = .ok (.iconst 2, 1) := by decide +kernel
theorem dL_law_855 : decode cL_law 855 = .ok (.iadd, 1) := by decide +kernel
theorem dL_law_856 : decode cL_law 856 = .ok (.iaload, 1) := by decide +kernel
theorem dL_law_857 : decode cL_law 857 = .ok (.aload_n 0, 1) := by decide +kernel
theorem dL_law_858 : decode cL_law 858 = .ok (.iload 4, 2) := by decide +kernel
theorem dL_law_860 : decode cL_law 860 = .ok (.iconst 3, 1) := by decide +kernel
theorem dL_law_861 : decode cL_law 861 = .ok (.iadd, 1) := by decide +kernel
theorem dL_law_862 : decode cL_law 862 = .ok (.iaload, 1) := by decide +kernel
theorem dL_law_863 : decode cL_law 863 = .ok (.invokevirtual 127, 3) := by decide +kernel
theorem dL_law_866 : decode cL_law 866 = .ok (.istore 6, 2) := by decide +kernel
theorem dL_law_868 : decode cL_law 868 = .ok (.aload_n 2, 1) := by decide +kernel
theorem dL_law_869 : decode cL_law 869 = .ok (.invokevirtual 90, 3) := by decide +kernel
theorem dL_law_872 : decode cL_law 872 = .ok (.iload 5, 2) := by decide +kernel
theorem dL_law_874 : decode cL_law 874 = .ok (.if_icmp .eq 5, 3) := by decide +kernel
theorem dL_law_877 : decode cL_law 877 = .ok (.iconst 0, 1) := by decide +kernel
theorem dL_law_878 : decode cL_law 878 = .ok (.ireturn, 1) := by decide +kernel
theorem dL_law_879 : decode cL_law 879 = .ok (.iload 5, 2) := by decide +kernel
theorem dL_law_881 : decode cL_law 881 = .ok (.ifCond .ne 15, 3) := by decide +kernel
theorem dL_law_884 : decode cL_law 884 = .ok (.aload_n 3, 1) := by decide +kernel
theorem dL_law_885 : decode cL_law 885 = .ok (.iconst 0, 1) := by decide +kernel
theorem dL_law_886 : decode cL_law 886 = .ok (.laload, 1) := by decide +kernel
theorem dL_law_887 : decode cL_law 887 = .ok (.iload 6, 2) := by decide +kernel
theorem dL_law_889 : decode cL_law 889 = .ok (.i2l, 1) := by decide +kernel
theorem dL_law_890 : decode cL_law 890 = .ok (.lcmp, 1) := by decide +kernel
theorem dL_law_891 : decode cL_law 891 = .ok (.ifCond .eq 5, 3) := by decide +kernel
theorem dL_law_894 : decode cL_law 894 = .ok (.iconst 0, 1) := by decide +kernel
theorem dL_law_895 : decode cL_law 895 = .ok (.ireturn, 1) := by decide +kernel
theorem dL_law_896 : decode cL_law 896 = .ok (.goto 356, 3) := by decide +kernel
theorem dL_law_899 : decode cL_law 899 = .ok (.aload_n 1, 1) := by decide +kernel
theorem dL_law_900 : decode cL_law 900 = .ok (.aload_n 0, 1) := by decide +kernel
theorem dL_law_901 : decode cL_law 901 = .ok (.iload 4, 2) := by decide +kernel
theorem dL_law_903 : decode cL_law 903 = .ok (.iconst 1, 1) := by decide +kernel
theorem dL_law_904 : decode cL_law 904 = .ok (.iadd, 1) := by decide +kernel
theorem dL_law_905 : decode cL_law 905 = .ok (.iaload, 1) := by decide +kernel
theorem dL_law_906 : decode cL_law 906 = .ok (.aload_n 0, 1) := by decide +kernel
theorem dL_law_907 : decode cL_law 907 = .ok (.iload 4, 2) := by decide +kernel
theorem dL_law_909 : decode cL_law 909 = .ok (.iconst 2, 1) := by decide +kernel
theorem dL_law_910 : decode cL_law 910 = .ok (.iadd, 1) := by decide +kernel
theorem dL_law_911 : decode cL_law 911 = .ok (.iaload, 1) := by decide +kernel
theorem dL_law_912 : decode cL_law 912 = .ok (.aload_n 3, 1) := by decide +kernel
theorem dL_law_913 : decode cL_law 913 = .ok (.invokestatic 128, 3) := by decide +kernel
theorem dL_law_916 : decode cL_law 916 = .ok (.istore 5, 2) := by decide +kernel
theorem dL_law_918 : decode cL_law 918 = .ok (.aload_n 2, 1) := by decide +kernel
theorem dL_law_919 : decode cL_law 919 = .ok (.aload_n 0, 1) := by decide +kernel
theorem dL_law_920 : decode cL_law 920 = .ok (.iload 4, 2) := by decide +kernel
theorem dL_law_922 : decode cL_law 922 = .ok (.iconst 1, 1) := by decide +kernel
theorem dL_law_923 : decode cL_law 923 = .ok (.iadd, 1) := by decide +kernel
theorem dL_law_924 : decode cL_law 924 = .ok (.iaload, 1) := by decide +kernel
theorem dL_law_925 : decode cL_law 925 = .ok (.aload_n 0, 1) := by decide +kernel
theorem dL_law_926 : decode cL_law 926 = .ok (.iload 4, 2) := by decide +kernel
theorem dL_law_928 : decode cL_law 928 = .ok (.iconst 2, 1) := by decide +kernel
theorem dL_law_929 : decode cL_law 929 = .ok (.iadd, 1) := by decide +kernel
theorem dL_law_930 : decode cL_law 930 = .ok (.iaload, 1) := by decide +kernel
theorem dL_law_931 : decode cL_law 931 = .ok (.invokevirtual 130, 3) := by decide +kernel
theorem dL_law_934 : decode cL_law 934 = .ok (.istore 6, 2) := by decide +kernel
theorem dL_law_936 : decode cL_law 936 = .ok (.aload_n 2, 1) := by decide +kernel
theorem dL_law_937 : decode cL_law 937 = .ok (.invokevirtual 90, 3) := by decide +kernel
theorem dL_law_940 : decode cL_law 940 = .ok (.iload 5, 2) := by decide +kernel
theorem dL_law_942 : decode cL_law 942 = .ok (.if_icmp .eq 5, 3) := by decide +kernel
theorem dL_law_945 : decode cL_law 945 = .ok (.iconst 0, 1) := by decide +kernel
theorem dL_law_946 : decode cL_law 946 = .ok (.ireturn, 1) := by decide +kernel
theorem dL_law_947 : decode cL_law 947 = .ok (.iload 5, 2) := by decide +kernel
theorem dL_law_949 : decode cL_law 949 = .ok (.ifCond .ne 15, 3) := by decide +kernel
theorem dL_law_952 : decode cL_law 952 = .ok (.aload_n 3, 1) := by decide +kernel
theorem dL_law_953 : decode cL_law 953 = .ok (.iconst 0, 1) := by decide +kernel
theorem dL_law_954 : decode cL_law 954 = .ok (.laload, 1) := by decide +kernel
theorem dL_law_955 : decode cL_law 955 = .ok (.iload 6, 2) := by decide +kernel
theorem dL_law_957 : decode cL_law 957 = .ok (.i2l, 1) := by decide +kernel
theorem dL_law_958 : decode cL_law 958 = .ok (.lcmp, 1) := by decide +kernel
theorem dL_law_959 : decode cL_law 959 = .ok (.ifCond .eq 5, 3) := by decide +kernel
theorem dL_law_962 : decode cL_law 962 = .ok (.iconst 0, 1) := by decide +kernel
theorem dL_law_963 : decode cL_law 963 = .ok (.ireturn, 1) := by decide +kernel
theorem dL_law_964 : decode cL_law 964 = .ok (.goto 288, 3) := by decide +kernel
theorem dL_law_967 : decode cL_law 967 = .ok (.aload_n 1, 1) := by decide +kernel
theorem dL_law_968 : decode cL_law 968 = .ok (.aload_n 0, 1) := by decide +kernel
theorem dL_law_969 : decode cL_law 969 = .ok (.iload 4, 2) := by decide +kernel
theorem dL_law_971 : decode cL_law 971 = .ok (.iconst 1, 1) := by decide +kernel
theorem dL_law_972 : decode cL_law 972 = .ok (.iadd, 1) := by decide +kernel
theorem dL_law_973 : decode cL_law 973 = .ok (.iaload, 1) := by decide +kernel
theorem dL_law_974 : decode cL_law 974 = .ok (.aload_n 0, 1) := by decide +kernel
theorem dL_law_975 : decode cL_law 975 = .ok (.iload 4, 2) := by decide +kernel
theorem dL_law_977 : decode cL_law 977 = .ok (.iconst 2, 1) := by decide +kernel
theorem dL_law_978 : decode cL_law 978 = .ok (.iadd, 1) := by decide +kernel
theorem dL_law_979 : decode cL_law 979 = .ok (.iaload, 1) := by decide +kernel
theorem dL_law_980 : decode cL_law 980 = .ok (.aload_n 0, 1) := by decide +kernel
theorem dL_law_981 : decode cL_law 981 = .ok (.iload 4, 2) := by decide +kernel
theorem dL_law_983 : decode cL_law 983 = .ok (.iconst 3, 1) := by decide +kernel
theorem dL_law_984 : decode cL_law 984 = .ok (.iadd, 1) := by decide +kernel
theorem dL_law_985 : decode cL_law 985 = .ok (.iaload, 1) := by decide +kernel
theorem dL_law_986 : decode cL_law 986 = .ok (.aload_n 3, 1) := by decide +kernel
theorem dL_law_987 : decode cL_law 987 = .ok (.invokestatic 131, 3) := by decide +kernel
theorem dL_law_990 : decode cL_law 990 = .ok (.istore 5, 2) := by decide +kernel
theorem dL_law_992 : decode cL_law 992 = .ok (.aload_n 2, 1) := by decide +kernel
theorem dL_law_993 : decode cL_law 993 = .ok (.aload_n 0, 1) := by decide +kernel
theorem dL_law_994 : decode cL_law 994 = .ok (.iload 4, 2) := by decide +kernel
theorem dL_law_996 : decode cL_law 996 = .ok (.iconst 1, 1) := by decide +kernel
theorem dL_law_997 : decode cL_law 997 = .ok (.iadd, 1) := by decide +kernel
theorem dL_law_998 : decode cL_law 998 = .ok (.iaload, 1) := by decide +kernel
theorem dL_law_999 : decode cL_law 999 = .ok (.aload_n 0, 1) := by decide +kernel
theorem dL_law_1000 : decode cL_law 1000 = .ok (.iload 4, 2) := by decide +kernel
theorem dL_law_1002 : decode cL_law 1002 = .ok (.iconst 2, 1) := by decide +kernel
theorem dL_law_1003 : decode cL_law 1003 = .ok (.iadd, 1) := by decide +kernel
theorem dL_law_1004 : decode cL_law 1004 = .ok (.iaload, 1) := by decide +kernel
theorem dL_law_1005 : decode cL_law 1005 = .ok (.aload_n 0, 1) := by decide +kernel
theorem dL_law_1006 : decode cL_law 1006 = .ok (.iload 4, 2) := by decide +kernel
theorem dL_law_1008 : decode cL_law 1008 = .ok (.iconst 3, 1) := by decide +kernel
theorem dL_law_1009 : decode cL_law 1009 = .ok (.iadd, 1) := by decide +kernel
theorem dL_law_1010 : decode cL_law 1010 = .ok (.iaload, 1) := by decide +kernel
theorem dL_law_1011 : decode cL_law 1011 = .ok (.invokevirtual 133, 3) := by decide +kernel
theorem dL_law_1014 : decode cL_law 1014 = .ok (.istore 6, 2) := by decide +kernel
theorem dL_law_1016 : decode cL_law 1016 = .ok (.aload_n 2, 1) := by decide +kernel
theorem dL_law_1017 : decode cL_law 1017 = .ok (.invokevirtual 90, 3) := by decide +kernel
theorem dL_law_1020 : decode cL_law 1020 = .ok (.iload 5, 2) := by decide +kernel
theorem dL_law_1022 : decode cL_law 1022 = .ok (.if_icmp .eq 5, 3) := by decide +kernel
theorem dL_law_1025 : decode cL_law 1025 = .ok (.iconst 0, 1) := by decide +kernel
theorem dL_law_1026 : decode cL_law 1026 = .ok (.ireturn, 1) := by decide +kernel
theorem dL_law_1027 : decode cL_law 1027 = .ok (.iload 5, 2) := by decide +kernel
theorem dL_law_1029 : decode cL_law 1029 = .ok (.ifCond .ne 15, 3) := by decide +kernel
theorem dL_law_1032 : decode cL_law 1032 = .ok (.aload_n 3, 1) := by decide +kernel
theorem dL_law_1033 : decode cL_law 1033 = .ok (.iconst 0, 1) := by decide +kernel
theorem dL_law_1034 : decode cL_law 1034 = .ok (.laload, 1) := by decide +kernel
theorem dL_law_1035 : decode cL_law 1035 = .ok (.iload 6, 2) := by decide +kernel
theorem dL_law_1037 : decode cL_law 1037 = .ok (.i2l, 1) := by decide +kernel
theorem dL_law_1038 : decode cL_law 1038 = .ok (.lcmp, 1) := by decide +kernel
theorem dL_law_1039 : decode cL_law 1039 = .ok (.ifCond .eq 5, 3) := by decide +kernel
theorem dL_law_1042 : decode cL_law 1042 = .ok (.iconst 0, 1) := by decide +kernel
theorem dL_law_1043 : decode cL_law 1043 = .ok (.ireturn, 1) := by decide +kernel
theorem dL_law_1044 : decode cL_law 1044 = .ok (.goto 208, 3) := by decide +kernel
theorem dL_law_1047 : decode cL_law 1047 = .ok (.aload_n 1, 1) := by decide +kernel
theorem dL_law_1048 : decode cL_law 1048 = .ok (.aload_n 0, 1) := by decide +kernel
theorem dL_law_1049 : decode cL_law 1049 = .ok (.iload 4, 2) := by decide +kernel
theorem dL_law_1051 : decode cL_law 1051 = .ok (.iconst 1, 1) := by decide +kernel
theorem dL_law_1052 : decode cL_law 1052 = .ok (.iadd, 1) := by decide +kernel
theorem dL_law_1053 : decode cL_law 1053 = .ok (.iaload, 1) := by decide +kernel
theorem dL_law_1054 : decode cL_law 1054 = .ok (.aload_n 0, 1) := by decide +kernel
theorem dL_law_1055 : decode cL_law 1055 = .ok (.iload 4, 2) := by decide +kernel
theorem dL_law_1057 : decode cL_law 1057 = .ok (.iconst 2, 1) := by decide +kernel
theorem dL_law_1058 : decode cL_law 1058 = .ok (.iadd, 1) := by decide +kernel
theorem dL_law_1059 : decode cL_law 1059 = .ok (.iaload, 1) := by decide +kernel
theorem dL_law_1060 : decode cL_law 1060 = .ok (.aload_n 3, 1) := by decide +kernel
theorem dL_law_1061 : decode cL_law 1061 = .ok (.invokestatic 134, 3) := by decide +kernel
theorem dL_law_1064 : decode cL_law 1064 = .ok (.istore 5, 2) := by decide +kernel
theorem dL_law_1066 : decode cL_law 1066 = .ok (.aload_n 2, 1) := by decide +kernel
theorem dL_law_1067 : decode cL_law 1067 = .ok (.aload_n 0, 1) := by decide +kernel
theorem dL_law_1068 : decode cL_law 1068 = .ok (.iload 4, 2) := by decide +kernel
theorem dL_law_1070 : decode cL_law 1070 = .ok (.iconst 1, 1) := by decide +kernel
theorem dL_law_1071 : decode cL_law 1071 = .ok (.iadd, 1) := by decide +kernel
theorem dL_law_1072 : decode cL_law 1072 = .ok (.iaload, 1) := by decide +kernel
theorem dL_law_1073 : decode cL_law 1073 = .ok (.aload_n 0, 1) := by decide +kernel
theorem dL_law_1074 : decode cL_law 1074 = .ok (.iload 4, 2) := by decide +kernel
theorem dL_law_1076 : decode cL_law 1076 = .ok (.iconst 2, 1) := by decide +kernel
theorem dL_law_1077 : decode cL_law 1077 = .ok (.iadd, 1) := by decide +kernel
theorem dL_law_1078 : decode cL_law 1078 = .ok (.iaload, 1) := by decide +kernel
theorem dL_law_1079 : decode cL_law 1079 = .ok (.invokevirtual 136, 3) := by decide +kernel
theorem dL_law_1082 : decode cL_law 1082 = .ok (.istore 6, 2) := by decide +kernel
theorem dL_law_1084 : decode cL_law 1084 = .ok (.aload_n 2, 1) := by decide +kernel
theorem dL_law_1085 : decode cL_law 1085 = .ok (.invokevirtual 90, 3) := by decide +kernel
theorem dL_law_1088 : decode cL_law 1088 = .ok (.iload 5, 2) := by decide +kernel
theorem dL_law_1090 : decode cL_law 1090 = .ok (.if_icmp .eq 5, 3) := by decide +kernel
theorem dL_law_1093 : decode cL_law 1093 = .ok (.iconst 0, 1) := by decide +kernel
theorem dL_law_1094 : decode cL_law 1094 = .ok (.ireturn, 1) := by decide +kernel
theorem dL_law_1095 : decode cL_law 1095 = .ok (.iload 5, 2) := by decide +kernel
theorem dL_law_1097 : decode cL_law 1097 = .ok (.ifCond .ne 15, 3) := by decide +kernel
theorem dL_law_1100 : decode cL_law 1100 = .ok (.aload_n 3, 1) := by decide +kernel
theorem dL_law_1101 : decode cL_law 1101 = .ok (.iconst 0, 1) := by decide +kernel
theorem dL_law_1102 : decode cL_law 1102 = .ok (.laload, 1) := by decide +kernel
theorem dL_law_1103 : decode cL_law 1103 = .ok (.iload 6, 2) := by decide +kernel
theorem dL_law_1105 : decode cL_law 1105 = .ok (.i2l, 1) := by decide +kernel
theorem dL_law_1106 : decode cL_law 1106 = .ok (.lcmp, 1) := by decide +kernel
theorem dL_law_1107 : decode cL_law 1107 = .ok (.ifCond .eq 5, 3) := by decide +kernel
theorem dL_law_1110 : decode cL_law 1110 = .ok (.iconst 0, 1) := by decide +kernel
theorem dL_law_1111 : decode cL_law 1111 = .ok (.ireturn, 1) := by decide +kernel
theorem dL_law_1112 : decode cL_law 1112 = .ok (.goto 140, 3) := by decide +kernel
theorem dL_law_1115 : decode cL_law 1115 = .ok (.aload_n 1, 1) := by decide +kernel
theorem dL_law_1116 : decode cL_law 1116 = .ok (.aload_n 0, 1) := by decide +kernel
theorem dL_law_1117 : decode cL_law 1117 = .ok (.iload 4, 2) := by decide +kernel
theorem dL_law_1119 : decode cL_law 1119 = .ok (.iconst 1, 1) := by decide +kernel
theorem dL_law_1120 : decode cL_law 1120 = .ok (.iadd, 1) := by decide +kernel
theorem dL_law_1121 : decode cL_law 1121 = .ok (.iaload, 1) := by decide +kernel
theorem dL_law_1122 : decode cL_law 1122 = .ok (.aload_n 3, 1) := by decide +kernel
theorem dL_law_1123 : decode cL_law 1123 = .ok (.invokestatic 137, 3) := by decide +kernel
theorem dL_law_1126 : decode cL_law 1126 = .ok (.istore 5, 2) := by decide +kernel
theorem dL_law_1128 : decode cL_law 1128 = .ok (.aload_n 2, 1) := by decide +kernel
theorem dL_law_1129 : decode cL_law 1129 = .ok (.aload_n 0, 1) := by decide +kernel
theorem dL_law_1130 : decode cL_law 1130 = .ok (.iload 4, 2) := by decide +kernel
theorem dL_law_1132 : decode cL_law 1132 = .ok (.iconst 1, 1) := by decide +kernel
theorem dL_law_1133 : decode cL_law 1133 = .ok (.iadd, 1) := by decide +kernel
theorem dL_law_1134 : decode cL_law 1134 = .ok (.iaload, 1) := by decide +kernel
theorem dL_law_1135 : decode cL_law 1135 = .ok (.invokevirtual 139, 3) := by decide +kernel
theorem dL_law_1138 : decode cL_law 1138 = .ok (.istore 6, 2) := by decide +kernel
theorem dL_law_1140 : decode cL_law 1140 = .ok (.aload_n 2, 1) := by decide +kernel
theorem dL_law_1141 : decode cL_law 1141 = .ok (.invokevirtual 90, 3) := by decide +kernel
theorem dL_law_1144 : decode cL_law 1144 = .ok (.iload 5, 2) := by decide +kernel
theorem dL_law_1146 : decode cL_law 1146 = .ok (.if_icmp .eq 5, 3) := by decide +kernel
theorem dL_law_1149 : decode cL_law 1149 = .ok (.iconst 0, 1) := by decide +kernel
theorem dL_law_1150 : decode cL_law 1150 = .ok (.ireturn, 1) := by decide +kernel
theorem dL_law_1151 : decode cL_law 1151 = .ok (.iload 5, 2) := by decide +kernel
theorem dL_law_1153 : decode cL_law 1153 = .ok (.ifCond .ne 15, 3) := by decide +kernel
theorem dL_law_1156 : decode cL_law 1156 = .ok (.aload_n 3, 1) := by decide +kernel
theorem dL_law_1157 : decode cL_law 1157 = .ok (.iconst 0, 1) := by decide +kernel
theorem dL_law_1158 : decode cL_law 1158 = .ok (.laload, 1) := by decide +kernel
theorem dL_law_1159 : decode cL_law 1159 = .ok (.iload 6, 2) := by decide +kernel
theorem dL_law_1161 : decode cL_law 1161 = .ok (.i2l, 1) := by decide +kernel
theorem dL_law_1162 : decode cL_law 1162 = .ok (.lcmp, 1) := by decide +kernel
theorem dL_law_1163 : decode cL_law 1163 = .ok (.ifCond .eq 5, 3) := by decide +kernel
theorem dL_law_1166 : decode cL_law 1166 = .ok (.iconst 0, 1) := by decide +kernel
theorem dL_law_1167 : decode cL_law 1167 = .ok (.ireturn, 1) := by decide +kernel
theorem dL_law_1168 : decode cL_law 1168 = .ok (.goto 84, 3) := by decide +kernel
theorem dL_law_1171 : decode cL_law 1171 = .ok (.aload_n 1, 1) := by decide +kernel
theorem dL_law_1172 : decode cL_law 1172 = .ok (.aload_n 0, 1) := by decide +kernel
theorem dL_law_1173 : decode cL_law 1173 = .ok (.iload 4, 2) := by decide +kernel
theorem dL_law_1175 : decode cL_law 1175 = .ok (.iconst 1, 1) := by decide +kernel
theorem dL_law_1176 : decode cL_law 1176 = .ok (.iadd, 1) := by decide +kernel
theorem dL_law_1177 : decode cL_law 1177 = .ok (.iaload, 1) := by decide +kernel
theorem dL_law_1178 : decode cL_law 1178 = .ok (.aload_n 3, 1) := by decide +kernel
theorem dL_law_1179 : decode cL_law 1179 = .ok (.invokestatic 140, 3) := by decide +kernel
theorem dL_law_1182 : decode cL_law 1182 = .ok (.istore 5, 2) := by decide +kernel
theorem dL_law_1184 : decode cL_law 1184 = .ok (.aload_n 2, 1) := by decide +kernel
theorem dL_law_1185 : decode cL_law 1185 = .ok (.aload_n 0, 1) := by decide +kernel
theorem dL_law_1186 : decode cL_law 1186 = .ok (.iload 4, 2) := by decide +kernel
theorem dL_law_1188 : decode cL_law 1188 = .ok (.iconst 1, 1) := by decide +kernel
theorem dL_law_1189 : decode cL_law 1189 = .ok (.iadd, 1) := by decide +kernel
theorem dL_law_1190 : decode cL_law 1190 = .ok (.iaload, 1) := by decide +kernel
theorem dL_law_1191 : decode cL_law 1191 = .ok (.invokevirtual 142, 3) := by decide +kernel
theorem dL_law_1194 : decode cL_law 1194 = .ok (.istore 6, 2) := by decide +kernel
theorem dL_law_1196 : decode cL_law 1196 = .ok (.aload_n 2, 1) := by decide +kernel
theorem dL_law_1197 : decode cL_law 1197 = .ok (.invokevirtual 90, 3) := by decide +kernel
theorem dL_law_1200 : decode cL_law 1200 = .ok (.iload 5, 2) := by decide +kernel
theorem dL_law_1202 : decode cL_law 1202 = .ok (.if_icmp .eq 5, 3) := by decide +kernel
theorem dL_law_1205 : decode cL_law 1205 = .ok (.iconst 0, 1) := by decide +kernel
theorem dL_law_1206 : decode cL_law 1206 = .ok (.ireturn, 1) := by decide +kernel
theorem dL_law_1207 : decode cL_law 1207 = .ok (.iload 5, 2) := by decide +kernel
theorem dL_law_1209 : decode cL_law 1209 = .ok (.ifCond .ne 15, 3) := by decide +kernel
theorem dL_law_1212 : decode cL_law 1212 = .ok (.aload_n 3, 1) := by decide +kernel
theorem dL_law_1213 : decode cL_law 1213 = .ok (.iconst 0, 1) := by decide +kernel
theorem dL_law_1214 : decode cL_law 1214 = .ok (.laload, 1) := by decide +kernel
theorem dL_law_1215 : decode cL_law 1215 = .ok (.iload 6, 2) := by decide +kernel
theorem dL_law_1217 : decode cL_law 1217 = .ok (.i2l, 1) := by decide +kernel
theorem dL_law_1218 : decode cL_law 1218 = .ok (.lcmp, 1) := by decide +kernel
theorem dL_law_1219 : decode cL_law 1219 = .ok (.ifCond .eq 5, 3) := by decide +kernel
theorem dL_law_1222 : decode cL_law 1222 = .ok (.iconst 0, 1) := by decide +kernel
theorem dL_law_1223 : decode cL_law 1223 = .ok (.ireturn, 1) := by decide +kernel
theorem dL_law_1224 : decode cL_law 1224 = .ok (.goto 28, 3) := by decide +kernel
theorem dL_law_1227 : decode cL_law 1227 = .ok (.aload_n 1, 1) := by decide +kernel
theorem dL_law_1228 : decode cL_law 1228 = .ok (.aload_n 0, 1) := by decide +kernel
theorem dL_law_1229 : decode cL_law 1229 = .ok (.iload 4, 2) := by decide +kernel
theorem dL_law_1231 : decode cL_law 1231 = .ok (.iconst 1, 1) := by decide +kernel
theorem dL_law_1232 : decode cL_law 1232 = .ok (.iadd, 1) := by decide +kernel
theorem dL_law_1233 : decode cL_law 1233 = .ok (.iaload, 1) := by decide +kernel
theorem dL_law_1234 : decode cL_law 1234 = .ok (.invokevirtual 143, 3) := by decide +kernel
theorem dL_law_1237 : decode cL_law 1237 = .ok (.aload_n 2, 1) := by decide +kernel
theorem dL_law_1238 : decode cL_law 1238 = .ok (.aload_n 0, 1) := by decide +kernel
theorem dL_law_1239 : decode cL_law 1239 = .ok (.iload 4, 2) := by decide +kernel
theorem dL_law_1241 : decode cL_law 1241 = .ok (.iconst 1, 1) := by decide +kernel
theorem dL_law_1242 : decode cL_law 1242 = .ok (.iadd, 1) := by decide +kernel
theorem dL_law_1243 : decode cL_law 1243 = .ok (.iaload, 1) := by decide +kernel
theorem dL_law_1244 : decode cL_law 1244 = .ok (.invokevirtual 146, 3) := by decide +kernel
theorem dL_law_1247 : decode cL_law 1247 = .ok (.if_icmp .eq 5, 3) := by decide +kernel
theorem dL_law_1250 : decode cL_law 1250 = .ok (.iconst 0, 1) := by decide +kernel
theorem dL_law_1251 : decode cL_law 1251 = .ok (.ireturn, 1) := by decide +kernel
theorem dL_law_1252 : decode cL_law 1252 = .ok (.iinc 4 5, 3) := by decide +kernel
theorem dL_law_1255 : decode cL_law 1255 = .ok (.goto (-1212), 3) := by decide +kernel
theorem dL_law_1258 : decode cL_law 1258 = .ok (.iconst 1, 1) := by decide +kernel
theorem dL_law_1259 : decode cL_law 1259 = .ok (.ireturn, 1) := by decide +kernel
abbrev vwCl : List vw_C := [(RJ0, TJ0, 2), (RJx00060, TJx00060, 6), (RX0, TX0, 11), (RX1, TX1, 10), (RX2, TX2, 9), (RX3, TX3, 12), (RX4, TX4, 33)]
end
section
/-! ===== the store: everything that the class, the reference and the law hold, by NAMES (numbers); its address map and who lives are told beside it ===== -/
abbrev RS : Type := (Nat → Nat → Int32) × (Nat → Nat → Int64) × (Nat → Nat → Option Nat) × (Nat → Nat → Int32) × (Nat → Nat → Int64) × (Nat → Nat → Option Nat)
def up2 {α : Type} (f : Nat → Nat → α) (i k : Nat) (v : α) : Nat → Nat → α := fun i' k' => if i' = i ∧ k' = k then v else f i' k'
theorem up2_s {α : Type} (f : Nat → Nat → α) (i k : Nat) (v : α) : up2 f i k v i k = v := by simp [up2]
theorem up2_n {α : Type} {f : Nat → Nat → α} {i k i' k' : Nat} {v : α} (h : ¬ (i' = i ∧ k' = k)) : up2 f i k v i' k' = f i' k' := by simp [up2, h]
theorem up2_ni {α : Type} {f : Nat → Nat → α} {i k i' k' : Nat} {v : α} (h : i' ≠ i) : up2 f i k v i' k' = f i' k' := by simp [up2, h]
theorem up2_nk {α : Type} {f : Nat → Nat → α} {i k i' k' : Nat} {v : α} (h : k' ≠ k) : up2 f i k v i' k' = f i' k' := by simp [up2, h]
def sfi (R : RS) (i k : Nat) (v : Int32) : RS := (up2 R.1 i k v, R.2)
def sfl (R : RS) (i k : Nat) (v : Int64) : RS := (R.1, up2 R.2.1 i k v, R.2.2)
def sfr (R : RS) (i k : Nat) (v : Option Nat) : RS := (R.1, R.2.1, up2 R.2.2.1 i k v, R.2.2.2)
def sai (R : RS) (i k : Nat) (v : Int32) : RS := (R.1, R.2.1, R.2.2.1, up2 R.2.2.2.1 i k v, R.2.2.2.2)
def sal (R : RS) (i k : Nat) (v : Int64) : RS := (R.1, R.2.1, R.2.2.1, R.2.2.2.1, up2 R.2.2.2.2.1 i k v, R.2.2.2.2.2)
def saq (R : RS) (i k : Nat) (v : Option Nat) : RS := (R.1, R.2.1, R.2.2.1, R.2.2.2.1, R.2.2.2.2.1, up2 R.2.2.2.2.2 i k v)
/-- all that is new at the name i: noughts -/
def clr (R : RS) (i : Nat) : RS := ((fun j k => if j = i then 0 else R.1 j k), (fun j k => if j = i then 0 else R.2.1 j k), (fun j k => if j = i then none else R.2.2.1 j k), (fun j k => if j = i then 0 else R.2.2.2.1 j k), (fun j k => if j = i then 0 else R.2.2.2.2.1 j k), (fun j k => if j = i then none else R.2.2.2.2.2 j k))
abbrev fi (R : RS) : Nat → Nat → Int32 := R.1
abbrev fl (R : RS) : Nat → Nat → Int64 := R.2.1
abbrev fr (R : RS) : Nat → Nat → Option Nat := R.2.2.1
abbrev ai (R : RS) : Nat → Nat → Int32 := R.2.2.2.1
abbrev al (R : RS) : Nat → Nat → Int64 := R.2.2.2.2.1
abbrev aq (R : RS) : Nat → Nat → Option Nat := R.2.2.2.2.2
/-- what lies at a name: 0 an object of the class of that number, 1 int[], 2 long[], 3 boolean[], 4 Kind[], 5 Pallet[] of that length -/
def sh (i : Nat) : Nat × Nat :=
  if i < 10 then (match i with | 0 => (0, 5) | 1 => (0, 4) | 2 => (1, 36) | 3 => (1, 36) | 4 => (4, 6) | 5 => (5, 8) | _ => (1, 8))
  else if i < 40 then (if (i - 10) % 3 = 0 then (0, 2) else (1, 36))
  else if i < 100 then (if (i - 40) % 6 = 0 then (0, 3) else if (i - 40) % 6 = 5 then (2, 10) else (1, 10))
  else if i < 200 then (match i with
    | 100 => (0, 6) | 106 => (1, 6) | 107 => (1, 6) | 108 => (1, 6) | 109 => (1, 6) | 110 => (1, 6) | 111 => (3, 6) | 112 => (2, 216) | 113 => (1, 216) | 114 => (1, 216)
    | 118 => (1, 8) | 119 => (1, 80) | 120 => (1, 80) | 121 => (1, 8) | 122 => (1, 8) | 125 => (1, 38) | 126 => (1, 38) | 127 => (1, 36) | _ => (1, 36))
  else (2, 1)
theorem sh_K {k : Nat} (h : k < 6) : sh (10 + 3 * k) = (0, 2) := by
  unfold sh
  rw [if_neg (by omega), if_pos (by omega), if_pos (by omega)]
theorem sh_Kc {k : Nat} (h : k < 6) : sh (11 + 3 * k) = (1, 36) := by
  unfold sh
  rw [if_neg (by omega), if_pos (by omega), if_neg (by omega)]
theorem sh_Kw {k : Nat} (h : k < 6) : sh (12 + 3 * k) = (1, 36) := by
  unfold sh
  rw [if_neg (by omega), if_pos (by omega), if_neg (by omega)]
theorem sh_P {k : Nat} (h : k < 8) : sh (40 + 6 * k) = (0, 3) := by
  unfold sh
  rw [if_neg (by omega), if_neg (by omega), if_pos (by omega), if_pos (by omega)]
theorem sh_Pi {k j : Nat} (h : k < 8) (h1 : 0 < j) (h2 : j < 5) : sh (40 + j + 6 * k) = (1, 10) := by
  unfold sh
  rw [if_neg (by omega), if_neg (by omega), if_pos (by omega), if_neg (by omega), if_neg (by omega)]
theorem sh_Pl {k : Nat} (h : k < 8) : sh (45 + 6 * k) = (2, 10) := by
  unfold sh
  rw [if_neg (by omega), if_neg (by omega), if_pos (by omega), if_neg (by omega), if_pos (by omega)]
/-- of a class's slot: 0 an int, 1 a long, 2 a reference -/
def fT (ci k : Nat) : Nat := match ci with
  | 2 => if k < 5 then 0 else if k < 7 then 1 else if k < 9 then 2 else 0
  | 3 => if k < 5 then 2 else 0
  | 4 => if k < 3 then 0 else if k < 5 then 2 else 0
  | 5 => if k < 2 then 0 else if k < 6 then 2 else 0
  | _ => if k < 6 then 0 else if k < 15 then 2 else if k < 18 then 0 else if k < 23 then 2 else if k < 25 then 0 else if k < 29 then 2 else if k < 31 then 1 else 0
def nF (ci : Nat) : Nat := match ci with | 2 => 11 | 3 => 10 | 4 => 9 | 5 => 12 | _ => 33
def fv (R : RS) (i k t : Nat) : Value := match t with
  | 0 => .int (fi R i k)
  | 1 => .long (fl R i k)
  | _ => va_rf (fr R i k)
def fds (R : RS) (i ci : Nat) : List Value := (List.range (nF ci)).map (fun k => fv R i k (fT ci k))
theorem fds_len (R : RS) (i ci : Nat) : (fds R i ci).length = nF ci := by simp [fds]
theorem fds_at {R : RS} {i ci k : Nat} (hk : k < nF ci) : (fds R i ci)[k]? = some (fv R i k (fT ci k)) := by simp [fds, hk]
def ct (g : Nat → ClassId) (R : RS) (i : Nat) : va_E := match sh i with
  | (0, n) => .inr (n, fds R i n)
  | (1, n) => .inl (g 0, n, .inl (ai R i))
  | (2, n) => .inl (g 1, n, .inr (.inl (al R i)))
  | (3, n) => .inl (g 2, n, .inl (ai R i))
  | (4, n) => .inl (g 3, n, .inr (.inr (.inr (.inr (aq R i)))))
  | (_, n) => .inl (g 4, n, .inr (.inr (.inr (.inr (aq R i)))))
theorem ct_o {g : Nat → ClassId} {R : RS} {i n : Nat} (h : sh i = (0, n)) : ct g R i = .inr (n, fds R i n) := by unfold ct; rw [h]; rfl
theorem ct_i {g : Nat → ClassId} {R : RS} {i n : Nat} (h : sh i = (1, n)) : ct g R i = .inl (g 0, n, .inl (ai R i)) := by unfold ct; rw [h]; rfl
theorem ct_l {g : Nat → ClassId} {R : RS} {i n : Nat} (h : sh i = (2, n)) : ct g R i = .inl (g 1, n, .inr (.inl (al R i))) := by unfold ct; rw [h]; rfl
theorem ct_z {g : Nat → ClassId} {R : RS} {i n : Nat} (h : sh i = (3, n)) : ct g R i = .inl (g 2, n, .inl (ai R i)) := by unfold ct; rw [h]; rfl
theorem ct_k {g : Nat → ClassId} {R : RS} {i n : Nat} (h : sh i = (4, n)) : ct g R i = .inl (g 3, n, .inr (.inr (.inr (.inr (aq R i))))) := by unfold ct; rw [h]; rfl
theorem ct_p {g : Nat → ClassId} {R : RS} {i n : Nat} (h : sh i = (5, n)) : ct g R i = .inl (g 4, n, .inr (.inr (.inr (.inr (aq R i))))) := by unfold ct; rw [h]; rfl
theorem ct_eq {g : Nat → ClassId} {R R' : RS} {j : Nat} (h1 : ∀ k, fi R' j k = fi R j k) (h2 : ∀ k, fl R' j k = fl R j k) (h3 : ∀ k, fr R' j k = fr R j k) (h4 : ∀ k, ai R' j k = ai R j k) (h5 : ∀ k, al R' j k = al R j k) (h6 : ∀ k, aq R' j k = aq R j k) : ct g R' j = ct g R j := by
  have e1 : ∀ n, fds R' j n = fds R j n := fun n => by
    unfold fds
    refine List.map_congr_left (fun k _ => ?_)
    unfold fv
    split
    · rw [h1]
    · rw [h2]
    · rw [h3]
  have e4 : ai R' j = ai R j := funext h4
  have e5 : al R' j = al R j := funext h5
  have e6 : aq R' j = aq R j := funext h6
  unfold ct
  rw [e4, e5, e6]
  simp only [e1]
abbrev tyG (g : Nat → ClassId) : List (ClassId × FieldType) := [(g 0, .int), (g 1, .long), (g 2, .boolean), (g 3, .object "PalletLayers$Kind"), (g 4, .object "PalletLayers$Pallet")]
def rP (D : va_G) (g : Nat → ClassId) (lv : Nat → Bool) (a : Nat → Nat) (R : RS) (H : Heap) : Prop := (∀ i j, lv i = true → lv j = true → a i = a j → i = j) ∧ ∀ i, lv i = true → va_at D vwCl (a i, ct g R i) H
def rA (lv : Nat → Bool) (a : Nat → Nat) (sz : Nat) : Nat → Prop := fun q => (∃ i, lv i = true ∧ a i = q) ∨ sz ≤ q
def rc (D : va_G) (g : Nat → ClassId) (A : Nat → Prop) (H0 : Heap) (lv : Nat → Bool) (a : Nat → Nat) (R : RS) (H : Heap) (locs : List Loc) : Prop := rP D g lv a R H ∧ (∀ i, lv i = true → A (a i)) ∧ va_S A H0 H locs
/-- one thing of the store is written -/
theorem rP_set {D : va_G} {g : Nat → ClassId} {lv : Nat → Bool} {a : Nat → Nat} {R R' : RS} {H H1 : Heap} {i : Nat} (h : rP D g lv a R H) (hi : lv i = true) (he : va_at D vwCl (a i, ct g R' i) H1) (oq : ∀ q : Nat, q ≠ a i → H1[q]? = H[q]?) (hne : ∀ j, j ≠ i → ct g R' j = ct g R j) : rP D g lv a R' H1 := by
  refine ⟨h.1, fun j hj => ?_⟩
  by_cases hji : j = i
  · subst hji; exact he
  · rw [hne j hji]
    exact (h.2 j hj).kept (oq (a j) (fun z => hji (h.1 j i hj hi z)))
theorem rc_set {D : va_G} {g : Nat → ClassId} {A : Nat → Prop} {H0 : Heap} {lv : Nat → Bool} {a : Nat → Nat} {R R' : RS} {H H1 : Heap} {locs : List Loc} {i k : Nat} (h : rc D g A H0 lv a R H locs) (hi : lv i = true) (he : va_at D vwCl (a i, ct g R' i) H1) (z : H1.size = H.size) (oq : ∀ q : Nat, q ≠ a i → H1[q]? = H[q]?) (hne : ∀ j, j ≠ i → ct g R' j = ct g R j) : rc D g A H0 lv a R' H1 (locs ++ [⟨a i, k⟩]) :=
  ⟨rP_set h.1 hi he oq hne, h.2.1, h.2.2.put z oq (h.2.1 i hi)⟩
theorem ct_sfi {g : Nat → ClassId} {R : RS} {i k j : Nat} {v : Int32} (h : j ≠ i) : ct g (sfi R i k v) j = ct g R j := ct_eq (fun _ => up2_ni h) (fun _ => rfl) (fun _ => rfl) (fun _ => rfl) (fun _ => rfl) (fun _ => rfl)
theorem ct_sfl {g : Nat → ClassId} {R : RS} {i k j : Nat} {v : Int64} (h : j ≠ i) : ct g (sfl R i k v) j = ct g R j := ct_eq (fun _ => rfl) (fun _ => up2_ni h) (fun _ => rfl) (fun _ => rfl) (fun _ => rfl) (fun _ => rfl)
theorem ct_sfr {g : Nat → ClassId} {R : RS} {i k j : Nat} {v : Option Nat} (h : j ≠ i) : ct g (sfr R i k v) j = ct g R j := ct_eq (fun _ => rfl) (fun _ => rfl) (fun _ => up2_ni h) (fun _ => rfl) (fun _ => rfl) (fun _ => rfl)
theorem ct_sai {g : Nat → ClassId} {R : RS} {i k j : Nat} {v : Int32} (h : j ≠ i) : ct g (sai R i k v) j = ct g R j := ct_eq (fun _ => rfl) (fun _ => rfl) (fun _ => rfl) (fun _ => up2_ni h) (fun _ => rfl) (fun _ => rfl)
theorem ct_sal {g : Nat → ClassId} {R : RS} {i k j : Nat} {v : Int64} (h : j ≠ i) : ct g (sal R i k v) j = ct g R j := ct_eq (fun _ => rfl) (fun _ => rfl) (fun _ => rfl) (fun _ => rfl) (fun _ => up2_ni h) (fun _ => rfl)
theorem ct_saq {g : Nat → ClassId} {R : RS} {i k j : Nat} {v : Option Nat} (h : j ≠ i) : ct g (saq R i k v) j = ct g R j := ct_eq (fun _ => rfl) (fun _ => rfl) (fun _ => rfl) (fun _ => rfl) (fun _ => rfl) (fun _ => up2_ni h)
theorem ct_clr {g : Nat → ClassId} {R : RS} {i j : Nat} (h : j ≠ i) : ct g (clr R i) j = ct g R j := ct_eq (fun _ => if_neg h) (fun _ => if_neg h) (fun _ => if_neg h) (fun _ => if_neg h) (fun _ => if_neg h) (fun _ => if_neg h)
theorem fds_set {R R' : RS} {i ci k : Nat} {v : Value} (hk : k < nF ci) (hv : fv R' i k (fT ci k) = v) (ho : ∀ j, j ≠ k → fv R' i j (fT ci j) = fv R i j (fT ci j)) : fds R' i ci = (fds R i ci).set k v := by
  refine List.ext_getElem? (fun j => ?_)
  by_cases hj : j < nF ci
  · rw [fds_at hj]
    by_cases hjk : j = k
    · subst hjk
      rw [List.getElem?_set_self (by rw [fds_len]; exact hk), hv]
    · rw [List.getElem?_set_ne (Ne.symm hjk), fds_at hj, ho j hjk]
  · rw [List.getElem?_eq_none (by rw [fds_len]; omega), List.getElem?_eq_none (by rw [List.length_set, fds_len]; omega)]
theorem fds_sfi {R : RS} {i ci k : Nat} {v : Int32} (hk : k < nF ci) (ht : fT ci k = 0) : fds (sfi R i k v) i ci = (fds R i ci).set k (.int v) := by
  refine fds_set hk ?_ (fun j hj => ?_)
  · rw [ht]; show Value.int (up2 R.1 i k v i k) = _; rw [up2_s]
  · unfold fv
    split
    · show Value.int (up2 R.1 i k v i j) = _; rw [up2_nk hj]
    · rfl
    · rfl
theorem fds_sfl {R : RS} {i ci k : Nat} {v : Int64} (hk : k < nF ci) (ht : fT ci k = 1) : fds (sfl R i k v) i ci = (fds R i ci).set k (.long v) := by
  refine fds_set hk ?_ (fun j hj => ?_)
  · rw [ht]; show Value.long (up2 R.2.1 i k v i k) = _; rw [up2_s]
  · unfold fv
    split
    · rfl
    · show Value.long (up2 R.2.1 i k v i j) = _; rw [up2_nk hj]
    · rfl
theorem fds_sfr {R : RS} {i ci k : Nat} {v : Option Nat} (hk : k < nF ci) (ht : fT ci k = 2) : fds (sfr R i k v) i ci = (fds R i ci).set k (va_rf v) := by
  refine fds_set hk ?_ (fun j hj => ?_)
  · rw [ht]; show va_rf (up2 R.2.2.1 i k v i k) = _; rw [up2_s]
  · unfold fv
    split
    · rfl
    · rfl
    · show va_rf (up2 R.2.2.1 i k v i j) = _; rw [up2_nk hj]
theorem ai_sai (R : RS) (i k : Nat) (v : Int32) : ai (sai R i k v) i = upd (ai R i) k v := by
  funext j
  show up2 (ai R) i k v i j = _
  by_cases h : j = k <;> simp [up2, upd, h]
theorem al_sal (R : RS) (i k : Nat) (v : Int64) : al (sal R i k v) i = vp_updL (al R i) k v := by
  funext j
  show up2 (al R) i k v i j = _
  by_cases h : j = k <;> simp [up2, vp_updL, h]
theorem aq_saq (R : RS) (i k : Nat) (v : Option Nat) : aq (saq R i k v) i = va_up (aq R i) k v := by
  funext j
  show up2 (aq R) i k v i j = _
  by_cases h : j = k <;> simp [up2, va_up, h]
theorem q_fi_sfi (R : RS) (i k : Nat) (v : Int32) (j q : Nat) : fi (sfi R i k v) j q = if j = i ∧ q = k then v else fi R j q := rfl
theorem q_fi_sfl (R : RS) (i k : Nat) (v : Int64) (j q : Nat) : fi (sfl R i k v) j q = fi R j q := rfl
theorem q_fi_sfr (R : RS) (i k : Nat) (v : Option Nat) (j q : Nat) : fi (sfr R i k v) j q = fi R j q := rfl
theorem q_fi_sai (R : RS) (i k : Nat) (v : Int32) (j q : Nat) : fi (sai R i k v) j q = fi R j q := rfl
theorem q_fi_sal (R : RS) (i k : Nat) (v : Int64) (j q : Nat) : fi (sal R i k v) j q = fi R j q := rfl
theorem q_fi_saq (R : RS) (i k : Nat) (v : Option Nat) (j q : Nat) : fi (saq R i k v) j q = fi R j q := rfl
theorem q_fl_sfi (R : RS) (i k : Nat) (v : Int32) (j q : Nat) : fl (sfi R i k v) j q = fl R j q := rfl
theorem q_fl_sfl (R : RS) (i k : Nat) (v : Int64) (j q : Nat) : fl (sfl R i k v) j q = if j = i ∧ q = k then v else fl R j q := rfl
theorem q_fl_sfr (R : RS) (i k : Nat) (v : Option Nat) (j q : Nat) : fl (sfr R i k v) j q = fl R j q := rfl
theorem q_fl_sai (R : RS) (i k : Nat) (v : Int32) (j q : Nat) : fl (sai R i k v) j q = fl R j q := rfl
theorem q_fl_sal (R : RS) (i k : Nat) (v : Int64) (j q : Nat) : fl (sal R i k v) j q = fl R j q := rfl
theorem q_fl_saq (R : RS) (i k : Nat) (v : Option Nat) (j q : Nat) : fl (saq R i k v) j q = fl R j q := rfl
theorem q_fr_sfi (R : RS) (i k : Nat) (v : Int32) (j q : Nat) : fr (sfi R i k v) j q = fr R j q := rfl
theorem q_fr_sfl (R : RS) (i k : Nat) (v : Int64) (j q : Nat) : fr (sfl R i k v) j q = fr R j q := rfl
theorem q_fr_sfr (R : RS) (i k : Nat) (v : Option Nat) (j q : Nat) : fr (sfr R i k v) j q = if j = i ∧ q = k then v else fr R j q := rfl
theorem q_fr_sai (R : RS) (i k : Nat) (v : Int32) (j q : Nat) : fr (sai R i k v) j q = fr R j q := rfl
theorem q_fr_sal (R : RS) (i k : Nat) (v : Int64) (j q : Nat) : fr (sal R i k v) j q = fr R j q := rfl
theorem q_fr_saq (R : RS) (i k : Nat) (v : Option Nat) (j q : Nat) : fr (saq R i k v) j q = fr R j q := rfl
theorem q_ai_sfi (R : RS) (i k : Nat) (v : Int32) (j q : Nat) : ai (sfi R i k v) j q = ai R j q := rfl
theorem q_ai_sfl (R : RS) (i k : Nat) (v : Int64) (j q : Nat) : ai (sfl R i k v) j q = ai R j q := rfl
theorem q_ai_sfr (R : RS) (i k : Nat) (v : Option Nat) (j q : Nat) : ai (sfr R i k v) j q = ai R j q := rfl
theorem q_ai_sai (R : RS) (i k : Nat) (v : Int32) (j q : Nat) : ai (sai R i k v) j q = if j = i ∧ q = k then v else ai R j q := rfl
theorem q_ai_sal (R : RS) (i k : Nat) (v : Int64) (j q : Nat) : ai (sal R i k v) j q = ai R j q := rfl
theorem q_ai_saq (R : RS) (i k : Nat) (v : Option Nat) (j q : Nat) : ai (saq R i k v) j q = ai R j q := rfl
theorem q_al_sfi (R : RS) (i k : Nat) (v : Int32) (j q : Nat) : al (sfi R i k v) j q = al R j q := rfl
theorem q_al_sfl (R : RS) (i k : Nat) (v : Int64) (j q : Nat) : al (sfl R i k v) j q = al R j q := rfl
theorem q_al_sfr (R : RS) (i k : Nat) (v : Option Nat) (j q : Nat) : al (sfr R i k v) j q = al R j q := rfl
theorem q_al_sai (R : RS) (i k : Nat) (v : Int32) (j q : Nat) : al (sai R i k v) j q = al R j q := rfl
theorem q_al_sal (R : RS) (i k : Nat) (v : Int64) (j q : Nat) : al (sal R i k v) j q = if j = i ∧ q = k then v else al R j q := rfl
theorem q_al_saq (R : RS) (i k : Nat) (v : Option Nat) (j q : Nat) : al (saq R i k v) j q = al R j q := rfl
theorem q_aq_sfi (R : RS) (i k : Nat) (v : Int32) (j q : Nat) : aq (sfi R i k v) j q = aq R j q := rfl
theorem q_aq_sfl (R : RS) (i k : Nat) (v : Int64) (j q : Nat) : aq (sfl R i k v) j q = aq R j q := rfl
theorem q_aq_sfr (R : RS) (i k : Nat) (v : Option Nat) (j q : Nat) : aq (sfr R i k v) j q = aq R j q := rfl
theorem q_aq_sai (R : RS) (i k : Nat) (v : Int32) (j q : Nat) : aq (sai R i k v) j q = aq R j q := rfl
theorem q_aq_sal (R : RS) (i k : Nat) (v : Int64) (j q : Nat) : aq (sal R i k v) j q = aq R j q := rfl
theorem q_aq_saq (R : RS) (i k : Nat) (v : Option Nat) (j q : Nat) : aq (saq R i k v) j q = if j = i ∧ q = k then v else aq R j q := rfl
end
section
/-! ===== the machine's rows over the store ===== -/
theorem up_ne {α : Type} {f : Nat → α} {k j : Nat} {v : α} (h : ¬ j = k) : va_up f k v j = f j := if_neg h
section RW
variable {p : Program} {l : Launch} {e : Env} {R0 : Room} {s : State} {m : MethodId} {args : Array Value} {below : List Frame} {meth : Method} {c : Code} {H : Heap} {locs : List Loc} {cells slots : Nat} {Q : State → Prop}
variable {cc : ByteArray} {pc : Nat} {ls : Array Slot} {rest : List Value} {D : va_G} {g : Nat → ClassId} {A : Nat → Prop} {H0 : Heap} {lv : Nat → Bool} {a : Nat → Nat} {R : RS}
theorem r_one {i : Nat} {x : va_E} (h : rP D g lv a R H) (hi : lv i = true) (hx : ct g R i = x) : va_P D vwCl [(a i, x)] H := by
  intro k q hk
  have hz : k < 1 := (List.getElem?_eq_some_iff.mp hk).1
  rw [show k = 0 by omega] at hk
  cases hk
  rw [← hx]
  exact h.2 i hi
theorem r_get {own ref C : String} {T : u_T} {N ci index : Nat} {Ts : List Cond} {tys : List (ClassId × FieldType)} (hexec : p.tables.exec = Jvm.exec) (hb : c.code = cc) (hts : ∀ w ∈ Ts, w.before args s = true) (hown : s.vm.findClass own = some m.cls) (hK : va_K D vwCl tys s) (hc : rc D g A H0 lv a R H locs)
    {i : Nat} (hi : lv i = true) (hs : sh i = (0, ci)) (hcl : vwCl[ci]? = some (C, T, N)) (hN : nF ci = N) (hin : ∀ w ∈ u_ws C T N, w ∈ Ts) (k : Nat) (hk : k < N) (hlink : (Cond.fieldLink own index ref (T k).2.1 (T k).2.2.1).before args s = true) (hsame : ∀ x, s.fieldFound? (T k).1 (T k).2.1 (T k).2.2.1 = some x → s.fieldFound? ref (T k).2.1 (T k).2.2.1 = some x)
    {v : Value} (hv : fv R i k (fT ci k) = v) (hdg : decode cc pc = .ok (.getfield index, 3)) (kk : W p l e R0 s m args below meth c H locs cells slots Q (F0 m (pc + 3) ls (v :: rest))) : W p l e R0 s m args below meth c H locs cells slots Q (F0 m pc ls (.ref (a i) :: rest)) :=
  va_get hexec hb hts hin hown hK (r_one hc.1 hi (ct_o hs)) 0 rfl hcl k hk hlink hsame (by rw [fds_at (by rw [hN]; exact hk), hv]) hdg kk
theorem r_put {own ref C : String} {T : u_T} {N ci index : Nat} {Ts : List Cond} {tys : List (ClassId × FieldType)} (hexec : p.tables.exec = Jvm.exec) (hb : c.code = cc) (hts : ∀ w ∈ Ts, w.before args s = true) (hown : s.vm.findClass own = some m.cls) (hK : va_K D vwCl tys s) (hc : rc D g A H0 lv a R H locs)
    {i : Nat} (hi : lv i = true) (hs : sh i = (0, ci)) (hcl : vwCl[ci]? = some (C, T, N)) (hN : nF ci = N) (hin : ∀ w ∈ u_ws C T N, w ∈ Ts) (ty0 : Nat → FieldType) (hty : ∀ k, k < N → parseFieldDescriptor (T k).2.2.1 = some (ty0 k)) (hnm : ∀ a, a < N → ∀ b, b < N → a ≠ b → (T a).2.1 ≠ (T b).2.1)
    (k : Nat) (hk : k < N) (hlink : (Cond.fieldLink own index ref (T k).2.1 (T k).2.2.1).before args s = true) (hsame : ∀ x, s.fieldFound? (T k).1 (T k).2.1 (T k).2.2.1 = some x → s.fieldFound? ref (T k).2.1 (T k).2.2.1 = some x) (hfin : (T k).2.2.2 = false) {ty : FieldType} {v : Value} (hd : parseFieldDescriptor (T k).2.2.1 = some ty) (hn : narrow ty v = v) (hfit : fits ty v = true)
    (hdg : decode cc pc = .ok (.putfield index, 3)) {R' : RS} (hR : fds R' i ci = (fds R i ci).set k v) (ho : ∀ j, j ≠ i → ct g R' j = ct g R j)
    (kk : ∀ (H1 : Heap) (locs1 : List Loc), rc D g A H0 lv a R' H1 locs1 → W p l e R0 s m args below meth c H1 locs1 cells slots Q (F0 m (pc + 3) ls rest)) : W p l e R0 s m args below meth c H locs cells slots Q (F0 m pc ls (v :: .ref (a i) :: rest)) := by
  have hap := va_apart (own := own) hts hin ty0 hty hnm hK hcl
  obtain ⟨r, h1, cell, q1, q2, q3, q4⟩ := r_one hc.1 hi (ct_o (g := g) (R := R) hs) 0 _ rfl
  have hr : r = (C, T, N) := Option.some.inj (h1.symm.trans hcl)
  subst hr
  obtain ⟨hS, hfc, kC, hkC, hkind⟩ := hK.1 ci _ hcl
  obtain ⟨cf, kf, fi9, f, hi9, hsl⟩ := hS k hk
  have hlay := hts _ (hin _ (u_in_lay hk))
  unfold u_lay at hlay
  rw [if_neg (by rw [hfin]; decide)] at hlay
  have hst := (u_facts hfc hkC (u_lays hts hin hk) hi9).1
  have h6 := u_store hfc hkC hkind hlay hi9 hd hn hfit
  refine W.putK hexec hb (f := f) ⟨hown, hlink, ⟨_, _, _, hsame _ hi9⟩, hst⟩ (by rw [q2]; exact h6) q1 q3 (by rw [hsl]; exact k2_hasslot (q4 k hk)) rfl rfl hdg fun H' e1 e2 e3 => ?_
  rw [hsl] at e1 ⊢
  refine kk H' _ (rc_set hc hi ?_ e2 e3 ho)
  rw [ct_o hs, hR]
  exact ⟨_, hcl, t_OB.to (V := updV (vp_V (fds R i ci)) k v) ⟨_, e1, q2, q3, t_set q4 hap hk v⟩ (fun j _ => vp_updV_set (by rw [fds_len, hN]; exact hk) v j)⟩
theorem r_putF {own ref C : String} {T : u_T} {N ci index : Nat} {Ts : List Cond} {tys : List (ClassId × FieldType)} (hexec : p.tables.exec = Jvm.exec) (hb : c.code = cc) (hts : ∀ w ∈ Ts, w.before args s = true) (hown : s.vm.findClass own = some m.cls) (hK : va_K D vwCl tys s) (hc : rc D g A H0 lv a R H locs)
    {i : Nat} (hi : lv i = true) (hs : sh i = (0, ci)) (hcl : vwCl[ci]? = some (C, T, N)) (hN : nF ci = N) (hin : ∀ w ∈ u_ws C T N, w ∈ Ts) (ty0 : Nat → FieldType) (hty : ∀ k, k < N → parseFieldDescriptor (T k).2.2.1 = some (ty0 k)) (hnm : ∀ a, a < N → ∀ b, b < N → a ≠ b → (T a).2.1 ≠ (T b).2.1)
    (k : Nat) (hk : k < N) (hlink : (Cond.fieldLink own index ref (T k).2.1 (T k).2.2.1).before args s = true) (hsame : ∀ x, s.fieldFound? (T k).1 (T k).2.1 (T k).2.2.1 = some x → s.fieldFound? ref (T k).2.1 (T k).2.2.1 = some x) (hfin : (T k).2.2.2 = true) (hin2 : meth.name = "<init>") (hdecl : (T k).1 = own) {ty : FieldType} {v : Value} (hd : parseFieldDescriptor (T k).2.2.1 = some ty) (hn : narrow ty v = v) (hfit : fits ty v = true)
    (hdg : decode cc pc = .ok (.putfield index, 3)) {R' : RS} (hR : fds R' i ci = (fds R i ci).set k v) (ho : ∀ j, j ≠ i → ct g R' j = ct g R j)
    (kk : ∀ (H1 : Heap) (locs1 : List Loc), rc D g A H0 lv a R' H1 locs1 → W p l e R0 s m args below meth c H1 locs1 cells slots Q (F0 m (pc + 3) ls rest)) : W p l e R0 s m args below meth c H locs cells slots Q (F0 m pc ls (v :: .ref (a i) :: rest)) := by
  have hap := va_apart (own := own) hts hin ty0 hty hnm hK hcl
  obtain ⟨r, h1, cell, q1, q2, q3, q4⟩ := r_one hc.1 hi (ct_o (g := g) (R := R) hs) 0 _ rfl
  have hr : r = (C, T, N) := Option.some.inj (h1.symm.trans hcl)
  subst hr
  obtain ⟨hS, hfc, kC, hkC, hkind⟩ := hK.1 ci _ hcl
  obtain ⟨cf, kf, fi9, f, hi9, hsl⟩ := hS k hk
  have hlay := hts _ (hin _ (u_in_lay hk))
  unfold u_lay at hlay
  rw [if_pos hfin] at hlay
  have hst := (u_facts hfc hkC (u_lays hts hin hk) hi9).1
  have hcf : m.cls = cf := by
    obtain ⟨_, _, c', _, _, _, -, -, hf', -, -, -, hown2, -⟩ := Cond.laysFinal_spec hlay
    have e1 : c' = cf := by have := hi9.symm.trans hf'; simp at this; exact this.1.symm
    rw [hdecl] at hown2
    rw [← e1]; exact Option.some.inj (hown.symm.trans hown2)
  have h6 := u_fits hfc hkC hkind (Or.inr hlay) hi9 hd hn hfit
  refine W.putFinK hexec hb hown hlink (hsame _ hi9) hst hcf hin2 (by rw [q2]; exact h6) q1 q3 (by rw [hsl]; exact k2_hasslot (q4 k hk)) rfl rfl hdg fun H' e1 e2 e3 => ?_
  rw [hsl] at e1 ⊢
  refine kk H' _ (rc_set hc hi ?_ e2 e3 ho)
  rw [ct_o hs, hR]
  exact ⟨_, hcl, t_OB.to (V := updV (vp_V (fds R i ci)) k v) ⟨_, e1, q2, q3, t_set q4 hap hk v⟩ (fun j _ => vp_updV_set (by rw [fds_len, hN]; exact hk) v j)⟩
/-! arrays: the place j is a Nat below the length, as the stack has it: nI j -/
theorem r_iald {n : Nat} (hexec : p.tables.exec = Jvm.exec) (hb : c.code = cc) (hK : va_K D vwCl (tyG g) s) (hc : rc D g A H0 lv a R H locs) {i : Nat} (hi : lv i = true) (hs : sh i = (1, n)) (hn : n < 2 ^ 31) {j : Nat} (hj : j < n) (hdg : decode cc pc = .ok (.iaload, 1)) {v : Int32} (hv : ai R i j = v)
    (kk : W p l e R0 s m args below meth c H locs cells slots Q (F0 m (pc + 1) ls (.int v :: rest))) : W p l e R0 s m args below meth c H locs cells slots Q (F0 m pc ls (.int (nI j) :: .ref (a i) :: rest)) := by
  refine va_iald hexec hb hK (r_one hc.1 hi (ct_i hs)) 0 0 rfl rfl (vp_in_nI hj hn) hdg ?_
  rw [nI_clamp (by omega), hv]
  exact kk
theorem r_lald {n : Nat} (hexec : p.tables.exec = Jvm.exec) (hb : c.code = cc) (hK : va_K D vwCl (tyG g) s) (hc : rc D g A H0 lv a R H locs) {i : Nat} (hi : lv i = true) (hs : sh i = (2, n)) (hn : n < 2 ^ 31) {j : Nat} (hj : j < n) (hdg : decode cc pc = .ok (.laload, 1)) {v : Int64} (hv : al R i j = v)
    (kk : W p l e R0 s m args below meth c H locs cells slots Q (F0 m (pc + 1) ls (.long v :: rest))) : W p l e R0 s m args below meth c H locs cells slots Q (F0 m pc ls (.int (nI j) :: .ref (a i) :: rest)) := by
  refine va_lald hexec hb hK (r_one hc.1 hi (ct_l hs)) 0 1 rfl rfl (vp_in_nI hj hn) hdg ?_
  rw [nI_clamp (by omega), hv]
  exact kk
theorem r_zald {n : Nat} (hexec : p.tables.exec = Jvm.exec) (hb : c.code = cc) (hK : va_K D vwCl (tyG g) s) (hc : rc D g A H0 lv a R H locs) {i : Nat} (hi : lv i = true) (hs : sh i = (3, n)) (hn : n < 2 ^ 31) {j : Nat} (hj : j < n) (hdg : decode cc pc = .ok (.baload, 1)) {v : Int32} (hv : ai R i j = v)
    (kk : W p l e R0 s m args below meth c H locs cells slots Q (F0 m (pc + 1) ls (.int v :: rest))) : W p l e R0 s m args below meth c H locs cells slots Q (F0 m pc ls (.int (nI j) :: .ref (a i) :: rest)) := by
  refine va_zald hexec hb hK (r_one hc.1 hi (ct_z hs)) 0 2 rfl rfl (vp_in_nI hj hn) hdg ?_
  rw [nI_clamp (by omega), hv]
  exact kk
theorem r_kald {n : Nat} (hexec : p.tables.exec = Jvm.exec) (hb : c.code = cc) (hK : va_K D vwCl (tyG g) s) (hc : rc D g A H0 lv a R H locs) {i : Nat} (hi : lv i = true) (hs : sh i = (4, n)) (hn : n < 2 ^ 31) {j : Nat} (hj : j < n) (hdg : decode cc pc = .ok (.aaload, 1)) {v : Option Nat} (hv : aq R i j = v)
    (kk : W p l e R0 s m args below meth c H locs cells slots Q (F0 m (pc + 1) ls (va_rf v :: rest))) : W p l e R0 s m args below meth c H locs cells slots Q (F0 m pc ls (.int (nI j) :: .ref (a i) :: rest)) := by
  refine va_aldq hexec hb hK (r_one hc.1 hi (ct_k hs)) 0 3 rfl rfl (vp_in_nI hj hn) hdg ?_
  rw [nI_clamp (by omega), hv]
  exact kk
theorem r_pald {n : Nat} (hexec : p.tables.exec = Jvm.exec) (hb : c.code = cc) (hK : va_K D vwCl (tyG g) s) (hc : rc D g A H0 lv a R H locs) {i : Nat} (hi : lv i = true) (hs : sh i = (5, n)) (hn : n < 2 ^ 31) {j : Nat} (hj : j < n) (hdg : decode cc pc = .ok (.aaload, 1)) {v : Option Nat} (hv : aq R i j = v)
    (kk : W p l e R0 s m args below meth c H locs cells slots Q (F0 m (pc + 1) ls (va_rf v :: rest))) : W p l e R0 s m args below meth c H locs cells slots Q (F0 m pc ls (.int (nI j) :: .ref (a i) :: rest)) := by
  refine va_aldq hexec hb hK (r_one hc.1 hi (ct_p hs)) 0 4 rfl rfl (vp_in_nI hj hn) hdg ?_
  rw [nI_clamp (by omega), hv]
  exact kk
theorem r_alen {x n t0 : Nat} {ty : FieldType} {cA : ClassId} {b : (Nat → Int32) ⊕ (Nat → Int64) ⊕ (Nat → UInt32) ⊕ (Nat → UInt64) ⊕ (Nat → Option Nat)} (hexec : p.tables.exec = Jvm.exec) (hb : c.code = cc) (hK : va_K D vwCl (tyG g) s) (hc : rc D g A H0 lv a R H locs) {i : Nat} (hi : lv i = true) (hs : sh i = (x, n)) (hct : ct g R i = .inl (cA, n, b)) (ht : (tyG g)[t0]? = some (cA, ty)) (hdg : decode cc pc = .ok (.arraylength, 1))
    (kk : W p l e R0 s m args below meth c H locs cells slots Q (F0 m (pc + 1) ls (.int (nI n) :: rest))) : W p l e R0 s m args below meth c H locs cells slots Q (F0 m pc ls (.ref (a i) :: rest)) :=
  va_alen hexec hb hK (r_one hc.1 hi hct) 0 t0 rfl ht rfl hdg kk
theorem r_iast {n : Nat} (hexec : p.tables.exec = Jvm.exec) (hb : c.code = cc) (hK : va_K D vwCl (tyG g) s) (hc : rc D g A H0 lv a R H locs) {i : Nat} (hi : lv i = true) (hs : sh i = (1, n)) (hn : n < 2 ^ 31) {j : Nat} (hj : j < n) {x : Int32} (hdg : decode cc pc = .ok (.iastore, 1))
    (kk : ∀ (H1 : Heap) (locs1 : List Loc), rc D g A H0 lv a (sai R i j x) H1 locs1 → W p l e R0 s m args below meth c H1 locs1 cells slots Q (F0 m (pc + 1) ls rest)) : W p l e R0 s m args below meth c H locs cells slots Q (F0 m pc ls (.int x :: .int (nI j) :: .ref (a i) :: rest)) := by
  have hP := r_one hc.1 hi (ct_i (g := g) (R := R) hs)
  refine W.iast hexec hb (hP 0 _ rfl) ((hK.2 0 _ rfl).1 n (fun j => .int (ai R i j))) (fun q => by cases q) (by show ¬ (nI j < 0 ∨ (arrV _ _ _).slots.size ≤ _); rw [arrV_size]; exact vp_in_nI hj hn) rfl rfl hdg fun H1 e z oq => ?_
  refine kk H1 _ (rc_set hc hi ?_ z oq (fun j hj => ct_sai hj))
  rw [ct_i hs, ai_sai]
  show H1[a i]? = some (vp_cell _ _)
  rw [e]
  rw [vp_cell_i, vp_cell_i, arrV_store]
  congr 2
  funext q
  rw [nI_clamp (by omega)]
  by_cases hq : q = j
  · subst hq
    simp [updV, upd]
  · simp [updV, upd, hq]
theorem r_last {n : Nat} (hexec : p.tables.exec = Jvm.exec) (hb : c.code = cc) (hK : va_K D vwCl (tyG g) s) (hc : rc D g A H0 lv a R H locs) {i : Nat} (hi : lv i = true) (hs : sh i = (2, n)) (hn : n < 2 ^ 31) {j : Nat} (hj : j < n) {x : Int64} (hdg : decode cc pc = .ok (.lastore, 1))
    (kk : ∀ (H1 : Heap) (locs1 : List Loc), rc D g A H0 lv a (sal R i j x) H1 locs1 → W p l e R0 s m args below meth c H1 locs1 cells slots Q (F0 m (pc + 1) ls rest)) : W p l e R0 s m args below meth c H locs cells slots Q (F0 m pc ls (.long x :: .int (nI j) :: .ref (a i) :: rest)) := by
  have hP := r_one hc.1 hi (ct_l (g := g) (R := R) hs)
  refine W.last hexec hb (hP 0 _ rfl) ((hK.2 1 _ rfl).1 n (fun j => .long (al R i j))) (fun q => by cases q) (by show ¬ (nI j < 0 ∨ (arrV _ _ _).slots.size ≤ _); rw [arrV_size]; exact vp_in_nI hj hn) rfl rfl hdg fun H1 e z oq => ?_
  refine kk H1 _ (rc_set hc hi ?_ z oq (fun j hj => ct_sal hj))
  rw [ct_l hs, al_sal]
  show H1[a i]? = some (vp_cell _ _)
  rw [e]
  rw [vp_cell_l, vp_cell_l, arrV_store]
  congr 2
  funext q
  rw [nI_clamp (by omega)]
  by_cases hq : q = j
  · subst hq
    simp [updV, vp_updL]
  · simp [updV, vp_updL, hq]
theorem r_zast {n : Nat} (hexec : p.tables.exec = Jvm.exec) (hb : c.code = cc) (hK : va_K D vwCl (tyG g) s) (hc : rc D g A H0 lv a R H locs) {i : Nat} (hi : lv i = true) (hs : sh i = (3, n)) (hn : n < 2 ^ 31) {j : Nat} (hj : j < n) {x : Int32} (hz : vp_nar .boolean x = x) (hdg : decode cc pc = .ok (.bastore, 1))
    (kk : ∀ (H1 : Heap) (locs1 : List Loc), rc D g A H0 lv a (sai R i j x) H1 locs1 → W p l e R0 s m args below meth c H1 locs1 cells slots Q (F0 m (pc + 1) ls rest)) : W p l e R0 s m args below meth c H locs cells slots Q (F0 m pc ls (.int x :: .int (nI j) :: .ref (a i) :: rest)) := by
  have hP := r_one hc.1 hi (ct_z (g := g) (R := R) hs)
  refine W.zast hexec hb (hP 0 _ rfl) ((hK.2 2 _ rfl).1 n (fun j => .int (ai R i j))) (fun q => by cases q) (by show ¬ (nI j < 0 ∨ (arrV _ _ _).slots.size ≤ _); rw [arrV_size]; exact vp_in_nI hj hn) rfl rfl hdg fun H1 e z oq => ?_
  refine kk H1 _ (rc_set hc hi ?_ z oq (fun j hj => ct_sai hj))
  rw [ct_z hs, ai_sai]
  show H1[a i]? = some (vp_cell _ _)
  rw [e]
  rw [vp_cell_i, vp_cell_i, arrV_store]
  congr 2
  funext q
  rw [nI_clamp (by omega)]
  by_cases hq : q = j
  · subst hq
    have h9 : narrow .boolean (.int x) = .int x := by
      have h8 : narrow .boolean (.int x) = .int (vp_nar .boolean x) := by simp [vp_nar, narrow]
      rw [h8, hz]
    simp [updV, upd, h9]
  · simp [updV, upd, hq]
theorem r_ast {n x t0 ci v : Nat} {r : vw_C} {cA : ClassId} (hexec : p.tables.exec = Jvm.exec) (hb : c.code = cc) (hK : va_K D vwCl (tyG g) s) (hc : rc D g A H0 lv a R H locs) {i : Nat} (hi : lv i = true) (hct : ∀ R : RS, ct g R i = .inl (cA, n, .inr (.inr (.inr (.inr (aq R i)))))) (ht : (tyG g)[t0]? = some (cA, .object r.1)) (hv : lv v = true) (hsv : sh v = (0, ci)) (hcl : vwCl[ci]? = some r) (hn : n < 2 ^ 31) {j : Nat} (hj : j < n) (hdg : decode cc pc = .ok (.aastore, 1))
    (kk : ∀ (H1 : Heap) (locs1 : List Loc), rc D g A H0 lv a (saq R i j (some (a v))) H1 locs1 → W p l e R0 s m args below meth c H1 locs1 cells slots Q (F0 m (pc + 1) ls rest)) : W p l e R0 s m args below meth c H locs cells slots Q (F0 m pc ls (.ref (a v) :: .int (nI j) :: .ref (a i) :: rest)) := by
  have hP := r_one hc.1 hi (hct R)
  obtain ⟨r', hr', cellV, g1, g2, g3, -⟩ := r_one hc.1 hv (ct_o (g := g) (R := R) hsv) 0 _ rfl
  have hcls := (hK.1 ci r hcl).2
  obtain ⟨kA, comp, k1, k2, k3, -⟩ := (hK.2 t0 _ ht).2
  have hcomp : comp = D.1 ci := Option.some.inj (k3.symm.trans hcls.1)
  subst hcomp
  obtain ⟨kC, hkC, -⟩ := hcls.2
  have h0 : ¬ nI j < 0 := nI_pos (by omega)
  refine W.aast hexec hb (hP 0 _ rfl) (fun q h => by cases h) (fun h => by cases h) k1 k2 rfl hkC ⟨h0, by show _ < (arrV _ _ _).slots.size; rw [arrV_size, nI_clamp (by omega)]; exact hj⟩ g1 (fun q h => by rw [g3] at h; cases h) (by rw [g2]; exact hkC) (by rw [g2]; exact va_assign hcls) rfl rfl hdg fun H1 e z oq => ?_
  refine kk H1 _ (rc_set hc hi ?_ z oq (fun j hj => ct_saq hj))
  rw [hct, aq_saq]
  show H1[a i]? = some (vp_cell _ _)
  rw [e]
  rw [vp_cell_q, vp_cell_q, arrV_store]
  congr 2
  funext q
  rw [nI_clamp (by omega)]
  by_cases hq : q = j
  · subst hq
    simp [updV, va_up, va_rf]
  · simp [updV, va_up, hq]
/-! what is made -/
theorem rP_new {i : Nat} {R' : RS} {H1 : Heap} (h : rP D g lv a R H) (hi : lv i = false) (he : va_at D vwCl (H.size, ct g R' i) H1) (oq : ∀ q : Nat, q < H.size → H1[q]? = H[q]?) (hne : ∀ j, j ≠ i → ct g R' j = ct g R j) : rP D g (va_up lv i true) (va_up a i H.size) R' H1 := by
  have hlt : ∀ j, lv j = true → a j < H.size := fun j hj => (h.2 j hj).lt
  refine ⟨fun x y hx hy hxy => ?_, fun j hj => ?_⟩
  · by_cases h1 : x = i
    · by_cases h2 : y = i
      · rw [h1, h2]
      · rw [h1, va_up_self, up_ne h2] at hxy
        rw [up_ne h2] at hy
        have := hlt y hy
        omega
    · by_cases h2 : y = i
      · rw [h2, va_up_self, up_ne h1] at hxy
        rw [up_ne h1] at hx
        have := hlt x hx
        omega
      · rw [up_ne h1] at hx hxy
        rw [up_ne h2] at hy hxy
        exact h.1 x y hx hy hxy
  · by_cases h1 : j = i
    · subst h1
      rw [va_up_self]
      exact he
    · rw [up_ne h1] at hj ⊢
      rw [hne j h1]
      exact (h.2 j hj).kept (oq _ (hlt j hj))
theorem rc_new {i : Nat} {R' : RS} {H1 : Heap} (h : rc D g A H0 lv a R H locs) (hA : ∀ q, H0.size ≤ q → A q) (hi : lv i = false) (he : va_at D vwCl (H.size, ct g R' i) H1) (z : H1.size = H.size + 1) (oq : ∀ q : Nat, q < H.size → H1[q]? = H[q]?) (hne : ∀ j, j ≠ i → ct g R' j = ct g R j) : rc D g A H0 (va_up lv i true) (va_up a i H.size) R' H1 locs := by
  refine ⟨rP_new h.1 hi he oq hne, fun j hj => ?_, ⟨Nat.le_trans h.2.2.1 (by omega), fun x h1 h2 => (oq x (Nat.lt_of_lt_of_le h1 h.2.2.1)).trans (h.2.2.2.1 x h1 h2), h.2.2.2.2⟩⟩
  by_cases h1 : j = i
  · subst h1
    rw [va_up_self]
    exact hA _ h.2.2.1
  · rw [up_ne h1] at hj ⊢
    exact h.2.1 j hj
theorem r_new {own C : String} {T : u_T} {N ci index : Nat} {Ts : List Cond} {tys : List (ClassId × FieldType)} (hexec : p.tables.exec = Jvm.exec) (hb : c.code = cc) (hts : ∀ w ∈ Ts, w.before args s = true) (hown : s.vm.findClass own = some m.cls) (hK : va_K D vwCl tys s) (hc : rc D g A H0 lv a R H locs) (hA : ∀ q, H0.size ≤ q → A q)
    (i : Nat) (hi : lv i = false) (hs : sh i = (0, ci)) (hcl : vwCl[ci]? = some (C, T, N)) (hN : nF ci = N) (hin : ∀ w ∈ u_ws C T N, w ∈ Ts) (ty : Nat → FieldType) (hty : ∀ k, k < N → parseFieldDescriptor (T k).2.2.1 = some (ty k)) (hcl2 : (Cond.classLink own index C).before args s = true) (hinst : (Cond.instantiable C N).before args s = true) (hini : (Cond.initialized C).before args s = true)
    (hfs : ∀ R : RS, ∀ j, j < N → defaultValue (ty j) = vp_V (fds (clr R i) i ci) j) (hcells : cells + 1 ≤ R0.cells) (hslots : slots + N ≤ R0.slots) (hdg : decode cc pc = .ok (.new index, 3))
    (kk : ∀ (q : Nat) (H1 : Heap), q = H.size → rc D g A H0 (va_up lv i true) (va_up a i q) (clr R i) H1 locs → W p l e R0 s m args below meth c H1 locs (cells + 1) (slots + N) Q (F0 m (pc + 3) ls (.ref q :: rest))) : W p l e R0 s m args below meth c H locs cells slots Q (F0 m pc ls rest) := by
  have hKn := hK.1 ci _ hcl
  refine W.newcK hexec hb hown hcl2 hinst hini rfl hdg hcells hslots hKn.2.1 rfl fun H1 kC hkC e1 z1 o1 => ?_
  refine kk H.size H1 rfl (rc_new hc hA hi ?_ z1 o1 (fun j hj => ct_clr hj))
  rw [ct_o hs]
  exact ⟨_, hcl, (u_born ty hts hin hKn hkC e1 hty).to (hfs R)⟩
theorem r_newa {atype : ArrayType} {n : Int32} {N x t0 : Nat} {ty : FieldType} {cA : ClassId} (hexec : p.tables.exec = Jvm.exec) (hb : c.code = cc) (harr : (Cond.arrayClass (newarray.typeOf atype)).before args s = true) (hty : newarray.typeOf atype = ty) (hK : va_K D vwCl (tyG g) s) (hc : rc D g A H0 lv a R H locs) (hA : ∀ q, H0.size ≤ q → A q)
    (i : Nat) (hi : lv i = false) (hs : sh i = (x, N)) (ht : (tyG g)[t0]? = some (cA, ty)) (hra : va_RA s cA ty → s.vm.findClass ("[" ++ ty.toString) = some cA) (hct : ∀ R : RS, va_at D vwCl (H.size, ct g (clr R i) i) = fun H1 => H1[H.size]? = some (arrV cA N (fun _ => defaultValue ty))) (hn : ¬ n < 0) (hN : n.toNatClampNeg = N) (hbytes : N * componentBytes ty ≤ 536870912) (hcells : cells + 1 ≤ R0.cells) (hslots : slots + N ≤ R0.slots) (hdg : decode cc pc = .ok (.newarray atype, 2))
    (kk : ∀ (q : Nat) (H1 : Heap), q = H.size → rc D g A H0 (va_up lv i true) (va_up a i q) (clr R i) H1 locs → W p l e R0 s m args below meth c H1 locs (cells + 1) (slots + N) Q (F0 m (pc + 2) ls (.ref q :: rest))) : W p l e R0 s m args below meth c H locs cells slots Q (F0 m pc ls (.int n :: rest)) := by
  subst hty
  refine va_newaK hexec hb harr rfl hdg rfl hn hN hbytes hcells hslots rfl fun H1 cA9 e1 z1 o1 hAr hNm => ?_
  have hcc : cA9 = cA := Option.some.inj (hNm.symm.trans (hra (hK.2 t0 _ ht).2))
  subst hcc
  refine kk H.size H1 rfl (rc_new hc hA hi ?_ z1 o1 (fun j hj => ct_clr hj))
  rw [hct]
  exact e1
theorem r_newq {own C : String} {index N x t0 : Nat} {n : Int32} {cA : ClassId} (hexec : p.tables.exec = Jvm.exec) (hb : c.code = cc) (hown : s.vm.findClass own = some m.cls) (hclink : (Cond.classLink own index C).before args s = true) (hover : va_AO C s) (hK : va_K D vwCl (tyG g) s) (hc : rc D g A H0 lv a R H locs) (hA : ∀ q, H0.size ≤ q → A q)
    (i : Nat) (hi : lv i = false) (hs : sh i = (x, N)) (ht : (tyG g)[t0]? = some (cA, .object C)) (hct : ∀ R : RS, ct g (clr R i) i = .inl (cA, N, .inr (.inr (.inr (.inr (fun _ => none)))))) (hn : ¬ n < 0) (hN : n.toNatClampNeg = N) (hbytes : N * 4 ≤ 536870912) (hcells : cells + 1 ≤ R0.cells) (hslots : slots + N ≤ R0.slots) (hdg : decode cc pc = .ok (.anewarray index, 3))
    (kk : ∀ (q : Nat) (H1 : Heap), q = H.size → rc D g A H0 (va_up lv i true) (va_up a i q) (clr R i) H1 locs → W p l e R0 s m args below meth c H1 locs (cells + 1) (slots + N) Q (F0 m (pc + 3) ls (.ref q :: rest))) : W p l e R0 s m args below meth c H locs cells slots Q (F0 m pc ls (.int n :: rest)) := by
  subst hN
  refine W.anew hexec hb hown hclink (va_AO.use hover) rfl hdg rfl hn hbytes hcells hslots fun cA9 kA comp f1 f2 f3 f4 => ?_
  obtain ⟨kA8, comp8, j1, j2, j3, j4⟩ := (hK.2 t0 _ ht).2
  have hcc : cA9 = cA := Option.some.inj (f1.symm.trans j4)
  subst hcc
  generalize hH1 : H.push ({ cls := cA9, slots := Array.replicate n.toNatClampNeg .null, vm := .none } : Cell) = H1
  have z1 : H1.size = H.size + 1 := by rw [← hH1, Array.size_push]
  have e1 : H1[H.size]? = some (arrV cA9 n.toNatClampNeg (fun _ => .null)) := by rw [← hH1, Array.getElem?_push_size, ← arrV_new]
  have o1 : ∀ q : Nat, q < H.size → H1[q]? = H[q]? := fun q hq => by rw [← hH1, Array.getElem?_push, if_neg (Nat.ne_of_lt hq)]
  refine kk H.size H1 rfl (rc_new hc hA hi ?_ z1 o1 (fun j hj => ct_clr hj))
  rw [hct]
  show H1[H.size]? = some (vp_cell _ _)
  rw [vp_cell_q]
  exact e1
end RW
end
section
/-! ===== contracts over the store ===== -/
def strs : List (Nat × String) := [(74, "a box's size or weight is outside its range"), (81, "no room for another kind"), (91, "steps are outside their range"), (99, "a layer of this kind is on a pallet"), (109, "what is outside its range"), (113, "no such box in the pattern"), (129, "a rule is outside its range"), (131, "no room for another pallet"), (138, "boxes are outside their range"), (147, "no room for another layer"), (176, "no such box"), (203, "a stop is outside its range"), (208, "a pallet for an earlier stop would be barred"), (213, "a pallet for another stop stands behind"), (218, "not so many pallets on the truck"), (227, "no such kind"), (229, "no such pallet"), (231, "no such layer"), (233, "the pallet is on a truck"), (235, "the pallet has no layers")]
/-- what the tables say beside the words: classes and slots, nest mates, arrays of references, the texts of the throws -/
def rK (D : va_G) (g : Nat → ClassId) (U : State) : Prop := va_K D vwCl (tyG g) U ∧ (va_Nw (.methodLinkNest RX0 52 yX3_isOutside RX3) U ∧ va_Nw (.methodLinkNest RX1 52 yX3_isOutside RX3) U ∧ va_Nw (.methodLinkNest RX3 133 yX1_init RX3) U) ∧ (va_AO "PalletLayers$Kind" U ∧ va_AO "PalletLayers$Pallet" U) ∧ ∀ q ∈ strs, ∃ sa, vk_R RX3 q.1 q.2 sa U
def rZ (A : Nat → Prop) (U : State) (H : Heap) : Prop := vx_Zq Bundle.tN "UNASSIGNED_STACK" Bundle.steD A U H ∧ vx_Zq Bundle.tN "SUPPRESSED_SENTINEL" Bundle.listD A U H
theorem rK.warm {D : va_G} {g : Nat → ClassId} {s U : State} (hW : s.WarmedH U.vm) (h : rK D g s) : rK D g U :=
  ⟨h.1.moved hW.alike, ⟨h.2.1.1.warmM hW, h.2.1.2.1.warmM hW, h.2.1.2.2.warmM hW⟩, ⟨h.2.2.1.1.moved hW.alike, h.2.2.1.2.moved hW.alike⟩, fun q hq => by
    obtain ⟨sa, h1⟩ := h.2.2.2 q hq
    exact ⟨sa, h1.warm hW⟩⟩
theorem rK.same {D : va_G} {g : Nat → ClassId} {s U : State} (hv : U.vm = s.vm) (h : rK D g s) : rK D g U :=
  ⟨h.1.moved (by rw [hv]; exact Vm.Alike.refl _), ⟨h.2.1.1.same rfl hv.symm, h.2.1.2.1.same rfl hv.symm, h.2.1.2.2.same rfl hv.symm⟩, ⟨h.2.2.1.1.moved (by rw [hv]; exact Vm.Alike.refl _), h.2.2.1.2.moved (by rw [hv]; exact Vm.Alike.refl _)⟩, fun q hq => by
    obtain ⟨sa, h1⟩ := h.2.2.2 q hq
    exact ⟨sa, h1.same hv⟩⟩
def rPre (D : va_G) (g : Nat → ClassId) (lv : Nat → Bool) (a : Nat → Nat) (R : RS) (sz : Nat) (U : State) : Prop := U.heap.size = sz ∧ rP D g lv a R U.heap ∧ rK D g U ∧ rZ (rA lv a sz) U U.heap
theorem rPre_blind {D : va_G} {g : Nat → ClassId} {lv : Nat → Bool} {a : Nat → Nat} {R : RS} {sz : Nat} {av : List Value} : FrameBlind (va_Pc av (rPre D g lv a R sz)) := by
  intro x U f mk h
  obtain ⟨h0, h1, h2, h3, h4⟩ := h
  exact ⟨h0, h1, h2, h3.same rfl, vx_Zq.moved (u := U) (U := U.calling f mk x) (Vm.Alike.refl U.vm) h4.1, vx_Zq.moved (u := U) (U := U.calling f mk x) (Vm.Alike.refl U.vm) h4.2⟩
abbrev cB (D : va_G) (g : Nat → ClassId) (lv : Nat → Bool) (a : Nat → Nat) (R' : RS) (t : State) : Prop := rP D g lv a R' t.heap
abbrev cI (l : Launch) (D : va_G) (g : Nat → ClassId) (lv : Nat → Bool) (a : Nat → Nat) (y : MethodName) (ws : List Cond) (rm : Room) (av : List Value) (R : RS) (post : Int32 → RS → Prop) (mc ms : Nat) : Prop := ∀ sz, Met l y ws rm (va_Pc av (rPre D g lv a R sz)) (va_Qi post (cB D g lv a) (rA lv a sz)) mc ms (rA lv a sz)
abbrev cL (l : Launch) (D : va_G) (g : Nat → ClassId) (lv : Nat → Bool) (a : Nat → Nat) (y : MethodName) (ws : List Cond) (rm : Room) (av : List Value) (R : RS) (post : Int64 → RS → Prop) (mc ms : Nat) : Prop := ∀ sz, Met l y ws rm (va_Pc av (rPre D g lv a R sz)) (va_Ql post (cB D g lv a) (rA lv a sz)) mc ms (rA lv a sz)
abbrev cV (l : Launch) (D : va_G) (g : Nat → ClassId) (lv : Nat → Bool) (a : Nat → Nat) (y : MethodName) (ws : List Cond) (rm : Room) (av : List Value) (R : RS) (post : RS → Prop) (mc ms : Nat) : Prop := ∀ sz, Met l y ws rm (va_Pc av (rPre D g lv a R sz)) (va_Qv post (cB D g lv a) (rA lv a sz)) mc ms (rA lv a sz)
/-- what a body begins with -/
def bE (p : Program) (s : State) (m : MethodId) (meth : Method) (c : Code) (D : va_G) (g : Nat → ClassId) (lv : Nat → Bool) (a : Nat → Nat) (R : RS) (y : MethodName) (ws : List Cond) (cc : ByteArray) (maxL : Nat) (ret : Option FieldType) (args : Array Value) : Prop :=
  p.tables.exec = Jvm.exec ∧ c.code = cc ∧ meth.sig.returnType = ret ∧ c.maxLocals = maxL ∧ s.vm.findClass y.cls = some m.cls ∧ (∀ w ∈ ws, w.before args s = true) ∧ meth.locks = false ∧ meth.name = y.name ∧ rK D g s ∧ rZ (rA lv a s.heap.size) s s.heap ∧ rc D g (rA lv a s.heap.size) s.heap lv a R s.heap [] ∧ ∀ q, s.heap.size ≤ q → rA lv a s.heap.size q
section CB
variable {l : Launch} {D : va_G} {g : Nat → ClassId} {lv : Nat → Bool} {a : Nat → Nat} {R : RS}
theorem c_body {y : MethodName} {ws ws' : List Cond} {rm : Room} {av : List Value} {Qc : Nat → Array Value → State → Outcome → State → Prop} {mc ms : Nat} {cc : ByteArray} {maxL : Nat} {ret : Option FieldType} (hy : plainName y.cls = true) (hw : ws = Cond.code y cc maxL ret :: ws') (hal : (lg_sl av).length ≤ maxL)
    (body : ∀ p e s m below meth c ls, bE p s m meth c D g lv a R y ws cc maxL ret av.toArray → lv_has ls maxL (lv_args 0 av) → W p l e rm s m av.toArray below meth c s.heap [] 0 0 (MQ below (Qc s.heap.size) av.toArray s mc ms (rA lv a s.heap.size)) (F0 m 0 ls [])) : ∀ sz, Met l y ws rm (va_Pc av (rPre D g lv a R sz)) (Qc sz) mc ms (rA lv a sz) := by
  intro sz
  refine Met.ofW (cc := cc) (maxL := maxL) (ret := ret) hy hw ?_
  intro p e s m args below meth c s₁ B hml hv
  obtain ⟨rfl, hsz, hP, hK, hZ⟩ := hv
  subst hsz
  have hl := lv_entry av (n := maxL) hal
  rw [lg_entry_eq]
  refine body p e s m below meth c _ ⟨B.exec, B.bytes, B.returns, hml, findClass_of_methodNamed B.named, atoms_spec (ws := ws) B.pre, B.notSynchronized, (name_of_methodNamed B.named B.method).1, hK, hZ, ⟨hP, fun i hi => Or.inl ⟨i, hi, rfl⟩, va_S.rf⟩, fun q h => Or.inr h⟩ hl
variable {p : Program} {e : Env} {R0 : Room} {s : State} {m : MethodId} {args : Array Value} {below : List Frame} {meth : Method} {c : Code} {H : Heap} {locs : List Loc} {cells slots : Nat} {Q : State → Prop} {A : Nat → Prop} {cc : ByteArray} {pc : Nat} {ls : Array Slot} {rest st0 : List Value} {R' : RS}
theorem r_nar (hc : rc D g A s.heap lv a R H locs) (hA : ∀ q, s.heap.size ≤ q → A q) : ∀ q, rA lv a H.size q → A q := fun q h => h.elim (fun ⟨i, hi, e⟩ => e ▸ hc.2.1 i hi) (fun h => hA q (Nat.le_trans hc.2.2.1 h))
theorem r_preS {As : List Value} (hK : rK D g s) (hZ : rZ A s s.heap) (hc : rc D g A s.heap lv a R H locs) (hA : ∀ q, s.heap.size ≤ q → A q) : PreS s H (va_Pc As (rPre D g lv a R H.size)) As := by
  refine ⟨rPre_blind, fun U hU hW => ⟨rfl, by rw [hU], by rw [hU]; exact hc.1, hK.warm hW, ?_, ?_⟩⟩
  · rw [hU]; exact ((hZ.1.kept hc.2.2.2.1).narrow (r_nar hc hA)).moved hW.alike
  · rw [hU]; exact ((hZ.2.kept hc.2.2.2.1).narrow (r_nar hc hA)).moved hW.alike
theorem r_preV {As : List Value} {C : String} {T : u_T} {N ci i : Nat} (hK : rK D g s) (hZ : rZ A s s.heap) (hc : rc D g A s.heap lv a R H locs) (hA : ∀ q, s.heap.size ≤ q → A q) (hi : lv i = true) (hs : sh i = (0, ci)) (hcl : vwCl[ci]? = some (C, T, N)) : PreV s H C (a i) (va_Pc (.ref (a i) :: As) (rPre D g lv a R H.size)) As :=
  ⟨rPre_blind, va_recv hK.1 (r_one hc.1 hi (ct_o hs)) hcl (q0 := 0) rfl, (r_preS hK hZ hc hA (As := .ref (a i) :: As)).2⟩
theorem rc_back {H1 : Heap} {locs1 : List Loc} (hc : rc D g A s.heap lv a R H locs) (h1 : rP D g lv a R' H1) (hS : va_S A s.heap H1 locs1) : rc D g A s.heap lv a R' H1 locs1 := ⟨h1, hc.2.1, hS⟩
theorem r_calli {mc ms : Nat} {av : Array Value} {post : Int32 → RS → Prop} (hc : rc D g A s.heap lv a R H locs) (hA : ∀ q, s.heap.size ≤ q → A q) (hr : va_Run p l e R0 s m args below meth c H locs cells slots mc ms (F0 m pc ls st0) rest (va_Qi post (cB D g lv a) (rA lv a H.size) av) (rA lv a H.size))
    (kk : ∀ (r : Int32) (R' : RS) (H1 : Heap) (locs1 : List Loc), post r R' → rc D g A s.heap lv a R' H1 locs1 → W p l e R0 s m args below meth c H1 locs1 (cells + mc) (slots + ms) Q (F0 m (pc + 3) ls (.int r :: rest))) : W p l e R0 s m args below meth c H locs cells slots Q (F0 m pc ls st0) :=
  va_calli hr hc.2.2 (fun q _ h => r_nar hc hA q h) (r_nar hc hA) (fun r R' t H1 locs1 ht _ hp hB _ _ hS => kk r R' H1 locs1 hp (rc_back hc (by rw [← ht]; exact hB) hS))
theorem r_calll {mc ms : Nat} {av : Array Value} {post : Int64 → RS → Prop} (hc : rc D g A s.heap lv a R H locs) (hA : ∀ q, s.heap.size ≤ q → A q) (hr : va_Run p l e R0 s m args below meth c H locs cells slots mc ms (F0 m pc ls st0) rest (va_Ql post (cB D g lv a) (rA lv a H.size) av) (rA lv a H.size))
    (kk : ∀ (r : Int64) (R' : RS) (H1 : Heap) (locs1 : List Loc), post r R' → rc D g A s.heap lv a R' H1 locs1 → W p l e R0 s m args below meth c H1 locs1 (cells + mc) (slots + ms) Q (F0 m (pc + 3) ls (.long r :: rest))) : W p l e R0 s m args below meth c H locs cells slots Q (F0 m pc ls st0) :=
  va_calll hr hc.2.2 (fun q _ h => r_nar hc hA q h) (r_nar hc hA) (fun r R' t H1 locs1 ht _ hp hB _ _ hS => kk r R' H1 locs1 hp (rc_back hc (by rw [← ht]; exact hB) hS))
theorem r_callv {mc ms : Nat} {av : Array Value} {post : RS → Prop} (hc : rc D g A s.heap lv a R H locs) (hA : ∀ q, s.heap.size ≤ q → A q) (hr : va_Run p l e R0 s m args below meth c H locs cells slots mc ms (F0 m pc ls st0) rest (va_Qv post (cB D g lv a) (rA lv a H.size) av) (rA lv a H.size))
    (kk : ∀ (R' : RS) (H1 : Heap) (locs1 : List Loc), post R' → rc D g A s.heap lv a R' H1 locs1 → W p l e R0 s m args below meth c H1 locs1 (cells + mc) (slots + ms) Q (F0 m (pc + 3) ls rest)) : W p l e R0 s m args below meth c H locs cells slots Q (F0 m pc ls st0) :=
  va_callv hr hc.2.2 (fun q _ h => r_nar hc hA q h) (r_nar hc hA) (fun R' t H1 locs1 ht _ hp hB _ _ hS => kk R' H1 locs1 hp (rc_back hc (by rw [← ht]; exact hB) hS))
theorem r_iret {v : Int32} {post : Int32 → RS → Prop} (hexec : p.tables.exec = Jvm.exec) (hb : c.code = cc) (hr : meth.sig.returnType = some .int) (hlocks : meth.locks = false) (hc : rc D g (rA lv a s.heap.size) s.heap lv a R H locs) (hdg : decode cc pc = .ok (.ireturn, 1)) (hp : post v R) : W p l e R0 s m args below meth c H locs cells slots (MQ below (va_Qi post (cB D g lv a) (rA lv a s.heap.size)) args s cells slots (rA lv a s.heap.size)) (F0 m pc ls [.int v]) :=
  W.iret hexec hb hr (fun t ht hW => ⟨⟨v, R, rfl, hp, by show rP D g lv a R t.heap; rw [ht]; exact hc.1⟩, hc.2.2.F ht⟩) hc.2.2.2.2 hdg
theorem r_zret {v : Int32} {post : Int32 → RS → Prop} (hexec : p.tables.exec = Jvm.exec) (hb : c.code = cc) (hr : meth.sig.returnType = some .boolean) (hlocks : meth.locks = false) (hc : rc D g (rA lv a s.heap.size) s.heap lv a R H locs) (hdg : decode cc pc = .ok (.ireturn, 1)) (hn : narrow .boolean (.int v) = .int v) (hp : post v R) : W p l e R0 s m args below meth c H locs cells slots (MQ below (va_Qi post (cB D g lv a) (rA lv a s.heap.size)) args s cells slots (rA lv a s.heap.size)) (F0 m pc ls [.int v]) :=
  W.zret hexec hb hr hn (fun t ht hW => ⟨⟨v, R, rfl, hp, by show rP D g lv a R t.heap; rw [ht]; exact hc.1⟩, hc.2.2.F ht⟩) hc.2.2.2.2 hdg
theorem r_lret {v : Int64} {post : Int64 → RS → Prop} (hexec : p.tables.exec = Jvm.exec) (hb : c.code = cc) (hr : meth.sig.returnType = some .long) (hlocks : meth.locks = false) (hc : rc D g (rA lv a s.heap.size) s.heap lv a R H locs) (hdg : decode cc pc = .ok (.lreturn, 1)) (hp : post v R) : W p l e R0 s m args below meth c H locs cells slots (MQ below (va_Ql post (cB D g lv a) (rA lv a s.heap.size)) args s cells slots (rA lv a s.heap.size)) (F0 m pc ls [.long v]) :=
  W.lret hexec hb hr (fun t ht hW => ⟨⟨v, R, rfl, hp, by show rP D g lv a R t.heap; rw [ht]; exact hc.1⟩, hc.2.2.F ht⟩) hc.2.2.2.2 hdg
theorem r_vret {post : RS → Prop} (hexec : p.tables.exec = Jvm.exec) (hb : c.code = cc) (hr : meth.sig.returnType = none) (hlocks : meth.locks = false) (hc : rc D g (rA lv a s.heap.size) s.heap lv a R H locs) (hdg : decode cc pc = .ok (.return_, 1)) (hp : post R) : W p l e R0 s m args below meth c H locs cells slots (MQ below (va_Qv post (cB D g lv a) (rA lv a s.heap.size)) args s cells slots (rA lv a s.heap.size)) (F0 m pc ls []) :=
  W.vret hexec hb hr (fun t ht hW => ⟨⟨R, rfl, hp, by show rP D g lv a R t.heap; rw [ht]; exact hc.1⟩, hc.2.2.F ht⟩) hc.2.2.2.2 hdg
/-! numbers that are Nats -/
theorem nv_iadd (hexec : p.tables.exec = Jvm.exec) (hb : c.code = cc) {x y : Nat} (hdg : decode cc pc = .ok (.iadd, 1)) (k : W p l e R0 s m args below meth c H locs cells slots Q (F0 m (pc + 1) ls (.int (nI (x + y)) :: rest))) : W p l e R0 s m args below meth c H locs cells slots Q (F0 m pc ls (.int (nI y) :: .int (nI x) :: rest)) := lv_iadd hexec hb hdg (by rw [nI_add]; exact k)
theorem nv_isub (hexec : p.tables.exec = Jvm.exec) (hb : c.code = cc) {x y : Nat} (hdg : decode cc pc = .ok (.isub, 1)) (h : y ≤ x) (k : W p l e R0 s m args below meth c H locs cells slots Q (F0 m (pc + 1) ls (.int (nI (x - y)) :: rest))) : W p l e R0 s m args below meth c H locs cells slots Q (F0 m pc ls (.int (nI y) :: .int (nI x) :: rest)) := lv_isub hexec hb hdg (by rw [pk_sub h]; exact k)
theorem nv_imul (hexec : p.tables.exec = Jvm.exec) (hb : c.code = cc) {x y : Nat} (hdg : decode cc pc = .ok (.imul, 1)) (k : W p l e R0 s m args below meth c H locs cells slots Q (F0 m (pc + 1) ls (.int (nI (x * y)) :: rest))) : W p l e R0 s m args below meth c H locs cells slots Q (F0 m pc ls (.int (nI y) :: .int (nI x) :: rest)) := lv_imul hexec hb hdg (by rw [pk_mul]; exact k)
theorem nv_idiv (hexec : p.tables.exec = Jvm.exec) (hb : c.code = cc) {x y : Nat} (hdg : decode cc pc = .ok (.idiv, 1)) (h0 : 0 < y) (hx9 : x < 2 ^ 31) (hy9 : y < 2 ^ 31) (k : W p l e R0 s m args below meth c H locs cells slots Q (F0 m (pc + 1) ls (.int (nI (x / y)) :: rest))) : W p l e R0 s m args below meth c H locs cells slots Q (F0 m pc ls (.int (nI y) :: .int (nI x) :: rest)) := lv_idiv hexec hb hdg (nI_ne0 h0 hy9) (by rw [pk_div hx9 h0 hy9]; exact k)
theorem nv_irem (hexec : p.tables.exec = Jvm.exec) (hb : c.code = cc) {x y : Nat} (hdg : decode cc pc = .ok (.irem, 1)) (h0 : 0 < y) (hx9 : x < 2 ^ 31) (hy9 : y < 2 ^ 31) (k : W p l e R0 s m args below meth c H locs cells slots Q (F0 m (pc + 1) ls (.int (nI (x % y)) :: rest))) : W p l e R0 s m args below meth c H locs cells slots Q (F0 m pc ls (.int (nI y) :: .int (nI x) :: rest)) := lv_irem hexec hb hdg (nI_ne0 h0 hy9) (by rw [pk_rem hx9 h0 hy9]; exact k)
end CB
theorem nI_inc (x : Nat) (k : Nat) : nI x + Int32.ofInt (k : Int) = nI (x + k) := by
  have h : Int32.ofInt (k : Int) = nI k := by simp [nI, Int32.ofInt, Int32.ofNat]
  rw [h, nI_add]
end
section
/-! ===== the mathematical state: one for the class and for the reference; M code i j ===== -/
abbrev MS : Type := Nat → Nat → Nat → Nat
abbrev mW (M : MS) : Nat := M 0 0 0
abbrev mD (M : MS) : Nat := M 1 0 0
abbrev mnk (M : MS) : Nat := M 2 0 0
abbrev mnp (M : MS) : Nat := M 3 0 0
abbrev mna (M : MS) : Nat := M 4 0 0
abbrev msh (M : MS) : Nat := M 5 0 0
abbrev mdo (M : MS) : Nat := M 6 0 0
abbrev mlo (M : MS) : Nat := M 7 0 0
abbrev mst (M : MS) : Nat := M 8 0 0
abbrev kw (M : MS) (k : Nat) : Nat := M 10 k 0
abbrev kd (M : MS) (k : Nat) : Nat := M 11 k 0
abbrev kh (M : MS) (k : Nat) : Nat := M 12 k 0
abbrev kq (M : MS) (k : Nat) : Nat := M 13 k 0
abbrev kb (M : MS) (k : Nat) : Nat := M 14 k 0
abbrev kx (M : MS) (k : Nat) : Nat := M 15 k 0
abbrev kc (M : MS) (k i : Nat) : Nat := M 16 k i
abbrev ky (M : MS) (k i : Nat) : Nat := M 17 k i
abbrev pn (M : MS) (p : Nat) : Nat := M 20 p 0
/-- the stop and one; 0: on no truck -/
abbrev ps (M : MS) (p : Nat) : Nat := M 21 p 0
abbrev lk (M : MS) (p l : Nat) : Nat := M 22 p l
abbrev lb (M : MS) (p l : Nat) : Nat := M 23 p l
abbrev tb (M : MS) (i : Nat) : Nat := M 24 i 0
def mup (M : MS) (c i j v : Nat) : MS := fun c' i' j' => if c' = c ∧ i' = i ∧ j' = j then v else M c' i' j'
/-- a stop as the machine has it -/
def stI (n : Nat) : Int32 := if n = 0 then -1 else nI (n - 1)
/-- the cells of a box w wide, d deep, its corner the cell c, on an area W wide: bits -/
def bm (W c w : Nat) : Nat → Nat
  | 0 => 0
  | d + 1 => bm W c w d ||| (2 ^ w - 1) <<< (c + W * d)
def ac (M : MS) (k y : Nat) : Nat := if y = 0 then kw M k else kd M k
def alo (M : MS) (k y : Nat) : Nat := if y = 0 then kd M k else kw M k
/-- the cells of box i of kind k -/
def bx (M : MS) (k i : Nat) : Nat := bm (mW M) (kc M k i) (ac M k (ky M k i)) (alo M k (ky M k i))
def hS (M : MS) (p : Nat) : Nat → Nat
  | 0 => 0
  | l + 1 => hS M p l + kh M (lk M p l)
def wS (M : MS) (p : Nat) : Nat → Nat
  | 0 => 0
  | l + 1 => wS M p l + kq M (lk M p l) * lb M p l
def bS (M : MS) (p : Nat) : Nat → Nat
  | 0 => 0
  | l + 1 => bS M p l + lb M p l
/-- what always holds -/
def Inv (M : MS) : Prop :=
  (1 ≤ mW M ∧ mW M ≤ 6 ∧ 1 ≤ mD M ∧ mD M ≤ 6 ∧ mnk M ≤ 6 ∧ mnp M ≤ 8 ∧ mna M ≤ 8 ∧ msh M ≤ 100 ∧ mdo M ≤ 100 ∧ mlo M ≤ 10000 ∧ mst M ≤ 5000) ∧
  (∀ k, k < mnk M → (1 ≤ kw M k ∧ kw M k ≤ 6 ∧ 1 ≤ kd M k ∧ kd M k ≤ 6 ∧ 1 ≤ kh M k ∧ kh M k ≤ 6 ∧ kq M k ≤ 100 ∧ kb M k ≤ 36 ∧ kx M k ≤ 1)) ∧
  (∀ k, k < mnk M → ∀ i, i < kb M k → (ky M k i ≤ 1 ∧ kc M k i < 36 ∧ kc M k i % mW M + ac M k (ky M k i) ≤ mW M ∧ kc M k i / mW M + alo M k (ky M k i) ≤ mD M)) ∧
  (∀ k, k < mnk M → ∀ i j, i < kb M k → j < kb M k → i ≠ j → bx M k i &&& bx M k j = 0) ∧
  (∀ p, p < mnp M → (pn M p ≤ 10 ∧ ps M p ≤ 10 ∧ ∀ l, l < pn M p → (lk M p l < mnk M ∧ 1 ≤ lb M p l ∧ lb M p l ≤ kb M (lk M p l)))) ∧
  (∀ i, i < mna M → (tb M i < mnp M ∧ ps M (tb M i) ≠ 0)) ∧
  (∀ i j, i < mna M → j < mna M → tb M i = tb M j → i = j)
/-- the names of the reference, its slots that hold rows -/
def mN (i : Nat) : Bool := i == 100 || (106 ≤ i && i ≤ 114) || (118 ≤ i && i ≤ 122) || (125 ≤ i && i ≤ 128)
def mRf (k : Nat) : Bool := (6 ≤ k && k ≤ 14) || (18 ≤ k && k ≤ 22) || (25 ≤ k && k ≤ 28)
def PMr (R : RS) (a : Nat → Nat) (lv : Nat → Bool) : Prop := (∀ i, mN i = true → lv i = true) ∧ ∀ k, mRf k = true → fr R 100 k = some (a (100 + k))
/-- the reference holds the state -/
def PM (R : RS) (M : MS) : Prop :=
  (fi R 100 0 = nI (mW M) ∧ fi R 100 1 = nI (mD M) ∧ fi R 100 2 = nI (mW M * mD M) ∧ fi R 100 3 = nI (mnk M) ∧ fi R 100 4 = nI (mnp M) ∧ fi R 100 15 = nI (msh M) ∧ fi R 100 16 = nI (mdo M) ∧ fi R 100 17 = nI (mlo M) ∧ fi R 100 23 = nI (mna M) ∧ fi R 100 24 = nI (mst M)) ∧
  (∀ k, k < mnk M → (ai R 106 k = nI (kw M k) ∧ ai R 107 k = nI (kd M k) ∧ ai R 108 k = nI (kh M k) ∧ ai R 109 k = nI (kq M k) ∧ ai R 110 k = nI (kb M k) ∧ ai R 111 k = nI (kx M k))) ∧
  (∀ k, mnk M ≤ k → k < 6 → (ai R 110 k = nI 0 ∧ ai R 111 k = nI 0)) ∧
  (∀ k, k < mnk M → ∀ i, i < kb M k → (ai R 113 (36 * k + i) = nI (kc M k i) ∧ ai R 114 (36 * k + i) = nI (ky M k i) ∧ al R 112 (36 * k + i) = lN (bx M k i))) ∧
  (∀ p, p < mnp M → (ai R 118 p = nI (pn M p) ∧ ai R 121 p = stI (ps M p))) ∧
  (∀ p, p < mnp M → ∀ l, l < pn M p → (ai R 119 (10 * p + l) = nI (lk M p l) ∧ ai R 120 (10 * p + l) = nI (lb M p l))) ∧
  (∀ i, i < mna M → ai R 122 i = nI (tb M i))
theorem iv_b {M : MS} (h : Inv M) : 1 ≤ mW M ∧ mW M ≤ 6 ∧ 1 ≤ mD M ∧ mD M ≤ 6 ∧ mnk M ≤ 6 ∧ mnp M ≤ 8 ∧ mna M ≤ 8 ∧ msh M ≤ 100 ∧ mdo M ≤ 100 ∧ mlo M ≤ 10000 ∧ mst M ≤ 5000 := h.1
theorem iv_k {M : MS} (h : Inv M) {k : Nat} (hk : k < mnk M) : 1 ≤ kw M k ∧ kw M k ≤ 6 ∧ 1 ≤ kd M k ∧ kd M k ≤ 6 ∧ 1 ≤ kh M k ∧ kh M k ≤ 6 ∧ kq M k ≤ 100 ∧ kb M k ≤ 36 ∧ kx M k ≤ 1 := h.2.1 k hk
theorem iv_i {M : MS} (h : Inv M) {k i : Nat} (hk : k < mnk M) (hi : i < kb M k) : ky M k i ≤ 1 ∧ kc M k i < 36 ∧ kc M k i % mW M + ac M k (ky M k i) ≤ mW M ∧ kc M k i / mW M + alo M k (ky M k i) ≤ mD M := h.2.2.1 k hk i hi
theorem iv_p {M : MS} (h : Inv M) {p : Nat} (hp : p < mnp M) : pn M p ≤ 10 ∧ ps M p ≤ 10 := ⟨(h.2.2.2.2.1 p hp).1, (h.2.2.2.2.1 p hp).2.1⟩
theorem iv_l {M : MS} (h : Inv M) {p l : Nat} (hp : p < mnp M) (hl : l < pn M p) : lk M p l < mnk M ∧ 1 ≤ lb M p l ∧ lb M p l ≤ kb M (lk M p l) := (h.2.2.2.2.1 p hp).2.2 l hl
theorem iv_t {M : MS} (h : Inv M) {i : Nat} (hi : i < mna M) : tb M i < mnp M ∧ ps M (tb M i) ≠ 0 := h.2.2.2.2.2.1 i hi
end
section
/-! ===== numbers ===== -/
theorem i_le {x y : Int32} : x ≤ y ↔ x.toInt ≤ y.toInt := Int32.le_iff_toInt_le
theorem i_lt {x y : Int32} : x < y ↔ x.toInt < y.toInt := Int32.lt_iff_toInt_lt
theorem in_of {x : Int32} {n : Nat} (hn : n < 2 ^ 30) (h : nI 0 ≤ x ∧ x ≤ nI n - nI 1) : ∃ j, j < n ∧ x = nI j := by
  obtain ⟨j, hj, rfl⟩ := nI_of (x := x) (by intro h9; exact absurd h.1 (by rw [nI_0]; exact Int32.not_le.mpr h9))
  have h2 := i_le.mp h.2
  rw [pk_sub_toInt hn (by decide), nI_toInt hj] at h2
  exact ⟨j, by omega, rfl⟩
theorem in_to {x : Int32} {n : Nat} (hn : n < 2 ^ 30) (h : ∃ j, j < n ∧ x = nI j) : nI 0 ≤ x ∧ x ≤ nI n - nI 1 := by
  obtain ⟨j, hj, rfl⟩ := h
  refine ⟨nI_le (Nat.zero_le _) (by omega), i_le.mpr ?_⟩
  rw [pk_sub_toInt hn (by decide), nI_toInt (by omega)]
  omega
def hld (x : Int32) : Nat := if x.toInt < 1 then 1 else if 6 < x.toInt then 6 else x.toInt.toNat
theorem hld_b' (x : Int32) : 1 ≤ hld x ∧ hld x ≤ 6 := by
  unfold hld
  split
  · omega
  · split <;> omega
theorem hld_a {x : Int32} (h : ¬ nI 1 ≤ x) : nI 1 = nI (hld x) := by
  have h1 : ¬ (1 : Int) ≤ x.toInt := fun z => h (i_le.mpr (by rw [nI_toInt (by decide)]; exact z))
  unfold hld
  rw [if_pos (by omega)]
theorem hld_b {x : Int32} (h : nI 1 ≤ x) (h2 : ¬ x ≤ nI 6) : nI 6 = nI (hld x) := by
  have h1 := i_le.mp h
  rw [nI_toInt (by decide)] at h1
  have h3 : ¬ x.toInt ≤ (6 : Int) := fun z => h2 (i_le.mpr (by rw [nI_toInt (by decide)]; exact z))
  unfold hld
  rw [if_neg (by omega), if_pos (by omega)]
theorem hld_c {x : Int32} (h : nI 1 ≤ x) (h2 : x ≤ nI 6) : x = nI (hld x) := by
  have h1 := i_le.mp h
  have h3 := i_le.mp h2
  rw [nI_toInt (by decide)] at h1 h3
  unfold hld
  rw [if_neg (by omega), if_neg (by omega)]
  obtain ⟨j, hj, rfl⟩ := nI_of (x := x) (by intro h9; have := i_lt.mp h9; simp at this; omega)
  rw [nI_toInt hj]
  rfl
theorem nI_dec {x : Nat} (h : 0 < x) : nI x + Int32.ofInt (-1) = nI (x - 1) := by
  obtain ⟨y, rfl⟩ : ∃ y, x = y + 1 := ⟨x - 1, by omega⟩
  exact pk_m1 y
end
section
/-! ===== what each call answers: (which refusal, the answer, the state behind it) ===== -/
abbrev isN (x : Int32) (n : Nat) : Prop := 0 ≤ x.toInt ∧ x.toInt < n
abbrev isR (x : Int32) (lo hi : Nat) : Prop := (lo : Int) ≤ x.toInt ∧ x.toInt ≤ hi
def tN (x : Int32) : Nat := x.toInt.toNat
theorem w_iff {x : Int32} {lo hi : Nat} (h1 : lo < 2 ^ 31) (h2 : hi < 2 ^ 31) : (nI lo ≤ x ∧ x ≤ nI hi) ↔ isR x lo hi := by
  rw [i_le, i_le, nI_toInt h1, nI_toInt h2]
theorem in_iff {x : Int32} {n : Nat} (hn : n < 2 ^ 30) : (nI 0 ≤ x ∧ x ≤ nI n - nI 1) ↔ isN x n := by
  rw [i_le, i_le, pk_sub_toInt hn (by decide), nI_toInt (by decide)]
  constructor
  · intro h; exact ⟨by have := h.1; simpa using this, by have := h.2; omega⟩
  · intro h; exact ⟨by have := h.1; simpa using this, by have := h.2; omega⟩
theorem isN_ex {x : Int32} {n : Nat} (h : isN x n) : ∃ j, j < n ∧ j < 2 ^ 31 ∧ x = nI j := by
  obtain ⟨j, hj, rfl⟩ := nI_of (x := x) (by intro h9; have := i_lt.mp h9; simp at this; omega)
  have h2 := h.2
  rw [nI_toInt hj] at h2
  exact ⟨j, by omega, hj, rfl⟩
theorem isR_ex {x : Int32} {lo hi : Nat} (h : isR x lo hi) : ∃ j, lo ≤ j ∧ j ≤ hi ∧ j < 2 ^ 31 ∧ x = nI j := by
  obtain ⟨j, hj, rfl⟩ := nI_of (x := x) (by intro h9; have := i_lt.mp h9; simp at this; omega)
  have h1 := h.1
  have h2 := h.2
  rw [nI_toInt hj] at h1 h2
  exact ⟨j, by omega, by omega, hj, rfl⟩
theorem tN_nI {j : Nat} (h : j < 2 ^ 31) : tN (nI j) = j := by unfold tN; rw [nI_toInt h]; rfl
theorem isN_nI {j n : Nat} (h : j < 2 ^ 31) : isN (nI j) n ↔ j < n := by
  unfold isN; rw [nI_toInt h]; omega
theorem isR_nI {j lo hi : Nat} (h : j < 2 ^ 31) : isR (nI j) lo hi ↔ (lo ≤ j ∧ j ≤ hi) := by
  unfold isR; rw [nI_toInt h]; omega
abbrev AN : Type := Nat × Int32 × MS
def nKind (M : MS) (w d h q : Nat) : MS := mup (mup (mup (mup (mup (mup (mup M 10 (mnk M) 0 w) 11 (mnk M) 0 d) 12 (mnk M) 0 h) 13 (mnk M) 0 q) 14 (mnk M) 0 0) 15 (mnk M) 0 0) 2 0 0 (mnk M + 1)
def oKind (M : MS) (w d h q : Int32) : AN := if isR w 1 6 then (if isR d 1 6 then (if isR h 1 6 then (if isR q 0 100 then (if mnk M = 6 then (2, nI 0, M) else (0, nI (mnk M), nKind M (tN w) (tN d) (tN h) (tN q))) else (1, nI 0, M)) else (1, nI 0, M)) else (1, nI 0, M)) else (1, nI 0, M)
def oPattern (M : MS) (k i w : Int32) : AN := if isN k (mnk M) then (if isR w 0 2 then (if isN i (kb M (tN k)) then (0, nI (if tN w = 0 then kc M (tN k) (tN i) % mW M else if tN w = 1 then kc M (tN k) (tN i) / mW M else ky M (tN k) (tN i)), M) else (3, nI 0, M)) else (2, nI 0, M)) else (1, nI 0, M)
def oExact (M : MS) (k : Int32) : AN := if isN k (mnk M) then (0, nI (kx M (tN k)), M) else (1, nI 0, M)
def oBound (M : MS) (k : Int32) : AN := if isN k (mnk M) then (0, nI (mW M * mD M / (kw M (tN k) * kd M (tN k))), M) else (1, nI 0, M)
def nRules (M : MS) (s d l : Nat) : MS := mup (mup (mup M 5 0 0 s) 6 0 0 d) 7 0 0 l
def oRules (M : MS) (s d l : Int32) : AN := if isR s 0 100 then (if isR d 1 100 then (if isR l 0 10000 then (0, nI 0, nRules M (tN s) (tN d) (tN l)) else (1, nI 0, M)) else (1, nI 0, M)) else (1, nI 0, M)
def nPallet (M : MS) : MS := mup (mup (mup M 20 (mnp M) 0 0) 21 (mnp M) 0 0) 3 0 0 (mnp M + 1)
def oPallet (M : MS) : AN := if mnp M = 8 then (1, nI 0, M) else (0, nI (mnp M), nPallet M)
def nAdd (M : MS) (p k n : Nat) : MS := mup (mup (mup M 22 p (pn M p) k) 23 p (pn M p) n) 20 p 0 (pn M p + 1)
def nTake (M : MS) (p : Nat) : MS := mup M 20 p 0 (pn M p - 1)
def oTake (M : MS) (p : Int32) : AN := if isN p (mnp M) then (if ps M (tN p) = 0 then (if pn M (tN p) = 0 then (2, nI 0, M) else (0, nI (lb M (tN p) (pn M (tN p) - 1)), nTake M (tN p))) else (2, nI 0, M)) else (1, nI 0, M)
def kbit (M : MS) (p : Nat) : Nat → Int32
  | 0 => nI 0
  | l + 1 => kbit M p l ||| (nI 1 <<< (nI (lk M p l) &&& 31))
def oTold (M : MS) (p w : Int32) : AN := if isN p (mnp M) then (if isR w 0 5 then (0, (if tN w = 0 then nI (hS M (tN p) (pn M (tN p))) else if tN w = 1 then nI (wS M (tN p) (pn M (tN p))) else if tN w = 2 then nI (pn M (tN p)) else if tN w = 3 then nI (bS M (tN p) (pn M (tN p))) else if tN w = 4 then stI (ps M (tN p)) else kbit M (tN p) (pn M (tN p))), M) else (2, nI 0, M)) else (1, nI 0, M)
def oLayer (M : MS) (p l w : Int32) : AN := if isN p (mnp M) ∧ isN l (pn M (tN p)) then (if isR w 0 3 then (0, nI (if tN w = 0 then lk M (tN p) (tN l) else if tN w = 1 then lb M (tN p) (tN l) else if tN w = 2 then hS M (tN p) (tN l) else if lb M (tN p) (tN l) = kb M (lk M (tN p) (tN l)) then 1 else 0), M) else (2, nI 0, M)) else (1, nI 0, M)
/-- a pallet on the truck, among the first n, has a lesser stop than s -/
def les (M : MS) (s : Nat) : Nat → Bool
  | 0 => false
  | n + 1 => les M s n || decide (ps M (tb M n) < s + 1)
def nTruck (M : MS) (p s : Nat) : MS := mup (mup (mup M 21 p 0 (s + 1)) 24 (mna M) 0 p) 4 0 0 (mna M + 1)
def oTruck (M : MS) (p s : Int32) : AN := if isN p (mnp M) then (if isR s 0 9 then (if ps M (tN p) = 0 then (if pn M (tN p) = 0 then (3, nI 0, M) else (if les M (tN s) (mna M) = true then (3, nI 0, M) else (0, nI (mna M + 1), nTruck M (tN p) (tN s)))) else (3, nI 0, M)) else (2, nI 0, M)) else (1, nI 0, M)
/-- among the first n on the truck one for the stop s (the second: seen), and one for another behind it -/
def sen (M : MS) (s : Nat) : Nat → Bool
  | 0 => false
  | n + 1 => sen M s n || decide (ps M (tb M n) = s + 1)
def bar (M : MS) (s : Nat) : Nat → Bool
  | 0 => false
  | n + 1 => bar M s n || (sen M s n && !decide (ps M (tb M n) = s + 1))
/-- one pallet is unloaded -/
def nPop (M : MS) : MS := mup (mup (mup M 21 (tb M (mna M - 1)) 0 0) 20 (tb M (mna M - 1)) 0 0) 4 0 0 (mna M - 1)
def nUn (s : Nat) : Nat → MS → Nat × MS
  | 0, M => (0, M)
  | f + 1, M => if 0 < mna M ∧ ps M (tb M (mna M - 1)) = s + 1 then ((nUn s f (nPop M)).1 + 1, (nUn s f (nPop M)).2) else (0, M)
def oUnload (M : MS) (s : Int32) : AN := if isR s 0 9 then (if bar M (tN s) (mna M) = true then (2, nI 0, M) else (0, nI (nUn (tN s) 8 M).1, (nUn (tN s) 8 M).2)) else (1, nI 0, M)
def oOrder (M : MS) (i : Int32) : AN := if isN i (mna M) then (0, nI (tb M (mna M - 1 - tN i)), M) else (1, nI 0, M)
def allS (M : MS) : Nat → Nat
  | 0 => 0
  | p + 1 => allS M p + bS M p (pn M p)
def trkS (M : MS) : Nat → Nat
  | 0 => 0
  | p + 1 => trkS M p + (if ps M p = 0 then 0 else bS M p (pn M p))
def oCount (M : MS) (w : Int32) : Int32 := if isR w 0 5 then nI (if tN w = 0 then mnk M else if tN w = 1 then mnp M else if tN w = 2 then mna M else if tN w = 3 then allS M (mnp M) else if tN w = 4 then trkS M (mnp M) else mst M) else (-1)
/-- a layer of kind k is on one of the first n pallets -/
def onL (M : MS) (k p : Nat) : Nat → Bool
  | 0 => false
  | l + 1 => onL M k p l || decide (lk M p l = k)
def onP (M : MS) (k : Nat) : Nat → Bool
  | 0 => false
  | p + 1 => onP M k p || onL M k p (pn M p)
/-! ===== what a call of the reference leaves as it was ===== -/
def outM (R R' : RS) : Prop := (∀ i, (i < 100 ∨ 200 ≤ i) → ∀ k, fi R' i k = fi R i k ∧ fl R' i k = fl R i k ∧ fr R' i k = fr R i k ∧ ai R' i k = ai R i k ∧ al R' i k = al R i k ∧ aq R' i k = aq R i k) ∧ ∀ k, fr R' 100 k = fr R 100 k
theorem outM.r (R : RS) : outM R R := ⟨fun _ _ _ => ⟨rfl, rfl, rfl, rfl, rfl, rfl⟩, fun _ => rfl⟩
theorem outM.trans {R R' R'' : RS} (h : outM R R') (h' : outM R' R'') : outM R R'' := ⟨fun i hi k => by
  obtain ⟨a1, a2, a3, a4, a5, a6⟩ := h.1 i hi k
  obtain ⟨b1, b2, b3, b4, b5, b6⟩ := h'.1 i hi k
  exact ⟨b1.trans a1, b2.trans a2, b3.trans a3, b4.trans a4, b5.trans a5, b6.trans a6⟩, fun k => (h'.2 k).trans (h.2 k)⟩
theorem outM.sfi {R R' : RS} {i k : Nat} {v : Int32} (h : outM R R') (hi : 100 ≤ i ∧ i < 200) : outM R (sfi R' i k v) := ⟨fun j hj q => by
  obtain ⟨a1, a2, a3, a4, a5, a6⟩ := h.1 j hj q
  exact ⟨(up2_ni (by omega)).trans a1, a2, a3, a4, a5, a6⟩, h.2⟩
theorem outM.sfl {R R' : RS} {i k : Nat} {v : Int64} (h : outM R R') (hi : 100 ≤ i ∧ i < 200) : outM R (sfl R' i k v) := ⟨fun j hj q => by
  obtain ⟨a1, a2, a3, a4, a5, a6⟩ := h.1 j hj q
  exact ⟨a1, (up2_ni (by omega)).trans a2, a3, a4, a5, a6⟩, h.2⟩
theorem outM.sai {R R' : RS} {i k : Nat} {v : Int32} (h : outM R R') (hi : 100 ≤ i ∧ i < 200) : outM R (sai R' i k v) := ⟨fun j hj q => by
  obtain ⟨a1, a2, a3, a4, a5, a6⟩ := h.1 j hj q
  exact ⟨a1, a2, a3, (up2_ni (by omega)).trans a4, a5, a6⟩, h.2⟩
theorem outM.sal {R R' : RS} {i k : Nat} {v : Int64} (h : outM R R') (hi : 100 ≤ i ∧ i < 200) : outM R (sal R' i k v) := ⟨fun j hj q => by
  obtain ⟨a1, a2, a3, a4, a5, a6⟩ := h.1 j hj q
  exact ⟨a1, a2, a3, a4, (up2_ni (by omega)).trans a5, a6⟩, h.2⟩
/-- what the reference's calls owe -/
def QM (R : RS) (x : AN) (r : Int32) (R' : RS) : Prop := r = x.2.1 ∧ fi R' 100 5 = nI x.1 ∧ PM R' x.2.2 ∧ outM R R'
theorem pm_th {R : RS} {M : MS} {v : Int32} (h : PM R M) : PM (sfi R 100 5 v) M := h
theorem pm_rules {R : RS} {M : MS} {s d l : Nat} {v : Int32} (h : PM R M) : PM (sfi (sfi (sfi (sfi R 100 5 v) 100 15 (nI s)) 100 16 (nI d)) 100 17 (nI l)) (nRules M s d l) :=
  ⟨⟨h.1.1, h.1.2.1, h.1.2.2.1, h.1.2.2.2.1, h.1.2.2.2.2.1, rfl, rfl, rfl, h.1.2.2.2.2.2.2.2.2.1, h.1.2.2.2.2.2.2.2.2.2⟩, h.2⟩
theorem pm_kind {R : RS} {M : MS} {w d h q : Nat} {v : Int32} (hM : PM R M) (h6 : mnk M < 6) : PM (sfi (sai (sai (sai (sai (sfi R 100 5 v) 106 (mnk M) (nI w)) 107 (mnk M) (nI d)) 108 (mnk M) (nI h)) 109 (mnk M) (nI q)) 100 3 (nI (mnk M + 1))) (nKind M w d h q) := by
  obtain ⟨hs, hk, hf, hb, hp, hl, ht⟩ := hM
  refine ⟨⟨hs.1, hs.2.1, hs.2.2.1, rfl, hs.2.2.2.2⟩, ?_, ?_, ?_, hp, hl, ht⟩
  · intro k hk9
    have hk9 : k < mnk M + 1 := hk9
    by_cases hkn : k = mnk M
    · subst hkn
      have h2 := hf _ (Nat.le_refl _) h6
      exact ⟨by simp [q_fi_sfi, q_fi_sfl, q_fi_sfr, q_fi_sai, q_fi_sal, q_fi_saq, q_fl_sfi, q_fl_sfl, q_fl_sfr, q_fl_sai, q_fl_sal, q_fl_saq, q_fr_sfi, q_fr_sfl, q_fr_sfr, q_fr_sai, q_fr_sal, q_fr_saq, q_ai_sfi, q_ai_sfl, q_ai_sfr, q_ai_sai, q_ai_sal, q_ai_saq, q_al_sfi, q_al_sfl, q_al_sfr, q_al_sai, q_al_sal, q_al_saq, q_aq_sfi, q_aq_sfl, q_aq_sfr, q_aq_sai, q_aq_sal, q_aq_saq, nKind, mup], by simp [q_fi_sfi, q_fi_sfl, q_fi_sfr, q_fi_sai, q_fi_sal, q_fi_saq, q_fl_sfi, q_fl_sfl, q_fl_sfr, q_fl_sai, q_fl_sal, q_fl_saq, q_fr_sfi, q_fr_sfl, q_fr_sfr, q_fr_sai, q_fr_sal, q_fr_saq, q_ai_sfi, q_ai_sfl, q_ai_sfr, q_ai_sai, q_ai_sal, q_ai_saq, q_al_sfi, q_al_sfl, q_al_sfr, q_al_sai, q_al_sal, q_al_saq, q_aq_sfi, q_aq_sfl, q_aq_sfr, q_aq_sai, q_aq_sal, q_aq_saq, nKind, mup], by simp [q_fi_sfi, q_fi_sfl, q_fi_sfr, q_fi_sai, q_fi_sal, q_fi_saq, q_fl_sfi, q_fl_sfl, q_fl_sfr, q_fl_sai, q_fl_sal, q_fl_saq, q_fr_sfi, q_fr_sfl, q_fr_sfr, q_fr_sai, q_fr_sal, q_fr_saq, q_ai_sfi, q_ai_sfl, q_ai_sfr, q_ai_sai, q_ai_sal, q_ai_saq, q_al_sfi, q_al_sfl, q_al_sfr, q_al_sai, q_al_sal, q_al_saq, q_aq_sfi, q_aq_sfl, q_aq_sfr, q_aq_sai, q_aq_sal, q_aq_saq, nKind, mup], by simp [q_fi_sfi, q_fi_sfl, q_fi_sfr, q_fi_sai, q_fi_sal, q_fi_saq, q_fl_sfi, q_fl_sfl, q_fl_sfr, q_fl_sai, q_fl_sal, q_fl_saq, q_fr_sfi, q_fr_sfl, q_fr_sfr, q_fr_sai, q_fr_sal, q_fr_saq, q_ai_sfi, q_ai_sfl, q_ai_sfr, q_ai_sai, q_ai_sal, q_ai_saq, q_al_sfi, q_al_sfl, q_al_sfr, q_al_sai, q_al_sal, q_al_saq, q_aq_sfi, q_aq_sfl, q_aq_sfr, q_aq_sai, q_aq_sal, q_aq_saq, nKind, mup], by simp [q_fi_sfi, q_fi_sfl, q_fi_sfr, q_fi_sai, q_fi_sal, q_fi_saq, q_fl_sfi, q_fl_sfl, q_fl_sfr, q_fl_sai, q_fl_sal, q_fl_saq, q_fr_sfi, q_fr_sfl, q_fr_sfr, q_fr_sai, q_fr_sal, q_fr_saq, q_ai_sfi, q_ai_sfl, q_ai_sfr, q_ai_sai, q_ai_sal, q_ai_saq, q_al_sfi, q_al_sfl, q_al_sfr, q_al_sai, q_al_sal, q_al_saq, q_aq_sfi, q_aq_sfl, q_aq_sfr, q_aq_sai, q_aq_sal, q_aq_saq, nKind, mup, h2.1], by simp [q_fi_sfi, q_fi_sfl, q_fi_sfr, q_fi_sai, q_fi_sal, q_fi_saq, q_fl_sfi, q_fl_sfl, q_fl_sfr, q_fl_sai, q_fl_sal, q_fl_saq, q_fr_sfi, q_fr_sfl, q_fr_sfr, q_fr_sai, q_fr_sal, q_fr_saq, q_ai_sfi, q_ai_sfl, q_ai_sfr, q_ai_sai, q_ai_sal, q_ai_saq, q_al_sfi, q_al_sfl, q_al_sfr, q_al_sai, q_al_sal, q_al_saq, q_aq_sfi, q_aq_sfl, q_aq_sfr, q_aq_sai, q_aq_sal, q_aq_saq, nKind, mup, h2.2]⟩
    · have h3 := hk k (by omega)
      exact ⟨by simp [q_fi_sfi, q_fi_sfl, q_fi_sfr, q_fi_sai, q_fi_sal, q_fi_saq, q_fl_sfi, q_fl_sfl, q_fl_sfr, q_fl_sai, q_fl_sal, q_fl_saq, q_fr_sfi, q_fr_sfl, q_fr_sfr, q_fr_sai, q_fr_sal, q_fr_saq, q_ai_sfi, q_ai_sfl, q_ai_sfr, q_ai_sai, q_ai_sal, q_ai_saq, q_al_sfi, q_al_sfl, q_al_sfr, q_al_sai, q_al_sal, q_al_saq, q_aq_sfi, q_aq_sfl, q_aq_sfr, q_aq_sai, q_aq_sal, q_aq_saq, nKind, mup, hkn, h3.1], by simp [q_fi_sfi, q_fi_sfl, q_fi_sfr, q_fi_sai, q_fi_sal, q_fi_saq, q_fl_sfi, q_fl_sfl, q_fl_sfr, q_fl_sai, q_fl_sal, q_fl_saq, q_fr_sfi, q_fr_sfl, q_fr_sfr, q_fr_sai, q_fr_sal, q_fr_saq, q_ai_sfi, q_ai_sfl, q_ai_sfr, q_ai_sai, q_ai_sal, q_ai_saq, q_al_sfi, q_al_sfl, q_al_sfr, q_al_sai, q_al_sal, q_al_saq, q_aq_sfi, q_aq_sfl, q_aq_sfr, q_aq_sai, q_aq_sal, q_aq_saq, nKind, mup, hkn, h3.2.1], by simp [q_fi_sfi, q_fi_sfl, q_fi_sfr, q_fi_sai, q_fi_sal, q_fi_saq, q_fl_sfi, q_fl_sfl, q_fl_sfr, q_fl_sai, q_fl_sal, q_fl_saq, q_fr_sfi, q_fr_sfl, q_fr_sfr, q_fr_sai, q_fr_sal, q_fr_saq, q_ai_sfi, q_ai_sfl, q_ai_sfr, q_ai_sai, q_ai_sal, q_ai_saq, q_al_sfi, q_al_sfl, q_al_sfr, q_al_sai, q_al_sal, q_al_saq, q_aq_sfi, q_aq_sfl, q_aq_sfr, q_aq_sai, q_aq_sal, q_aq_saq, nKind, mup, hkn, h3.2.2.1], by simp [q_fi_sfi, q_fi_sfl, q_fi_sfr, q_fi_sai, q_fi_sal, q_fi_saq, q_fl_sfi, q_fl_sfl, q_fl_sfr, q_fl_sai, q_fl_sal, q_fl_saq, q_fr_sfi, q_fr_sfl, q_fr_sfr, q_fr_sai, q_fr_sal, q_fr_saq, q_ai_sfi, q_ai_sfl, q_ai_sfr, q_ai_sai, q_ai_sal, q_ai_saq, q_al_sfi, q_al_sfl, q_al_sfr, q_al_sai, q_al_sal, q_al_saq, q_aq_sfi, q_aq_sfl, q_aq_sfr, q_aq_sai, q_aq_sal, q_aq_saq, nKind, mup, hkn, h3.2.2.2.1], by simp [q_fi_sfi, q_fi_sfl, q_fi_sfr, q_fi_sai, q_fi_sal, q_fi_saq, q_fl_sfi, q_fl_sfl, q_fl_sfr, q_fl_sai, q_fl_sal, q_fl_saq, q_fr_sfi, q_fr_sfl, q_fr_sfr, q_fr_sai, q_fr_sal, q_fr_saq, q_ai_sfi, q_ai_sfl, q_ai_sfr, q_ai_sai, q_ai_sal, q_ai_saq, q_al_sfi, q_al_sfl, q_al_sfr, q_al_sai, q_al_sal, q_al_saq, q_aq_sfi, q_aq_sfl, q_aq_sfr, q_aq_sai, q_aq_sal, q_aq_saq, nKind, mup, hkn, h3.2.2.2.2.1], by simp [q_fi_sfi, q_fi_sfl, q_fi_sfr, q_fi_sai, q_fi_sal, q_fi_saq, q_fl_sfi, q_fl_sfl, q_fl_sfr, q_fl_sai, q_fl_sal, q_fl_saq, q_fr_sfi, q_fr_sfl, q_fr_sfr, q_fr_sai, q_fr_sal, q_fr_saq, q_ai_sfi, q_ai_sfl, q_ai_sfr, q_ai_sai, q_ai_sal, q_ai_saq, q_al_sfi, q_al_sfl, q_al_sfr, q_al_sai, q_al_sal, q_al_saq, q_aq_sfi, q_aq_sfl, q_aq_sfr, q_aq_sai, q_aq_sal, q_aq_saq, nKind, mup, hkn, h3.2.2.2.2.2]⟩
  · intro k hk9 h69
    have hk9 : mnk M + 1 ≤ k := hk9
    exact hf k (by omega) h69
  · intro k hk9 i hi
    have hk9 : k < mnk M + 1 := hk9
    by_cases hkn : k = mnk M
    · subst hkn
      simp [nKind, mup] at hi
    · have hi9 : i < kb M k := by simpa [nKind, mup, hkn] using hi
      have h3 := hb k (by omega) i hi9
      refine ⟨h3.1, h3.2.1, ?_⟩
      rw [show bx (nKind M w d h q) k i = bx M k i by simp [bx, ac, alo, nKind, mup, hkn]]
      exact h3.2.2
theorem pm_pallet {R : RS} {M : MS} {v : Int32} (hM : PM R M) : PM (sfi (sai (sai (sfi R 100 5 v) 118 (mnp M) (nI 0)) 121 (mnp M) (-1)) 100 4 (nI (mnp M + 1))) (nPallet M) := by
  obtain ⟨hs, hk, hf, hb, hp, hl, ht⟩ := hM
  refine ⟨⟨hs.1, hs.2.1, hs.2.2.1, hs.2.2.2.1, rfl, hs.2.2.2.2.2⟩, hk, hf, hb, ?_, ?_, ht⟩
  · intro p hp9
    have hp9 : p < mnp M + 1 := hp9
    by_cases hpn : p = mnp M
    · subst hpn
      exact ⟨by simp [q_fi_sfi, q_fi_sfl, q_fi_sfr, q_fi_sai, q_fi_sal, q_fi_saq, q_fl_sfi, q_fl_sfl, q_fl_sfr, q_fl_sai, q_fl_sal, q_fl_saq, q_fr_sfi, q_fr_sfl, q_fr_sfr, q_fr_sai, q_fr_sal, q_fr_saq, q_ai_sfi, q_ai_sfl, q_ai_sfr, q_ai_sai, q_ai_sal, q_ai_saq, q_al_sfi, q_al_sfl, q_al_sfr, q_al_sai, q_al_sal, q_al_saq, q_aq_sfi, q_aq_sfl, q_aq_sfr, q_aq_sai, q_aq_sal, q_aq_saq, nPallet, mup], by simp [q_fi_sfi, q_fi_sfl, q_fi_sfr, q_fi_sai, q_fi_sal, q_fi_saq, q_fl_sfi, q_fl_sfl, q_fl_sfr, q_fl_sai, q_fl_sal, q_fl_saq, q_fr_sfi, q_fr_sfl, q_fr_sfr, q_fr_sai, q_fr_sal, q_fr_saq, q_ai_sfi, q_ai_sfl, q_ai_sfr, q_ai_sai, q_ai_sal, q_ai_saq, q_al_sfi, q_al_sfl, q_al_sfr, q_al_sai, q_al_sal, q_al_saq, q_aq_sfi, q_aq_sfl, q_aq_sfr, q_aq_sai, q_aq_sal, q_aq_saq, nPallet, mup, stI]⟩
    · have h3 := hp p (by omega)
      exact ⟨by simp [q_fi_sfi, q_fi_sfl, q_fi_sfr, q_fi_sai, q_fi_sal, q_fi_saq, q_fl_sfi, q_fl_sfl, q_fl_sfr, q_fl_sai, q_fl_sal, q_fl_saq, q_fr_sfi, q_fr_sfl, q_fr_sfr, q_fr_sai, q_fr_sal, q_fr_saq, q_ai_sfi, q_ai_sfl, q_ai_sfr, q_ai_sai, q_ai_sal, q_ai_saq, q_al_sfi, q_al_sfl, q_al_sfr, q_al_sai, q_al_sal, q_al_saq, q_aq_sfi, q_aq_sfl, q_aq_sfr, q_aq_sai, q_aq_sal, q_aq_saq, nPallet, mup, hpn, h3.1], by simp [q_fi_sfi, q_fi_sfl, q_fi_sfr, q_fi_sai, q_fi_sal, q_fi_saq, q_fl_sfi, q_fl_sfl, q_fl_sfr, q_fl_sai, q_fl_sal, q_fl_saq, q_fr_sfi, q_fr_sfl, q_fr_sfr, q_fr_sai, q_fr_sal, q_fr_saq, q_ai_sfi, q_ai_sfl, q_ai_sfr, q_ai_sai, q_ai_sal, q_ai_saq, q_al_sfi, q_al_sfl, q_al_sfr, q_al_sai, q_al_sal, q_al_saq, q_aq_sfi, q_aq_sfl, q_aq_sfr, q_aq_sai, q_aq_sal, q_aq_saq, nPallet, mup, hpn, h3.2]⟩
  · intro p hp9 l hl9
    have hp9 : p < mnp M + 1 := hp9
    by_cases hpn : p = mnp M
    · subst hpn
      simp [nPallet, mup] at hl9
    · exact hl p (by omega) l (by simpa [nPallet, mup, hpn] using hl9)
theorem pm_take {R : RS} {M : MS} {v : Int32} {p : Nat} (hM : PM R M) : PM (sai (sfi R 100 5 v) 118 p (nI (pn M p - 1))) (nTake M p) := by
  obtain ⟨hs, hk, hf, hb, hp, hl, ht⟩ := hM
  refine ⟨hs, hk, hf, hb, ?_, ?_, ht⟩
  · intro q hq
    have h3 := hp q hq
    by_cases hqp : q = p
    · subst hqp
      exact ⟨by simp [q_fi_sfi, q_fi_sfl, q_fi_sfr, q_fi_sai, q_fi_sal, q_fi_saq, q_fl_sfi, q_fl_sfl, q_fl_sfr, q_fl_sai, q_fl_sal, q_fl_saq, q_fr_sfi, q_fr_sfl, q_fr_sfr, q_fr_sai, q_fr_sal, q_fr_saq, q_ai_sfi, q_ai_sfl, q_ai_sfr, q_ai_sai, q_ai_sal, q_ai_saq, q_al_sfi, q_al_sfl, q_al_sfr, q_al_sai, q_al_sal, q_al_saq, q_aq_sfi, q_aq_sfl, q_aq_sfr, q_aq_sai, q_aq_sal, q_aq_saq, nTake, mup], h3.2⟩
    · exact ⟨by simp [q_fi_sfi, q_fi_sfl, q_fi_sfr, q_fi_sai, q_fi_sal, q_fi_saq, q_fl_sfi, q_fl_sfl, q_fl_sfr, q_fl_sai, q_fl_sal, q_fl_saq, q_fr_sfi, q_fr_sfl, q_fr_sfr, q_fr_sai, q_fr_sal, q_fr_saq, q_ai_sfi, q_ai_sfl, q_ai_sfr, q_ai_sai, q_ai_sal, q_ai_saq, q_al_sfi, q_al_sfl, q_al_sfr, q_al_sai, q_al_sal, q_al_saq, q_aq_sfi, q_aq_sfl, q_aq_sfr, q_aq_sai, q_aq_sal, q_aq_saq, nTake, mup, hqp, h3.1], h3.2⟩
  · intro q hq l hl9
    refine hl q hq l ?_
    by_cases hqp : q = p
    · subst hqp
      simp [nTake, mup] at hl9
      omega
    · simpa [nTake, mup, hqp] using hl9
theorem pm_truck {R : RS} {M : MS} {v : Int32} {p s : Nat} (hM : PM R M) : PM (sfi (sai (sai (sfi R 100 5 v) 121 p (nI s)) 122 (mna M) (nI p)) 100 23 (nI (mna M + 1))) (nTruck M p s) := by
  obtain ⟨hs, hk, hf, hb, hp, hl, ht⟩ := hM
  refine ⟨⟨hs.1, hs.2.1, hs.2.2.1, hs.2.2.2.1, hs.2.2.2.2.1, hs.2.2.2.2.2.1, hs.2.2.2.2.2.2.1, hs.2.2.2.2.2.2.2.1, rfl, hs.2.2.2.2.2.2.2.2.2⟩, hk, hf, hb, ?_, hl, ?_⟩
  · intro q hq
    have h3 := hp q hq
    by_cases hqp : q = p
    · subst hqp
      exact ⟨h3.1, by simp [q_fi_sfi, q_fi_sfl, q_fi_sfr, q_fi_sai, q_fi_sal, q_fi_saq, q_fl_sfi, q_fl_sfl, q_fl_sfr, q_fl_sai, q_fl_sal, q_fl_saq, q_fr_sfi, q_fr_sfl, q_fr_sfr, q_fr_sai, q_fr_sal, q_fr_saq, q_ai_sfi, q_ai_sfl, q_ai_sfr, q_ai_sai, q_ai_sal, q_ai_saq, q_al_sfi, q_al_sfl, q_al_sfr, q_al_sai, q_al_sal, q_al_saq, q_aq_sfi, q_aq_sfl, q_aq_sfr, q_aq_sai, q_aq_sal, q_aq_saq, nTruck, mup, stI]⟩
    · exact ⟨h3.1, by simp [q_fi_sfi, q_fi_sfl, q_fi_sfr, q_fi_sai, q_fi_sal, q_fi_saq, q_fl_sfi, q_fl_sfl, q_fl_sfr, q_fl_sai, q_fl_sal, q_fl_saq, q_fr_sfi, q_fr_sfl, q_fr_sfr, q_fr_sai, q_fr_sal, q_fr_saq, q_ai_sfi, q_ai_sfl, q_ai_sfr, q_ai_sai, q_ai_sal, q_ai_saq, q_al_sfi, q_al_sfl, q_al_sfr, q_al_sai, q_al_sal, q_al_saq, q_aq_sfi, q_aq_sfl, q_aq_sfr, q_aq_sai, q_aq_sal, q_aq_saq, nTruck, mup, hqp, h3.2]⟩
  · intro i hi
    have hi : i < mna M + 1 := hi
    by_cases hin : i = mna M
    · subst hin
      simp [q_fi_sfi, q_fi_sfl, q_fi_sfr, q_fi_sai, q_fi_sal, q_fi_saq, q_fl_sfi, q_fl_sfl, q_fl_sfr, q_fl_sai, q_fl_sal, q_fl_saq, q_fr_sfi, q_fr_sfl, q_fr_sfr, q_fr_sai, q_fr_sal, q_fr_saq, q_ai_sfi, q_ai_sfl, q_ai_sfr, q_ai_sai, q_ai_sal, q_ai_saq, q_al_sfi, q_al_sfl, q_al_sfr, q_al_sai, q_al_sal, q_al_saq, q_aq_sfi, q_aq_sfl, q_aq_sfr, q_aq_sai, q_aq_sal, q_aq_saq, nTruck, mup]
    · have h3 := ht i (by omega)
      simp [q_fi_sfi, q_fi_sfl, q_fi_sfr, q_fi_sai, q_fi_sal, q_fi_saq, q_fl_sfi, q_fl_sfl, q_fl_sfr, q_fl_sai, q_fl_sal, q_fl_saq, q_fr_sfi, q_fr_sfl, q_fr_sfr, q_fr_sai, q_fr_sal, q_fr_saq, q_ai_sfi, q_ai_sfl, q_ai_sfr, q_ai_sai, q_ai_sal, q_ai_saq, q_al_sfi, q_al_sfl, q_al_sfr, q_al_sai, q_al_sal, q_al_saq, q_aq_sfi, q_aq_sfl, q_aq_sfr, q_aq_sai, q_aq_sal, q_aq_saq, nTruck, mup, hin, h3]
theorem ar_b {M : MS} {k : Nat} (h : 1 ≤ kw M k ∧ kw M k ≤ 6 ∧ 1 ≤ kd M k ∧ kd M k ≤ 6 ∧ 1 ≤ kh M k ∧ kh M k ≤ 6 ∧ kq M k ≤ 100 ∧ kb M k ≤ 36 ∧ kx M k ≤ 1) : 0 < kw M k * kd M k ∧ kw M k * kd M k ≤ 36 :=
  ⟨Nat.mul_pos h.1 h.2.2.1, Nat.mul_le_mul h.2.1 h.2.2.2.1⟩
theorem ce_b {M : MS} (h : 1 ≤ mW M ∧ mW M ≤ 6 ∧ 1 ≤ mD M ∧ mD M ≤ 6 ∧ mnk M ≤ 6 ∧ mnp M ≤ 8 ∧ mna M ≤ 8 ∧ msh M ≤ 100 ∧ mdo M ≤ 100 ∧ mlo M ≤ 10000 ∧ mst M ≤ 5000) : 0 < mW M * mD M ∧ mW M * mD M ≤ 36 :=
  ⟨Nat.mul_pos h.1 h.2.2.1, Nat.mul_le_mul h.2.1 h.2.2.2.1⟩
theorem stI_0 {n : Nat} (hn : n ≤ 10) (h : stI n = -1) : n = 0 := by
  by_cases h0 : n = 0
  · exact h0
  · unfold stI at h
    rw [if_neg h0] at h
    have h1 := congrArg Int32.toInt h
    rw [nI_toInt (by omega)] at h1
    exact absurd h1 (by simp)
theorem up2_2 {α : Type} (f : Nat → Nat → α) (i k : Nat) (v w : α) : up2 (up2 f i k v) i k w = up2 f i k w := by
  funext j q
  by_cases h : j = i ∧ q = k <;> simp [up2, h]
theorem sfi_2 (R : RS) (i k : Nat) (v w : Int32) : sfi (sfi R i k v) i k w = sfi R i k w := by unfold sfi; rw [up2_2]
theorem sfl_2 (R : RS) (i k : Nat) (v w : Int64) : sfl (sfl R i k v) i k w = sfl R i k w := by unfold sfl; simp only [up2_2]
theorem sai_2 (R : RS) (i k : Nat) (v w : Int32) : sai (sai R i k v) i k w = sai R i k w := by unfold sai; simp only [up2_2]
theorem stI_p {n : Nat} (h : n ≠ 0) : stI n = nI (n - 1) := by unfold stI; rw [if_neg h]
theorem les_mono {M : MS} {s i n : Nat} (h : i ≤ n) (hi : les M s i = true) : les M s n = true := by
  induction n with
  | zero => rw [show i = 0 by omega] at hi; exact hi
  | succ n ih =>
    by_cases h1 : i = n + 1
    · rw [← h1]; exact hi
    · have h2 := ih (by omega)
      simp [les, h2]
theorem bar_mono {M : MS} {s i n : Nat} (h : i ≤ n) (hi : bar M s i = true) : bar M s n = true := by
  induction n with
  | zero => rw [show i = 0 by omega] at hi; exact hi
  | succ n ih =>
    by_cases h1 : i = n + 1
    · rw [← h1]; exact hi
    · have h2 := ih (by omega)
      simp [bar, h2]
theorem onL_mono {M : MS} {k p i n : Nat} (h : i ≤ n) (hi : onL M k p i = true) : onL M k p n = true := by
  induction n with
  | zero => rw [show i = 0 by omega] at hi; exact hi
  | succ n ih =>
    by_cases h1 : i = n + 1
    · rw [← h1]; exact hi
    · have h2 := ih (by omega)
      simp [onL, h2]
theorem onP_mono {M : MS} {k i n : Nat} (h : i ≤ n) (hi : onP M k i = true) : onP M k n = true := by
  induction n with
  | zero => rw [show i = 0 by omega] at hi; exact hi
  | succ n ih =>
    by_cases h1 : i = n + 1
    · rw [← h1]; exact hi
    · have h2 := ih (by omega)
      simp [onP, h2]
theorem pm_add {R : RS} {M : MS} {p k n : Nat} (hM : PM R M) (h10 : ∀ q, q < mnp M → pn M q ≤ 10) (hp10 : pn M p < 10) : PM (sai (sai (sai R 119 (10 * p + pn M p) (nI k)) 120 (10 * p + pn M p) (nI n)) 118 p (nI (pn M p + 1))) (nAdd M p k n) := by
  obtain ⟨hs, hk, hf, hb, hp, hl, ht⟩ := hM
  refine ⟨hs, hk, hf, hb, ?_, ?_, ht⟩
  · intro q hq
    have h3 := hp q hq
    by_cases hqp : q = p
    · subst hqp
      exact ⟨by simp [q_fi_sfi, q_fi_sfl, q_fi_sfr, q_fi_sai, q_fi_sal, q_fi_saq, q_fl_sfi, q_fl_sfl, q_fl_sfr, q_fl_sai, q_fl_sal, q_fl_saq, q_fr_sfi, q_fr_sfl, q_fr_sfr, q_fr_sai, q_fr_sal, q_fr_saq, q_ai_sfi, q_ai_sfl, q_ai_sfr, q_ai_sai, q_ai_sal, q_ai_saq, q_al_sfi, q_al_sfl, q_al_sfr, q_al_sai, q_al_sal, q_al_saq, q_aq_sfi, q_aq_sfl, q_aq_sfr, q_aq_sai, q_aq_sal, q_aq_saq, nAdd, mup], h3.2⟩
    · exact ⟨by simp [q_fi_sfi, q_fi_sfl, q_fi_sfr, q_fi_sai, q_fi_sal, q_fi_saq, q_fl_sfi, q_fl_sfl, q_fl_sfr, q_fl_sai, q_fl_sal, q_fl_saq, q_fr_sfi, q_fr_sfl, q_fr_sfr, q_fr_sai, q_fr_sal, q_fr_saq, q_ai_sfi, q_ai_sfl, q_ai_sfr, q_ai_sai, q_ai_sal, q_ai_saq, q_al_sfi, q_al_sfl, q_al_sfr, q_al_sai, q_al_sal, q_al_saq, q_aq_sfi, q_aq_sfl, q_aq_sfr, q_aq_sai, q_aq_sal, q_aq_saq, nAdd, mup, hqp, h3.1], h3.2⟩
  · intro q hq l hl9
    have hq9 := h10 q hq
    by_cases hqp : q = p
    · subst hqp
      have hl8 : l < pn M q + 1 := by simpa [nAdd, mup] using hl9
      by_cases hlp : l = pn M q
      · subst hlp
        exact ⟨by simp [q_fi_sfi, q_fi_sfl, q_fi_sfr, q_fi_sai, q_fi_sal, q_fi_saq, q_fl_sfi, q_fl_sfl, q_fl_sfr, q_fl_sai, q_fl_sal, q_fl_saq, q_fr_sfi, q_fr_sfl, q_fr_sfr, q_fr_sai, q_fr_sal, q_fr_saq, q_ai_sfi, q_ai_sfl, q_ai_sfr, q_ai_sai, q_ai_sal, q_ai_saq, q_al_sfi, q_al_sfl, q_al_sfr, q_al_sai, q_al_sal, q_al_saq, q_aq_sfi, q_aq_sfl, q_aq_sfr, q_aq_sai, q_aq_sal, q_aq_saq, nAdd, mup], by simp [q_fi_sfi, q_fi_sfl, q_fi_sfr, q_fi_sai, q_fi_sal, q_fi_saq, q_fl_sfi, q_fl_sfl, q_fl_sfr, q_fl_sai, q_fl_sal, q_fl_saq, q_fr_sfi, q_fr_sfl, q_fr_sfr, q_fr_sai, q_fr_sal, q_fr_saq, q_ai_sfi, q_ai_sfl, q_ai_sfr, q_ai_sai, q_ai_sal, q_ai_saq, q_al_sfi, q_al_sfl, q_al_sfr, q_al_sai, q_al_sal, q_al_saq, q_aq_sfi, q_aq_sfl, q_aq_sfr, q_aq_sai, q_aq_sal, q_aq_saq, nAdd, mup]⟩
      · have h3 := hl q hq l (by omega)
        have h4 : ¬ (10 * q + l = 10 * q + pn M q) := by omega
        exact ⟨by simp [q_fi_sfi, q_fi_sfl, q_fi_sfr, q_fi_sai, q_fi_sal, q_fi_saq, q_fl_sfi, q_fl_sfl, q_fl_sfr, q_fl_sai, q_fl_sal, q_fl_saq, q_fr_sfi, q_fr_sfl, q_fr_sfr, q_fr_sai, q_fr_sal, q_fr_saq, q_ai_sfi, q_ai_sfl, q_ai_sfr, q_ai_sai, q_ai_sal, q_ai_saq, q_al_sfi, q_al_sfl, q_al_sfr, q_al_sai, q_al_sal, q_al_saq, q_aq_sfi, q_aq_sfl, q_aq_sfr, q_aq_sai, q_aq_sal, q_aq_saq, nAdd, mup, h3.1, hlp], by simp [q_fi_sfi, q_fi_sfl, q_fi_sfr, q_fi_sai, q_fi_sal, q_fi_saq, q_fl_sfi, q_fl_sfl, q_fl_sfr, q_fl_sai, q_fl_sal, q_fl_saq, q_fr_sfi, q_fr_sfl, q_fr_sfr, q_fr_sai, q_fr_sal, q_fr_saq, q_ai_sfi, q_ai_sfl, q_ai_sfr, q_ai_sai, q_ai_sal, q_ai_saq, q_al_sfi, q_al_sfl, q_al_sfr, q_al_sai, q_al_sal, q_al_saq, q_aq_sfi, q_aq_sfl, q_aq_sfr, q_aq_sai, q_aq_sal, q_aq_saq, nAdd, mup, h3.2, hlp]⟩
    · have hl8 : l < pn M q := by simpa [nAdd, mup, hqp] using hl9
      have h3 := hl q hq l hl8
      have h4 : ¬ (10 * q + l = 10 * p + pn M p) := by omega
      exact ⟨by simp [q_fi_sfi, q_fi_sfl, q_fi_sfr, q_fi_sai, q_fi_sal, q_fi_saq, q_fl_sfi, q_fl_sfl, q_fl_sfr, q_fl_sai, q_fl_sal, q_fl_saq, q_fr_sfi, q_fr_sfl, q_fr_sfr, q_fr_sai, q_fr_sal, q_fr_saq, q_ai_sfi, q_ai_sfl, q_ai_sfr, q_ai_sai, q_ai_sal, q_ai_saq, q_al_sfi, q_al_sfl, q_al_sfr, q_al_sai, q_al_sal, q_al_saq, q_aq_sfi, q_aq_sfl, q_aq_sfr, q_aq_sai, q_aq_sal, q_aq_saq, nAdd, mup, h3.1, hqp, h4], by simp [q_fi_sfi, q_fi_sfl, q_fi_sfr, q_fi_sai, q_fi_sal, q_fi_saq, q_fl_sfi, q_fl_sfl, q_fl_sfr, q_fl_sai, q_fl_sal, q_fl_saq, q_fr_sfi, q_fr_sfl, q_fr_sfr, q_fr_sai, q_fr_sal, q_fr_saq, q_ai_sfi, q_ai_sfl, q_ai_sfr, q_ai_sai, q_ai_sal, q_ai_saq, q_al_sfi, q_al_sfl, q_al_sfr, q_al_sai, q_al_sal, q_al_saq, q_aq_sfi, q_aq_sfl, q_aq_sfr, q_aq_sai, q_aq_sal, q_aq_saq, nAdd, mup, h3.2, hqp, h4]⟩
theorem pm_pop {R : RS} {M : MS} (hM : PM R M) (hI : Inv M) (h0 : 0 < mna M) : PM (sai (sai (sfi R 100 23 (nI (mna M - 1))) 121 (tb M (mna M - 1)) (-1)) 118 (tb M (mna M - 1)) (nI 0)) (nPop M) := by
  obtain ⟨hs, hk, hf, hb, hp, hl, ht⟩ := hM
  refine ⟨⟨hs.1, hs.2.1, hs.2.2.1, hs.2.2.2.1, hs.2.2.2.2.1, hs.2.2.2.2.2.1, hs.2.2.2.2.2.2.1, hs.2.2.2.2.2.2.2.1, rfl, hs.2.2.2.2.2.2.2.2.2⟩, hk, hf, hb, ?_, ?_, ?_⟩
  · intro q hq
    have h3 := hp q hq
    by_cases hqp : q = tb M (mna M - 1)
    · exact ⟨by simp [q_fi_sfi, q_fi_sfl, q_fi_sfr, q_fi_sai, q_fi_sal, q_fi_saq, q_fl_sfi, q_fl_sfl, q_fl_sfr, q_fl_sai, q_fl_sal, q_fl_saq, q_fr_sfi, q_fr_sfl, q_fr_sfr, q_fr_sai, q_fr_sal, q_fr_saq, q_ai_sfi, q_ai_sfl, q_ai_sfr, q_ai_sai, q_ai_sal, q_ai_saq, q_al_sfi, q_al_sfl, q_al_sfr, q_al_sai, q_al_sal, q_al_saq, q_aq_sfi, q_aq_sfl, q_aq_sfr, q_aq_sai, q_aq_sal, q_aq_saq, nPop, mup, hqp], by simp [q_fi_sfi, q_fi_sfl, q_fi_sfr, q_fi_sai, q_fi_sal, q_fi_saq, q_fl_sfi, q_fl_sfl, q_fl_sfr, q_fl_sai, q_fl_sal, q_fl_saq, q_fr_sfi, q_fr_sfl, q_fr_sfr, q_fr_sai, q_fr_sal, q_fr_saq, q_ai_sfi, q_ai_sfl, q_ai_sfr, q_ai_sai, q_ai_sal, q_ai_saq, q_al_sfi, q_al_sfl, q_al_sfr, q_al_sai, q_al_sal, q_al_saq, q_aq_sfi, q_aq_sfl, q_aq_sfr, q_aq_sai, q_aq_sal, q_aq_saq, nPop, mup, stI, hqp]⟩
    · exact ⟨by simp [q_fi_sfi, q_fi_sfl, q_fi_sfr, q_fi_sai, q_fi_sal, q_fi_saq, q_fl_sfi, q_fl_sfl, q_fl_sfr, q_fl_sai, q_fl_sal, q_fl_saq, q_fr_sfi, q_fr_sfl, q_fr_sfr, q_fr_sai, q_fr_sal, q_fr_saq, q_ai_sfi, q_ai_sfl, q_ai_sfr, q_ai_sai, q_ai_sal, q_ai_saq, q_al_sfi, q_al_sfl, q_al_sfr, q_al_sai, q_al_sal, q_al_saq, q_aq_sfi, q_aq_sfl, q_aq_sfr, q_aq_sai, q_aq_sal, q_aq_saq, nPop, mup, hqp, h3.1], by simp [q_fi_sfi, q_fi_sfl, q_fi_sfr, q_fi_sai, q_fi_sal, q_fi_saq, q_fl_sfi, q_fl_sfl, q_fl_sfr, q_fl_sai, q_fl_sal, q_fl_saq, q_fr_sfi, q_fr_sfl, q_fr_sfr, q_fr_sai, q_fr_sal, q_fr_saq, q_ai_sfi, q_ai_sfl, q_ai_sfr, q_ai_sai, q_ai_sal, q_ai_saq, q_al_sfi, q_al_sfl, q_al_sfr, q_al_sai, q_al_sal, q_al_saq, q_aq_sfi, q_aq_sfl, q_aq_sfr, q_aq_sai, q_aq_sal, q_aq_saq, nPop, mup, hqp, h3.2]⟩
  · intro q hq l hl9
    refine hl q hq l ?_
    by_cases hqp : q = tb M (mna M - 1)
    · simp [nPop, mup, hqp] at hl9
    · simpa [nPop, mup, hqp] using hl9
  · intro i hi
    have hi : i < mna M - 1 := hi
    exact ht i (by omega)
theorem onP_of {M : MS} {k i q n : Nat} (hi : i < n) (hq : q < pn M i) (h : lk M i q = k) : onP M k n = true := by
  have h1 : onL M k i (pn M i) = true := onL_mono (i := q + 1) hq (by show (onL M k i q || decide (lk M i q = k)) = true; rw [decide_eq_true h, Bool.or_true])
  exact onP_mono (i := i + 1) hi (by show (onP M k i || onL M k i (pn M i)) = true; rw [h1, Bool.or_true])
def b2n (b : Bool) : Nat := if b = true then 1 else 0
theorem nUn_0 {s f : Nat} {M : MS} (hf : mna M ≤ f) (h : ¬ (0 < mna M ∧ ps M (tb M (mna M - 1)) = s + 1)) : nUn s f M = (0, M) := by
  cases f with
  | zero => rfl
  | succ f => simp only [nUn, if_neg h]
theorem nUn_1 {s f : Nat} {M : MS} (hf : mna M ≤ f) (h : 0 < mna M ∧ ps M (tb M (mna M - 1)) = s + 1) : nUn s f M = ((nUn s (f - 1) (nPop M)).1 + 1, (nUn s (f - 1) (nPop M)).2) := by
  cases f with
  | zero => omega
  | succ f => simp only [nUn, if_pos h, Nat.add_sub_cancel]
end
section
/-! ===== what always holds is kept ===== -/
theorem iv_rules {M : MS} {s d l : Nat} (hI : Inv M) (h1 : s ≤ 100) (h2 : d ≤ 100) (h3 : l ≤ 10000) : Inv (nRules M s d l) := by
  obtain ⟨hb, hr⟩ := hI
  exact ⟨⟨hb.1, hb.2.1, hb.2.2.1, hb.2.2.2.1, hb.2.2.2.2.1, hb.2.2.2.2.2.1, hb.2.2.2.2.2.2.1, h1, h2, h3, hb.2.2.2.2.2.2.2.2.2.2⟩, hr⟩
theorem iv_kind {M : MS} {w d h q : Nat} (hI : Inv M) (h6 : mnk M < 6) (h1 : 1 ≤ w ∧ w ≤ 6) (h2 : 1 ≤ d ∧ d ≤ 6) (h3 : 1 ≤ h ∧ h ≤ 6) (h4 : q ≤ 100) : Inv (nKind M w d h q) := by
  obtain ⟨hb, hk, hf, hd, hp, ht, hj⟩ := hI
  have hn : mnk (nKind M w d h q) = mnk M + 1 := rfl
  have hx : ∀ k i, k ≠ mnk M → bx (nKind M w d h q) k i = bx M k i := fun k i hne => by simp [bx, ac, alo, nKind, mup, hne]
  have hkb : ∀ k, k ≠ mnk M → kb (nKind M w d h q) k = kb M k := fun k hne => by simp [nKind, mup, hne]
  have hk0 : kb (nKind M w d h q) (mnk M) = 0 := by simp [nKind, mup]
  refine ⟨⟨hb.1, hb.2.1, hb.2.2.1, hb.2.2.2.1, by rw [hn]; omega, hb.2.2.2.2.2⟩, ?_, ?_, ?_, ?_, ht, hj⟩
  · intro k hk9
    rw [hn] at hk9
    by_cases hkn : k = mnk M
    · subst hkn
      simp [nKind, mup]
      omega
    · have h9 := hk k (by omega)
      simp [nKind, mup, hkn]
      omega
  · intro k hk9 i hi
    rw [hn] at hk9
    by_cases hkn : k = mnk M
    · rw [hkn, hk0] at hi; omega
    · rw [hkb k hkn] at hi
      have h9 := hf k (by omega) i hi
      have e1 : ac (nKind M w d h q) k (ky M k i) = ac M k (ky M k i) := by simp [ac, nKind, mup, hkn]
      have e2 : alo (nKind M w d h q) k (ky M k i) = alo M k (ky M k i) := by simp [alo, nKind, mup, hkn]
      exact ⟨h9.1, h9.2.1, by rw [← e1] at h9; exact h9.2.2.1, by rw [← e2] at h9; exact h9.2.2.2⟩
  · intro k hk9 i j hi hj9 hij
    rw [hn] at hk9
    by_cases hkn : k = mnk M
    · rw [hkn, hk0] at hi; omega
    · rw [hkb k hkn] at hi hj9
      rw [hx k i hkn, hx k j hkn]
      exact hd k (by omega) i j hi hj9 hij
  · intro p hp9
    obtain ⟨a1, a2, a3⟩ := hp p hp9
    refine ⟨a1, a2, fun l hl => ?_⟩
    obtain ⟨b1, b2, b3⟩ := a3 l hl
    refine ⟨by rw [hn]; exact Nat.lt_succ_of_lt b1, b2, ?_⟩
    rw [show kb (nKind M w d h q) (lk (nKind M w d h q) p l) = kb M (lk M p l) from hkb _ (Nat.ne_of_lt b1)]
    exact b3
theorem iv_pallet {M : MS} (hI : Inv M) (h8 : mnp M < 8) : Inv (nPallet M) := by
  obtain ⟨hb, hk, hf, hd, hp, ht, hj⟩ := hI
  have hn : mnp (nPallet M) = mnp M + 1 := rfl
  refine ⟨⟨hb.1, hb.2.1, hb.2.2.1, hb.2.2.2.1, hb.2.2.2.2.1, by rw [hn]; omega, hb.2.2.2.2.2.2⟩, hk, hf, hd, ?_, ?_, hj⟩
  · intro p hp9
    rw [hn] at hp9
    by_cases hpn : p = mnp M
    · subst hpn
      refine ⟨by simp [nPallet, mup], by simp [nPallet, mup], fun l hl => ?_⟩
      simp [nPallet, mup] at hl
    · obtain ⟨a1, a2, a3⟩ := hp p (by omega)
      refine ⟨by simp [nPallet, mup, hpn]; exact a1, by simp [nPallet, mup, hpn]; exact a2, fun l hl => a3 l (by simpa [nPallet, mup, hpn] using hl)⟩
  · intro i hi
    obtain ⟨a1, a2⟩ := ht i hi
    have hne : tb M i ≠ mnp M := Nat.ne_of_lt a1
    refine ⟨Nat.lt_succ_of_lt a1, ?_⟩
    show nPallet M 21 (tb M i) 0 ≠ 0
    rw [show nPallet M 21 (tb M i) 0 = ps M (tb M i) by simp [nPallet, mup, hne]]
    exact a2
theorem iv_add {M : MS} {p k n : Nat} (hI : Inv M) (hp9 : p < mnp M) (hk9 : k < mnk M) (h10 : pn M p < 10) (hn1 : 1 ≤ n) (hn2 : n ≤ kb M k) : Inv (nAdd M p k n) := by
  obtain ⟨hb, hk, hf, hd, hp, ht, hj⟩ := hI
  refine ⟨hb, hk, hf, hd, ?_, ht, hj⟩
  intro q hq
  obtain ⟨a1, a2, a3⟩ := hp q hq
  by_cases hqp : q = p
  · subst hqp
    refine ⟨by simp [nAdd, mup]; omega, a2, fun l hl => ?_⟩
    have hl : l < pn M q + 1 := by simpa [nAdd, mup] using hl
    by_cases hlp : l = pn M q
    · subst hlp
      simp [nAdd, mup]
      exact ⟨hk9, hn1, hn2⟩
    · have h9 := a3 l (by omega)
      simp [nAdd, mup, hlp]
      exact h9
  · refine ⟨by simp [nAdd, mup, hqp]; exact a1, a2, fun l hl => ?_⟩
    have h9 := a3 l (by simpa [nAdd, mup, hqp] using hl)
    simp [nAdd, mup, hqp]
    exact h9
theorem iv_take {M : MS} {p : Nat} (hI : Inv M) : Inv (nTake M p) := by
  obtain ⟨hb, hk, hf, hd, hp, ht, hj⟩ := hI
  refine ⟨hb, hk, hf, hd, ?_, ht, hj⟩
  intro q hq
  obtain ⟨a1, a2, a3⟩ := hp q hq
  by_cases hqp : q = p
  · subst hqp
    refine ⟨by simp [nTake, mup]; omega, a2, fun l hl => a3 l ?_⟩
    have hl : l < pn M q - 1 := by simpa [nTake, mup] using hl
    omega
  · exact ⟨by simp [nTake, mup, hqp]; exact a1, a2, fun l hl => a3 l (by simpa [nTake, mup, hqp] using hl)⟩
/-- so many different numbers below m: no more than m -/
theorem pig : ∀ (m n : Nat) (f : Nat → Nat), (∀ i, i < n → f i < m) → (∀ i j, i < n → j < n → f i = f j → i = j) → n ≤ m := by
  intro m
  induction m with
  | zero =>
    intro n f h1 _
    rcases Nat.eq_zero_or_pos n with h | h
    · omega
    · exact absurd (h1 0 h) (Nat.not_lt_zero _)
  | succ m ih =>
    intro n f h1 h2
    rcases Nat.eq_zero_or_pos n with h | h
    · omega
    · -- take the place that has m (or none) out by putting the last one there
      by_cases hx : ∃ i, i < n ∧ f i = m
      · obtain ⟨i0, hi0, hf0⟩ := hx
        have := ih (n - 1) (fun i => if i = i0 then f (n - 1) else f i) (fun i hi => by
          by_cases hii : i = i0
          · simp only [if_pos hii]
            have a1 := h1 (n - 1) (by omega)
            have a2 : f (n - 1) ≠ m := fun z => by
              have := h2 (n - 1) i0 (by omega) hi0 (z.trans hf0.symm)
              omega
            omega
          · simp only [if_neg hii]
            have a1 := h1 i (by omega)
            have a2 : f i ≠ m := fun z => hii (h2 i i0 (by omega) hi0 (z.trans hf0.symm))
            omega) (fun i j hi hj9 hij => by
          by_cases hii : i = i0
          · by_cases hjj : j = i0
            · omega
            · simp only [if_pos hii, if_neg hjj] at hij
              have := h2 (n - 1) j (by omega) (by omega) hij
              omega
          · by_cases hjj : j = i0
            · simp only [if_neg hii, if_pos hjj] at hij
              have := h2 i (n - 1) (by omega) (by omega) hij
              omega
            · simp only [if_neg hii, if_neg hjj] at hij
              exact h2 i j (by omega) (by omega) hij)
        omega
      · have := ih n f (fun i hi => by
          have a1 := h1 i hi
          have a2 : f i ≠ m := fun z => hx ⟨i, hi, z⟩
          omega) h2
        omega
/-- a pallet that isn't on the truck leaves room there -/
theorem na_lt {M : MS} {p : Nat} (hI : Inv M) (hp : p < mnp M) (h0 : ps M p = 0) : mna M < 8 := by
  have hb := iv_b hI
  have h9 := pig 8 (mna M + 1) (fun i => if i = mna M then p else tb M i) (fun i hi => by
    by_cases hii : i = mna M
    · simp only [if_pos hii]; omega
    · simp only [if_neg hii]
      have := (iv_t hI (show i < mna M by omega)).1
      omega) (fun i j hi hj hij => by
    by_cases hii : i = mna M
    · by_cases hjj : j = mna M
      · omega
      · simp only [if_pos hii, if_neg hjj] at hij
        have := (iv_t hI (show j < mna M by omega)).2
        rw [← hij] at this
        exact absurd h0 this
    · by_cases hjj : j = mna M
      · simp only [if_neg hii, if_pos hjj] at hij
        have := (iv_t hI (show i < mna M by omega)).2
        rw [hij] at this
        exact absurd h0 this
      · simp only [if_neg hii, if_neg hjj] at hij
        exact hI.2.2.2.2.2.2 i j (by omega) (by omega) hij)
  omega
theorem iv_truck {M : MS} {p s : Nat} (hI : Inv M) (hp9 : p < mnp M) (h0 : ps M p = 0) (hs : s ≤ 9) : Inv (nTruck M p s) := by
  have h8 := na_lt hI hp9 h0
  obtain ⟨hb, hk, hf, hd, hp, ht, hj⟩ := hI
  have hn : mna (nTruck M p s) = mna M + 1 := rfl
  have htb : ∀ i, i < mna M → tb (nTruck M p s) i = tb M i := fun i hi => by
    have : i ≠ mna M := Nat.ne_of_lt hi
    simp [nTruck, mup, this]
  have htn : tb (nTruck M p s) (mna M) = p := by simp [nTruck, mup]
  have hps : ∀ q, q ≠ p → ps (nTruck M p s) q = ps M q := fun q hq => by simp [nTruck, mup, hq]
  have hpp : ps (nTruck M p s) p = s + 1 := by simp [nTruck, mup]
  refine ⟨⟨hb.1, hb.2.1, hb.2.2.1, hb.2.2.2.1, hb.2.2.2.2.1, hb.2.2.2.2.2.1, by rw [hn]; omega, hb.2.2.2.2.2.2.2⟩, hk, hf, hd, ?_, ?_, ?_⟩
  · intro q hq
    obtain ⟨a1, a2, a3⟩ := hp q hq
    refine ⟨a1, ?_, a3⟩
    by_cases hqp : q = p
    · rw [hqp, hpp]; omega
    · rw [hps q hqp]; exact a2
  · intro i hi
    rw [hn] at hi
    by_cases hin : i = mna M
    · rw [hin, htn]
      exact ⟨hp9, by rw [hpp]; omega⟩
    · rw [htb i (by omega)]
      obtain ⟨a1, a2⟩ := ht i (by omega)
      refine ⟨a1, ?_⟩
      by_cases hqp : tb M i = p
      · rw [hqp] at a2; exact absurd h0 a2
      · rw [hps _ hqp]; exact a2
  · intro i j hi hj9 hij
    rw [hn] at hi hj9
    by_cases hin : i = mna M
    · by_cases hjn : j = mna M
      · omega
      · rw [hin, htn, htb j (by omega)] at hij
        have := (ht j (by omega)).2
        rw [← hij] at this
        exact absurd h0 this
    · by_cases hjn : j = mna M
      · rw [hjn, htn, htb i (by omega)] at hij
        have := (ht i (by omega)).2
        rw [hij] at this
        exact absurd h0 this
      · rw [htb i (by omega), htb j (by omega)] at hij
        exact hj i j (by omega) (by omega) hij
theorem iv_pop {M : MS} (hI : Inv M) (h0 : 0 < mna M) : Inv (nPop M) := by
  obtain ⟨hb, hk, hf, hd, hp, ht, hj⟩ := hI
  have hn : mna (nPop M) = mna M - 1 := rfl
  have hps : ∀ q, q ≠ tb M (mna M - 1) → ps (nPop M) q = ps M q := fun q hq => by simp [nPop, mup, hq]
  refine ⟨⟨hb.1, hb.2.1, hb.2.2.1, hb.2.2.2.1, hb.2.2.2.2.1, hb.2.2.2.2.2.1, by rw [hn]; omega, hb.2.2.2.2.2.2.2⟩, hk, hf, hd, ?_, ?_, ?_⟩
  · intro q hq
    obtain ⟨a1, a2, a3⟩ := hp q hq
    by_cases hqp : q = tb M (mna M - 1)
    · refine ⟨by simp [nPop, mup, hqp], by simp [nPop, mup, hqp], fun l hl => ?_⟩
      simp [nPop, mup, hqp] at hl
    · exact ⟨by simp [nPop, mup, hqp]; exact a1, by rw [hps q hqp]; exact a2, fun l hl => a3 l (by simpa [nPop, mup, hqp] using hl)⟩
  · intro i hi
    rw [hn] at hi
    obtain ⟨a1, a2⟩ := ht i (by omega)
    refine ⟨a1, ?_⟩
    show ps (nPop M) (tb M i) ≠ 0
    rw [hps _ (fun z => by have := hj i (mna M - 1) (by omega) (by omega) z; omega)]
    exact a2
  · intro i j hi hj9 hij
    rw [hn] at hi hj9
    exact hj i j (by omega) (by omega) hij
end
section
/-! ===== bits: Nats as sets (the wb_ rows begin as the kit's rows to paste) ===== -/
theorem wb_tb (n : Nat) : (lN n).toBitVec = BitVec.ofNat 64 n := rfl
theorem wb_inj {a b : Int64} (h : a.toBitVec = b.toBitVec) : a = b := Int64.toBitVec_inj.mp h
theorem wb_tn {n : Nat} (h : n < 2 ^ 64) : (lN n).toBitVec.toNat = n := by rw [wb_tb, BitVec.toNat_ofNat, Nat.mod_eq_of_lt h]
theorem wb_of (x : Int64) : ∃ n, n < 2 ^ 64 ∧ x = lN n := ⟨x.toBitVec.toNat, x.toBitVec.isLt, wb_inj (by rw [wb_tb]; simp)⟩
theorem wb_of32 (x : Int32) : ∃ n, n < 2 ^ 32 ∧ x = nI n := ⟨x.toBitVec.toNat, x.toBitVec.isLt, Int32.toBitVec_inj.mp (by show _ = BitVec.ofNat 32 _; simp)⟩
theorem wb_c : ∀ k, k < 64 → ((nI k).toInt64 &&& 63) = lN k := by decide +kernel
theorem wb_cu : ∀ k, k < 64 → ((nI k).toInt64.toUInt64 &&& Int64.toUInt64 63) = UInt64.ofNat k := by decide +kernel
theorem wb_sm : ∀ k, k < 64 → (BitVec.ofNat 64 k).smod 64 = BitVec.ofNat 64 k := by decide +kernel
theorem wb_pw {a b : Nat} (h : a ≤ b) : 2 ^ b = 2 ^ a * 2 ^ (b - a) := by rw [← Nat.pow_add]; congr 1; omega
theorem wb_lt2 {a b : Nat} (h : a < b) : 2 ^ a < 2 ^ b := Nat.pow_lt_pow_right (by decide) h
theorem wb_mod (n : Nat) : lN n = lN (n % 2 ^ 64) := wb_inj (by rw [wb_tb, wb_tb]; apply BitVec.eq_of_toNat_eq; rw [BitVec.toNat_ofNat, BitVec.toNat_ofNat, Nat.mod_mod])
theorem wb_shr {n k : Nat} (hn : n < 2 ^ 64) (hk : k < 64) : ((lN n).toUInt64 >>> ((nI k).toInt64.toUInt64 &&& Int64.toUInt64 63)).toInt64 = lN (n / 2 ^ k) := by
  rw [wb_cu k hk]
  apply wb_inj
  apply BitVec.eq_of_toNat_eq
  show ((lN n).toUInt64 >>> UInt64.ofNat k).toNat = (BitVec.ofNat 64 _).toNat
  have h1 : (UInt64.ofNat k).toNat = k := by
    show (BitVec.ofNat 64 k).toNat = k
    rw [BitVec.toNat_ofNat, Nat.mod_eq_of_lt (by omega)]
  have h2 : (lN n).toUInt64.toNat = n := wb_tn hn
  rw [UInt64.toNat_shiftRight, h1, h2, Nat.mod_eq_of_lt hk, Nat.shiftRight_eq_div_pow, BitVec.toNat_ofNat, Nat.mod_eq_of_lt (Nat.lt_of_le_of_lt (Nat.div_le_self _ _) hn)]
theorem wb_shl (n : Nat) {k : Nat} (hk : k < 64) : lN n <<< ((nI k).toInt64 &&& 63) = lN (n * 2 ^ k) := by
  rw [wb_c k hk]
  apply wb_inj
  rw [Int64.toBitVec_shiftLeft, wb_tb, wb_tb, wb_tb, wb_sm k hk]
  apply BitVec.eq_of_toNat_eq
  rw [BitVec.shiftLeft_eq', BitVec.toNat_shiftLeft, BitVec.toNat_ofNat, BitVec.toNat_ofNat, BitVec.toNat_ofNat, Nat.mod_eq_of_lt (show k < 2 ^ 64 by omega), Nat.shiftLeft_eq, Nat.mul_mod, Nat.mod_mod, ← Nat.mul_mod]
theorem wb_and {a b : Nat} (ha : a < 2 ^ 64) (hb : b < 2 ^ 64) : lN a &&& lN b = lN (a &&& b) := by
  apply wb_inj
  rw [Int64.toBitVec_and, wb_tb, wb_tb, wb_tb]
  apply BitVec.eq_of_toNat_eq
  rw [BitVec.toNat_and, BitVec.toNat_ofNat, BitVec.toNat_ofNat, BitVec.toNat_ofNat, Nat.mod_eq_of_lt ha, Nat.mod_eq_of_lt hb, Nat.mod_eq_of_lt (Nat.and_lt_two_pow _ hb)]
theorem wb_or {a b : Nat} (ha : a < 2 ^ 64) (hb : b < 2 ^ 64) : lN a ||| lN b = lN (a ||| b) := by
  apply wb_inj
  rw [Int64.toBitVec_or, wb_tb, wb_tb, wb_tb]
  apply BitVec.eq_of_toNat_eq
  rw [BitVec.toNat_or, BitVec.toNat_ofNat, BitVec.toNat_ofNat, BitVec.toNat_ofNat, Nat.mod_eq_of_lt ha, Nat.mod_eq_of_lt hb, Nat.mod_eq_of_lt (Nat.or_lt_two_pow ha hb)]
theorem wb_mask {n k : Nat} (hn : n < 2 ^ 64) (hk : k < 64) : lN n &&& lN (2 ^ k - 1) = lN (n % 2 ^ k) := by
  rw [wb_and hn (by have := wb_lt2 hk; omega), Nat.and_two_pow_sub_one_eq_mod]
theorem wb_a1 {n : Nat} (hn : n < 2 ^ 64) : lN n &&& 1 = lN (n % 2) := wb_mask (k := 1) hn (by decide)
theorem wb_bit {n k : Nat} (hn : n < 2 ^ 64) (hk : k < 64) : ((lN n).toUInt64 >>> ((nI k).toInt64.toUInt64 &&& Int64.toUInt64 63)).toInt64 &&& 1 = lN (n / 2 ^ k % 2) := by
  rw [wb_shr hn hk, wb_a1 (Nat.lt_of_le_of_lt (Nat.div_le_self _ _) hn)]
theorem pf_lI {a : Nat} (h : a < 2 ^ 63) : (lN a).toInt = (a : Int) := lg_ofNat_toInt h
theorem pf_shr {a d : Nat} {D : Int64} (hD : (D.toBitVec.smod 64).toNat = d) (h : a < 2 ^ 62) : lN a >>> D = lN (a / 2 ^ d) := by
  have hd : a / 2 ^ d ≤ a := Nat.div_le_self _ _
  apply Int64.toInt_inj.mp
  have e : (lN a >>> D).toInt = (lN a).toInt >>> d := by
    rw [← hD]
    exact BitVec.toInt_sshiftRight ..
  rw [e, Int.shiftRight_eq_div_pow, pf_lI (by omega), pf_lI (by omega)]
  rfl
def pcn : Nat → Nat → Nat
  | 0, _ => 0
  | f + 1, x => x % 2 + pcn f (x / 2)
/-- how many bits -/
def pc (x : Nat) : Nat := pcn 64 x
theorem pcn_0 (f : Nat) : pcn f 0 = 0 := by
  induction f with
  | zero => rfl
  | succ f ih => simp only [pcn, Nat.zero_div, Nat.zero_mod, ih]
theorem and0 {x y : Nat} (h : x &&& y = 0) : x / 2 &&& y / 2 = 0 := by rw [← Nat.and_div_two, h]
theorem or_mod2 {x y : Nat} (h : x &&& y = 0) : (x ||| y) % 2 = x % 2 + y % 2 := by
  have h1 := Nat.or_mod_two_eq_one (a := x) (b := y)
  have h2 : ¬ (x % 2 = 1 ∧ y % 2 = 1) := fun z => by
    have := (Nat.and_mod_two_eq_one (a := x) (b := y)).mpr z
    rw [h] at this
    omega
  have h3 := Nat.mod_two_eq_zero_or_one x
  have h4 := Nat.mod_two_eq_zero_or_one y
  have h5 := Nat.mod_two_eq_zero_or_one (x ||| y)
  omega
theorem pcn_or : ∀ (f x y : Nat), x &&& y = 0 → pcn f (x ||| y) = pcn f x + pcn f y := by
  intro f
  induction f with
  | zero => intros; rfl
  | succ f ih =>
    intro x y h
    simp only [pcn]
    rw [or_mod2 h, Nat.or_div_two, ih _ _ (and0 h)]
    omega
theorem pc_or {x y : Nat} (h : x &&& y = 0) : pc (x ||| y) = pc x + pc y := pcn_or 64 x y h
theorem pc_0 : pc 0 = 0 := pcn_0 64
/-- the lowest bit is taken away -/
theorem low_e {x : Nat} (h : x % 2 = 0) (h0 : x ≠ 0) : x &&& (x - 1) = 2 * ((x / 2) &&& (x / 2 - 1)) := by
  apply Nat.eq_of_testBit_eq
  intro i
  rw [show 2 * ((x / 2) &&& (x / 2 - 1)) = 2 ^ 1 * ((x / 2) &&& (x / 2 - 1)) by simp, Nat.testBit_two_pow_mul]
  cases i with
  | zero => simp [h]
  | succ i =>
    rw [Nat.testBit_and, Nat.testBit_succ, Nat.testBit_succ]
    rw [show (x - 1) / 2 = x / 2 - 1 by omega]
    simp
theorem low_o {x : Nat} (h : x % 2 = 1) : x &&& (x - 1) = x - 1 := by
  apply Nat.eq_of_testBit_eq
  intro i
  rw [Nat.testBit_and]
  cases i with
  | zero =>
    have : (x - 1) % 2 = 0 := by omega
    simp [this]
  | succ i =>
    rw [Nat.testBit_succ, Nat.testBit_succ, show (x - 1) / 2 = x / 2 by omega, Bool.and_self]
theorem pcn_low : ∀ (f x : Nat), x < 2 ^ f → x ≠ 0 → pcn f (x &&& (x - 1)) + 1 = pcn f x := by
  intro f
  induction f with
  | zero => intro x h h0; simp at h; omega
  | succ f ih =>
    intro x h h0
    have hp : 2 ^ (f + 1) = 2 * 2 ^ f := by rw [Nat.pow_succ]; omega
    rcases Nat.mod_two_eq_zero_or_one x with h2 | h2
    · rw [low_e h2 h0]
      simp only [pcn]
      rw [Nat.mul_mod_right, Nat.mul_div_cancel_left _ (by decide), h2]
      have := ih (x / 2) (by omega) (by omega)
      omega
    · rw [low_o h2]
      simp only [pcn]
      rw [show (x - 1) / 2 = x / 2 by omega, show (x - 1) % 2 = 0 by omega, h2]
      omega
theorem pc_low {x : Nat} (h : x < 2 ^ 64) (h0 : x ≠ 0) : pc (x &&& (x - 1)) + 1 = pc x := pcn_low 64 x h h0
theorem low_lt {x : Nat} (h0 : x ≠ 0) : x &&& (x - 1) < x := Nat.lt_of_le_of_lt Nat.and_le_right (by omega)
theorem pcn_le : ∀ (f n x : Nat), x < 2 ^ n → pcn f x ≤ n := by
  intro f
  induction f with
  | zero => intros; exact Nat.zero_le _
  | succ f ih =>
    intro n x h
    cases n with
    | zero => simp at h; rw [h, pcn_0]; omega
    | succ n =>
      have hp : 2 ^ (n + 1) = 2 * 2 ^ n := by rw [Nat.pow_succ]; omega
      simp only [pcn]
      have := ih n (x / 2) (by omega)
      omega
theorem pc_le {n x : Nat} (h : x < 2 ^ n) : pc x ≤ n := pcn_le 64 n x h
theorem n_shr {n k : Nat} (hn : n < 2 ^ 62) (hk : k < 64) : lN n >>> ((nI k).toInt64 &&& 63) = lN (n / 2 ^ k) := by
  rw [wb_c k hk]
  refine pf_shr ?_ hn
  rw [wb_tb, wb_sm k hk, BitVec.toNat_ofNat, Nat.mod_eq_of_lt (by omega)]
theorem lg_0 {x y : Int64} : lg_cmp x y = 0 ↔ x = y := by
  unfold lg_cmp
  constructor
  · intro h
    by_cases h1 : y < x
    · simp [h1] at h
    · by_cases h2 : x < y
      · simp [h1, h2] at h; exact h
      · exact Int64.le_antisymm (Int64.not_lt.mp h1) (Int64.not_lt.mp h2)
  · intro h
    subst h
    simp [Int64.lt_irrefl]
section NL
variable {p : Program} {l : Launch} {e : Env} {R0 : Room} {s : State} {m : MethodId} {args : Array Value} {below : List Frame} {meth : Method} {c : Code} {H : Heap} {locs : List Loc} {cells slots : Nat} {Q : State → Prop} {cc : ByteArray} {pc9 : Nat} {ls : Array Slot} {rest : List Value}
theorem nv_ladd (hexec : p.tables.exec = Jvm.exec) (hb : c.code = cc) {x y : Nat} (hdg : decode cc pc9 = .ok (.ladd, 1)) (k : W p l e R0 s m args below meth c H locs cells slots Q (F0 m (pc9 + 1) ls (.long (lN (x + y)) :: rest))) : W p l e R0 s m args below meth c H locs cells slots Q (F0 m pc9 ls (.long (lN y) :: .long (lN x) :: rest)) := lv_ladd hexec hb hdg (by rw [lN_add]; exact k)
theorem nv_lsub (hexec : p.tables.exec = Jvm.exec) (hb : c.code = cc) {x y : Nat} (hdg : decode cc pc9 = .ok (.lsub, 1)) (h : y ≤ x) (k : W p l e R0 s m args below meth c H locs cells slots Q (F0 m (pc9 + 1) ls (.long (lN (x - y)) :: rest))) : W p l e R0 s m args below meth c H locs cells slots Q (F0 m pc9 ls (.long (lN y) :: .long (lN x) :: rest)) := lv_lsub hexec hb hdg (by rw [lN_sub h]; exact k)
theorem nv_land (hexec : p.tables.exec = Jvm.exec) (hb : c.code = cc) {x y : Nat} (hdg : decode cc pc9 = .ok (.land, 1)) (h1 : x < 2 ^ 64) (h2 : y < 2 ^ 64) (k : W p l e R0 s m args below meth c H locs cells slots Q (F0 m (pc9 + 1) ls (.long (lN (x &&& y)) :: rest))) : W p l e R0 s m args below meth c H locs cells slots Q (F0 m pc9 ls (.long (lN y) :: .long (lN x) :: rest)) := lv_land hexec hb hdg (by rw [wb_and h1 h2]; exact k)
theorem nv_lor (hexec : p.tables.exec = Jvm.exec) (hb : c.code = cc) {x y : Nat} (hdg : decode cc pc9 = .ok (.lor, 1)) (h1 : x < 2 ^ 64) (h2 : y < 2 ^ 64) (k : W p l e R0 s m args below meth c H locs cells slots Q (F0 m (pc9 + 1) ls (.long (lN (x ||| y)) :: rest))) : W p l e R0 s m args below meth c H locs cells slots Q (F0 m pc9 ls (.long (lN y) :: .long (lN x) :: rest)) := lv_lor hexec hb hdg (by rw [wb_or h1 h2]; exact k)
theorem nv_i2l (hexec : p.tables.exec = Jvm.exec) (hb : c.code = cc) {x : Nat} (hdg : decode cc pc9 = .ok (.i2l, 1)) (h1 : x < 2 ^ 31) (k : W p l e R0 s m args below meth c H locs cells slots Q (F0 m (pc9 + 1) ls (.long (lN x) :: rest))) : W p l e R0 s m args below meth c H locs cells slots Q (F0 m pc9 ls (.int (nI x) :: rest)) := lv_i2l hexec hb hdg (nI_l h1) k
theorem nv_l2i (hexec : p.tables.exec = Jvm.exec) (hb : c.code = cc) {x : Nat} (hdg : decode cc pc9 = .ok (.l2i, 1)) (k : W p l e R0 s m args below meth c H locs cells slots Q (F0 m (pc9 + 1) ls (.int (nI x) :: rest))) : W p l e R0 s m args below meth c H locs cells slots Q (F0 m pc9 ls (.long (lN x) :: rest)) := lv_l2i hexec hb hdg (lN_i x) k
end NL
end
section
/-! the count of Long.bitCount: byte by byte -/
def dig (f : Nat → Nat) : Nat → Nat → Nat
  | 0, _ => 0
  | k + 1, n => 256 * dig f k (n / 256) + f (n % 256)
def mk (m : Nat) : Nat → Nat
  | 0 => 0
  | k + 1 => 256 * mk m k + m
theorem and256 {a b m c : Nat} (hb : b < 256) (hc : c < 256) : (256 * a + b) &&& (256 * m + c) = 256 * (a &&& m) + (b &&& c) := by
  have e1 : ((256 * a + b) &&& (256 * m + c)) / 2 ^ 8 = a &&& m := by
    rw [Nat.and_div_two_pow, show (256 * a + b) / 2 ^ 8 = a by omega, show (256 * m + c) / 2 ^ 8 = m by omega]
  have e2 : ((256 * a + b) &&& (256 * m + c)) % 2 ^ 8 = b &&& c := by
    rw [Nat.and_mod_two_pow, show (256 * a + b) % 2 ^ 8 = b by omega, show (256 * m + c) % 2 ^ 8 = c by omega]
  omega
theorem dec_byte {P : Nat → Prop} [DecidablePred P] (h : (List.range 256).all (fun b => decide (P b)) = true) {b : Nat} (hb : b < 256) : P b := co_dec (N := 256) h hb
theorem bc_1 : ∀ (k n : Nat), n < 256 ^ k → (n / 2 &&& mk 0x55 k) ≤ n ∧ n - (n / 2 &&& mk 0x55 k) = dig (fun b => b - (b / 2 &&& 0x55)) k n := by
  intro k
  induction k with
  | zero => intro n h; simp at h; subst h; exact ⟨by simp, rfl⟩
  | succ k ih =>
    intro n h
    have hp : 256 ^ (k + 1) = 256 * 256 ^ k := by rw [Nat.pow_succ]; omega
    obtain ⟨h1, h2⟩ := ih (n / 256) (by omega)
    have hb : n % 256 < 256 := Nat.mod_lt _ (by decide)
    have e : n / 2 = 256 * (n / 256 / 2) + (128 * (n / 256 % 2) + n % 256 / 2) := by omega
    have e2 : n / 2 &&& mk 0x55 (k + 1) = 256 * (n / 256 / 2 &&& mk 0x55 k) + ((128 * (n / 256 % 2) + n % 256 / 2) &&& 0x55) := by
      rw [e]; exact and256 (by omega) (by decide)
    have e3 : (128 * (n / 256 % 2) + n % 256 / 2) &&& 0x55 = n % 256 / 2 &&& 0x55 := by
      have key : ∀ b, b < 256 → ∀ t, t < 2 → (128 * t + b / 2) &&& 0x55 = b / 2 &&& 0x55 := by decide +kernel
      exact key _ hb _ (Nat.mod_lt _ (by decide))
    have h4 : n % 256 / 2 &&& 0x55 ≤ n % 256 / 2 := Nat.and_le_left
    rw [e2, e3]
    refine ⟨by omega, ?_⟩
    simp only [dig]
    rw [← h2]
    omega
theorem bc_2 : ∀ (k n : Nat), n < 256 ^ k → (n &&& mk 0x33 k) + (n / 4 &&& mk 0x33 k) = dig (fun b => (b &&& 0x33) + (b / 4 &&& 0x33)) k n := by
  intro k
  induction k with
  | zero => intro n h; simp at h; subst h; rfl
  | succ k ih =>
    intro n h
    have hp : 256 ^ (k + 1) = 256 * 256 ^ k := by rw [Nat.pow_succ]; omega
    have h2 := ih (n / 256) (by omega)
    have hb : n % 256 < 256 := Nat.mod_lt _ (by decide)
    have e1 : n &&& mk 0x33 (k + 1) = 256 * (n / 256 &&& mk 0x33 k) + (n % 256 &&& 0x33) := by
      have e : n = 256 * (n / 256) + n % 256 := by omega
      have := and256 (a := n / 256) (b := n % 256) (m := mk 0x33 k) (c := 0x33) hb (by decide)
      rw [← e] at this
      exact this
    have e : n / 4 = 256 * (n / 256 / 4) + (64 * (n / 256 % 4) + n % 256 / 4) := by omega
    have e2 : n / 4 &&& mk 0x33 (k + 1) = 256 * (n / 256 / 4 &&& mk 0x33 k) + ((64 * (n / 256 % 4) + n % 256 / 4) &&& 0x33) := by
      rw [e]; exact and256 (by omega) (by decide)
    have e3 : (64 * (n / 256 % 4) + n % 256 / 4) &&& 0x33 = n % 256 / 4 &&& 0x33 := by
      have key : ∀ b, b < 256 → ∀ t, t < 4 → (64 * t + b / 4) &&& 0x33 = b / 4 &&& 0x33 := by decide +kernel
      exact key _ hb _ (Nat.mod_lt _ (by decide))
    rw [e1, e2, e3]
    simp only [dig]
    rw [← h2]
    omega
/-- every half byte is at most 4 -/
def nib : Nat → Nat → Prop
  | 0, _ => True
  | k + 1, n => n % 16 ≤ 4 ∧ n / 16 % 16 ≤ 4 ∧ nib k (n / 256)
theorem bc_3 : ∀ (k n : Nat), n < 256 ^ k → nib k n → (n + n / 16) &&& mk 0x0f k = dig (fun b => (b + b / 16) &&& 0x0f) k n := by
  intro k
  induction k with
  | zero => intro n h _; simp at h; subst h; rfl
  | succ k ih =>
    intro n h hn
    obtain ⟨n1, n2, n3⟩ := hn
    have hp : 256 ^ (k + 1) = 256 * 256 ^ k := by rw [Nat.pow_succ]; omega
    have h2 := ih (n / 256) (by omega) n3
    have hlow : n / 256 % 16 ≤ 4 := by
      cases k with
      | zero => simp at h; omega
      | succ k => exact n3.1
    have hb : n % 256 ≤ 68 := by omega
    have e : n + n / 16 = 256 * (n / 256 + n / 256 / 16) + (n % 256 + n % 256 / 16 + 16 * (n / 256 % 16)) := by omega
    have e2 : (n + n / 16) &&& mk 0x0f (k + 1) = 256 * ((n / 256 + n / 256 / 16) &&& mk 0x0f k) + ((n % 256 + n % 256 / 16 + 16 * (n / 256 % 16)) &&& 0x0f) := by
      rw [e]; exact and256 (by omega) (by decide)
    have e3 : (n % 256 + n % 256 / 16 + 16 * (n / 256 % 16)) &&& 0x0f = (n % 256 + n % 256 / 16) &&& 0x0f := by
      rw [show (0x0f : Nat) = 2 ^ 4 - 1 by decide, Nat.and_two_pow_sub_one_eq_mod, Nat.and_two_pow_sub_one_eq_mod]
      omega
    rw [e2, e3]
    simp only [dig]
    rw [← h2]
theorem dig_dm {f : Nat → Nat} (hf : ∀ b, b < 256 → f b < 256) (k n : Nat) : dig f (k + 1) n / 256 = dig f k (n / 256) ∧ dig f (k + 1) n % 256 = f (n % 256) := by
  have := hf (n % 256) (Nat.mod_lt _ (by decide))
  simp only [dig]
  omega
theorem dig_lt {f : Nat → Nat} (hf : ∀ b, b < 256 → f b < 256) : ∀ (k n : Nat), dig f k n < 256 ^ k := by
  intro k
  induction k with
  | zero => intro n; simp [dig]
  | succ k ih =>
    intro n
    have := ih (n / 256)
    have h2 := hf (n % 256) (Nat.mod_lt _ (by decide))
    have hp : 256 ^ (k + 1) = 256 * 256 ^ k := by rw [Nat.pow_succ]; omega
    simp only [dig]
    omega
theorem dig_comp {f g : Nat → Nat} (hg : ∀ b, b < 256 → g b < 256) : ∀ (k n : Nat), dig f k (dig g k n) = dig (fun b => f (g b)) k n := by
  intro k
  induction k with
  | zero => intro n; rfl
  | succ k ih =>
    intro n
    obtain ⟨h1, h2⟩ := dig_dm hg k n
    show 256 * dig f k (dig g (k + 1) n / 256) + f (dig g (k + 1) n % 256) = _
    rw [h1, h2, ih]
    rfl
theorem dig_nib {g : Nat → Nat} (hg : ∀ b, b < 256 → g b < 256 ∧ g b % 16 ≤ 4 ∧ g b / 16 % 16 ≤ 4) : ∀ (k n : Nat), nib k (dig g k n) := by
  intro k
  induction k with
  | zero => intro n; trivial
  | succ k ih =>
    intro n
    obtain ⟨h1, h2⟩ := dig_dm (fun b hb => (hg b hb).1) k n
    have h3 := hg (n % 256) (Nat.mod_lt _ (by decide))
    refine ⟨?_, ?_, by rw [h1]; exact ih _⟩
    · rw [show dig g (k + 1) n % 16 = dig g (k + 1) n % 256 % 16 by omega, h2]; exact h3.2.1
    · rw [show dig g (k + 1) n / 16 % 16 = dig g (k + 1) n % 256 / 16 % 16 by omega, h2]; exact h3.2.2
theorem dig_congr {f g : Nat → Nat} (h : ∀ b, b < 256 → f b = g b) : ∀ (k n : Nat), dig f k n = dig g k n := by
  intro k
  induction k with
  | zero => intro n; rfl
  | succ k ih => intro n; simp only [dig]; rw [ih, h _ (Nat.mod_lt _ (by decide))]
theorem pcn_split (f n : Nat) : pcn (f + 8) n = pcn 8 (n % 256) + pcn f (n / 256) := by
  simp only [pcn]
  rw [show n / 2 / 2 / 2 / 2 / 2 / 2 / 2 / 2 = n / 256 by omega]
  rw [show n % 256 % 2 = n % 2 by omega, show n % 256 / 2 % 2 = n / 2 % 2 by omega, show n % 256 / 2 / 2 % 2 = n / 2 / 2 % 2 by omega, show n % 256 / 2 / 2 / 2 % 2 = n / 2 / 2 / 2 % 2 by omega, show n % 256 / 2 / 2 / 2 / 2 % 2 = n / 2 / 2 / 2 / 2 % 2 by omega, show n % 256 / 2 / 2 / 2 / 2 / 2 % 2 = n / 2 / 2 / 2 / 2 / 2 % 2 by omega, show n % 256 / 2 / 2 / 2 / 2 / 2 / 2 % 2 = n / 2 / 2 / 2 / 2 / 2 / 2 % 2 by omega, show n % 256 / 2 / 2 / 2 / 2 / 2 / 2 / 2 % 2 = n / 2 / 2 / 2 / 2 / 2 / 2 / 2 % 2 by omega]
  omega
def bcs (b : Nat) : Nat := (((b - (b / 2 &&& 0x55)) &&& 0x33) + ((b - (b / 2 &&& 0x55)) / 4 &&& 0x33))
def bct (b : Nat) : Nat := (bcs b + bcs b / 16) &&& 0x0f
theorem bct_pc : ∀ b, b < 256 → bct b = pcn 8 b := by decide +kernel
theorem bct_8 {b : Nat} (h : b < 256) : bct b ≤ 8 := by
  have : ∀ b, b < 256 → bct b ≤ 8 := by decide +kernel
  exact this b h
def bc3 (n : Nat) : Nat := dig bct 8 n
theorem bc_123 {n x1 x2 : Nat} (h : n < 2 ^ 64) (e1 : x1 = n - (n / 2 &&& 6148914691236517205)) (e2 : x2 = (x1 &&& 3689348814741910323) + (x1 / 4 &&& 3689348814741910323)) : n / 2 &&& 6148914691236517205 ≤ n ∧ x1 < 2 ^ 64 ∧ x2 ≤ 7378697629483820646 ∧ (x2 + x2 / 16) &&& 1085102592571150095 = bc3 n := by
  have h8 : n < 256 ^ 8 := h
  obtain ⟨a1, a2⟩ := bc_1 8 n h8
  rw [show mk 0x55 8 = 6148914691236517205 by decide] at a1 a2
  have g1 : ∀ b, b < 256 → (fun b => b - (b / 2 &&& 0x55)) b < 256 := fun b hb => Nat.lt_of_le_of_lt (Nat.sub_le _ _) hb
  have hx1 : x1 = dig (fun b => b - (b / 2 &&& 0x55)) 8 n := e1.trans a2
  have l1 := dig_lt g1 8 n
  rw [← hx1] at l1
  have b2 := bc_2 8 x1 l1
  rw [show mk 0x33 8 = 3689348814741910323 by decide] at b2
  have hx2 : x2 = dig bcs 8 n := by
    rw [e2, b2, hx1, dig_comp g1]
    exact dig_congr (fun b hb => rfl) 8 n
  have g2 : ∀ b, b < 256 → bcs b < 256 ∧ bcs b % 16 ≤ 4 ∧ bcs b / 16 % 16 ≤ 4 := by decide +kernel
  have l2 := dig_lt (fun b hb => (g2 b hb).1) 8 n
  rw [← hx2] at l2
  have n2 := dig_nib g2 8 n
  rw [← hx2] at n2
  have c3 := bc_3 8 x2 l2 n2
  rw [show mk 0x0f 8 = 1085102592571150095 by decide] at c3
  refine ⟨a1, l1, ?_, ?_⟩
  · have z1 : x1 &&& 3689348814741910323 ≤ 3689348814741910323 := Nat.and_le_right
    have z2 : x1 / 4 &&& 3689348814741910323 ≤ 3689348814741910323 := Nat.and_le_right
    rw [e2]
    exact Nat.add_le_add z1 z2
  · rw [c3, hx2, dig_comp (fun b hb => (g2 b hb).1)]
    exact dig_congr (fun b hb => rfl) 8 n
theorem bc_lin {p0 p1 p2 p3 p4 p5 p6 p7 x x4 x5 x6 : Nat} (a0 : p0 ≤ 8) (a1 : p1 ≤ 8) (a2 : p2 ≤ 8) (a3 : p3 ≤ 8) (a4 : p4 ≤ 8) (a5 : p5 ≤ 8) (a6 : p6 ≤ 8) (a7 : p7 ≤ 8)
    (hx : x = p0 + 256 * p1 + 65536 * p2 + 16777216 * p3 + 4294967296 * p4 + 1099511627776 * p5 + 281474976710656 * p6 + 72057594037927936 * p7) (h4 : x4 = x + x / 256) (h5 : x5 = x4 + x4 / 65536) (h6 : x6 = x5 + x5 / 4294967296) :
    x < 2305843009213693952 ∧ x4 < 4611686018427387904 ∧ x5 < 4611686018427387904 ∧ x6 < 4611686018427387904 ∧ x6 % 128 = p0 + (p1 + (p2 + (p3 + (p4 + (p5 + (p6 + p7)))))) := by
  have e4 : x / 256 = p1 + 256 * p2 + 65536 * p3 + 16777216 * p4 + 4294967296 * p5 + 1099511627776 * p6 + 281474976710656 * p7 := by
    clear h4 h5 h6; omega
  have f4 : x4 = (p0 + p1) + 256 * (p1 + p2) + 65536 * (p2 + p3) + 16777216 * (p3 + p4) + 4294967296 * (p4 + p5) + 1099511627776 * (p5 + p6) + 281474976710656 * (p6 + p7) + 72057594037927936 * p7 := by
    clear h5 h6; omega
  have e5 : x4 / 65536 = (p2 + p3) + 256 * (p3 + p4) + 65536 * (p4 + p5) + 16777216 * (p5 + p6) + 4294967296 * (p6 + p7) + 1099511627776 * p7 := by
    clear h4 h5 h6 e4 hx; omega
  have f5 : x5 = (p0 + p1 + p2 + p3) + 256 * (p1 + p2 + p3 + p4) + 65536 * (p2 + p3 + p4 + p5) + 16777216 * (p3 + p4 + p5 + p6) + 4294967296 * (p4 + p5 + p6 + p7) + 1099511627776 * (p5 + p6 + p7) + 281474976710656 * (p6 + p7) + 72057594037927936 * p7 := by
    clear h4 h6 e4 hx; omega
  have e6 : x5 / 4294967296 = (p4 + p5 + p6 + p7) + 256 * (p5 + p6 + p7) + 65536 * (p6 + p7) + 16777216 * p7 := by
    clear h4 h5 h6 e4 e5 f4 hx; omega
  refine ⟨?_, ?_, ?_, ?_, ?_⟩
  · clear h4 h5 h6 e4 e5 f4 f5 e6; omega
  · clear h4 h5 h6 e4 e5 f5 e6 hx; omega
  · clear h4 h5 h6 e4 e5 f4 e6 hx; omega
  · clear h4 h5 e4 e5 f4 hx; omega
  · clear h4 h5 e4 e5 f4 hx; omega
theorem bc_456 {n x4 x5 x6 : Nat} (h4 : x4 = bc3 n + bc3 n / 256) (h5 : x5 = x4 + x4 / 65536) (h6 : x6 = x5 + x5 / 4294967296) : bc3 n < 2305843009213693952 ∧ x4 < 4611686018427387904 ∧ x5 < 4611686018427387904 ∧ x6 < 4611686018427387904 ∧ x6 % 128 = pc n := by
  have s1 : pc n = pcn 8 (n % 256) + pcn 56 (n / 256) := pcn_split 56 n
  have s2 : ∀ q, pcn 56 q = pcn 8 (q % 256) + pcn 48 (q / 256) := pcn_split 48
  have s3 : ∀ q, pcn 48 q = pcn 8 (q % 256) + pcn 40 (q / 256) := pcn_split 40
  have s4 : ∀ q, pcn 40 q = pcn 8 (q % 256) + pcn 32 (q / 256) := pcn_split 32
  have s5 : ∀ q, pcn 32 q = pcn 8 (q % 256) + pcn 24 (q / 256) := pcn_split 24
  have s6 : ∀ q, pcn 24 q = pcn 8 (q % 256) + pcn 16 (q / 256) := pcn_split 16
  have s7 : ∀ q, pcn 16 q = pcn 8 (q % 256) + pcn 8 (q / 256) := pcn_split 8
  have s8 : ∀ q, pcn 8 q = pcn 8 (q % 256) := fun q => (pcn_split 0 q).trans (Nat.add_zero _)
  have m : ∀ q, q % 256 < 256 := fun q => Nat.mod_lt _ (by decide)
  have b : ∀ q, pcn 8 (q % 256) = bct (q % 256) := fun q => (bct_pc _ (m q)).symm
  have d1 : ∀ k q, dig bct (k + 1) q = 256 * dig bct k (q / 256) + bct (q % 256) := fun _ _ => rfl
  have d0 : ∀ q, dig bct 0 q = 0 := fun _ => rfl
  have hd : bc3 n = 256 * dig bct 7 (n / 256) + bct (n % 256) := d1 7 n
  have hp := bc_lin (bct_8 (m n)) (bct_8 (m (n / 256))) (bct_8 (m (n / 256 / 256))) (bct_8 (m (n / 256 / 256 / 256))) (bct_8 (m (n / 256 / 256 / 256 / 256))) (bct_8 (m (n / 256 / 256 / 256 / 256 / 256))) (bct_8 (m (n / 256 / 256 / 256 / 256 / 256 / 256))) (bct_8 (m (n / 256 / 256 / 256 / 256 / 256 / 256 / 256))) (x := bc3 n) (by
    rw [hd, d1 6, d1 5, d1 4, d1 3, d1 2, d1 1, d1 0, d0]
    omega) h4 h5 h6
  rw [s1, s2, s3, s4, s5, s6, s7, s8 (n / 256 / 256 / 256 / 256 / 256 / 256 / 256), b, b, b, b, b, b, b, b]
  exact hp
end
section
/-! ===== the cells of a box, the first open cell ===== -/
theorem bm_top {W c w d D : Nat} (hw : c % W + w ≤ W) (hd : c / W + (d + 1) ≤ D) : c + W * d + w ≤ W * D := by
  have h1 := Nat.div_add_mod c W
  have h2 : W * (c / W + (d + 1)) ≤ W * D := Nat.mul_le_mul_left W hd
  rw [Nat.mul_add, Nat.mul_add] at h2
  omega
theorem sl_lt {w n : Nat} : (2 ^ w - 1) <<< n < 2 ^ (n + w) := by
  rw [Nat.shiftLeft_eq, Nat.pow_add, Nat.mul_comm]
  have h1 := Nat.two_pow_pos w
  have h2 := Nat.two_pow_pos n
  exact Nat.mul_lt_mul_of_pos_left (by omega) h2
theorem bm_lt {W c w D : Nat} (hw : c % W + w ≤ W) : ∀ d, c / W + d ≤ D → bm W c w d < 2 ^ (W * D) := by
  intro d
  induction d with
  | zero => intro _; exact Nat.two_pow_pos _
  | succ d ih =>
    intro hd
    refine Nat.or_lt_two_pow (ih (by omega)) ?_
    exact Nat.lt_of_lt_of_le sl_lt (Nat.pow_le_pow_right (by decide) (bm_top hw hd))
theorem bm_ge {W c w : Nat} : ∀ d i, (bm W c w d).testBit i = true → c ≤ i := by
  intro d
  induction d with
  | zero => intro i h; simp [bm] at h
  | succ d ih =>
    intro i h
    simp only [bm, Nat.testBit_or, Bool.or_eq_true] at h
    rcases h with h | h
    · exact ih i h
    · simp only [Nat.testBit_shiftLeft, Bool.and_eq_true, decide_eq_true_eq] at h
      omega
theorem bm_c {W c w d : Nat} (hw : 0 < w) (hd : 0 < d) : (bm W c w d).testBit c = true := by
  induction d with
  | zero => omega
  | succ d ih =>
    simp only [bm, Nat.testBit_or, Bool.or_eq_true]
    by_cases h : d = 0
    · subst h
      right
      simp [Nat.testBit_shiftLeft, hw]
    · exact Or.inl (ih (by omega))
theorem bm_sh {W c w : Nat} : ∀ d, bm W 0 w d <<< c = bm W c w d := by
  intro d
  induction d with
  | zero => simp [bm]
  | succ d ih =>
    simp only [bm]
    rw [Nat.shiftLeft_or_distrib, ih, ← Nat.shiftLeft_add, Nat.zero_add, Nat.add_comm (W * d) c]
theorem bm_row {W c w i : Nat} : (2 ^ w - 1) * 2 ^ (c % W) * 2 ^ (W * (c / W + i)) = (2 ^ w - 1) <<< (c + W * i) := by
  have h1 := Nat.div_add_mod c W
  rw [Nat.shiftLeft_eq, Nat.mul_assoc, ← Nat.pow_add]
  congr 2
  rw [Nat.mul_add]
  omega
/-- the cells of a box of kind k, its corner the cell c, in the way y; none where it isn't within -/
def cel (M : MS) (k c y : Nat) : Nat := if c % mW M + ac M k y ≤ mW M ∧ c / mW M + alo M k y ≤ mD M then bm (mW M) c (ac M k y) (alo M k y) else 0
theorem p36 {n : Nat} (h : n ≤ 36) : 2 ^ n ≤ 68719476736 := Nat.pow_le_pow_right (by decide) h
theorem cel_lt {M : MS} {k c y : Nat} : cel M k c y < 2 ^ (mW M * mD M) := by
  unfold cel
  split
  · next h => exact bm_lt h.1 _ h.2
  · exact Nat.two_pow_pos _
/-- the first cell from c on, f more, that isn't in x -/
def fof (x : Nat) : Nat → Nat → Nat
  | 0, c => c
  | f + 1, c => if x.testBit c = true then fof x f (c + 1) else c
def fo (n x : Nat) : Nat := fof x n 0
theorem fof_le (x : Nat) : ∀ f c, fof x f c ≤ c + f ∧ c ≤ fof x f c := by
  intro f
  induction f with
  | zero => intro c; exact ⟨Nat.le_refl _, Nat.le_refl _⟩
  | succ f ih =>
    intro c
    simp only [fof]
    split
    · have := ih (c + 1); omega
    · omega
theorem fof_open (x : Nat) : ∀ f c, fof x f c < c + f → x.testBit (fof x f c) = false := by
  intro f
  induction f with
  | zero => intro c h; simp [fof] at h
  | succ f ih =>
    intro c h
    simp only [fof] at h ⊢
    split
    · next h1 => rw [if_pos h1] at h; exact ih (c + 1) (by omega)
    · next h1 => exact Bool.eq_false_iff.mpr h1
theorem fof_closed (x : Nat) : ∀ f c i, c ≤ i → i < fof x f c → x.testBit i = true := by
  intro f
  induction f with
  | zero => intro c i h1 h2; simp [fof] at h2; omega
  | succ f ih =>
    intro c i h1 h2
    simp only [fof] at h2
    split at h2
    · next h3 =>
      by_cases h4 : i = c
      · rw [h4]; exact h3
      · exact ih (c + 1) i (by omega) h2
    · omega
theorem fof_skip (x : Nat) : ∀ k f c, (∀ i, c ≤ i → i < c + k → x.testBit i = true) → fof x (k + f) c = fof x f (c + k) := by
  intro k
  induction k with
  | zero => intro f c _; rw [Nat.zero_add]; rfl
  | succ k ih =>
    intro f c h
    rw [show k + 1 + f = (k + f) + 1 by omega]
    simp only [fof]
    rw [if_pos (h c (Nat.le_refl _) (by omega)), ih f (c + 1) (fun i h1 h2 => h i (by omega) (by omega)), show c + 1 + k = c + (k + 1) by omega]
theorem fo_from {n x c : Nat} (hc : c ≤ n) (h : ∀ i, i < c → x.testBit i = true) : fo n x = fof x (n - c) c := by
  have := fof_skip x c (n - c) 0 (fun i _ hi => h i (by omega))
  rw [show c + (n - c) = n by omega, Nat.zero_add] at this
  exact this
theorem fo_le (n x : Nat) : fo n x ≤ n := by have := (fof_le x n 0).1; unfold fo; omega
theorem tb_div {n i : Nat} : n / 2 ^ i % 2 = 1 ↔ n.testBit i = true := by
  rw [Nat.testBit_eq_decide_div_mod_eq, decide_eq_true_eq]
end
