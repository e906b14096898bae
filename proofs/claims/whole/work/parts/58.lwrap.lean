set_option maxRecDepth 100000 in
set_option maxHeartbeats 4000000 in
theorem c_L_kind (l : Launch) (hl9 : l.stackTraces = false) (D : va_G) (g : Nat → ClassId) (lv : Nat → Bool) (a : Nat → Nat) (R : RS) (M : MS) (hr9 : PCr lv a R M) (hC : PC R M) (hI : Inv M) (h200 : lv 200 = true) (x y z u : Int32) : xA l D g lv a yL_kind wsL_kind ({ frames := 90, cells := 6, slots := 83, locals := 2600 } : Room) [.ref (a (0)), .int (x), .int (y), .int (z), .int (u), .ref (a (200))] R (fun r lv' a' R' => LQ lv a R true (oKind M x y z u) r lv' a' R') (fun _ _ => False) 6 83 := by
  refine h_body (cc := cL_kind) (maxL := 7) (ret := (some .int)) (by decide) rfl (Nat.le_of_ble_eq_true rfl) ?_
  intro pr en st mi bl me co ls B ht hl
  obtain ⟨hx, hb, hr, hml, hown, hts, hlocks, hnm, hK, hZ, hc, hA⟩ := B
  have hl : lv_has ls 7 [(0, .ref (a (0))), (1, .int (x)), (2, .int (y)), (3, .int (z)), (4, .int (u)), (5, .ref (a (200)))] := hl
  refine lv_aload hx hb dL_kind_0 (lv_at hl 5 rfl) ?_
  refine lv_iconst (v := nI (0)) hx hb dL_kind_2 (by decide) ?_
  refine lv_aload_n hx hb dL_kind_3 rfl (lv_at hl 0 rfl) ?_
  refine lv_iload_n hx hb dL_kind_4 rfl (lv_at hl 1 rfl) ?_
  refine lv_iload_n hx hb dL_kind_5 rfl (lv_at hl 2 rfl) ?_
  refine lv_iload_n hx hb dL_kind_6 rfl (lv_at hl 3 rfl) ?_
  refine lv_iload hx hb dL_kind_7 (lv_at hl 4 rfl) ?_
  refine r_tryA (post := fun r lv' a' R' => QA lv a R (oKind M x y z u) r lv' a' R') (xp := XP R (oKind M x y z u) [IAE, UOE]) hc hA (vx_runV (As := [.int (x), .int (y), .int (z), .int (u)]) (rest := [.int (nI (0)), .ref (a (200))]) ⟨hx, hb, hml, hown, hts⟩ (c_X3_kind l hl9 D g lv a R M hr9 hC hI x y z u _) (cwV 4 hts gL_kind_X3_kind rfl rfl rfl (by decide +kernel) ⟨Nat.le_of_ble_eq_true rfl, Nat.le_of_ble_eq_true rfl⟩) (r_preV hK hZ hc hA (hr9.1.1) (rfl) rfl) rfl rfl hl.1 rfl (lv_room (Nat.le_of_ble_eq_true rfl)) dL_kind_9 ⟨Nat.le_of_ble_eq_true rfl, Nat.le_of_ble_eq_true rfl⟩) (fun E ce q9 R' H locs hp hc hq1 hq2 hq3 => ?_) (fun r lv1 a1 R' H locs hp hc => ?_)
  · obtain ⟨hRe, i9, ho, hi⟩ := hp
    rw [hRe] at hc
    rcases i9 with _ | _ | i9
    · have hE : IAE = E := Option.some.inj hi
      subst hE
      refine vx_catch hown [] ⟨0, 14, 17, 13⟩ [⟨0, 14, 21, 15⟩] (ht.trans rfl) (fun z hz => absurd hz List.not_mem_nil) (by decide) (by decide) (hts (.classLink RL 13 "java/lang/IllegalArgumentException") (by decide +kernel)) (va_Nw.use rfl (hK.2.2.2.2.1 IAE (by decide))) hq1 hq2 hq3 ?_
      show W _ _ _ _ _ _ _ _ _ _ _ _ _ _ _ (F0 mi 17 ls [.ref (q9)])
      refine lv_astore (lv' := [(6, .ref (q9)), (0, .ref (a (0))), (1, .int (x)), (2, .int (y)), (3, .int (z)), (4, .int (u)), (5, .ref (a (200)))]) hx hb dL_kind_17 hl (by decide) rfl (fun ls hl => ?_)
      refine lv_iconst (v := nI (1)) hx hb dL_kind_19 (by decide) ?_
      refine W.widen (k := 6) (n := 83) (by decide) (by decide) ?_
      refine vx_ret ?_
      exact r_iretA (post := fun r lv' a' R' => LQ lv a R true (oKind M x y z u) r lv' a' R') hx hb hr hlocks hc dL_kind_20 (lq_exc hr9 hC ho (sm_kind hI x y z u))
    · have hE : UOE = E := Option.some.inj hi
      subst hE
      refine vx_catch hown [⟨0, 14, 17, 13⟩] ⟨0, 14, 21, 15⟩ [] (ht.trans rfl) (fun z hz => by
          have hz : z ∈ ([⟨0, 14, 17, 13⟩] : List ExceptionTableEntry) := hz
          simp only [List.mem_cons, List.not_mem_nil, or_false] at hz
          rcases hz with rfl
          · exact Or.inr ⟨by decide, IAE, hts (.classLink RL 13 "java/lang/IllegalArgumentException") (by decide +kernel), hK.2.2.2.2.2.2 UOE (by decide) IAE (by decide) (by decide)⟩) (by decide) (by decide) (hts (.classLink RL 15 "java/lang/UnsupportedOperationException") (by decide +kernel)) (va_Nw.use rfl (hK.2.2.2.2.1 UOE (by decide))) hq1 hq2 hq3 ?_
      show W _ _ _ _ _ _ _ _ _ _ _ _ _ _ _ (F0 mi 21 ls [.ref (q9)])
      refine lv_astore (lv' := [(6, .ref (q9)), (0, .ref (a (0))), (1, .int (x)), (2, .int (y)), (3, .int (z)), (4, .int (u)), (5, .ref (a (200)))]) hx hb dL_kind_21 hl (by decide) rfl (fun ls hl => ?_)
      refine lv_iconst (v := nI (2)) hx hb dL_kind_23 (by decide) ?_
      refine W.widen (k := 6) (n := 83) (by decide) (by decide) ?_
      refine vx_ret ?_
      exact r_iretA (post := fun r lv' a' R' => LQ lv a R true (oKind M x y z u) r lv' a' R') hx hb hr hlocks hc dL_kind_24 (lq_exc hr9 hC ho (sm_kind hI x y z u))
    · simp at hi
  · skip
    have h201 : lv1 200 = true := (hp.2.2.2.2.1 200 (by decide)).1.trans h200
    refine w_st (st2 := [.int r, .int (nI 0), .ref (a1 200)]) (by rw [(hp.2.2.2.2.1 200 (by decide)).2.1]) ?_
    refine lv_i2l hx hb dL_kind_12 rfl ?_
    refine r_last hx hb hK.1 hc (h201) (rfl) (by decide) (by omega) dL_kind_13 (fun H locs hc => ?_)
    refine lv_goto (tgt := 25) hx hb dL_kind_14 (by decide) ?_
    refine lv_iconst (v := nI (0)) hx hb dL_kind_25 (by decide) ?_
    refine W.widen (k := 6) (n := 83) (by decide) (by decide) ?_
    refine vx_ret ?_
    exact r_iretA (post := fun r lv' a' R' => LQ lv a R true (oKind M x y z u) r lv' a' R') hx hb hr hlocks hc dL_kind_26 (lq_retA hp rfl)
set_option maxRecDepth 100000 in
set_option maxHeartbeats 4000000 in
theorem c_L_search (l : Launch) (hl9 : l.stackTraces = false) (D : va_G) (g : Nat → ClassId) (lv : Nat → Bool) (a : Nat → Nat) (R : RS) (M : MS) (hr9 : PCr lv a R M) (hC : PC R M) (hI : Inv M) (h200 : lv 200 = true) (x y : Int32) : xA l D g lv a yL_search wsL_search ({ frames := 90, cells := 6, slots := 83, locals := 2600 } : Room) [.ref (a (0)), .int (x), .int (y), .ref (a (200))] R (fun r lv' a' R' => LQ lv a R true (oSearch M x y) r lv' a' R') (fun _ _ => False) 6 83 := by
  refine h_body (cc := cL_search) (maxL := 5) (ret := (some .int)) (by decide) rfl (Nat.le_of_ble_eq_true rfl) ?_
  intro pr en st mi bl me co ls B ht hl
  obtain ⟨hx, hb, hr, hml, hown, hts, hlocks, hnm, hK, hZ, hc, hA⟩ := B
  have hl : lv_has ls 5 [(0, .ref (a (0))), (1, .int (x)), (2, .int (y)), (3, .ref (a (200)))] := hl
  refine lv_aload_n hx hb dL_search_0 rfl (lv_at hl 3 rfl) ?_
  refine lv_iconst (v := nI (0)) hx hb dL_search_1 (by decide) ?_
  refine lv_aload_n hx hb dL_search_2 rfl (lv_at hl 0 rfl) ?_
  refine lv_iload_n hx hb dL_search_3 rfl (lv_at hl 1 rfl) ?_
  refine lv_iload_n hx hb dL_search_4 rfl (lv_at hl 2 rfl) ?_
  refine r_tryI (post := fun r R' => QC R (oSearch M x y) r R') (xp := XP R (oSearch M x y) [NSE, IAE, ISE]) hc hA (vx_runV (As := [.int (x), .int (y)]) (rest := [.int (nI (0)), .ref (a (200))]) ⟨hx, hb, hml, hown, hts⟩ (c_X3_search l hl9 D g lv a R M hr9 hC hI x y _) (cwV 2 hts gL_search_X3_search rfl rfl rfl (by decide +kernel) ⟨Nat.le_of_ble_eq_true rfl, Nat.le_of_ble_eq_true rfl⟩) (r_preV hK hZ hc hA (hr9.1.1) (rfl) rfl) rfl rfl hl.1 rfl (lv_room (Nat.le_of_ble_eq_true rfl)) dL_search_5 ⟨Nat.le_of_ble_eq_true rfl, Nat.le_of_ble_eq_true rfl⟩) (fun E ce q9 R' H locs hp hc hq1 hq2 hq3 => ?_) (fun r R' H locs hp hc => ?_)
  · obtain ⟨hRe, i9, ho, hi⟩ := hp
    rw [hRe] at hc
    rcases i9 with _ | _ | _ | i9
    · have hE : NSE = E := Option.some.inj hi
      subst hE
      refine vx_catch hown [] ⟨0, 10, 13, 21⟩ [⟨0, 10, 17, 13⟩, ⟨0, 10, 21, 23⟩] (ht.trans rfl) (fun z hz => absurd hz List.not_mem_nil) (by decide) (by decide) (hts (.classLink RL 21 "java/util/NoSuchElementException") (by decide +kernel)) (va_Nw.use rfl (hK.2.2.2.2.1 NSE (by decide))) hq1 hq2 hq3 ?_
      show W _ _ _ _ _ _ _ _ _ _ _ _ _ _ _ (F0 mi 13 ls [.ref (q9)])
      refine lv_astore (lv' := [(4, .ref (q9)), (0, .ref (a (0))), (1, .int (x)), (2, .int (y)), (3, .ref (a (200)))]) hx hb dL_search_13 hl (by decide) rfl (fun ls hl => ?_)
      refine lv_iconst (v := nI (1)) hx hb dL_search_15 (by decide) ?_
      refine W.widen (k := 6) (n := 83) (by decide) (by decide) ?_
      refine vx_ret ?_
      exact r_iretA (post := fun r lv' a' R' => LQ lv a R true (oSearch M x y) r lv' a' R') hx hb hr hlocks hc dL_search_16 (lq_exc hr9 hC ho (sm_search hI x y).1)
    · have hE : IAE = E := Option.some.inj hi
      subst hE
      refine vx_catch hown [⟨0, 10, 13, 21⟩] ⟨0, 10, 17, 13⟩ [⟨0, 10, 21, 23⟩] (ht.trans rfl) (fun z hz => by
          have hz : z ∈ ([⟨0, 10, 13, 21⟩] : List ExceptionTableEntry) := hz
          simp only [List.mem_cons, List.not_mem_nil, or_false] at hz
          rcases hz with rfl
          · exact Or.inr ⟨by decide, NSE, hts (.classLink RL 21 "java/util/NoSuchElementException") (by decide +kernel), hK.2.2.2.2.2.2 IAE (by decide) NSE (by decide) (by decide)⟩) (by decide) (by decide) (hts (.classLink RL 13 "java/lang/IllegalArgumentException") (by decide +kernel)) (va_Nw.use rfl (hK.2.2.2.2.1 IAE (by decide))) hq1 hq2 hq3 ?_
      show W _ _ _ _ _ _ _ _ _ _ _ _ _ _ _ (F0 mi 17 ls [.ref (q9)])
      refine lv_astore (lv' := [(4, .ref (q9)), (0, .ref (a (0))), (1, .int (x)), (2, .int (y)), (3, .ref (a (200)))]) hx hb dL_search_17 hl (by decide) rfl (fun ls hl => ?_)
      refine lv_iconst (v := nI (2)) hx hb dL_search_19 (by decide) ?_
      refine W.widen (k := 6) (n := 83) (by decide) (by decide) ?_
      refine vx_ret ?_
      exact r_iretA (post := fun r lv' a' R' => LQ lv a R true (oSearch M x y) r lv' a' R') hx hb hr hlocks hc dL_search_20 (lq_exc hr9 hC ho (sm_search hI x y).1)
    · have hE : ISE = E := Option.some.inj hi
      subst hE
      refine vx_catch hown [⟨0, 10, 13, 21⟩, ⟨0, 10, 17, 13⟩] ⟨0, 10, 21, 23⟩ [] (ht.trans rfl) (fun z hz => by
          have hz : z ∈ ([⟨0, 10, 13, 21⟩, ⟨0, 10, 17, 13⟩] : List ExceptionTableEntry) := hz
          simp only [List.mem_cons, List.not_mem_nil, or_false] at hz
          rcases hz with rfl | rfl
          · exact Or.inr ⟨by decide, NSE, hts (.classLink RL 21 "java/util/NoSuchElementException") (by decide +kernel), hK.2.2.2.2.2.2 ISE (by decide) NSE (by decide) (by decide)⟩
          · exact Or.inr ⟨by decide, IAE, hts (.classLink RL 13 "java/lang/IllegalArgumentException") (by decide +kernel), hK.2.2.2.2.2.2 ISE (by decide) IAE (by decide) (by decide)⟩) (by decide) (by decide) (hts (.classLink RL 23 "java/lang/IllegalStateException") (by decide +kernel)) (va_Nw.use rfl (hK.2.2.2.2.1 ISE (by decide))) hq1 hq2 hq3 ?_
      show W _ _ _ _ _ _ _ _ _ _ _ _ _ _ _ (F0 mi 21 ls [.ref (q9)])
      refine lv_astore (lv' := [(4, .ref (q9)), (0, .ref (a (0))), (1, .int (x)), (2, .int (y)), (3, .ref (a (200)))]) hx hb dL_search_21 hl (by decide) rfl (fun ls hl => ?_)
      refine lv_iconst (v := nI (3)) hx hb dL_search_23 (by decide) ?_
      refine W.widen (k := 6) (n := 83) (by decide) (by decide) ?_
      refine vx_ret ?_
      exact r_iretA (post := fun r lv' a' R' => LQ lv a R true (oSearch M x y) r lv' a' R') hx hb hr hlocks hc dL_search_24 (lq_exc hr9 hC ho (sm_search hI x y).1)
    · simp at hi
  · skip
    refine lv_i2l hx hb dL_search_8 rfl ?_
    refine r_last hx hb hK.1 hc (h200) (rfl) (by decide) (by omega) dL_search_9 (fun H locs hc => ?_)
    refine lv_goto (tgt := 25) hx hb dL_search_10 (by decide) ?_
    refine lv_iconst (v := nI (0)) hx hb dL_search_25 (by decide) ?_
    refine W.widen (k := 6) (n := 83) (by decide) (by decide) ?_
    refine vx_ret ?_
    exact r_iretA (post := fun r lv' a' R' => LQ lv a R true (oSearch M x y) r lv' a' R') hx hb hr hlocks hc dL_search_26 (lq_ret hr9 hp (sm_search hI x y) rfl)
set_option maxRecDepth 100000 in
set_option maxHeartbeats 4000000 in
theorem c_L_pattern (l : Launch) (hl9 : l.stackTraces = false) (D : va_G) (g : Nat → ClassId) (lv : Nat → Bool) (a : Nat → Nat) (R : RS) (M : MS) (hr9 : PCr lv a R M) (hC : PC R M) (hI : Inv M) (h200 : lv 200 = true) (x y z : Int32) : xA l D g lv a yL_pattern wsLP ({ frames := 90, cells := 6, slots := 83, locals := 2600 } : Room) [.ref (a (0)), .int (x), .int (y), .int (z), .ref (a (200))] R (fun r lv' a' R' => LQ lv a R true (oPattern M x y z) r lv' a' R') (fun _ _ => False) 6 83 := by
  refine h_body (cc := cL_pattern) (maxL := 6) (ret := (some .int)) (by decide) rfl (Nat.le_of_ble_eq_true rfl) ?_
  intro pr en st mi bl me co ls B ht hl
  obtain ⟨hx, hb, hr, hml, hown, hts, hlocks, hnm, hK, hZ, hc, hA⟩ := B
  have hl : lv_has ls 6 [(0, .ref (a (0))), (1, .int (x)), (2, .int (y)), (3, .int (z)), (4, .ref (a (200)))] := hl
  refine lv_aload hx hb dL_pattern_0 (lv_at hl 4 rfl) ?_
  refine lv_iconst (v := nI (0)) hx hb dL_pattern_2 (by decide) ?_
  refine lv_aload_n hx hb dL_pattern_3 rfl (lv_at hl 0 rfl) ?_
  refine lv_iload_n hx hb dL_pattern_4 rfl (lv_at hl 1 rfl) ?_
  refine lv_iload_n hx hb dL_pattern_5 rfl (lv_at hl 2 rfl) ?_
  refine lv_iload_n hx hb dL_pattern_6 rfl (lv_at hl 3 rfl) ?_
  refine r_tryI (post := fun r R' => QC R (oPattern M x y z) r R') (xp := XP R (oPattern M x y z) [NSE, IAE, AIO]) hc hA (vx_runV (As := [.int (x), .int (y), .int (z)]) (rest := [.int (nI (0)), .ref (a (200))]) ⟨hx, hb, hml, hown, hts⟩ (c_X3_pattern l hl9 D g lv a R M hr9 hC hI x y z _) (cwV 3 hts gLP rfl rfl rfl (by decide +kernel) ⟨Nat.le_of_ble_eq_true rfl, Nat.le_of_ble_eq_true rfl⟩) (r_preV hK hZ hc hA (hr9.1.1) (rfl) rfl) rfl rfl hl.1 rfl (lv_room (Nat.le_of_ble_eq_true rfl)) dL_pattern_7 ⟨Nat.le_of_ble_eq_true rfl, Nat.le_of_ble_eq_true rfl⟩) (fun E ce q9 R' H locs hp hc hq1 hq2 hq3 => ?_) (fun r R' H locs hp hc => ?_)
  · obtain ⟨hRe, i9, ho, hi⟩ := hp
    rw [hRe] at hc
    rcases i9 with _ | _ | _ | i9
    · have hE : NSE = E := Option.some.inj hi
      subst hE
      refine vx_catch hown [] ⟨0, 12, 15, 21⟩ [⟨0, 12, 19, 13⟩, ⟨0, 12, 23, 29⟩] (ht.trans rfl) (fun z hz => absurd hz List.not_mem_nil) (by decide) (by decide) (hts (.classLink RL 21 "java/util/NoSuchElementException") (by decide +kernel)) (va_Nw.use rfl (hK.2.2.2.2.1 NSE (by decide))) hq1 hq2 hq3 ?_
      show W _ _ _ _ _ _ _ _ _ _ _ _ _ _ _ (F0 mi 15 ls [.ref (q9)])
      refine lv_astore (lv' := [(5, .ref (q9)), (0, .ref (a (0))), (1, .int (x)), (2, .int (y)), (3, .int (z)), (4, .ref (a (200)))]) hx hb dL_pattern_15 hl (by decide) rfl (fun ls hl => ?_)
      refine lv_iconst (v := nI (1)) hx hb dL_pattern_17 (by decide) ?_
      refine W.widen (k := 6) (n := 83) (by decide) (by decide) ?_
      refine vx_ret ?_
      exact r_iretA (post := fun r lv' a' R' => LQ lv a R true (oPattern M x y z) r lv' a' R') hx hb hr hlocks hc dL_pattern_18 (lq_exc hr9 hC ho (sm_pattern hI x y z).1)
    · have hE : IAE = E := Option.some.inj hi
      subst hE
      refine vx_catch hown [⟨0, 12, 15, 21⟩] ⟨0, 12, 19, 13⟩ [⟨0, 12, 23, 29⟩] (ht.trans rfl) (fun z hz => by
          have hz : z ∈ ([⟨0, 12, 15, 21⟩] : List ExceptionTableEntry) := hz
          simp only [List.mem_cons, List.not_mem_nil, or_false] at hz
          rcases hz with rfl
          · exact Or.inr ⟨by decide, NSE, hts (.classLink RL 21 "java/util/NoSuchElementException") (by decide +kernel), hK.2.2.2.2.2.2 IAE (by decide) NSE (by decide) (by decide)⟩) (by decide) (by decide) (hts (.classLink RL 13 "java/lang/IllegalArgumentException") (by decide +kernel)) (va_Nw.use rfl (hK.2.2.2.2.1 IAE (by decide))) hq1 hq2 hq3 ?_
      show W _ _ _ _ _ _ _ _ _ _ _ _ _ _ _ (F0 mi 19 ls [.ref (q9)])
      refine lv_astore (lv' := [(5, .ref (q9)), (0, .ref (a (0))), (1, .int (x)), (2, .int (y)), (3, .int (z)), (4, .ref (a (200)))]) hx hb dL_pattern_19 hl (by decide) rfl (fun ls hl => ?_)
      refine lv_iconst (v := nI (2)) hx hb dL_pattern_21 (by decide) ?_
      refine W.widen (k := 6) (n := 83) (by decide) (by decide) ?_
      refine vx_ret ?_
      exact r_iretA (post := fun r lv' a' R' => LQ lv a R true (oPattern M x y z) r lv' a' R') hx hb hr hlocks hc dL_pattern_22 (lq_exc hr9 hC ho (sm_pattern hI x y z).1)
    · have hE : AIO = E := Option.some.inj hi
      subst hE
      refine vx_catch hown [⟨0, 12, 15, 21⟩, ⟨0, 12, 19, 13⟩] ⟨0, 12, 23, 29⟩ [] (ht.trans rfl) (fun z hz => by
          have hz : z ∈ ([⟨0, 12, 15, 21⟩, ⟨0, 12, 19, 13⟩] : List ExceptionTableEntry) := hz
          simp only [List.mem_cons, List.not_mem_nil, or_false] at hz
          rcases hz with rfl | rfl
          · exact Or.inr ⟨by decide, NSE, hts (.classLink RL 21 "java/util/NoSuchElementException") (by decide +kernel), hK.2.2.2.2.2.2 AIO (by decide) NSE (by decide) (by decide)⟩
          · exact Or.inr ⟨by decide, IAE, hts (.classLink RL 13 "java/lang/IllegalArgumentException") (by decide +kernel), hK.2.2.2.2.2.2 AIO (by decide) IAE (by decide) (by decide)⟩) (by decide) (by decide) (hts (.classLink RL 29 "java/lang/ArrayIndexOutOfBoundsException") (by decide +kernel)) (va_Nw.use rfl (hK.2.2.2.2.1 AIO (by decide))) hq1 hq2 hq3 ?_
      show W _ _ _ _ _ _ _ _ _ _ _ _ _ _ _ (F0 mi 23 ls [.ref (q9)])
      refine lv_astore (lv' := [(5, .ref (q9)), (0, .ref (a (0))), (1, .int (x)), (2, .int (y)), (3, .int (z)), (4, .ref (a (200)))]) hx hb dL_pattern_23 hl (by decide) rfl (fun ls hl => ?_)
      refine lv_iconst (v := nI (3)) hx hb dL_pattern_25 (by decide) ?_
      refine W.widen (k := 6) (n := 83) (by decide) (by decide) ?_
      refine vx_ret ?_
      exact r_iretA (post := fun r lv' a' R' => LQ lv a R true (oPattern M x y z) r lv' a' R') hx hb hr hlocks hc dL_pattern_26 (lq_exc hr9 hC ho (sm_pattern hI x y z).1)
    · simp at hi
  · skip
    refine lv_i2l hx hb dL_pattern_10 rfl ?_
    refine r_last hx hb hK.1 hc (h200) (rfl) (by decide) (by omega) dL_pattern_11 (fun H locs hc => ?_)
    refine lv_goto (tgt := 27) hx hb dL_pattern_12 (by decide) ?_
    refine lv_iconst (v := nI (0)) hx hb dL_pattern_27 (by decide) ?_
    refine W.widen (k := 6) (n := 83) (by decide) (by decide) ?_
    refine vx_ret ?_
    exact r_iretA (post := fun r lv' a' R' => LQ lv a R true (oPattern M x y z) r lv' a' R') hx hb hr hlocks hc dL_pattern_28 (lq_ret hr9 hp (sm_pattern hI x y z) rfl)
set_option maxRecDepth 100000 in
set_option maxHeartbeats 4000000 in
theorem c_L_exact (l : Launch) (hl9 : l.stackTraces = false) (D : va_G) (g : Nat → ClassId) (lv : Nat → Bool) (a : Nat → Nat) (R : RS) (M : MS) (hr9 : PCr lv a R M) (hC : PC R M) (hI : Inv M) (h200 : lv 200 = true) (x : Int32) : xA l D g lv a yL_exact wsL_exact ({ frames := 90, cells := 6, slots := 83, locals := 2600 } : Room) [.ref (a (0)), .int (x), .ref (a (200))] R (fun r lv' a' R' => LQ lv a R true (oExact M x) r lv' a' R') (fun _ _ => False) 6 83 := by
  refine h_body (cc := cL_exact) (maxL := 4) (ret := (some .int)) (by decide) rfl (Nat.le_of_ble_eq_true rfl) ?_
  intro pr en st mi bl me co ls B ht hl
  obtain ⟨hx, hb, hr, hml, hown, hts, hlocks, hnm, hK, hZ, hc, hA⟩ := B
  have hl : lv_has ls 4 [(0, .ref (a (0))), (1, .int (x)), (2, .ref (a (200)))] := hl
  refine lv_aload_n hx hb dL_exact_0 rfl (lv_at hl 2 rfl) ?_
  refine lv_iconst (v := nI (0)) hx hb dL_exact_1 (by decide) ?_
  refine lv_aload_n hx hb dL_exact_2 rfl (lv_at hl 0 rfl) ?_
  refine lv_iload_n hx hb dL_exact_3 rfl (lv_at hl 1 rfl) ?_
  refine r_tryI (post := fun r R' => QC R (oExact M x) r R') (xp := XP R (oExact M x) [NSE]) hc hA (vx_runV (As := [.int (x)]) (rest := [.int (nI (0)), .ref (a (200))]) ⟨hx, hb, hml, hown, hts⟩ (c_X3_exact l hl9 D g lv a R M hr9 hC hI x _) (cwV 1 hts gL_exact_X3_exact rfl rfl rfl (by decide +kernel) ⟨Nat.le_of_ble_eq_true rfl, Nat.le_of_ble_eq_true rfl⟩) (r_preV hK hZ hc hA (hr9.1.1) (rfl) rfl) rfl rfl hl.1 rfl (lv_room (Nat.le_of_ble_eq_true rfl)) dL_exact_4 ⟨Nat.le_of_ble_eq_true rfl, Nat.le_of_ble_eq_true rfl⟩) (fun E ce q9 R' H locs hp hc hq1 hq2 hq3 => ?_) (fun r R' H locs hp hc => ?_)
  · obtain ⟨hRe, i9, ho, hi⟩ := hp
    rw [hRe] at hc
    rcases i9 with _ | i9
    · have hE : NSE = E := Option.some.inj hi
      subst hE
      refine vx_catch hown [] ⟨0, 16, 19, 21⟩ [] (ht.trans rfl) (fun z hz => absurd hz List.not_mem_nil) (by decide) (by decide) (hts (.classLink RL 21 "java/util/NoSuchElementException") (by decide +kernel)) (va_Nw.use rfl (hK.2.2.2.2.1 NSE (by decide))) hq1 hq2 hq3 ?_
      show W _ _ _ _ _ _ _ _ _ _ _ _ _ _ _ (F0 mi 19 ls [.ref (q9)])
      refine lv_astore_n (lv' := [(3, .ref (q9)), (0, .ref (a (0))), (1, .int (x)), (2, .ref (a (200)))]) hx hb dL_exact_19 rfl hl (by decide) rfl (fun ls hl => ?_)
      refine lv_iconst (v := nI (1)) hx hb dL_exact_20 (by decide) ?_
      refine W.widen (k := 6) (n := 83) (by decide) (by decide) ?_
      refine vx_ret ?_
      exact r_iretA (post := fun r lv' a' R' => LQ lv a R true (oExact M x) r lv' a' R') hx hb hr hlocks hc dL_exact_21 (lq_exc hr9 hC ho (sm_exact hI x).1)
    · simp at hi
  · skip
    have h9 : r = nI 0 ∨ r = nI 1 := by rw [hp.2.1]; exact ex_01 hI hp.1
    rcases h9 with h9 | h9
    · rw [h9]
      rw [h9] at hp
      refine lv_if_eq (tgt := 14) hx hb dL_exact_7 (by decide) (fun hq_1 => ?_) (fun hq_1 => absurd hq_1 (by decide))
      refine lv_lconst (v := lN 0) hx hb dL_exact_14 (by decide) ?_
      refine r_last hx hb hK.1 hc (h200) (rfl) (by decide) (by omega) dL_exact_15 (fun H locs hc => ?_)
      refine lv_goto (tgt := 22) hx hb dL_exact_16 (by decide) ?_
      refine lv_iconst (v := nI (0)) hx hb dL_exact_22 (by decide) ?_
      refine W.widen (k := 6) (n := 83) (by decide) (by decide) ?_
      refine vx_ret ?_
      exact r_iretA (post := fun r lv' a' R' => LQ lv a R true (oExact M x) r lv' a' R') hx hb hr hlocks hc dL_exact_23 (lq_ret hr9 hp (sm_exact hI x) (by decide))
    · rw [h9]
      rw [h9] at hp
      refine lv_if_eq (tgt := 14) hx hb dL_exact_7 (by decide) (fun hq_2 => absurd hq_2 (by decide)) (fun hq_2 => ?_)
      refine lv_lconst (v := lN 1) hx hb dL_exact_10 (by decide) ?_
      refine lv_goto (tgt := 15) hx hb dL_exact_11 (by decide) ?_
      refine r_last hx hb hK.1 hc (h200) (rfl) (by decide) (by omega) dL_exact_15 (fun H locs hc => ?_)
      refine lv_goto (tgt := 22) hx hb dL_exact_16 (by decide) ?_
      refine lv_iconst (v := nI (0)) hx hb dL_exact_22 (by decide) ?_
      refine W.widen (k := 6) (n := 83) (by decide) (by decide) ?_
      refine vx_ret ?_
      exact r_iretA (post := fun r lv' a' R' => LQ lv a R true (oExact M x) r lv' a' R') hx hb hr hlocks hc dL_exact_23 (lq_ret hr9 hp (sm_exact hI x) (by decide))
set_option maxRecDepth 100000 in
set_option maxHeartbeats 4000000 in
theorem c_L_bound (l : Launch) (hl9 : l.stackTraces = false) (D : va_G) (g : Nat → ClassId) (lv : Nat → Bool) (a : Nat → Nat) (R : RS) (M : MS) (hr9 : PCr lv a R M) (hC : PC R M) (hI : Inv M) (h200 : lv 200 = true) (x : Int32) : xA l D g lv a yL_bound wsL_bound ({ frames := 90, cells := 6, slots := 83, locals := 2600 } : Room) [.ref (a (0)), .int (x), .ref (a (200))] R (fun r lv' a' R' => LQ lv a R true (oBound M x) r lv' a' R') (fun _ _ => False) 6 83 := by
  refine h_body (cc := cL_bound) (maxL := 4) (ret := (some .int)) (by decide) rfl (Nat.le_of_ble_eq_true rfl) ?_
  intro pr en st mi bl me co ls B ht hl
  obtain ⟨hx, hb, hr, hml, hown, hts, hlocks, hnm, hK, hZ, hc, hA⟩ := B
  have hl : lv_has ls 4 [(0, .ref (a (0))), (1, .int (x)), (2, .ref (a (200)))] := hl
  refine lv_aload_n hx hb dL_bound_0 rfl (lv_at hl 2 rfl) ?_
  refine lv_iconst (v := nI (0)) hx hb dL_bound_1 (by decide) ?_
  refine lv_aload_n hx hb dL_bound_2 rfl (lv_at hl 0 rfl) ?_
  refine lv_iload_n hx hb dL_bound_3 rfl (lv_at hl 1 rfl) ?_
  refine r_tryI (post := fun r R' => QC R (oBound M x) r R') (xp := XP R (oBound M x) [NSE]) hc hA (vx_runV (As := [.int (x)]) (rest := [.int (nI (0)), .ref (a (200))]) ⟨hx, hb, hml, hown, hts⟩ (c_X3_bound l hl9 D g lv a R M hr9 hC hI x _) (cwV 1 hts gL_bound_X3_bound rfl rfl rfl (by decide +kernel) ⟨Nat.le_of_ble_eq_true rfl, Nat.le_of_ble_eq_true rfl⟩) (r_preV hK hZ hc hA (hr9.1.1) (rfl) rfl) rfl rfl hl.1 rfl (lv_room (Nat.le_of_ble_eq_true rfl)) dL_bound_4 ⟨Nat.le_of_ble_eq_true rfl, Nat.le_of_ble_eq_true rfl⟩) (fun E ce q9 R' H locs hp hc hq1 hq2 hq3 => ?_) (fun r R' H locs hp hc => ?_)
  · obtain ⟨hRe, i9, ho, hi⟩ := hp
    rw [hRe] at hc
    rcases i9 with _ | i9
    · have hE : NSE = E := Option.some.inj hi
      subst hE
      refine vx_catch hown [] ⟨0, 9, 12, 21⟩ [] (ht.trans rfl) (fun z hz => absurd hz List.not_mem_nil) (by decide) (by decide) (hts (.classLink RL 21 "java/util/NoSuchElementException") (by decide +kernel)) (va_Nw.use rfl (hK.2.2.2.2.1 NSE (by decide))) hq1 hq2 hq3 ?_
      show W _ _ _ _ _ _ _ _ _ _ _ _ _ _ _ (F0 mi 12 ls [.ref (q9)])
      refine lv_astore_n (lv' := [(3, .ref (q9)), (0, .ref (a (0))), (1, .int (x)), (2, .ref (a (200)))]) hx hb dL_bound_12 rfl hl (by decide) rfl (fun ls hl => ?_)
      refine lv_iconst (v := nI (1)) hx hb dL_bound_13 (by decide) ?_
      refine W.widen (k := 6) (n := 83) (by decide) (by decide) ?_
      refine vx_ret ?_
      exact r_iretA (post := fun r lv' a' R' => LQ lv a R true (oBound M x) r lv' a' R') hx hb hr hlocks hc dL_bound_14 (lq_exc hr9 hC ho (sm_bound hI x).1)
    · simp at hi
  · skip
    refine lv_i2l hx hb dL_bound_7 rfl ?_
    refine r_last hx hb hK.1 hc (h200) (rfl) (by decide) (by omega) dL_bound_8 (fun H locs hc => ?_)
    refine lv_goto (tgt := 15) hx hb dL_bound_9 (by decide) ?_
    refine lv_iconst (v := nI (0)) hx hb dL_bound_15 (by decide) ?_
    refine W.widen (k := 6) (n := 83) (by decide) (by decide) ?_
    refine vx_ret ?_
    exact r_iretA (post := fun r lv' a' R' => LQ lv a R true (oBound M x) r lv' a' R') hx hb hr hlocks hc dL_bound_16 (lq_ret hr9 hp (sm_bound hI x) rfl)
set_option maxRecDepth 100000 in
set_option maxHeartbeats 4000000 in
theorem c_L_rules (l : Launch) (hl9 : l.stackTraces = false) (D : va_G) (g : Nat → ClassId) (lv : Nat → Bool) (a : Nat → Nat) (R : RS) (M : MS) (hr9 : PCr lv a R M) (hC : PC R M) (hI : Inv M) (h200 : lv 200 = true) (x y z : Int32) : xA l D g lv a yL_rules wsL_rules ({ frames := 90, cells := 6, slots := 83, locals := 2600 } : Room) [.ref (a (0)), .int (x), .int (y), .int (z)] R (fun r lv' a' R' => LQ lv a R false (oRules M x y z) r lv' a' R') (fun _ _ => False) 6 83 := by
  refine h_body (cc := cL_rules) (maxL := 5) (ret := (some .int)) (by decide) rfl (Nat.le_of_ble_eq_true rfl) ?_
  intro pr en st mi bl me co ls B ht hl
  obtain ⟨hx, hb, hr, hml, hown, hts, hlocks, hnm, hK, hZ, hc, hA⟩ := B
  have hl : lv_has ls 5 [(0, .ref (a (0))), (1, .int (x)), (2, .int (y)), (3, .int (z))] := hl
  refine lv_aload_n hx hb dL_rules_0 rfl (lv_at hl 0 rfl) ?_
  refine lv_iload_n hx hb dL_rules_1 rfl (lv_at hl 1 rfl) ?_
  refine lv_iload_n hx hb dL_rules_2 rfl (lv_at hl 2 rfl) ?_
  refine lv_iload_n hx hb dL_rules_3 rfl (lv_at hl 3 rfl) ?_
  refine r_tryV (post := fun R' => QC R (oRules M x y z) (nI 0) R') (xp := XP R (oRules M x y z) [IAE]) hc hA (vx_runV (As := [.int (x), .int (y), .int (z)]) (rest := []) ⟨hx, hb, hml, hown, hts⟩ (c_X3_rules l hl9 D g lv a R M hr9 hC hI x y z _) (cwV 3 hts gL_rules_X3_rules rfl rfl rfl (by decide +kernel) ⟨Nat.le_of_ble_eq_true rfl, Nat.le_of_ble_eq_true rfl⟩) (r_preV hK hZ hc hA (hr9.1.1) (rfl) rfl) rfl rfl hl.1 rfl (lv_room (Nat.le_of_ble_eq_true rfl)) dL_rules_4 ⟨Nat.le_of_ble_eq_true rfl, Nat.le_of_ble_eq_true rfl⟩) (fun E ce q9 R' H locs hp hc hq1 hq2 hq3 => ?_) (fun R' H locs hp hc => ?_)
  · obtain ⟨hRe, i9, ho, hi⟩ := hp
    rw [hRe] at hc
    rcases i9 with _ | i9
    · have hE : IAE = E := Option.some.inj hi
      subst hE
      refine vx_catch hown [] ⟨0, 7, 10, 13⟩ [] (ht.trans rfl) (fun z hz => absurd hz List.not_mem_nil) (by decide) (by decide) (hts (.classLink RL 13 "java/lang/IllegalArgumentException") (by decide +kernel)) (va_Nw.use rfl (hK.2.2.2.2.1 IAE (by decide))) hq1 hq2 hq3 ?_
      show W _ _ _ _ _ _ _ _ _ _ _ _ _ _ _ (F0 mi 10 ls [.ref (q9)])
      refine lv_astore (lv' := [(4, .ref (q9)), (0, .ref (a (0))), (1, .int (x)), (2, .int (y)), (3, .int (z))]) hx hb dL_rules_10 hl (by decide) rfl (fun ls hl => ?_)
      refine lv_iconst (v := nI (1)) hx hb dL_rules_12 (by decide) ?_
      refine W.widen (k := 6) (n := 83) (by decide) (by decide) ?_
      refine vx_ret ?_
      exact r_iretA (post := fun r lv' a' R' => LQ lv a R false (oRules M x y z) r lv' a' R') hx hb hr hlocks hc dL_rules_13 (lq_exc hr9 hC ho (sm_rules hI x y z).1)
    · simp at hi
  · skip
    refine lv_goto (tgt := 14) hx hb dL_rules_7 (by decide) ?_
    refine lv_iconst (v := nI (0)) hx hb dL_rules_14 (by decide) ?_
    refine W.widen (k := 6) (n := 83) (by decide) (by decide) ?_
    refine vx_ret ?_
    exact r_iretA (post := fun r lv' a' R' => LQ lv a R false (oRules M x y z) r lv' a' R') hx hb hr hlocks hc dL_rules_15 (lq_retV hr9 hp (sm_rules hI x y z))
set_option maxRecDepth 100000 in
set_option maxHeartbeats 4000000 in
theorem c_L_pallet (l : Launch) (hl9 : l.stackTraces = false) (D : va_G) (g : Nat → ClassId) (lv : Nat → Bool) (a : Nat → Nat) (R : RS) (M : MS) (hr9 : PCr lv a R M) (hC : PC R M) (hI : Inv M) (h200 : lv 200 = true) : xA l D g lv a yL_pallet wsL_pallet ({ frames := 90, cells := 6, slots := 83, locals := 2600 } : Room) [.ref (a (0)), .ref (a (200))] R (fun r lv' a' R' => LQ lv a R true (oPallet M) r lv' a' R') (fun _ _ => False) 6 83 := by
  refine h_body (cc := cL_pallet) (maxL := 3) (ret := (some .int)) (by decide) rfl (Nat.le_of_ble_eq_true rfl) ?_
  intro pr en st mi bl me co ls B ht hl
  obtain ⟨hx, hb, hr, hml, hown, hts, hlocks, hnm, hK, hZ, hc, hA⟩ := B
  have hl : lv_has ls 3 [(0, .ref (a (0))), (1, .ref (a (200)))] := hl
  refine lv_aload_n hx hb dL_pallet_0 rfl (lv_at hl 1 rfl) ?_
  refine lv_iconst (v := nI (0)) hx hb dL_pallet_1 (by decide) ?_
  refine lv_aload_n hx hb dL_pallet_2 rfl (lv_at hl 0 rfl) ?_
  refine r_tryA (post := fun r lv' a' R' => QA lv a R (oPallet M) r lv' a' R') (xp := XP R (oPallet M) [UOE]) hc hA (vx_runV (As := []) (rest := [.int (nI (0)), .ref (a (200))]) ⟨hx, hb, hml, hown, hts⟩ (c_X3_pallet l hl9 D g lv a R M hr9 hC hI _) (cwV 0 hts gL_pallet_X3_pallet rfl rfl rfl (by decide +kernel) ⟨Nat.le_of_ble_eq_true rfl, Nat.le_of_ble_eq_true rfl⟩) (r_preV hK hZ hc hA (hr9.1.1) (rfl) rfl) rfl rfl hl.1 rfl (lv_room (Nat.le_of_ble_eq_true rfl)) dL_pallet_3 ⟨Nat.le_of_ble_eq_true rfl, Nat.le_of_ble_eq_true rfl⟩) (fun E ce q9 R' H locs hp hc hq1 hq2 hq3 => ?_) (fun r lv1 a1 R' H locs hp hc => ?_)
  · obtain ⟨hRe, i9, ho, hi⟩ := hp
    rw [hRe] at hc
    rcases i9 with _ | i9
    · have hE : UOE = E := Option.some.inj hi
      subst hE
      refine vx_catch hown [] ⟨0, 8, 11, 15⟩ [] (ht.trans rfl) (fun z hz => absurd hz List.not_mem_nil) (by decide) (by decide) (hts (.classLink RL 15 "java/lang/UnsupportedOperationException") (by decide +kernel)) (va_Nw.use rfl (hK.2.2.2.2.1 UOE (by decide))) hq1 hq2 hq3 ?_
      show W _ _ _ _ _ _ _ _ _ _ _ _ _ _ _ (F0 mi 11 ls [.ref (q9)])
      refine lv_astore_n (lv' := [(2, .ref (q9)), (0, .ref (a (0))), (1, .ref (a (200)))]) hx hb dL_pallet_11 rfl hl (by decide) rfl (fun ls hl => ?_)
      refine lv_iconst (v := nI (1)) hx hb dL_pallet_12 (by decide) ?_
      refine W.widen (k := 6) (n := 83) (by decide) (by decide) ?_
      refine vx_ret ?_
      exact r_iretA (post := fun r lv' a' R' => LQ lv a R true (oPallet M) r lv' a' R') hx hb hr hlocks hc dL_pallet_13 (lq_exc hr9 hC ho (sm_pallet hI))
    · simp at hi
  · skip
    have h201 : lv1 200 = true := (hp.2.2.2.2.1 200 (by decide)).1.trans h200
    refine w_st (st2 := [.int r, .int (nI 0), .ref (a1 200)]) (by rw [(hp.2.2.2.2.1 200 (by decide)).2.1]) ?_
    refine lv_i2l hx hb dL_pallet_6 rfl ?_
    refine r_last hx hb hK.1 hc (h201) (rfl) (by decide) (by omega) dL_pallet_7 (fun H locs hc => ?_)
    refine lv_goto (tgt := 14) hx hb dL_pallet_8 (by decide) ?_
    refine lv_iconst (v := nI (0)) hx hb dL_pallet_14 (by decide) ?_
    refine W.widen (k := 6) (n := 83) (by decide) (by decide) ?_
    refine vx_ret ?_
    exact r_iretA (post := fun r lv' a' R' => LQ lv a R true (oPallet M) r lv' a' R') hx hb hr hlocks hc dL_pallet_15 (lq_retA hp rfl)
set_option maxRecDepth 100000 in
set_option maxHeartbeats 4000000 in
theorem c_L_put (l : Launch) (hl9 : l.stackTraces = false) (D : va_G) (g : Nat → ClassId) (lv : Nat → Bool) (a : Nat → Nat) (R : RS) (M : MS) (hr9 : PCr lv a R M) (hC : PC R M) (hI : Inv M) (h200 : lv 200 = true) (x y z : Int32) : xA l D g lv a yL_put wsL_put ({ frames := 90, cells := 6, slots := 83, locals := 2600 } : Room) [.ref (a (0)), .int (x), .int (y), .int (z), .ref (a (200))] R (fun r lv' a' R' => LQ lv a R true (oPut M x y z) r lv' a' R') (fun _ _ => False) 6 83 := by
  refine h_body (cc := cL_put) (maxL := 6) (ret := (some .int)) (by decide) rfl (Nat.le_of_ble_eq_true rfl) ?_
  intro pr en st mi bl me co ls B ht hl
  obtain ⟨hx, hb, hr, hml, hown, hts, hlocks, hnm, hK, hZ, hc, hA⟩ := B
  have hl : lv_has ls 6 [(0, .ref (a (0))), (1, .int (x)), (2, .int (y)), (3, .int (z)), (4, .ref (a (200)))] := hl
  refine lv_aload hx hb dL_put_0 (lv_at hl 4 rfl) ?_
  refine lv_iconst (v := nI (0)) hx hb dL_put_2 (by decide) ?_
  refine lv_aload_n hx hb dL_put_3 rfl (lv_at hl 0 rfl) ?_
  refine lv_iload_n hx hb dL_put_4 rfl (lv_at hl 1 rfl) ?_
  refine lv_iload_n hx hb dL_put_5 rfl (lv_at hl 2 rfl) ?_
  refine lv_iload_n hx hb dL_put_6 rfl (lv_at hl 3 rfl) ?_
  refine r_tryI (post := fun r R' => QC R (oPut M x y z) r R') (xp := XP R (oPut M x y z) [NSE, IAE, ISE, UOE]) hc hA (vx_runV (As := [.int (x), .int (y), .int (z)]) (rest := [.int (nI (0)), .ref (a (200))]) ⟨hx, hb, hml, hown, hts⟩ (c_X3_put l hl9 D g lv a R M hr9 hC hI x y z _) (cwV 3 hts gL_put_X3_put rfl rfl rfl (by decide +kernel) ⟨Nat.le_of_ble_eq_true rfl, Nat.le_of_ble_eq_true rfl⟩) (r_preV hK hZ hc hA (hr9.1.1) (rfl) rfl) rfl rfl hl.1 rfl (lv_room (Nat.le_of_ble_eq_true rfl)) dL_put_7 ⟨Nat.le_of_ble_eq_true rfl, Nat.le_of_ble_eq_true rfl⟩) (fun E ce q9 R' H locs hp hc hq1 hq2 hq3 => ?_) (fun r R' H locs hp hc => ?_)
  · obtain ⟨hRe, i9, ho, hi⟩ := hp
    rw [hRe] at hc
    rcases i9 with _ | _ | _ | _ | i9
    · have hE : NSE = E := Option.some.inj hi
      subst hE
      refine vx_catch hown [] ⟨0, 12, 15, 21⟩ [⟨0, 12, 19, 13⟩, ⟨0, 12, 23, 23⟩, ⟨0, 12, 27, 15⟩] (ht.trans rfl) (fun z hz => absurd hz List.not_mem_nil) (by decide) (by decide) (hts (.classLink RL 21 "java/util/NoSuchElementException") (by decide +kernel)) (va_Nw.use rfl (hK.2.2.2.2.1 NSE (by decide))) hq1 hq2 hq3 ?_
      show W _ _ _ _ _ _ _ _ _ _ _ _ _ _ _ (F0 mi 15 ls [.ref (q9)])
      refine lv_astore (lv' := [(5, .ref (q9)), (0, .ref (a (0))), (1, .int (x)), (2, .int (y)), (3, .int (z)), (4, .ref (a (200)))]) hx hb dL_put_15 hl (by decide) rfl (fun ls hl => ?_)
      refine lv_iconst (v := nI (1)) hx hb dL_put_17 (by decide) ?_
      refine W.widen (k := 6) (n := 83) (by decide) (by decide) ?_
      refine vx_ret ?_
      exact r_iretA (post := fun r lv' a' R' => LQ lv a R true (oPut M x y z) r lv' a' R') hx hb hr hlocks hc dL_put_18 (lq_exc hr9 hC ho (sm_put hI x y z).1)
    · have hE : IAE = E := Option.some.inj hi
      subst hE
      refine vx_catch hown [⟨0, 12, 15, 21⟩] ⟨0, 12, 19, 13⟩ [⟨0, 12, 23, 23⟩, ⟨0, 12, 27, 15⟩] (ht.trans rfl) (fun z hz => by
          have hz : z ∈ ([⟨0, 12, 15, 21⟩] : List ExceptionTableEntry) := hz
          simp only [List.mem_cons, List.not_mem_nil, or_false] at hz
          rcases hz with rfl
          · exact Or.inr ⟨by decide, NSE, hts (.classLink RL 21 "java/util/NoSuchElementException") (by decide +kernel), hK.2.2.2.2.2.2 IAE (by decide) NSE (by decide) (by decide)⟩) (by decide) (by decide) (hts (.classLink RL 13 "java/lang/IllegalArgumentException") (by decide +kernel)) (va_Nw.use rfl (hK.2.2.2.2.1 IAE (by decide))) hq1 hq2 hq3 ?_
      show W _ _ _ _ _ _ _ _ _ _ _ _ _ _ _ (F0 mi 19 ls [.ref (q9)])
      refine lv_astore (lv' := [(5, .ref (q9)), (0, .ref (a (0))), (1, .int (x)), (2, .int (y)), (3, .int (z)), (4, .ref (a (200)))]) hx hb dL_put_19 hl (by decide) rfl (fun ls hl => ?_)
      refine lv_iconst (v := nI (2)) hx hb dL_put_21 (by decide) ?_
      refine W.widen (k := 6) (n := 83) (by decide) (by decide) ?_
      refine vx_ret ?_
      exact r_iretA (post := fun r lv' a' R' => LQ lv a R true (oPut M x y z) r lv' a' R') hx hb hr hlocks hc dL_put_22 (lq_exc hr9 hC ho (sm_put hI x y z).1)
    · have hE : ISE = E := Option.some.inj hi
      subst hE
      refine vx_catch hown [⟨0, 12, 15, 21⟩, ⟨0, 12, 19, 13⟩] ⟨0, 12, 23, 23⟩ [⟨0, 12, 27, 15⟩] (ht.trans rfl) (fun z hz => by
          have hz : z ∈ ([⟨0, 12, 15, 21⟩, ⟨0, 12, 19, 13⟩] : List ExceptionTableEntry) := hz
          simp only [List.mem_cons, List.not_mem_nil, or_false] at hz
          rcases hz with rfl | rfl
          · exact Or.inr ⟨by decide, NSE, hts (.classLink RL 21 "java/util/NoSuchElementException") (by decide +kernel), hK.2.2.2.2.2.2 ISE (by decide) NSE (by decide) (by decide)⟩
          · exact Or.inr ⟨by decide, IAE, hts (.classLink RL 13 "java/lang/IllegalArgumentException") (by decide +kernel), hK.2.2.2.2.2.2 ISE (by decide) IAE (by decide) (by decide)⟩) (by decide) (by decide) (hts (.classLink RL 23 "java/lang/IllegalStateException") (by decide +kernel)) (va_Nw.use rfl (hK.2.2.2.2.1 ISE (by decide))) hq1 hq2 hq3 ?_
      show W _ _ _ _ _ _ _ _ _ _ _ _ _ _ _ (F0 mi 23 ls [.ref (q9)])
      refine lv_astore (lv' := [(5, .ref (q9)), (0, .ref (a (0))), (1, .int (x)), (2, .int (y)), (3, .int (z)), (4, .ref (a (200)))]) hx hb dL_put_23 hl (by decide) rfl (fun ls hl => ?_)
      refine lv_iconst (v := nI (3)) hx hb dL_put_25 (by decide) ?_
      refine W.widen (k := 6) (n := 83) (by decide) (by decide) ?_
      refine vx_ret ?_
      exact r_iretA (post := fun r lv' a' R' => LQ lv a R true (oPut M x y z) r lv' a' R') hx hb hr hlocks hc dL_put_26 (lq_exc hr9 hC ho (sm_put hI x y z).1)
    · have hE : UOE = E := Option.some.inj hi
      subst hE
      refine vx_catch hown [⟨0, 12, 15, 21⟩, ⟨0, 12, 19, 13⟩, ⟨0, 12, 23, 23⟩] ⟨0, 12, 27, 15⟩ [] (ht.trans rfl) (fun z hz => by
          have hz : z ∈ ([⟨0, 12, 15, 21⟩, ⟨0, 12, 19, 13⟩, ⟨0, 12, 23, 23⟩] : List ExceptionTableEntry) := hz
          simp only [List.mem_cons, List.not_mem_nil, or_false] at hz
          rcases hz with rfl | rfl | rfl
          · exact Or.inr ⟨by decide, NSE, hts (.classLink RL 21 "java/util/NoSuchElementException") (by decide +kernel), hK.2.2.2.2.2.2 UOE (by decide) NSE (by decide) (by decide)⟩
          · exact Or.inr ⟨by decide, IAE, hts (.classLink RL 13 "java/lang/IllegalArgumentException") (by decide +kernel), hK.2.2.2.2.2.2 UOE (by decide) IAE (by decide) (by decide)⟩
          · exact Or.inr ⟨by decide, ISE, hts (.classLink RL 23 "java/lang/IllegalStateException") (by decide +kernel), hK.2.2.2.2.2.2 UOE (by decide) ISE (by decide) (by decide)⟩) (by decide) (by decide) (hts (.classLink RL 15 "java/lang/UnsupportedOperationException") (by decide +kernel)) (va_Nw.use rfl (hK.2.2.2.2.1 UOE (by decide))) hq1 hq2 hq3 ?_
      show W _ _ _ _ _ _ _ _ _ _ _ _ _ _ _ (F0 mi 27 ls [.ref (q9)])
      refine lv_astore (lv' := [(5, .ref (q9)), (0, .ref (a (0))), (1, .int (x)), (2, .int (y)), (3, .int (z)), (4, .ref (a (200)))]) hx hb dL_put_27 hl (by decide) rfl (fun ls hl => ?_)
      refine lv_iconst (v := nI (4)) hx hb dL_put_29 (by decide) ?_
      refine W.widen (k := 6) (n := 83) (by decide) (by decide) ?_
      refine vx_ret ?_
      exact r_iretA (post := fun r lv' a' R' => LQ lv a R true (oPut M x y z) r lv' a' R') hx hb hr hlocks hc dL_put_30 (lq_exc hr9 hC ho (sm_put hI x y z).1)
    · simp at hi
  · skip
    refine lv_i2l hx hb dL_put_10 rfl ?_
    refine r_last hx hb hK.1 hc (h200) (rfl) (by decide) (by omega) dL_put_11 (fun H locs hc => ?_)
    refine lv_goto (tgt := 31) hx hb dL_put_12 (by decide) ?_
    refine lv_iconst (v := nI (0)) hx hb dL_put_31 (by decide) ?_
    refine W.widen (k := 6) (n := 83) (by decide) (by decide) ?_
    refine vx_ret ?_
    exact r_iretA (post := fun r lv' a' R' => LQ lv a R true (oPut M x y z) r lv' a' R') hx hb hr hlocks hc dL_put_32 (lq_ret hr9 hp (sm_put hI x y z) rfl)
set_option maxRecDepth 100000 in
set_option maxHeartbeats 4000000 in
theorem c_L_fill (l : Launch) (hl9 : l.stackTraces = false) (D : va_G) (g : Nat → ClassId) (lv : Nat → Bool) (a : Nat → Nat) (R : RS) (M : MS) (hr9 : PCr lv a R M) (hC : PC R M) (hI : Inv M) (h200 : lv 200 = true) (x y z : Int32) : xA l D g lv a yL_fill wsL_fill ({ frames := 90, cells := 6, slots := 83, locals := 2600 } : Room) [.ref (a (0)), .int (x), .int (y), .int (z), .ref (a (200))] R (fun r lv' a' R' => LQ lv a R true (oFill M x y z) r lv' a' R') (fun _ _ => False) 6 83 := by
  refine h_body (cc := cL_fill) (maxL := 6) (ret := (some .int)) (by decide) rfl (Nat.le_of_ble_eq_true rfl) ?_
  intro pr en st mi bl me co ls B ht hl
  obtain ⟨hx, hb, hr, hml, hown, hts, hlocks, hnm, hK, hZ, hc, hA⟩ := B
  have hl : lv_has ls 6 [(0, .ref (a (0))), (1, .int (x)), (2, .int (y)), (3, .int (z)), (4, .ref (a (200)))] := hl
  refine lv_aload hx hb dL_fill_0 (lv_at hl 4 rfl) ?_
  refine lv_iconst (v := nI (0)) hx hb dL_fill_2 (by decide) ?_
  refine lv_aload_n hx hb dL_fill_3 rfl (lv_at hl 0 rfl) ?_
  refine lv_iload_n hx hb dL_fill_4 rfl (lv_at hl 1 rfl) ?_
  refine lv_iload_n hx hb dL_fill_5 rfl (lv_at hl 2 rfl) ?_
  refine lv_iload_n hx hb dL_fill_6 rfl (lv_at hl 3 rfl) ?_
  refine r_tryI (post := fun r R' => QC R (oFill M x y z) r R') (xp := XP R (oFill M x y z) [NSE, IAE, ISE]) hc hA (vx_runV (As := [.int (x), .int (y), .int (z)]) (rest := [.int (nI (0)), .ref (a (200))]) ⟨hx, hb, hml, hown, hts⟩ (c_X3_fill l hl9 D g lv a R M hr9 hC hI x y z _) (cwV 3 hts gL_fill_X3_fill rfl rfl rfl (by decide +kernel) ⟨Nat.le_of_ble_eq_true rfl, Nat.le_of_ble_eq_true rfl⟩) (r_preV hK hZ hc hA (hr9.1.1) (rfl) rfl) rfl rfl hl.1 rfl (lv_room (Nat.le_of_ble_eq_true rfl)) dL_fill_7 ⟨Nat.le_of_ble_eq_true rfl, Nat.le_of_ble_eq_true rfl⟩) (fun E ce q9 R' H locs hp hc hq1 hq2 hq3 => ?_) (fun r R' H locs hp hc => ?_)
  · obtain ⟨hRe, i9, ho, hi⟩ := hp
    rw [hRe] at hc
    rcases i9 with _ | _ | _ | i9
    · have hE : NSE = E := Option.some.inj hi
      subst hE
      refine vx_catch hown [] ⟨0, 12, 15, 21⟩ [⟨0, 12, 19, 13⟩, ⟨0, 12, 23, 23⟩] (ht.trans rfl) (fun z hz => absurd hz List.not_mem_nil) (by decide) (by decide) (hts (.classLink RL 21 "java/util/NoSuchElementException") (by decide +kernel)) (va_Nw.use rfl (hK.2.2.2.2.1 NSE (by decide))) hq1 hq2 hq3 ?_
      show W _ _ _ _ _ _ _ _ _ _ _ _ _ _ _ (F0 mi 15 ls [.ref (q9)])
      refine lv_astore (lv' := [(5, .ref (q9)), (0, .ref (a (0))), (1, .int (x)), (2, .int (y)), (3, .int (z)), (4, .ref (a (200)))]) hx hb dL_fill_15 hl (by decide) rfl (fun ls hl => ?_)
      refine lv_iconst (v := nI (1)) hx hb dL_fill_17 (by decide) ?_
      refine W.widen (k := 6) (n := 83) (by decide) (by decide) ?_
      refine vx_ret ?_
      exact r_iretA (post := fun r lv' a' R' => LQ lv a R true (oFill M x y z) r lv' a' R') hx hb hr hlocks hc dL_fill_18 (lq_exc hr9 hC ho (sm_fill hI x y z).1)
    · have hE : IAE = E := Option.some.inj hi
      subst hE
      refine vx_catch hown [⟨0, 12, 15, 21⟩] ⟨0, 12, 19, 13⟩ [⟨0, 12, 23, 23⟩] (ht.trans rfl) (fun z hz => by
          have hz : z ∈ ([⟨0, 12, 15, 21⟩] : List ExceptionTableEntry) := hz
          simp only [List.mem_cons, List.not_mem_nil, or_false] at hz
          rcases hz with rfl
          · exact Or.inr ⟨by decide, NSE, hts (.classLink RL 21 "java/util/NoSuchElementException") (by decide +kernel), hK.2.2.2.2.2.2 IAE (by decide) NSE (by decide) (by decide)⟩) (by decide) (by decide) (hts (.classLink RL 13 "java/lang/IllegalArgumentException") (by decide +kernel)) (va_Nw.use rfl (hK.2.2.2.2.1 IAE (by decide))) hq1 hq2 hq3 ?_
      show W _ _ _ _ _ _ _ _ _ _ _ _ _ _ _ (F0 mi 19 ls [.ref (q9)])
      refine lv_astore (lv' := [(5, .ref (q9)), (0, .ref (a (0))), (1, .int (x)), (2, .int (y)), (3, .int (z)), (4, .ref (a (200)))]) hx hb dL_fill_19 hl (by decide) rfl (fun ls hl => ?_)
      refine lv_iconst (v := nI (2)) hx hb dL_fill_21 (by decide) ?_
      refine W.widen (k := 6) (n := 83) (by decide) (by decide) ?_
      refine vx_ret ?_
      exact r_iretA (post := fun r lv' a' R' => LQ lv a R true (oFill M x y z) r lv' a' R') hx hb hr hlocks hc dL_fill_22 (lq_exc hr9 hC ho (sm_fill hI x y z).1)
    · have hE : ISE = E := Option.some.inj hi
      subst hE
      refine vx_catch hown [⟨0, 12, 15, 21⟩, ⟨0, 12, 19, 13⟩] ⟨0, 12, 23, 23⟩ [] (ht.trans rfl) (fun z hz => by
          have hz : z ∈ ([⟨0, 12, 15, 21⟩, ⟨0, 12, 19, 13⟩] : List ExceptionTableEntry) := hz
          simp only [List.mem_cons, List.not_mem_nil, or_false] at hz
          rcases hz with rfl | rfl
          · exact Or.inr ⟨by decide, NSE, hts (.classLink RL 21 "java/util/NoSuchElementException") (by decide +kernel), hK.2.2.2.2.2.2 ISE (by decide) NSE (by decide) (by decide)⟩
          · exact Or.inr ⟨by decide, IAE, hts (.classLink RL 13 "java/lang/IllegalArgumentException") (by decide +kernel), hK.2.2.2.2.2.2 ISE (by decide) IAE (by decide) (by decide)⟩) (by decide) (by decide) (hts (.classLink RL 23 "java/lang/IllegalStateException") (by decide +kernel)) (va_Nw.use rfl (hK.2.2.2.2.1 ISE (by decide))) hq1 hq2 hq3 ?_
      show W _ _ _ _ _ _ _ _ _ _ _ _ _ _ _ (F0 mi 23 ls [.ref (q9)])
      refine lv_astore (lv' := [(5, .ref (q9)), (0, .ref (a (0))), (1, .int (x)), (2, .int (y)), (3, .int (z)), (4, .ref (a (200)))]) hx hb dL_fill_23 hl (by decide) rfl (fun ls hl => ?_)
      refine lv_iconst (v := nI (3)) hx hb dL_fill_25 (by decide) ?_
      refine W.widen (k := 6) (n := 83) (by decide) (by decide) ?_
      refine vx_ret ?_
      exact r_iretA (post := fun r lv' a' R' => LQ lv a R true (oFill M x y z) r lv' a' R') hx hb hr hlocks hc dL_fill_26 (lq_exc hr9 hC ho (sm_fill hI x y z).1)
    · simp at hi
  · skip
    refine lv_i2l hx hb dL_fill_10 rfl ?_
    refine r_last hx hb hK.1 hc (h200) (rfl) (by decide) (by omega) dL_fill_11 (fun H locs hc => ?_)
    refine lv_goto (tgt := 27) hx hb dL_fill_12 (by decide) ?_
    refine lv_iconst (v := nI (0)) hx hb dL_fill_27 (by decide) ?_
    refine W.widen (k := 6) (n := 83) (by decide) (by decide) ?_
    refine vx_ret ?_
    exact r_iretA (post := fun r lv' a' R' => LQ lv a R true (oFill M x y z) r lv' a' R') hx hb hr hlocks hc dL_fill_28 (lq_ret hr9 hp (sm_fill hI x y z) rfl)
set_option maxRecDepth 100000 in
set_option maxHeartbeats 4000000 in
theorem c_L_take (l : Launch) (hl9 : l.stackTraces = false) (D : va_G) (g : Nat → ClassId) (lv : Nat → Bool) (a : Nat → Nat) (R : RS) (M : MS) (hr9 : PCr lv a R M) (hC : PC R M) (hI : Inv M) (h200 : lv 200 = true) (x : Int32) : xA l D g lv a yL_take wsL_take ({ frames := 90, cells := 6, slots := 83, locals := 2600 } : Room) [.ref (a (0)), .int (x), .ref (a (200))] R (fun r lv' a' R' => LQ lv a R true (oTake M x) r lv' a' R') (fun _ _ => False) 6 83 := by
  refine h_body (cc := cL_take) (maxL := 4) (ret := (some .int)) (by decide) rfl (Nat.le_of_ble_eq_true rfl) ?_
  intro pr en st mi bl me co ls B ht hl
  obtain ⟨hx, hb, hr, hml, hown, hts, hlocks, hnm, hK, hZ, hc, hA⟩ := B
  have hl : lv_has ls 4 [(0, .ref (a (0))), (1, .int (x)), (2, .ref (a (200)))] := hl
  refine lv_aload_n hx hb dL_take_0 rfl (lv_at hl 2 rfl) ?_
  refine lv_iconst (v := nI (0)) hx hb dL_take_1 (by decide) ?_
  refine lv_aload_n hx hb dL_take_2 rfl (lv_at hl 0 rfl) ?_
  refine lv_iload_n hx hb dL_take_3 rfl (lv_at hl 1 rfl) ?_
  refine r_tryI (post := fun r R' => QC R (oTake M x) r R') (xp := XP R (oTake M x) [NSE, ISE]) hc hA (vx_runV (As := [.int (x)]) (rest := [.int (nI (0)), .ref (a (200))]) ⟨hx, hb, hml, hown, hts⟩ (c_X3_take l hl9 D g lv a R M hr9 hC hI x _) (cwV 1 hts gL_take_X3_take rfl rfl rfl (by decide +kernel) ⟨Nat.le_of_ble_eq_true rfl, Nat.le_of_ble_eq_true rfl⟩) (r_preV hK hZ hc hA (hr9.1.1) (rfl) rfl) rfl rfl hl.1 rfl (lv_room (Nat.le_of_ble_eq_true rfl)) dL_take_4 ⟨Nat.le_of_ble_eq_true rfl, Nat.le_of_ble_eq_true rfl⟩) (fun E ce q9 R' H locs hp hc hq1 hq2 hq3 => ?_) (fun r R' H locs hp hc => ?_)
  · obtain ⟨hRe, i9, ho, hi⟩ := hp
    rw [hRe] at hc
    rcases i9 with _ | _ | i9
    · have hE : NSE = E := Option.some.inj hi
      subst hE
      refine vx_catch hown [] ⟨0, 9, 12, 21⟩ [⟨0, 9, 15, 23⟩] (ht.trans rfl) (fun z hz => absurd hz List.not_mem_nil) (by decide) (by decide) (hts (.classLink RL 21 "java/util/NoSuchElementException") (by decide +kernel)) (va_Nw.use rfl (hK.2.2.2.2.1 NSE (by decide))) hq1 hq2 hq3 ?_
      show W _ _ _ _ _ _ _ _ _ _ _ _ _ _ _ (F0 mi 12 ls [.ref (q9)])
      refine lv_astore_n (lv' := [(3, .ref (q9)), (0, .ref (a (0))), (1, .int (x)), (2, .ref (a (200)))]) hx hb dL_take_12 rfl hl (by decide) rfl (fun ls hl => ?_)
      refine lv_iconst (v := nI (1)) hx hb dL_take_13 (by decide) ?_
      refine W.widen (k := 6) (n := 83) (by decide) (by decide) ?_
      refine vx_ret ?_
      exact r_iretA (post := fun r lv' a' R' => LQ lv a R true (oTake M x) r lv' a' R') hx hb hr hlocks hc dL_take_14 (lq_exc hr9 hC ho (sm_take hI x).1)
    · have hE : ISE = E := Option.some.inj hi
      subst hE
      refine vx_catch hown [⟨0, 9, 12, 21⟩] ⟨0, 9, 15, 23⟩ [] (ht.trans rfl) (fun z hz => by
          have hz : z ∈ ([⟨0, 9, 12, 21⟩] : List ExceptionTableEntry) := hz
          simp only [List.mem_cons, List.not_mem_nil, or_false] at hz
          rcases hz with rfl
          · exact Or.inr ⟨by decide, NSE, hts (.classLink RL 21 "java/util/NoSuchElementException") (by decide +kernel), hK.2.2.2.2.2.2 ISE (by decide) NSE (by decide) (by decide)⟩) (by decide) (by decide) (hts (.classLink RL 23 "java/lang/IllegalStateException") (by decide +kernel)) (va_Nw.use rfl (hK.2.2.2.2.1 ISE (by decide))) hq1 hq2 hq3 ?_
      show W _ _ _ _ _ _ _ _ _ _ _ _ _ _ _ (F0 mi 15 ls [.ref (q9)])
      refine lv_astore_n (lv' := [(3, .ref (q9)), (0, .ref (a (0))), (1, .int (x)), (2, .ref (a (200)))]) hx hb dL_take_15 rfl hl (by decide) rfl (fun ls hl => ?_)
      refine lv_iconst (v := nI (2)) hx hb dL_take_16 (by decide) ?_
      refine W.widen (k := 6) (n := 83) (by decide) (by decide) ?_
      refine vx_ret ?_
      exact r_iretA (post := fun r lv' a' R' => LQ lv a R true (oTake M x) r lv' a' R') hx hb hr hlocks hc dL_take_17 (lq_exc hr9 hC ho (sm_take hI x).1)
    · simp at hi
  · skip
    refine lv_i2l hx hb dL_take_7 rfl ?_
    refine r_last hx hb hK.1 hc (h200) (rfl) (by decide) (by omega) dL_take_8 (fun H locs hc => ?_)
    refine lv_goto (tgt := 18) hx hb dL_take_9 (by decide) ?_
    refine lv_iconst (v := nI (0)) hx hb dL_take_18 (by decide) ?_
    refine W.widen (k := 6) (n := 83) (by decide) (by decide) ?_
    refine vx_ret ?_
    exact r_iretA (post := fun r lv' a' R' => LQ lv a R true (oTake M x) r lv' a' R') hx hb hr hlocks hc dL_take_19 (lq_ret hr9 hp (sm_take hI x) rfl)
set_option maxRecDepth 100000 in
set_option maxHeartbeats 4000000 in
theorem c_L_support (l : Launch) (hl9 : l.stackTraces = false) (D : va_G) (g : Nat → ClassId) (lv : Nat → Bool) (a : Nat → Nat) (R : RS) (M : MS) (hr9 : PCr lv a R M) (hC : PC R M) (hI : Inv M) (h200 : lv 200 = true) (x y z : Int32) : xA l D g lv a yL_support wsL_support ({ frames := 90, cells := 6, slots := 83, locals := 2600 } : Room) [.ref (a (0)), .int (x), .int (y), .int (z), .ref (a (200))] R (fun r lv' a' R' => LQ lv a R true (oSupport M x y z) r lv' a' R') (fun _ _ => False) 6 83 := by
  refine h_body (cc := cL_support) (maxL := 6) (ret := (some .int)) (by decide) rfl (Nat.le_of_ble_eq_true rfl) ?_
  intro pr en st mi bl me co ls B ht hl
  obtain ⟨hx, hb, hr, hml, hown, hts, hlocks, hnm, hK, hZ, hc, hA⟩ := B
  have hl : lv_has ls 6 [(0, .ref (a (0))), (1, .int (x)), (2, .int (y)), (3, .int (z)), (4, .ref (a (200)))] := hl
  refine lv_aload hx hb dL_support_0 (lv_at hl 4 rfl) ?_
  refine lv_iconst (v := nI (0)) hx hb dL_support_2 (by decide) ?_
  refine lv_aload_n hx hb dL_support_3 rfl (lv_at hl 0 rfl) ?_
  refine lv_iload_n hx hb dL_support_4 rfl (lv_at hl 1 rfl) ?_
  refine lv_iload_n hx hb dL_support_5 rfl (lv_at hl 2 rfl) ?_
  refine lv_iload_n hx hb dL_support_6 rfl (lv_at hl 3 rfl) ?_
  refine r_tryI (post := fun r R' => QC R (oSupport M x y z) r R') (xp := XP R (oSupport M x y z) [NSE]) hc hA (vx_runV (As := [.int (x), .int (y), .int (z)]) (rest := [.int (nI (0)), .ref (a (200))]) ⟨hx, hb, hml, hown, hts⟩ (c_X3_support l hl9 D g lv a R M hr9 hC hI x y z _) (cwV 3 hts gL_support_X3_support rfl rfl rfl (by decide +kernel) ⟨Nat.le_of_ble_eq_true rfl, Nat.le_of_ble_eq_true rfl⟩) (r_preV hK hZ hc hA (hr9.1.1) (rfl) rfl) rfl rfl hl.1 rfl (lv_room (Nat.le_of_ble_eq_true rfl)) dL_support_7 ⟨Nat.le_of_ble_eq_true rfl, Nat.le_of_ble_eq_true rfl⟩) (fun E ce q9 R' H locs hp hc hq1 hq2 hq3 => ?_) (fun r R' H locs hp hc => ?_)
  · obtain ⟨hRe, i9, ho, hi⟩ := hp
    rw [hRe] at hc
    rcases i9 with _ | i9
    · have hE : NSE = E := Option.some.inj hi
      subst hE
      refine vx_catch hown [] ⟨0, 12, 15, 21⟩ [] (ht.trans rfl) (fun z hz => absurd hz List.not_mem_nil) (by decide) (by decide) (hts (.classLink RL 21 "java/util/NoSuchElementException") (by decide +kernel)) (va_Nw.use rfl (hK.2.2.2.2.1 NSE (by decide))) hq1 hq2 hq3 ?_
      show W _ _ _ _ _ _ _ _ _ _ _ _ _ _ _ (F0 mi 15 ls [.ref (q9)])
      refine lv_astore (lv' := [(5, .ref (q9)), (0, .ref (a (0))), (1, .int (x)), (2, .int (y)), (3, .int (z)), (4, .ref (a (200)))]) hx hb dL_support_15 hl (by decide) rfl (fun ls hl => ?_)
      refine lv_iconst (v := nI (1)) hx hb dL_support_17 (by decide) ?_
      refine W.widen (k := 6) (n := 83) (by decide) (by decide) ?_
      refine vx_ret ?_
      exact r_iretA (post := fun r lv' a' R' => LQ lv a R true (oSupport M x y z) r lv' a' R') hx hb hr hlocks hc dL_support_18 (lq_exc hr9 hC ho (sm_support hI x y z).1)
    · simp at hi
  · skip
    refine lv_i2l hx hb dL_support_10 rfl ?_
    refine r_last hx hb hK.1 hc (h200) (rfl) (by decide) (by omega) dL_support_11 (fun H locs hc => ?_)
    refine lv_goto (tgt := 19) hx hb dL_support_12 (by decide) ?_
    refine lv_iconst (v := nI (0)) hx hb dL_support_19 (by decide) ?_
    refine W.widen (k := 6) (n := 83) (by decide) (by decide) ?_
    refine vx_ret ?_
    exact r_iretA (post := fun r lv' a' R' => LQ lv a R true (oSupport M x y z) r lv' a' R') hx hb hr hlocks hc dL_support_20 (lq_ret hr9 hp (sm_support hI x y z) rfl)
set_option maxRecDepth 100000 in
set_option maxHeartbeats 4000000 in
theorem c_L_told (l : Launch) (hl9 : l.stackTraces = false) (D : va_G) (g : Nat → ClassId) (lv : Nat → Bool) (a : Nat → Nat) (R : RS) (M : MS) (hr9 : PCr lv a R M) (hC : PC R M) (hI : Inv M) (h200 : lv 200 = true) (x y : Int32) : xA l D g lv a yL_told wsL_told ({ frames := 90, cells := 6, slots := 83, locals := 2600 } : Room) [.ref (a (0)), .int (x), .int (y), .ref (a (200))] R (fun r lv' a' R' => LQ lv a R true (oTold M x y) r lv' a' R') (fun _ _ => False) 6 83 := by
  refine h_body (cc := cL_told) (maxL := 5) (ret := (some .int)) (by decide) rfl (Nat.le_of_ble_eq_true rfl) ?_
  intro pr en st mi bl me co ls B ht hl
  obtain ⟨hx, hb, hr, hml, hown, hts, hlocks, hnm, hK, hZ, hc, hA⟩ := B
  have hl : lv_has ls 5 [(0, .ref (a (0))), (1, .int (x)), (2, .int (y)), (3, .ref (a (200)))] := hl
  refine lv_aload_n hx hb dL_told_0 rfl (lv_at hl 3 rfl) ?_
  refine lv_iconst (v := nI (0)) hx hb dL_told_1 (by decide) ?_
  refine lv_aload_n hx hb dL_told_2 rfl (lv_at hl 0 rfl) ?_
  refine lv_iload_n hx hb dL_told_3 rfl (lv_at hl 1 rfl) ?_
  refine lv_iload_n hx hb dL_told_4 rfl (lv_at hl 2 rfl) ?_
  refine r_tryI (post := fun r R' => QC R (oTold M x y) r R') (xp := XP R (oTold M x y) [NSE, IAE]) hc hA (vx_runV (As := [.int (x), .int (y)]) (rest := [.int (nI (0)), .ref (a (200))]) ⟨hx, hb, hml, hown, hts⟩ (c_X3_told l hl9 D g lv a R M hr9 hC hI x y _) (cwV 2 hts gL_told_X3_told rfl rfl rfl (by decide +kernel) ⟨Nat.le_of_ble_eq_true rfl, Nat.le_of_ble_eq_true rfl⟩) (r_preV hK hZ hc hA (hr9.1.1) (rfl) rfl) rfl rfl hl.1 rfl (lv_room (Nat.le_of_ble_eq_true rfl)) dL_told_5 ⟨Nat.le_of_ble_eq_true rfl, Nat.le_of_ble_eq_true rfl⟩) (fun E ce q9 R' H locs hp hc hq1 hq2 hq3 => ?_) (fun r R' H locs hp hc => ?_)
  · obtain ⟨hRe, i9, ho, hi⟩ := hp
    rw [hRe] at hc
    rcases i9 with _ | _ | i9
    · have hE : NSE = E := Option.some.inj hi
      subst hE
      refine vx_catch hown [] ⟨0, 10, 13, 21⟩ [⟨0, 10, 17, 13⟩] (ht.trans rfl) (fun z hz => absurd hz List.not_mem_nil) (by decide) (by decide) (hts (.classLink RL 21 "java/util/NoSuchElementException") (by decide +kernel)) (va_Nw.use rfl (hK.2.2.2.2.1 NSE (by decide))) hq1 hq2 hq3 ?_
      show W _ _ _ _ _ _ _ _ _ _ _ _ _ _ _ (F0 mi 13 ls [.ref (q9)])
      refine lv_astore (lv' := [(4, .ref (q9)), (0, .ref (a (0))), (1, .int (x)), (2, .int (y)), (3, .ref (a (200)))]) hx hb dL_told_13 hl (by decide) rfl (fun ls hl => ?_)
      refine lv_iconst (v := nI (1)) hx hb dL_told_15 (by decide) ?_
      refine W.widen (k := 6) (n := 83) (by decide) (by decide) ?_
      refine vx_ret ?_
      exact r_iretA (post := fun r lv' a' R' => LQ lv a R true (oTold M x y) r lv' a' R') hx hb hr hlocks hc dL_told_16 (lq_exc hr9 hC ho (sm_told hI x y).1)
    · have hE : IAE = E := Option.some.inj hi
      subst hE
      refine vx_catch hown [⟨0, 10, 13, 21⟩] ⟨0, 10, 17, 13⟩ [] (ht.trans rfl) (fun z hz => by
          have hz : z ∈ ([⟨0, 10, 13, 21⟩] : List ExceptionTableEntry) := hz
          simp only [List.mem_cons, List.not_mem_nil, or_false] at hz
          rcases hz with rfl
          · exact Or.inr ⟨by decide, NSE, hts (.classLink RL 21 "java/util/NoSuchElementException") (by decide +kernel), hK.2.2.2.2.2.2 IAE (by decide) NSE (by decide) (by decide)⟩) (by decide) (by decide) (hts (.classLink RL 13 "java/lang/IllegalArgumentException") (by decide +kernel)) (va_Nw.use rfl (hK.2.2.2.2.1 IAE (by decide))) hq1 hq2 hq3 ?_
      show W _ _ _ _ _ _ _ _ _ _ _ _ _ _ _ (F0 mi 17 ls [.ref (q9)])
      refine lv_astore (lv' := [(4, .ref (q9)), (0, .ref (a (0))), (1, .int (x)), (2, .int (y)), (3, .ref (a (200)))]) hx hb dL_told_17 hl (by decide) rfl (fun ls hl => ?_)
      refine lv_iconst (v := nI (2)) hx hb dL_told_19 (by decide) ?_
      refine W.widen (k := 6) (n := 83) (by decide) (by decide) ?_
      refine vx_ret ?_
      exact r_iretA (post := fun r lv' a' R' => LQ lv a R true (oTold M x y) r lv' a' R') hx hb hr hlocks hc dL_told_20 (lq_exc hr9 hC ho (sm_told hI x y).1)
    · simp at hi
  · skip
    refine lv_i2l hx hb dL_told_8 rfl ?_
    refine r_last hx hb hK.1 hc (h200) (rfl) (by decide) (by omega) dL_told_9 (fun H locs hc => ?_)
    refine lv_goto (tgt := 21) hx hb dL_told_10 (by decide) ?_
    refine lv_iconst (v := nI (0)) hx hb dL_told_21 (by decide) ?_
    refine W.widen (k := 6) (n := 83) (by decide) (by decide) ?_
    refine vx_ret ?_
    exact r_iretA (post := fun r lv' a' R' => LQ lv a R true (oTold M x y) r lv' a' R') hx hb hr hlocks hc dL_told_22 (lq_ret hr9 hp (sm_told hI x y) rfl)
set_option maxRecDepth 100000 in
set_option maxHeartbeats 4000000 in
theorem c_L_layer (l : Launch) (hl9 : l.stackTraces = false) (D : va_G) (g : Nat → ClassId) (lv : Nat → Bool) (a : Nat → Nat) (R : RS) (M : MS) (hr9 : PCr lv a R M) (hC : PC R M) (hI : Inv M) (h200 : lv 200 = true) (x y z : Int32) : xA l D g lv a yL_layer wsL_layer ({ frames := 90, cells := 6, slots := 83, locals := 2600 } : Room) [.ref (a (0)), .int (x), .int (y), .int (z), .ref (a (200))] R (fun r lv' a' R' => LQ lv a R true (oLayer M x y z) r lv' a' R') (fun _ _ => False) 6 83 := by
  refine h_body (cc := cL_layer) (maxL := 6) (ret := (some .int)) (by decide) rfl (Nat.le_of_ble_eq_true rfl) ?_
  intro pr en st mi bl me co ls B ht hl
  obtain ⟨hx, hb, hr, hml, hown, hts, hlocks, hnm, hK, hZ, hc, hA⟩ := B
  have hl : lv_has ls 6 [(0, .ref (a (0))), (1, .int (x)), (2, .int (y)), (3, .int (z)), (4, .ref (a (200)))] := hl
  refine lv_aload hx hb dL_layer_0 (lv_at hl 4 rfl) ?_
  refine lv_iconst (v := nI (0)) hx hb dL_layer_2 (by decide) ?_
  refine lv_aload_n hx hb dL_layer_3 rfl (lv_at hl 0 rfl) ?_
  refine lv_iload_n hx hb dL_layer_4 rfl (lv_at hl 1 rfl) ?_
  refine lv_iload_n hx hb dL_layer_5 rfl (lv_at hl 2 rfl) ?_
  refine lv_iload_n hx hb dL_layer_6 rfl (lv_at hl 3 rfl) ?_
  refine r_tryI (post := fun r R' => QC R (oLayer M x y z) r R') (xp := XP R (oLayer M x y z) [NSE, IAE]) hc hA (vx_runV (As := [.int (x), .int (y), .int (z)]) (rest := [.int (nI (0)), .ref (a (200))]) ⟨hx, hb, hml, hown, hts⟩ (c_X3_layer l hl9 D g lv a R M hr9 hC hI x y z _) (cwV 3 hts gL_layer_X3_layer rfl rfl rfl (by decide +kernel) ⟨Nat.le_of_ble_eq_true rfl, Nat.le_of_ble_eq_true rfl⟩) (r_preV hK hZ hc hA (hr9.1.1) (rfl) rfl) rfl rfl hl.1 rfl (lv_room (Nat.le_of_ble_eq_true rfl)) dL_layer_7 ⟨Nat.le_of_ble_eq_true rfl, Nat.le_of_ble_eq_true rfl⟩) (fun E ce q9 R' H locs hp hc hq1 hq2 hq3 => ?_) (fun r R' H locs hp hc => ?_)
  · obtain ⟨hRe, i9, ho, hi⟩ := hp
    rw [hRe] at hc
    rcases i9 with _ | _ | i9
    · have hE : NSE = E := Option.some.inj hi
      subst hE
      refine vx_catch hown [] ⟨0, 12, 15, 21⟩ [⟨0, 12, 19, 13⟩] (ht.trans rfl) (fun z hz => absurd hz List.not_mem_nil) (by decide) (by decide) (hts (.classLink RL 21 "java/util/NoSuchElementException") (by decide +kernel)) (va_Nw.use rfl (hK.2.2.2.2.1 NSE (by decide))) hq1 hq2 hq3 ?_
      show W _ _ _ _ _ _ _ _ _ _ _ _ _ _ _ (F0 mi 15 ls [.ref (q9)])
      refine lv_astore (lv' := [(5, .ref (q9)), (0, .ref (a (0))), (1, .int (x)), (2, .int (y)), (3, .int (z)), (4, .ref (a (200)))]) hx hb dL_layer_15 hl (by decide) rfl (fun ls hl => ?_)
      refine lv_iconst (v := nI (1)) hx hb dL_layer_17 (by decide) ?_
      refine W.widen (k := 6) (n := 83) (by decide) (by decide) ?_
      refine vx_ret ?_
      exact r_iretA (post := fun r lv' a' R' => LQ lv a R true (oLayer M x y z) r lv' a' R') hx hb hr hlocks hc dL_layer_18 (lq_exc hr9 hC ho (sm_layer hI x y z).1)
    · have hE : IAE = E := Option.some.inj hi
      subst hE
      refine vx_catch hown [⟨0, 12, 15, 21⟩] ⟨0, 12, 19, 13⟩ [] (ht.trans rfl) (fun z hz => by
          have hz : z ∈ ([⟨0, 12, 15, 21⟩] : List ExceptionTableEntry) := hz
          simp only [List.mem_cons, List.not_mem_nil, or_false] at hz
          rcases hz with rfl
          · exact Or.inr ⟨by decide, NSE, hts (.classLink RL 21 "java/util/NoSuchElementException") (by decide +kernel), hK.2.2.2.2.2.2 IAE (by decide) NSE (by decide) (by decide)⟩) (by decide) (by decide) (hts (.classLink RL 13 "java/lang/IllegalArgumentException") (by decide +kernel)) (va_Nw.use rfl (hK.2.2.2.2.1 IAE (by decide))) hq1 hq2 hq3 ?_
      show W _ _ _ _ _ _ _ _ _ _ _ _ _ _ _ (F0 mi 19 ls [.ref (q9)])
      refine lv_astore (lv' := [(5, .ref (q9)), (0, .ref (a (0))), (1, .int (x)), (2, .int (y)), (3, .int (z)), (4, .ref (a (200)))]) hx hb dL_layer_19 hl (by decide) rfl (fun ls hl => ?_)
      refine lv_iconst (v := nI (2)) hx hb dL_layer_21 (by decide) ?_
      refine W.widen (k := 6) (n := 83) (by decide) (by decide) ?_
      refine vx_ret ?_
      exact r_iretA (post := fun r lv' a' R' => LQ lv a R true (oLayer M x y z) r lv' a' R') hx hb hr hlocks hc dL_layer_22 (lq_exc hr9 hC ho (sm_layer hI x y z).1)
    · simp at hi
  · skip
    refine lv_i2l hx hb dL_layer_10 rfl ?_
    refine r_last hx hb hK.1 hc (h200) (rfl) (by decide) (by omega) dL_layer_11 (fun H locs hc => ?_)
    refine lv_goto (tgt := 23) hx hb dL_layer_12 (by decide) ?_
    refine lv_iconst (v := nI (0)) hx hb dL_layer_23 (by decide) ?_
    refine W.widen (k := 6) (n := 83) (by decide) (by decide) ?_
    refine vx_ret ?_
    exact r_iretA (post := fun r lv' a' R' => LQ lv a R true (oLayer M x y z) r lv' a' R') hx hb hr hlocks hc dL_layer_24 (lq_ret hr9 hp (sm_layer hI x y z) rfl)
set_option maxRecDepth 100000 in
set_option maxHeartbeats 4000000 in
theorem c_L_truck (l : Launch) (hl9 : l.stackTraces = false) (D : va_G) (g : Nat → ClassId) (lv : Nat → Bool) (a : Nat → Nat) (R : RS) (M : MS) (hr9 : PCr lv a R M) (hC : PC R M) (hI : Inv M) (h200 : lv 200 = true) (x y : Int32) : xA l D g lv a yL_truck wsL_truck ({ frames := 90, cells := 6, slots := 83, locals := 2600 } : Room) [.ref (a (0)), .int (x), .int (y), .ref (a (200))] R (fun r lv' a' R' => LQ lv a R true (oTruck M x y) r lv' a' R') (fun _ _ => False) 6 83 := by
  refine h_body (cc := cL_truck) (maxL := 5) (ret := (some .int)) (by decide) rfl (Nat.le_of_ble_eq_true rfl) ?_
  intro pr en st mi bl me co ls B ht hl
  obtain ⟨hx, hb, hr, hml, hown, hts, hlocks, hnm, hK, hZ, hc, hA⟩ := B
  have hl : lv_has ls 5 [(0, .ref (a (0))), (1, .int (x)), (2, .int (y)), (3, .ref (a (200)))] := hl
  refine lv_aload_n hx hb dL_truck_0 rfl (lv_at hl 3 rfl) ?_
  refine lv_iconst (v := nI (0)) hx hb dL_truck_1 (by decide) ?_
  refine lv_aload_n hx hb dL_truck_2 rfl (lv_at hl 0 rfl) ?_
  refine lv_iload_n hx hb dL_truck_3 rfl (lv_at hl 1 rfl) ?_
  refine lv_iload_n hx hb dL_truck_4 rfl (lv_at hl 2 rfl) ?_
  refine r_tryI (post := fun r R' => QC R (oTruck M x y) r R') (xp := XP R (oTruck M x y) [NSE, IAE, ISE]) hc hA (vx_runV (As := [.int (x), .int (y)]) (rest := [.int (nI (0)), .ref (a (200))]) ⟨hx, hb, hml, hown, hts⟩ (c_X3_truck l hl9 D g lv a R M hr9 hC hI x y _) (cwV 2 hts gL_truck_X3_truck rfl rfl rfl (by decide +kernel) ⟨Nat.le_of_ble_eq_true rfl, Nat.le_of_ble_eq_true rfl⟩) (r_preV hK hZ hc hA (hr9.1.1) (rfl) rfl) rfl rfl hl.1 rfl (lv_room (Nat.le_of_ble_eq_true rfl)) dL_truck_5 ⟨Nat.le_of_ble_eq_true rfl, Nat.le_of_ble_eq_true rfl⟩) (fun E ce q9 R' H locs hp hc hq1 hq2 hq3 => ?_) (fun r R' H locs hp hc => ?_)
  · obtain ⟨hRe, i9, ho, hi⟩ := hp
    rw [hRe] at hc
    rcases i9 with _ | _ | _ | i9
    · have hE : NSE = E := Option.some.inj hi
      subst hE
      refine vx_catch hown [] ⟨0, 10, 13, 21⟩ [⟨0, 10, 17, 13⟩, ⟨0, 10, 21, 23⟩] (ht.trans rfl) (fun z hz => absurd hz List.not_mem_nil) (by decide) (by decide) (hts (.classLink RL 21 "java/util/NoSuchElementException") (by decide +kernel)) (va_Nw.use rfl (hK.2.2.2.2.1 NSE (by decide))) hq1 hq2 hq3 ?_
      show W _ _ _ _ _ _ _ _ _ _ _ _ _ _ _ (F0 mi 13 ls [.ref (q9)])
      refine lv_astore (lv' := [(4, .ref (q9)), (0, .ref (a (0))), (1, .int (x)), (2, .int (y)), (3, .ref (a (200)))]) hx hb dL_truck_13 hl (by decide) rfl (fun ls hl => ?_)
      refine lv_iconst (v := nI (1)) hx hb dL_truck_15 (by decide) ?_
      refine W.widen (k := 6) (n := 83) (by decide) (by decide) ?_
      refine vx_ret ?_
      exact r_iretA (post := fun r lv' a' R' => LQ lv a R true (oTruck M x y) r lv' a' R') hx hb hr hlocks hc dL_truck_16 (lq_exc hr9 hC ho (sm_truck hI x y).1)
    · have hE : IAE = E := Option.some.inj hi
      subst hE
      refine vx_catch hown [⟨0, 10, 13, 21⟩] ⟨0, 10, 17, 13⟩ [⟨0, 10, 21, 23⟩] (ht.trans rfl) (fun z hz => by
          have hz : z ∈ ([⟨0, 10, 13, 21⟩] : List ExceptionTableEntry) := hz
          simp only [List.mem_cons, List.not_mem_nil, or_false] at hz
          rcases hz with rfl
          · exact Or.inr ⟨by decide, NSE, hts (.classLink RL 21 "java/util/NoSuchElementException") (by decide +kernel), hK.2.2.2.2.2.2 IAE (by decide) NSE (by decide) (by decide)⟩) (by decide) (by decide) (hts (.classLink RL 13 "java/lang/IllegalArgumentException") (by decide +kernel)) (va_Nw.use rfl (hK.2.2.2.2.1 IAE (by decide))) hq1 hq2 hq3 ?_
      show W _ _ _ _ _ _ _ _ _ _ _ _ _ _ _ (F0 mi 17 ls [.ref (q9)])
      refine lv_astore (lv' := [(4, .ref (q9)), (0, .ref (a (0))), (1, .int (x)), (2, .int (y)), (3, .ref (a (200)))]) hx hb dL_truck_17 hl (by decide) rfl (fun ls hl => ?_)
      refine lv_iconst (v := nI (2)) hx hb dL_truck_19 (by decide) ?_
      refine W.widen (k := 6) (n := 83) (by decide) (by decide) ?_
      refine vx_ret ?_
      exact r_iretA (post := fun r lv' a' R' => LQ lv a R true (oTruck M x y) r lv' a' R') hx hb hr hlocks hc dL_truck_20 (lq_exc hr9 hC ho (sm_truck hI x y).1)
    · have hE : ISE = E := Option.some.inj hi
      subst hE
      refine vx_catch hown [⟨0, 10, 13, 21⟩, ⟨0, 10, 17, 13⟩] ⟨0, 10, 21, 23⟩ [] (ht.trans rfl) (fun z hz => by
          have hz : z ∈ ([⟨0, 10, 13, 21⟩, ⟨0, 10, 17, 13⟩] : List ExceptionTableEntry) := hz
          simp only [List.mem_cons, List.not_mem_nil, or_false] at hz
          rcases hz with rfl | rfl
          · exact Or.inr ⟨by decide, NSE, hts (.classLink RL 21 "java/util/NoSuchElementException") (by decide +kernel), hK.2.2.2.2.2.2 ISE (by decide) NSE (by decide) (by decide)⟩
          · exact Or.inr ⟨by decide, IAE, hts (.classLink RL 13 "java/lang/IllegalArgumentException") (by decide +kernel), hK.2.2.2.2.2.2 ISE (by decide) IAE (by decide) (by decide)⟩) (by decide) (by decide) (hts (.classLink RL 23 "java/lang/IllegalStateException") (by decide +kernel)) (va_Nw.use rfl (hK.2.2.2.2.1 ISE (by decide))) hq1 hq2 hq3 ?_
      show W _ _ _ _ _ _ _ _ _ _ _ _ _ _ _ (F0 mi 21 ls [.ref (q9)])
      refine lv_astore (lv' := [(4, .ref (q9)), (0, .ref (a (0))), (1, .int (x)), (2, .int (y)), (3, .ref (a (200)))]) hx hb dL_truck_21 hl (by decide) rfl (fun ls hl => ?_)
      refine lv_iconst (v := nI (3)) hx hb dL_truck_23 (by decide) ?_
      refine W.widen (k := 6) (n := 83) (by decide) (by decide) ?_
      refine vx_ret ?_
      exact r_iretA (post := fun r lv' a' R' => LQ lv a R true (oTruck M x y) r lv' a' R') hx hb hr hlocks hc dL_truck_24 (lq_exc hr9 hC ho (sm_truck hI x y).1)
    · simp at hi
  · skip
    refine lv_i2l hx hb dL_truck_8 rfl ?_
    refine r_last hx hb hK.1 hc (h200) (rfl) (by decide) (by omega) dL_truck_9 (fun H locs hc => ?_)
    refine lv_goto (tgt := 25) hx hb dL_truck_10 (by decide) ?_
    refine lv_iconst (v := nI (0)) hx hb dL_truck_25 (by decide) ?_
    refine W.widen (k := 6) (n := 83) (by decide) (by decide) ?_
    refine vx_ret ?_
    exact r_iretA (post := fun r lv' a' R' => LQ lv a R true (oTruck M x y) r lv' a' R') hx hb hr hlocks hc dL_truck_26 (lq_ret hr9 hp (sm_truck hI x y) rfl)
set_option maxRecDepth 100000 in
set_option maxHeartbeats 4000000 in
theorem c_L_unload (l : Launch) (hl9 : l.stackTraces = false) (D : va_G) (g : Nat → ClassId) (lv : Nat → Bool) (a : Nat → Nat) (R : RS) (M : MS) (hr9 : PCr lv a R M) (hC : PC R M) (hI : Inv M) (h200 : lv 200 = true) (x : Int32) : xA l D g lv a yL_unload wsL_unload ({ frames := 90, cells := 6, slots := 83, locals := 2600 } : Room) [.ref (a (0)), .int (x), .ref (a (200))] R (fun r lv' a' R' => LQ lv a R true (oUnload M x) r lv' a' R') (fun _ _ => False) 6 83 := by
  refine h_body (cc := cL_unload) (maxL := 4) (ret := (some .int)) (by decide) rfl (Nat.le_of_ble_eq_true rfl) ?_
  intro pr en st mi bl me co ls B ht hl
  obtain ⟨hx, hb, hr, hml, hown, hts, hlocks, hnm, hK, hZ, hc, hA⟩ := B
  have hl : lv_has ls 4 [(0, .ref (a (0))), (1, .int (x)), (2, .ref (a (200)))] := hl
  refine lv_aload_n hx hb dL_unload_0 rfl (lv_at hl 2 rfl) ?_
  refine lv_iconst (v := nI (0)) hx hb dL_unload_1 (by decide) ?_
  refine lv_aload_n hx hb dL_unload_2 rfl (lv_at hl 0 rfl) ?_
  refine lv_iload_n hx hb dL_unload_3 rfl (lv_at hl 1 rfl) ?_
  refine r_tryI (post := fun r R' => QC R (oUnload M x) r R') (xp := XP R (oUnload M x) [IAE, ISE]) hc hA (vx_runV (As := [.int (x)]) (rest := [.int (nI (0)), .ref (a (200))]) ⟨hx, hb, hml, hown, hts⟩ (c_X3_unload l hl9 D g lv a R M hr9 hC hI x _) (cwV 1 hts gL_unload_X3_unload rfl rfl rfl (by decide +kernel) ⟨Nat.le_of_ble_eq_true rfl, Nat.le_of_ble_eq_true rfl⟩) (r_preV hK hZ hc hA (hr9.1.1) (rfl) rfl) rfl rfl hl.1 rfl (lv_room (Nat.le_of_ble_eq_true rfl)) dL_unload_4 ⟨Nat.le_of_ble_eq_true rfl, Nat.le_of_ble_eq_true rfl⟩) (fun E ce q9 R' H locs hp hc hq1 hq2 hq3 => ?_) (fun r R' H locs hp hc => ?_)
  · obtain ⟨hRe, i9, ho, hi⟩ := hp
    rw [hRe] at hc
    rcases i9 with _ | _ | i9
    · have hE : IAE = E := Option.some.inj hi
      subst hE
      refine vx_catch hown [] ⟨0, 9, 12, 13⟩ [⟨0, 9, 15, 23⟩] (ht.trans rfl) (fun z hz => absurd hz List.not_mem_nil) (by decide) (by decide) (hts (.classLink RL 13 "java/lang/IllegalArgumentException") (by decide +kernel)) (va_Nw.use rfl (hK.2.2.2.2.1 IAE (by decide))) hq1 hq2 hq3 ?_
      show W _ _ _ _ _ _ _ _ _ _ _ _ _ _ _ (F0 mi 12 ls [.ref (q9)])
      refine lv_astore_n (lv' := [(3, .ref (q9)), (0, .ref (a (0))), (1, .int (x)), (2, .ref (a (200)))]) hx hb dL_unload_12 rfl hl (by decide) rfl (fun ls hl => ?_)
      refine lv_iconst (v := nI (1)) hx hb dL_unload_13 (by decide) ?_
      refine W.widen (k := 6) (n := 83) (by decide) (by decide) ?_
      refine vx_ret ?_
      exact r_iretA (post := fun r lv' a' R' => LQ lv a R true (oUnload M x) r lv' a' R') hx hb hr hlocks hc dL_unload_14 (lq_exc hr9 hC ho (sm_unload hI x).1)
    · have hE : ISE = E := Option.some.inj hi
      subst hE
      refine vx_catch hown [⟨0, 9, 12, 13⟩] ⟨0, 9, 15, 23⟩ [] (ht.trans rfl) (fun z hz => by
          have hz : z ∈ ([⟨0, 9, 12, 13⟩] : List ExceptionTableEntry) := hz
          simp only [List.mem_cons, List.not_mem_nil, or_false] at hz
          rcases hz with rfl
          · exact Or.inr ⟨by decide, IAE, hts (.classLink RL 13 "java/lang/IllegalArgumentException") (by decide +kernel), hK.2.2.2.2.2.2 ISE (by decide) IAE (by decide) (by decide)⟩) (by decide) (by decide) (hts (.classLink RL 23 "java/lang/IllegalStateException") (by decide +kernel)) (va_Nw.use rfl (hK.2.2.2.2.1 ISE (by decide))) hq1 hq2 hq3 ?_
      show W _ _ _ _ _ _ _ _ _ _ _ _ _ _ _ (F0 mi 15 ls [.ref (q9)])
      refine lv_astore_n (lv' := [(3, .ref (q9)), (0, .ref (a (0))), (1, .int (x)), (2, .ref (a (200)))]) hx hb dL_unload_15 rfl hl (by decide) rfl (fun ls hl => ?_)
      refine lv_iconst (v := nI (2)) hx hb dL_unload_16 (by decide) ?_
      refine W.widen (k := 6) (n := 83) (by decide) (by decide) ?_
      refine vx_ret ?_
      exact r_iretA (post := fun r lv' a' R' => LQ lv a R true (oUnload M x) r lv' a' R') hx hb hr hlocks hc dL_unload_17 (lq_exc hr9 hC ho (sm_unload hI x).1)
    · simp at hi
  · skip
    refine lv_i2l hx hb dL_unload_7 rfl ?_
    refine r_last hx hb hK.1 hc (h200) (rfl) (by decide) (by omega) dL_unload_8 (fun H locs hc => ?_)
    refine lv_goto (tgt := 18) hx hb dL_unload_9 (by decide) ?_
    refine lv_iconst (v := nI (0)) hx hb dL_unload_18 (by decide) ?_
    refine W.widen (k := 6) (n := 83) (by decide) (by decide) ?_
    refine vx_ret ?_
    exact r_iretA (post := fun r lv' a' R' => LQ lv a R true (oUnload M x) r lv' a' R') hx hb hr hlocks hc dL_unload_19 (lq_ret hr9 hp (sm_unload hI x) rfl)
set_option maxRecDepth 100000 in
set_option maxHeartbeats 4000000 in
theorem c_L_order (l : Launch) (hl9 : l.stackTraces = false) (D : va_G) (g : Nat → ClassId) (lv : Nat → Bool) (a : Nat → Nat) (R : RS) (M : MS) (hr9 : PCr lv a R M) (hC : PC R M) (hI : Inv M) (h200 : lv 200 = true) (x : Int32) : xA l D g lv a yL_order wsL_order ({ frames := 90, cells := 6, slots := 83, locals := 2600 } : Room) [.ref (a (0)), .int (x), .ref (a (200))] R (fun r lv' a' R' => LQ lv a R true (oOrder M x) r lv' a' R') (fun _ _ => False) 6 83 := by
  refine h_body (cc := cL_order) (maxL := 4) (ret := (some .int)) (by decide) rfl (Nat.le_of_ble_eq_true rfl) ?_
  intro pr en st mi bl me co ls B ht hl
  obtain ⟨hx, hb, hr, hml, hown, hts, hlocks, hnm, hK, hZ, hc, hA⟩ := B
  have hl : lv_has ls 4 [(0, .ref (a (0))), (1, .int (x)), (2, .ref (a (200)))] := hl
  refine lv_aload_n hx hb dL_order_0 rfl (lv_at hl 2 rfl) ?_
  refine lv_iconst (v := nI (0)) hx hb dL_order_1 (by decide) ?_
  refine lv_aload_n hx hb dL_order_2 rfl (lv_at hl 0 rfl) ?_
  refine lv_iload_n hx hb dL_order_3 rfl (lv_at hl 1 rfl) ?_
  refine r_tryI (post := fun r R' => QC R (oOrder M x) r R') (xp := XP R (oOrder M x) [NSE]) hc hA (vx_runV (As := [.int (x)]) (rest := [.int (nI (0)), .ref (a (200))]) ⟨hx, hb, hml, hown, hts⟩ (c_X3_order l hl9 D g lv a R M hr9 hC hI x _) (cwV 1 hts gL_order_X3_order rfl rfl rfl (by decide +kernel) ⟨Nat.le_of_ble_eq_true rfl, Nat.le_of_ble_eq_true rfl⟩) (r_preV hK hZ hc hA (hr9.1.1) (rfl) rfl) rfl rfl hl.1 rfl (lv_room (Nat.le_of_ble_eq_true rfl)) dL_order_4 ⟨Nat.le_of_ble_eq_true rfl, Nat.le_of_ble_eq_true rfl⟩) (fun E ce q9 R' H locs hp hc hq1 hq2 hq3 => ?_) (fun r R' H locs hp hc => ?_)
  · obtain ⟨hRe, i9, ho, hi⟩ := hp
    rw [hRe] at hc
    rcases i9 with _ | i9
    · have hE : NSE = E := Option.some.inj hi
      subst hE
      refine vx_catch hown [] ⟨0, 9, 12, 21⟩ [] (ht.trans rfl) (fun z hz => absurd hz List.not_mem_nil) (by decide) (by decide) (hts (.classLink RL 21 "java/util/NoSuchElementException") (by decide +kernel)) (va_Nw.use rfl (hK.2.2.2.2.1 NSE (by decide))) hq1 hq2 hq3 ?_
      show W _ _ _ _ _ _ _ _ _ _ _ _ _ _ _ (F0 mi 12 ls [.ref (q9)])
      refine lv_astore_n (lv' := [(3, .ref (q9)), (0, .ref (a (0))), (1, .int (x)), (2, .ref (a (200)))]) hx hb dL_order_12 rfl hl (by decide) rfl (fun ls hl => ?_)
      refine lv_iconst (v := nI (1)) hx hb dL_order_13 (by decide) ?_
      refine W.widen (k := 6) (n := 83) (by decide) (by decide) ?_
      refine vx_ret ?_
      exact r_iretA (post := fun r lv' a' R' => LQ lv a R true (oOrder M x) r lv' a' R') hx hb hr hlocks hc dL_order_14 (lq_exc hr9 hC ho (sm_order hI x).1)
    · simp at hi
  · skip
    refine lv_i2l hx hb dL_order_7 rfl ?_
    refine r_last hx hb hK.1 hc (h200) (rfl) (by decide) (by omega) dL_order_8 (fun H locs hc => ?_)
    refine lv_goto (tgt := 15) hx hb dL_order_9 (by decide) ?_
    refine lv_iconst (v := nI (0)) hx hb dL_order_15 (by decide) ?_
    refine W.widen (k := 6) (n := 83) (by decide) (by decide) ?_
    refine vx_ret ?_
    exact r_iretA (post := fun r lv' a' R' => LQ lv a R true (oOrder M x) r lv' a' R') hx hb hr hlocks hc dL_order_16 (lq_ret hr9 hp (sm_order hI x) rfl)
