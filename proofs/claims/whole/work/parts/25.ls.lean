/-! ===== the reference's store while it seeks ===== -/
def LSt (R : RS) (M : MS) (k T F : Nat) (pl : List (Nat × Nat)) (S : SS) : Prop :=
  fl R 100 29 = lN T ∧ fl R 100 30 = lN F ∧ fi R 100 31 = nI pl.length ∧ fi R 100 32 = stI S.2.1 ∧ fi R 100 24 = nI S.1 ∧ ai R 111 k = nI (if S.2.2.1 = true then 0 else 1) ∧ ai R 110 k = nI S.2.2.2.length ∧
  (∀ i, i < S.2.2.2.length → (ai R 113 (36 * k + i) = nI (pb S.2.2.2 i).1 ∧ ai R 114 (36 * k + i) = nI (pb S.2.2.2 i).2 ∧ al R 112 (36 * k + i) = lN (cel M k (pb S.2.2.2 i).1 (pb S.2.2.2 i).2))) ∧
  ∀ i, i < pl.length → (ai R 127 i = nI (pb pl i).1 ∧ ai R 128 i = nI (pb pl i).2)
def FSt (R0 R : RS) (k : Nat) : Prop := outM R0 R ∧ (∀ j, j ≠ 24 → j ≠ 31 → j ≠ 32 → fi R 100 j = fi R0 100 j) ∧ (∀ i j, ¬ (i = 110 ∧ j = k) → ¬ (i = 111 ∧ j = k) → ¬ ((i = 113 ∨ i = 114) ∧ 36 * k ≤ j ∧ j < 36 * k + 36) → i ≠ 125 → i ≠ 126 → i ≠ 127 → i ≠ 128 → ai R i j = ai R0 i j) ∧ ∀ i j, ¬ (i = 112 ∧ 36 * k ≤ j ∧ j < 36 * k + 36) → al R i j = al R0 i j
theorem FSt.r (R : RS) (k : Nat) : FSt R R k := ⟨outM.r R, fun _ _ _ _ => rfl, fun _ _ _ _ _ _ _ _ _ => rfl, fun _ _ _ => rfl⟩
theorem FSt.sfi {R0 R : RS} {k j : Nat} {v : Int32} (h : FSt R0 R k) (hj : j = 24 ∨ j = 31 ∨ j = 32) : FSt R0 (sfi R 100 j v) k := ⟨h.1.sfi (by decide), fun q h1 h2 h3 => (up2_nk (by omega)).trans (h.2.1 q h1 h2 h3), h.2.2.1, h.2.2.2⟩
theorem FSt.sfl {R0 R : RS} {k j : Nat} {v : Int64} (h : FSt R0 R k) : FSt R0 (sfl R 100 j v) k := ⟨h.1.sfl (by decide), h.2.1, h.2.2.1, h.2.2.2⟩
theorem FSt.sai {R0 R : RS} {k i j : Nat} {v : Int32} (h : FSt R0 R k) (hi : (i = 110 ∧ j = k) ∨ (i = 111 ∧ j = k) ∨ i = 125 ∨ i = 126 ∨ i = 127 ∨ i = 128) : FSt R0 (sai R i j v) k := ⟨h.1.sai (by omega), h.2.1, fun x y h1 h2 h3 h4 h5 h6 h7 => (up2_n (by omega)).trans (h.2.2.1 x y h1 h2 h3 h4 h5 h6 h7), h.2.2.2⟩
theorem FSt.kb {R0 R : RS} {M : MS} {k n i : Nat} {cn wn : Nat → Nat} (h : FSt R0 R k) (hi : i ≤ 36) : FSt R0 (kbS M k n cn wn R i) k := by
  refine ⟨⟨fun x hx j => ?_, h.1.2⟩, fun q h1 h2 h3 => ?_, fun x y h1 h2 h3 h4 h5 h6 h7 => ?_, fun x y h1 => ?_⟩
  · obtain ⟨a1, a2, a3, a4, a5, a6⟩ := h.1.1 x hx j
    refine ⟨(up2_ni (by omega)).trans a1, a2, a3, ?_, ?_, a6⟩
    · rw [kbS_sc (by omega)]; exact a4
    · show (if x = 112 ∧ 36 * k ≤ j ∧ j < 36 * k + i then _ else R.2.2.2.2.1 x j) = _
      rw [if_neg (by omega)]; exact a5
  · exact (up2_nk (by omega)).trans (h.2.1 q h1 h2 h3)
  · show (if x = 110 ∧ y = k then nI n else if x = 113 ∧ 36 * k ≤ y ∧ y < 36 * k + i then nI (cn (y - 36 * k)) else if x = 114 ∧ 36 * k ≤ y ∧ y < 36 * k + i then nI (wn (y - 36 * k)) else R.2.2.2.1 x y) = _
    rw [if_neg h1, if_neg (by omega), if_neg (by omega)]
    exact h.2.2.1 x y h1 h2 h3 h4 h5 h6 h7
  · show (if x = 112 ∧ 36 * k ≤ y ∧ y < 36 * k + i then _ else R.2.2.2.2.1 x y) = _
    rw [if_neg (by omega)]
    exact h.2.2.2 x y h1
theorem FSt.pk {R0 R : RS} {M : MS} {k : Nat} (h : FSt R0 R k) (hM : PK R0 M) : PK R M :=
  ⟨(h.2.1 0 (by decide) (by decide) (by decide)).trans hM.1, (h.2.1 1 (by decide) (by decide) (by decide)).trans hM.2.1, (h.2.1 2 (by decide) (by decide) (by decide)).trans hM.2.2.1, (h.2.1 3 (by decide) (by decide) (by decide)).trans hM.2.2.2.1, fun q hq => by
    obtain ⟨a1, a2, a3, a4⟩ := hM.2.2.2.2 q hq
    have e : ∀ i, (i = 106 ∨ i = 107 ∨ i = 108 ∨ i = 109) → ai R i q = ai R0 i q := fun i hi => h.2.2.1 i q (by omega) (by omega) (by omega) (by omega) (by omega) (by omega) (by omega)
    exact ⟨(e 106 (by omega)).trans a1, (e 107 (by omega)).trans a2, (e 108 (by omega)).trans a3, (e 109 (by omega)).trans a4⟩⟩
theorem FSt.mr {R0 R : RS} {k : Nat} {a : Nat → Nat} {lv : Nat → Bool} (h : FSt R0 R k) (hm : PMr R0 a lv) : PMr R a lv := ⟨hm.1, fun q hq => (h.1.2 q).trans (hm.2 q hq)⟩
/-- level n: its cell is the first open one -/
def GT (M : MS) (k n T F : Nat) (pl : List (Nat × Nat)) : Prop := T < 2 ^ (mW M * mD M) ∧ F < 2 ^ (mW M * mD M) ∧ (∀ i, F.testBit i = true → i < fo (mW M * mD M) (T ||| F)) ∧ n ≤ fo (mW M * mD M) (T ||| F) ∧ pl.length ≤ fo (mW M * mD M) (T ||| F) ∧ Dj M k pl T
theorem GT.gx {M : MS} {k n T F : Nat} {pl : List (Nat × Nat)} (h : GT M k n T F pl) : GX M k (T ||| F) pl := ⟨h.2.2.2.2.1, T, h.2.2.2.2.2, sub_or (Nat.and_self _)⟩
theorem or_sw (T F c : Nat) : T ||| c ||| F = T ||| F ||| c := by rw [Nat.or_assoc, Nat.or_comm c F, ← Nat.or_assoc]
theorem gt_box {M : MS} {k n T F c y : Nat} {pl : List (Nat × Nat)} (hI : Inv M) (hk : k < mnk M) (h : GT M k n T F pl) (hc : c = fo (mW M * mD M) (T ||| F)) (hc2 : c < mW M * mD M) (hy : y ≤ 1) (h0 : cel M k c y ≠ 0) (hx : cel M k c y &&& T = 0) : GT M k (n + 1) (T ||| cel M k c y) F (pl ++ [(c, y)]) := by
  obtain ⟨h1, h2, h3, h4, h5, h6⟩ := h
  have hce := ce_b (iv_b hI)
  have hu := fo_up (n := mW M * mD M) (x := T ||| F) (y := cel M k c y) (by omega) (by rw [← hc]; exact cel_bit hI hk h0)
  rw [← or_sw] at hu
  refine ⟨Nat.or_lt_two_pow h1 cel_lt, h2, fun i hi => Nat.lt_trans (h3 i hi) hu, by omega, by simp; omega, Dj_add h6 ⟨hy, by show c < 36; omega, (cel_ok h0).1, (cel_ok h0).2⟩ hx⟩
theorem gt_free {M : MS} {k n T F c : Nat} {pl : List (Nat × Nat)} (h : GT M k n T F pl) (hc : c = fo (mW M * mD M) (T ||| F)) (hc2 : c < mW M * mD M) : GT M k (n + 1) T (F ||| 2 ^ c) pl := by
  obtain ⟨h1, h2, h3, h4, h5, h6⟩ := h
  have hu := fo_up (n := mW M * mD M) (x := T ||| F) (y := 2 ^ c) (by omega) (by rw [← hc]; exact Nat.testBit_two_pow_self)
  rw [Nat.or_assoc] at hu
  refine ⟨h1, Nat.or_lt_two_pow h2 (Nat.pow_lt_pow_right (by decide) hc2), fun i hi => ?_, by omega, by omega, h6⟩
  rw [Nat.testBit_or, Bool.or_eq_true] at hi
  rcases hi with hi | hi
  · have := h3 i hi; omega
  · rw [Nat.testBit_two_pow, decide_eq_true_eq] at hi; omega
/-- the open cell c isn't in F -/
theorem open_and {n T F c : Nat} (hc : c = fo n (T ||| F)) (hc2 : c < n) : F &&& 2 ^ c = 0 := by
  have h1 := fof_open (T ||| F) n 0 (by show fo n (T ||| F) < 0 + n; omega)
  rw [show fof (T ||| F) n 0 = c from hc.symm, Nat.testBit_or, Bool.or_eq_false_iff] at h1
  apply Nat.eq_of_testBit_eq
  intro i
  rw [Nat.testBit_and, Nat.zero_testBit, Nat.testBit_two_pow]
  by_cases h : c = i
  · rw [← h, h1.2, Bool.false_and]
  · simp [h]
theorem ls_lack {R : RS} {M : MS} {k T F : Nat} {pl : List (Nat × Nat)} {S : SS} (h : LSt R M k T F pl S) : LSt (sai R 111 k (nI 0)) M k T F pl (lackS S) := by
  obtain ⟨a1, a2, a3, a4, a5, a6, a7, a8, a9⟩ := h
  exact ⟨a1, a2, a3, a4, a5, by rw [q_ai_sai, if_pos ⟨rfl, rfl⟩]; rfl, a7, a8, a9⟩
theorem ls_box {R : RS} {M : MS} {k n T F c y t : Nat} {pl : List (Nat × Nat)} {S : SS} (h : LSt R M k T F pl S) : LSt (sfi (sai (sai (sfl (sai (sfi R 100 24 (nI (S.1 + 1))) 126 n (nI t)) 100 29 (lN (T ||| cel M k c y))) 127 pl.length (nI c)) 128 pl.length (nI y)) 100 31 (nI (pl.length + 1))) M k (T ||| cel M k c y) F (pl ++ [(c, y)]) (stepS S) := by
  obtain ⟨a1, a2, a3, a4, a5, a6, a7, a8, a9⟩ := h
  refine ⟨rfl, a2, by simp [q_fi_sfi], a4, rfl, a6, a7, a8, fun i hi => ?_⟩
  have hi : i < pl.length + 1 := by simpa using hi
  by_cases h1 : i = pl.length
  · subst h1
    rw [pb_r]
    exact ⟨by simp [q_fi_sfi, q_fi_sfl, q_fi_sfr, q_fi_sai, q_fi_sal, q_fi_saq, q_fl_sfi, q_fl_sfl, q_fl_sfr, q_fl_sai, q_fl_sal, q_fl_saq, q_fr_sfi, q_fr_sfl, q_fr_sfr, q_fr_sai, q_fr_sal, q_fr_saq, q_ai_sfi, q_ai_sfl, q_ai_sfr, q_ai_sai, q_ai_sal, q_ai_saq, q_al_sfi, q_al_sfl, q_al_sfr, q_al_sai, q_al_sal, q_al_saq, q_aq_sfi, q_aq_sfl, q_aq_sfr, q_aq_sai, q_aq_sal, q_aq_saq], by simp [q_fi_sfi, q_fi_sfl, q_fi_sfr, q_fi_sai, q_fi_sal, q_fi_saq, q_fl_sfi, q_fl_sfl, q_fl_sfr, q_fl_sai, q_fl_sal, q_fl_saq, q_fr_sfi, q_fr_sfl, q_fr_sfr, q_fr_sai, q_fr_sal, q_fr_saq, q_ai_sfi, q_ai_sfl, q_ai_sfr, q_ai_sai, q_ai_sal, q_ai_saq, q_al_sfi, q_al_sfl, q_al_sfr, q_al_sai, q_al_sal, q_al_saq, q_aq_sfi, q_aq_sfl, q_aq_sfr, q_aq_sai, q_aq_sal, q_aq_saq]⟩
  · rw [pb_l (by omega)]
    have := a9 i (by omega)
    exact ⟨by simp [q_fi_sfi, q_fi_sfl, q_fi_sfr, q_fi_sai, q_fi_sal, q_fi_saq, q_fl_sfi, q_fl_sfl, q_fl_sfr, q_fl_sai, q_fl_sal, q_fl_saq, q_fr_sfi, q_fr_sfl, q_fr_sfr, q_fr_sai, q_fr_sal, q_fr_saq, q_ai_sfi, q_ai_sfl, q_ai_sfr, q_ai_sai, q_ai_sal, q_ai_saq, q_al_sfi, q_al_sfl, q_al_sfr, q_al_sai, q_al_sal, q_al_saq, q_aq_sfi, q_aq_sfl, q_aq_sfr, q_aq_sai, q_aq_sal, q_aq_saq, h1, this.1], by simp [q_fi_sfi, q_fi_sfl, q_fi_sfr, q_fi_sai, q_fi_sal, q_fi_saq, q_fl_sfi, q_fl_sfl, q_fl_sfr, q_fl_sai, q_fl_sal, q_fl_saq, q_fr_sfi, q_fr_sfl, q_fr_sfr, q_fr_sai, q_fr_sal, q_fr_saq, q_ai_sfi, q_ai_sfl, q_ai_sfr, q_ai_sai, q_ai_sal, q_ai_saq, q_al_sfi, q_al_sfl, q_al_sfr, q_al_sai, q_al_sal, q_al_saq, q_aq_sfi, q_aq_sfl, q_aq_sfr, q_aq_sai, q_aq_sal, q_aq_saq, h1, this.2]⟩
theorem ls_free {R : RS} {M : MS} {k n T F c t : Nat} {pl : List (Nat × Nat)} {S : SS} (h : LSt R M k T F pl S) : LSt (sfl (sai (sfi R 100 24 (nI (S.1 + 1))) 126 n (nI t)) 100 30 (lN (F ||| 2 ^ c))) M k T (F ||| 2 ^ c) pl (stepS S) := by
  obtain ⟨a1, a2, a3, a4, a5, a6, a7, a8, a9⟩ := h
  exact ⟨a1, rfl, a3, a4, rfl, a6, a7, a8, a9⟩
theorem ls_next {R : RS} {M : MS} {k n T F c : Nat} {pl : List (Nat × Nat)} {S : SS} (h : LSt R M k T F pl S) : LSt (sai (sai R 125 n (nI c)) 126 n (nI 0)) M k T F pl S := h
theorem ls_back {R : RS} {M : MS} {k T F c y : Nat} {pl : List (Nat × Nat)} {S : SS} (h : LSt R M k (T ||| cel M k c y) F (pl ++ [(c, y)]) S) : LSt (sfl (sfi R 100 31 (nI pl.length)) 100 29 (lN T)) M k T F pl S := by
  obtain ⟨a1, a2, a3, a4, a5, a6, a7, a8, a9⟩ := h
  exact ⟨rfl, a2, rfl, a4, a5, a6, a7, a8, fun i hi => by have := a9 i (by simp; omega); rw [pb_l hi] at this; exact this⟩
theorem ls_bfree {R : RS} {M : MS} {k T F c : Nat} {pl : List (Nat × Nat)} {S : SS} (h : LSt R M k T (F ||| 2 ^ c) pl S) : LSt (sfl R 100 30 (lN F)) M k T F pl S := by
  obtain ⟨a1, a2, a3, a4, a5, a6, a7, a8, a9⟩ := h
  exact ⟨a1, rfl, a3, a4, a5, a6, a7, a8, a9⟩
theorem ls_keep {R : RS} {M : MS} {k T F : Nat} {pl : List (Nat × Nat)} {S : SS} (h : LSt R M k T F pl S) (hk : k < 6) (hb : S.2.1 < pl.length + 1) : LSt (kbS M k pl.length (fun i => (pb pl i).1) (fun i => (pb pl i).2) R pl.length) M k T F pl (leaf pl S) := by
  obtain ⟨a1, a2, a3, a4, a5, a6, a7, a8, a9⟩ := h
  have hl : leaf pl S = (S.1, pl.length + 1, S.2.2.1, pl) := if_pos hb
  rw [hl]
  refine ⟨a1, a2, a3, rfl, a5, ?_, ?_, fun i hi => ?_, fun i hi => ?_⟩
  · rw [kbS_sc (by decide)]; exact a6
  · show (if 110 = 110 ∧ k = k then nI pl.length else _) = _
    rw [if_pos ⟨rfl, rfl⟩]
  · have hi : i < pl.length := hi
    refine ⟨?_, ?_, ?_⟩
    · show (if 113 = 110 ∧ 36 * k + i = k then nI pl.length else if 113 = 113 ∧ 36 * k ≤ 36 * k + i ∧ 36 * k + i < 36 * k + pl.length then nI (pb pl (36 * k + i - 36 * k)).1 else _) = _
      rw [if_neg (by omega), if_pos (by omega), Nat.add_sub_cancel_left]
    · show (if 114 = 110 ∧ 36 * k + i = k then nI pl.length else if 114 = 113 ∧ 36 * k ≤ 36 * k + i ∧ 36 * k + i < 36 * k + pl.length then nI (pb pl (36 * k + i - 36 * k)).1 else if 114 = 114 ∧ 36 * k ≤ 36 * k + i ∧ 36 * k + i < 36 * k + pl.length then nI (pb pl (36 * k + i - 36 * k)).2 else _) = _
      rw [if_neg (by omega), if_neg (by omega), if_pos (by omega), Nat.add_sub_cancel_left]
    · show (if 112 = 112 ∧ 36 * k ≤ 36 * k + i ∧ 36 * k + i < 36 * k + pl.length then lN (cel M k (pb pl (36 * k + i - 36 * k)).1 (pb pl (36 * k + i - 36 * k)).2) else _) = _
      rw [if_pos (by omega), Nat.add_sub_cancel_left]
  · rw [kbS_sc (by decide), kbS_sc (by decide)]
    exact a9 i hi
theorem ls_init {R : RS} {M : MS} {k : Nat} : LSt (sai (sai (sai (sai (sfi (sfi (sfi (sfl (sfl R 100 29 (lN 0)) 100 30 (lN 0)) 100 31 (nI 0)) 100 32 (-1)) 100 24 (nI 0)) 111 k (nI 1)) 110 k (nI 0)) 125 0 (nI 0)) 126 0 (nI 0)) M k 0 0 [] (0, 0, false, []) :=
  ⟨rfl, rfl, rfl, rfl, rfl, by simp [q_fi_sfi, q_fi_sfl, q_fi_sfr, q_fi_sai, q_fi_sal, q_fi_saq, q_fl_sfi, q_fl_sfl, q_fl_sfr, q_fl_sai, q_fl_sal, q_fl_saq, q_fr_sfi, q_fr_sfl, q_fr_sfr, q_fr_sai, q_fr_sal, q_fr_saq, q_ai_sfi, q_ai_sfl, q_ai_sfr, q_ai_sai, q_ai_sal, q_ai_saq, q_al_sfi, q_al_sfl, q_al_sfr, q_al_sai, q_al_sal, q_al_saq, q_aq_sfi, q_aq_sfl, q_aq_sfr, q_aq_sai, q_aq_sal, q_aq_saq], by simp [q_fi_sfi, q_fi_sfl, q_fi_sfr, q_fi_sai, q_fi_sal, q_fi_saq, q_fl_sfi, q_fl_sfl, q_fl_sfr, q_fl_sai, q_fl_sal, q_fl_saq, q_fr_sfi, q_fr_sfl, q_fr_sfr, q_fr_sai, q_fr_sal, q_fr_saq, q_ai_sfi, q_ai_sfl, q_ai_sfr, q_ai_sai, q_ai_sal, q_ai_saq, q_al_sfi, q_al_sfl, q_al_sfr, q_al_sai, q_al_sal, q_al_saq, q_aq_sfi, q_aq_sfl, q_aq_sfr, q_aq_sai, q_aq_sal, q_aq_saq], fun i h => absurd h (Nat.not_lt_zero _), fun i h => absurd h (Nat.not_lt_zero _)⟩
theorem le_st {n b : Nat} (hn : n < 1000) (hb : b < 1000) : nI n ≤ stI b ↔ ¬ b < n + 1 := by
  by_cases h : b = 0
  · subst h
    constructor
    · intro h9
      have := i_le.mp h9
      rw [nI_toInt (by omega)] at this
      simp [stI] at this
      omega
    · intro h9; omega
  · rw [stI_p h, nI_leI (by omega) (by omega)]
    omega
theorem sb_box {R : RS} {n t L c y : Nat} {v1 v2 u1 w1 : Int32} {x1 : Int64} : (∀ j, j < n → ai (sai (sai (sfi (sai (sai (sfl (sai (sfi R 100 24 u1) 126 n (nI t)) 100 29 x1) 127 L (nI c)) 128 L (nI y)) 100 31 w1) 125 (n + 1) v1) 126 (n + 1) v2) 125 j = ai R 125 j ∧ ai (sai (sai (sfi (sai (sai (sfl (sai (sfi R 100 24 u1) 126 n (nI t)) 100 29 x1) 127 L (nI c)) 128 L (nI y)) 100 31 w1) 125 (n + 1) v1) 126 (n + 1) v2) 126 j = ai R 126 j) ∧ ai (sai (sai (sfi (sai (sai (sfl (sai (sfi R 100 24 u1) 126 n (nI t)) 100 29 x1) 127 L (nI c)) 128 L (nI y)) 100 31 w1) 125 (n + 1) v1) 126 (n + 1) v2) 125 n = ai R 125 n ∧ ai (sai (sai (sfi (sai (sai (sfl (sai (sfi R 100 24 u1) 126 n (nI t)) 100 29 x1) 127 L (nI c)) 128 L (nI y)) 100 31 w1) 125 (n + 1) v1) 126 (n + 1) v2) 126 n = nI t := by
  refine ⟨fun j hj => ?_, by simp [q_fi_sfi, q_fi_sfl, q_fi_sfr, q_fi_sai, q_fi_sal, q_fi_saq, q_fl_sfi, q_fl_sfl, q_fl_sfr, q_fl_sai, q_fl_sal, q_fl_saq, q_fr_sfi, q_fr_sfl, q_fr_sfr, q_fr_sai, q_fr_sal, q_fr_saq, q_ai_sfi, q_ai_sfl, q_ai_sfr, q_ai_sai, q_ai_sal, q_ai_saq, q_al_sfi, q_al_sfl, q_al_sfr, q_al_sai, q_al_sal, q_al_saq, q_aq_sfi, q_aq_sfl, q_aq_sfr, q_aq_sai, q_aq_sal, q_aq_saq], by simp [q_fi_sfi, q_fi_sfl, q_fi_sfr, q_fi_sai, q_fi_sal, q_fi_saq, q_fl_sfi, q_fl_sfl, q_fl_sfr, q_fl_sai, q_fl_sal, q_fl_saq, q_fr_sfi, q_fr_sfl, q_fr_sfr, q_fr_sai, q_fr_sal, q_fr_saq, q_ai_sfi, q_ai_sfl, q_ai_sfr, q_ai_sai, q_ai_sal, q_ai_saq, q_al_sfi, q_al_sfl, q_al_sfr, q_al_sai, q_al_sal, q_al_saq, q_aq_sfi, q_aq_sfl, q_aq_sfr, q_aq_sai, q_aq_sal, q_aq_saq]⟩
  have h1 : ¬ j = n := by omega
  have h2 : ¬ j = n + 1 := by omega
  exact ⟨by simp [q_fi_sfi, q_fi_sfl, q_fi_sfr, q_fi_sai, q_fi_sal, q_fi_saq, q_fl_sfi, q_fl_sfl, q_fl_sfr, q_fl_sai, q_fl_sal, q_fl_saq, q_fr_sfi, q_fr_sfl, q_fr_sfr, q_fr_sai, q_fr_sal, q_fr_saq, q_ai_sfi, q_ai_sfl, q_ai_sfr, q_ai_sai, q_ai_sal, q_ai_saq, q_al_sfi, q_al_sfl, q_al_sfr, q_al_sai, q_al_sal, q_al_saq, q_aq_sfi, q_aq_sfl, q_aq_sfr, q_aq_sai, q_aq_sal, q_aq_saq, h1, h2], by simp [q_fi_sfi, q_fi_sfl, q_fi_sfr, q_fi_sai, q_fi_sal, q_fi_saq, q_fl_sfi, q_fl_sfl, q_fl_sfr, q_fl_sai, q_fl_sal, q_fl_saq, q_fr_sfi, q_fr_sfl, q_fr_sfr, q_fr_sai, q_fr_sal, q_fr_saq, q_ai_sfi, q_ai_sfl, q_ai_sfr, q_ai_sai, q_ai_sal, q_ai_saq, q_al_sfi, q_al_sfl, q_al_sfr, q_al_sai, q_al_sal, q_al_saq, q_aq_sfi, q_aq_sfl, q_aq_sfr, q_aq_sai, q_aq_sal, q_aq_saq, h1, h2]⟩
theorem sb_free {R : RS} {n t : Nat} {v1 v2 u1 : Int32} {x1 : Int64} : (∀ j, j < n → ai (sai (sai (sfl (sai (sfi R 100 24 u1) 126 n (nI t)) 100 30 x1) 125 (n + 1) v1) 126 (n + 1) v2) 125 j = ai R 125 j ∧ ai (sai (sai (sfl (sai (sfi R 100 24 u1) 126 n (nI t)) 100 30 x1) 125 (n + 1) v1) 126 (n + 1) v2) 126 j = ai R 126 j) ∧ ai (sai (sai (sfl (sai (sfi R 100 24 u1) 126 n (nI t)) 100 30 x1) 125 (n + 1) v1) 126 (n + 1) v2) 125 n = ai R 125 n ∧ ai (sai (sai (sfl (sai (sfi R 100 24 u1) 126 n (nI t)) 100 30 x1) 125 (n + 1) v1) 126 (n + 1) v2) 126 n = nI t := by
  refine ⟨fun j hj => ?_, by simp [q_fi_sfi, q_fi_sfl, q_fi_sfr, q_fi_sai, q_fi_sal, q_fi_saq, q_fl_sfi, q_fl_sfl, q_fl_sfr, q_fl_sai, q_fl_sal, q_fl_saq, q_fr_sfi, q_fr_sfl, q_fr_sfr, q_fr_sai, q_fr_sal, q_fr_saq, q_ai_sfi, q_ai_sfl, q_ai_sfr, q_ai_sai, q_ai_sal, q_ai_saq, q_al_sfi, q_al_sfl, q_al_sfr, q_al_sai, q_al_sal, q_al_saq, q_aq_sfi, q_aq_sfl, q_aq_sfr, q_aq_sai, q_aq_sal, q_aq_saq], by simp [q_fi_sfi, q_fi_sfl, q_fi_sfr, q_fi_sai, q_fi_sal, q_fi_saq, q_fl_sfi, q_fl_sfl, q_fl_sfr, q_fl_sai, q_fl_sal, q_fl_saq, q_fr_sfi, q_fr_sfl, q_fr_sfr, q_fr_sai, q_fr_sal, q_fr_saq, q_ai_sfi, q_ai_sfl, q_ai_sfr, q_ai_sai, q_ai_sal, q_ai_saq, q_al_sfi, q_al_sfl, q_al_sfr, q_al_sai, q_al_sal, q_al_saq, q_aq_sfi, q_aq_sfl, q_aq_sfr, q_aq_sai, q_aq_sal, q_aq_saq]⟩
  have h1 : ¬ j = n := by omega
  have h2 : ¬ j = n + 1 := by omega
  exact ⟨by simp [q_fi_sfi, q_fi_sfl, q_fi_sfr, q_fi_sai, q_fi_sal, q_fi_saq, q_fl_sfi, q_fl_sfl, q_fl_sfr, q_fl_sai, q_fl_sal, q_fl_saq, q_fr_sfi, q_fr_sfl, q_fr_sfr, q_fr_sai, q_fr_sal, q_fr_saq, q_ai_sfi, q_ai_sfl, q_ai_sfr, q_ai_sai, q_ai_sal, q_ai_saq, q_al_sfi, q_al_sfl, q_al_sfr, q_al_sai, q_al_sal, q_al_saq, q_aq_sfi, q_aq_sfl, q_aq_sfr, q_aq_sai, q_aq_sal, q_aq_saq, h1, h2], by simp [q_fi_sfi, q_fi_sfl, q_fi_sfr, q_fi_sai, q_fi_sal, q_fi_saq, q_fl_sfi, q_fl_sfl, q_fl_sfr, q_fl_sai, q_fl_sal, q_fl_saq, q_fr_sfi, q_fr_sfl, q_fr_sfr, q_fr_sai, q_fr_sal, q_fr_saq, q_ai_sfi, q_ai_sfl, q_ai_sfr, q_ai_sai, q_ai_sal, q_ai_saq, q_al_sfi, q_al_sfl, q_al_sfr, q_al_sai, q_al_sal, q_al_saq, q_aq_sfi, q_aq_sfl, q_aq_sfr, q_aq_sai, q_aq_sal, q_aq_saq, h1, h2]⟩
theorem box_up {M : MS} {k T F c y : Nat} (hI : Inv M) (hk : k < mnk M) (hc : c = fo (mW M * mD M) (T ||| F)) (hc2 : c < mW M * mD M) (h0 : cel M k c y ≠ 0) : c < fo (mW M * mD M) (T ||| cel M k c y ||| F) := by
  have hu := fo_up (n := mW M * mD M) (x := T ||| F) (y := cel M k c y) (by omega) (by rw [← hc]; exact cel_bit hI hk h0)
  rw [← or_sw, ← hc] at hu
  exact hu
theorem free_up {M : MS} {T F c : Nat} (hc : c = fo (mW M * mD M) (T ||| F)) (hc2 : c < mW M * mD M) : c < fo (mW M * mD M) (T ||| (F ||| 2 ^ c)) := by
  have hu := fo_up (n := mW M * mD M) (x := T ||| F) (y := 2 ^ c) (by omega) (by rw [← hc]; exact Nat.testBit_two_pow_self)
  rw [Nat.or_assoc, ← hc] at hu
  exact hu
theorem goS_leaf {M : MS} {k mx f x : Nat} {pl : List (Nat × Nat)} {S : SS} (h : fo (mW M * mD M) x = mW M * mD M) : goS M k mx (f + 1) x pl S = leaf pl S := by simp only [goS, if_pos h]
theorem goS_cut {M : MS} {k mx f x : Nat} {pl : List (Nat × Nat)} {S : SS} (h : ¬ fo (mW M * mD M) x = mW M * mD M) (h2 : ¬ S.2.1 < pl.length + (mW M * mD M - pc x) / (kw M k * kd M k) + 1) : goS M k mx (f + 1) x pl S = S := by simp only [goS, if_neg h, if_neg h2]
theorem goS_go {M : MS} {k mx f x : Nat} {pl : List (Nat × Nat)} {S : SS} (h : ¬ fo (mW M * mD M) x = mW M * mD M) (h2 : S.2.1 < pl.length + (mW M * mD M - pc x) / (kw M k * kd M k) + 1) : goS M k mx (f + 1) x pl S = rS (goS M k mx f) M k mx x (fo (mW M * mD M) x) pl 1 S := by simp only [goS, if_neg h, if_pos h2]
theorem fo_z {n : Nat} (h : 0 < n) : fo n (0 ||| 0) = 0 := fo_2 h (fun j hj => absurd hj (Nat.not_lt_zero _)) (by simp)
