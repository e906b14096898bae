/-! ===== the search ===== -/
/-- steps, the best number and one (0: none), whether steps were lacking, the best pattern -/
abbrev SS : Type := Nat × Nat × Bool × List (Nat × Nat)
def lackS (S : SS) : SS := (S.1, S.2.1, true, S.2.2.2)
def stepS (S : SS) : SS := (S.1 + 1, S.2)
abbrev pb (l : List (Nat × Nat)) (i : Nat) : Nat × Nat := l.getD i (0, 0)
abbrev key9 (M : MS) (k c t x : Nat) : Prop := ¬ (t = 2 ∧ kw M k = kd M k) ∧ cel M k c (t - 1) ≠ 0 ∧ cel M k c (t - 1) &&& x = 0
/-- the trial t at the cell c, where it can be made -/
def tr1 (G : Nat → List (Nat × Nat) → SS → SS) (M : MS) (k mx x c : Nat) (pl : List (Nat × Nat)) (t : Nat) (S : SS) : SS :=
  if t = 3 then (if S.1 < mx then G (x ||| 2 ^ c) pl (stepS S) else lackS S) else if key9 M k c t x then (if S.1 < mx then G (x ||| cel M k c (t - 1)) (pl ++ [(c, t - 1)]) (stepS S) else lackS S) else S
/-- the trials from t on -/
def rS (G : Nat → List (Nat × Nat) → SS → SS) (M : MS) (k mx x c : Nat) (pl : List (Nat × Nat)) (t : Nat) (S : SS) : SS :=
  if t = 1 then tr1 G M k mx x c pl 3 (tr1 G M k mx x c pl 2 (tr1 G M k mx x c pl 1 S)) else if t = 2 then tr1 G M k mx x c pl 3 (tr1 G M k mx x c pl 2 S) else if t = 3 then tr1 G M k mx x c pl 3 S else S
def leaf (pl : List (Nat × Nat)) (S : SS) : SS := if S.2.1 < pl.length + 1 then (S.1, pl.length + 1, S.2.2.1, pl) else S
def goS (M : MS) (k mx : Nat) : Nat → Nat → List (Nat × Nat) → SS → SS
  | 0, _, _, S => S
  | f + 1, x, pl, S => if fo (mW M * mD M) x = mW M * mD M then leaf pl S else if S.2.1 < pl.length + (mW M * mD M - pc x) / (kw M k * kd M k) + 1 then rS (goS M k mx f) M k mx x (fo (mW M * mD M) x) pl 1 S else S
def ok9 (M : MS) (k : Nat) (b : Nat × Nat) : Prop := b.2 ≤ 1 ∧ b.1 < 36 ∧ b.1 % mW M + ac M k b.2 ≤ mW M ∧ b.1 / mW M + alo M k b.2 ≤ mD M
/-- the boxes of pl are within, apart, and in T -/
def Dj (M : MS) (k : Nat) (pl : List (Nat × Nat)) (T : Nat) : Prop := (∀ i, i < pl.length → (ok9 M k (pb pl i) ∧ cel M k (pb pl i).1 (pb pl i).2 &&& T = cel M k (pb pl i).1 (pb pl i).2)) ∧ ∀ i j, i < pl.length → j < pl.length → i ≠ j → cel M k (pb pl i).1 (pb pl i).2 &&& cel M k (pb pl j).1 (pb pl j).2 = 0
def SI (M : MS) (k mx : Nat) (S : SS) : Prop := S.1 ≤ mx ∧ ((S.2.1 = 0 ∧ S.2.2.2 = []) ∨ S.2.1 = S.2.2.2.length + 1) ∧ S.2.2.2.length ≤ 36 ∧ ∃ T, Dj M k S.2.2.2 T
def GX (M : MS) (k x : Nat) (pl : List (Nat × Nat)) : Prop := pl.length ≤ fo (mW M * mD M) x ∧ ∃ T, Dj M k pl T ∧ T &&& x = T
theorem sub_or {a T c : Nat} (h : a &&& T = a) : a &&& (T ||| c) = a := by
  rw [Nat.and_or_distrib_left, h]
  apply Nat.eq_of_testBit_eq
  intro i
  rw [Nat.testBit_or, Nat.testBit_and]
  cases a.testBit i <;> simp
theorem sub_and0 {a T c : Nat} (h : a &&& T = a) (h2 : c &&& T = 0) : a &&& c = 0 := by
  rw [← h, Nat.and_assoc, Nat.and_comm T c, h2, Nat.and_zero]
theorem pb_l {pl : List (Nat × Nat)} {b : Nat × Nat} {i : Nat} (h : i < pl.length) : pb (pl ++ [b]) i = pb pl i := by
  simp [pb, List.getD, List.getElem?_append_left h]
theorem pb_r {pl : List (Nat × Nat)} {b : Nat × Nat} : pb (pl ++ [b]) pl.length = b := by simp [pb, List.getD]
theorem Dj_nil {M : MS} {k T : Nat} : Dj M k [] T := ⟨fun i h => absurd h (Nat.not_lt_zero _), fun i j h => absurd h (Nat.not_lt_zero _)⟩
theorem Dj_add {M : MS} {k T : Nat} {pl : List (Nat × Nat)} {b : Nat × Nat} (h : Dj M k pl T) (hb : ok9 M k b) (h0 : cel M k b.1 b.2 &&& T = 0) : Dj M k (pl ++ [b]) (T ||| cel M k b.1 b.2) := by
  have hl : (pl ++ [b]).length = pl.length + 1 := by simp
  refine ⟨fun i hi => ?_, fun i j hi hj hij => ?_⟩
  · rw [hl] at hi
    by_cases h1 : i = pl.length
    · rw [h1, pb_r]
      refine ⟨hb, ?_⟩
      rw [Nat.or_comm]
      exact sub_or (Nat.and_self _)
    · rw [pb_l (by omega)]
      exact ⟨(h.1 i (by omega)).1, sub_or (h.1 i (by omega)).2⟩
  · rw [hl] at hi hj
    by_cases h1 : i = pl.length
    · by_cases h2 : j = pl.length
      · omega
      · rw [h1, pb_r, pb_l (by omega), Nat.and_comm]
        exact sub_and0 (h.1 j (by omega)).2 h0
    · by_cases h2 : j = pl.length
      · rw [h2, pb_r, pb_l (by omega)]
        exact sub_and0 (h.1 i (by omega)).2 h0
      · rw [pb_l (by omega), pb_l (by omega)]
        exact h.2 i j (by omega) (by omega) hij
/-- closing the first open cell moves on -/
theorem fo_up {n x y : Nat} (hc : fo n x < n) (hb : y.testBit (fo n x) = true) : fo n x < fo n (x ||| y) := by
  have h1 := fof_closed x n 0
  rw [show fof x n 0 = fo n x from rfl] at h1
  have h2 : ∀ i, i < fo n x + 1 → (x ||| y).testBit i = true := fun i hi => by
    rw [Nat.testBit_or]
    by_cases h : i = fo n x
    · rw [h, hb, Bool.or_true]
    · rw [h1 i (Nat.zero_le _) (by omega), Bool.true_or]
  rw [fo_from (c := fo n x + 1) (by omega) h2]
  have := (fof_le (x ||| y) (n - (fo n x + 1)) (fo n x + 1)).2
  omega
theorem cel_ok {M : MS} {k c y : Nat} (h : cel M k c y ≠ 0) : c % mW M + ac M k y ≤ mW M ∧ c / mW M + alo M k y ≤ mD M := by
  by_cases h1 : c % mW M + ac M k y ≤ mW M ∧ c / mW M + alo M k y ≤ mD M
  · exact h1
  · exact absurd (cel_f h1) h
theorem cel_bit {M : MS} {k c y : Nat} (hI : Inv M) (hk : k < mnk M) (h : cel M k c y ≠ 0) : (cel M k c y).testBit c = true := by
  have h1 := cel_ok h
  have h2 := ac_b (y := y) (iv_k hI hk)
  rw [cel_t h1.1 h1.2]
  exact bm_c (by omega) (by omega)
theorem cel_ge {M : MS} {k c y i : Nat} (h : (cel M k c y).testBit i = true) : c ≤ i := by
  unfold cel at h
  split at h
  · exact bm_ge _ _ h
  · simp at h
theorem gx_box {M : MS} {k x c y : Nat} {pl : List (Nat × Nat)} (hI : Inv M) (hk : k < mnk M) (h : GX M k x pl) (hc : c = fo (mW M * mD M) x) (hc2 : c < mW M * mD M) (hy : y ≤ 1) (h0 : cel M k c y ≠ 0) (hx : cel M k c y &&& x = 0) : GX M k (x ||| cel M k c y) (pl ++ [(c, y)]) := by
  obtain ⟨h1, T, h2, h3⟩ := h
  have hce := ce_b (iv_b hI)
  have hu := fo_up (n := mW M * mD M) (x := x) (y := cel M k c y) (by omega) (by rw [← hc]; exact cel_bit hI hk h0)
  refine ⟨by simp; omega, T ||| cel M k c y, Dj_add h2 ⟨hy, by show c < 36; omega, (cel_ok h0).1, (cel_ok h0).2⟩ ?_, ?_⟩
  · show cel M k c y &&& T = 0
    rw [Nat.and_comm]
    exact sub_and0 h3 hx
  · rw [Nat.and_or_distrib_right]
    rw [sub_or h3, Nat.or_comm x, sub_or (Nat.and_self _)]
theorem gx_free {M : MS} {k x c : Nat} {pl : List (Nat × Nat)} (h : GX M k x pl) (hc : c = fo (mW M * mD M) x) (hc2 : c < mW M * mD M) : GX M k (x ||| 2 ^ c) pl := by
  obtain ⟨h1, T, h2, h3⟩ := h
  have hu := fo_up (n := mW M * mD M) (x := x) (y := 2 ^ c) (by omega) (by rw [← hc]; exact Nat.testBit_two_pow_self)
  exact ⟨by omega, T, h2, sub_or h3⟩
theorem si_lack {M : MS} {k mx : Nat} {S : SS} (h : SI M k mx S) : SI M k mx (lackS S) := h
theorem si_step {M : MS} {k mx : Nat} {S : SS} (h : SI M k mx S) (h1 : S.1 < mx) : SI M k mx (stepS S) := ⟨h1, h.2⟩
theorem tr1_si {G : Nat → List (Nat × Nat) → SS → SS} {M : MS} {k mx x c : Nat} {pl : List (Nat × Nat)} (hI : Inv M) (hk : k < mnk M) (hG : ∀ x pl S, GX M k x pl → SI M k mx S → SI M k mx (G x pl S)) (hx : GX M k x pl) (hc : c = fo (mW M * mD M) x) (hc2 : c < mW M * mD M) {t : Nat} (ht : t ≤ 3) {S : SS} (h : SI M k mx S) : SI M k mx (tr1 G M k mx x c pl t S) := by
  unfold tr1
  split
  · split
    · next h1 => exact hG _ _ _ (gx_free hx hc hc2) (si_step h h1)
    · exact si_lack h
  · split
    · next h2 =>
      split
      · next h1 => exact hG _ _ _ (gx_box hI hk hx hc hc2 (by omega) h2.2.1 h2.2.2) (si_step h h1)
      · exact si_lack h
    · exact h
theorem rS_si {G : Nat → List (Nat × Nat) → SS → SS} {M : MS} {k mx x c : Nat} {pl : List (Nat × Nat)} (hI : Inv M) (hk : k < mnk M) (hG : ∀ x pl S, GX M k x pl → SI M k mx S → SI M k mx (G x pl S)) (hx : GX M k x pl) (hc : c = fo (mW M * mD M) x) (hc2 : c < mW M * mD M) {t : Nat} {S : SS} (h : SI M k mx S) : SI M k mx (rS G M k mx x c pl t S) := by
  unfold rS
  split
  · exact tr1_si hI hk hG hx hc hc2 (by omega) (tr1_si hI hk hG hx hc hc2 (by omega) (tr1_si hI hk hG hx hc hc2 (by omega) h))
  · split
    · exact tr1_si hI hk hG hx hc hc2 (by omega) (tr1_si hI hk hG hx hc hc2 (by omega) h)
    · split
      · exact tr1_si hI hk hG hx hc hc2 (by omega) h
      · exact h
theorem leaf_si {M : MS} {k mx x : Nat} {pl : List (Nat × Nat)} {S : SS} (hI : Inv M) (hx : GX M k x pl) (h : SI M k mx S) : SI M k mx (leaf pl S) := by
  unfold leaf
  split
  · obtain ⟨h1, T, h2, -⟩ := hx
    have := fo_le (mW M * mD M) x
    have := ce_b (iv_b hI)
    exact ⟨h.1, Or.inr rfl, by show pl.length ≤ 36; omega, T, h2⟩
  · exact h
theorem goS_si {M : MS} {k mx : Nat} (hI : Inv M) (hk : k < mnk M) : ∀ (f x : Nat) (pl : List (Nat × Nat)) (S : SS), GX M k x pl → SI M k mx S → SI M k mx (goS M k mx f x pl S) := by
  intro f
  induction f with
  | zero => intro x pl S _ h; exact h
  | succ f ih =>
    intro x pl S hx h
    simp only [goS]
    split
    · exact leaf_si hI hx h
    · next h1 =>
      split
      · exact rS_si hI hk ih hx rfl (by have := fo_le (mW M * mD M) x; omega) h
      · exact h
theorem tr1_lack {G : Nat → List (Nat × Nat) → SS → SS} {M : MS} {k mx x c t : Nat} {pl : List (Nat × Nat)} {S : SS} (h : ¬ S.1 < mx) : tr1 G M k mx x c pl t S = S ∨ tr1 G M k mx x c pl t S = lackS S := by
  unfold tr1
  split
  · exact Or.inr rfl
  · split
    · exact Or.inr rfl
    · exact Or.inl rfl
theorem tr1_lack3 {G : Nat → List (Nat × Nat) → SS → SS} {M : MS} {k mx x c : Nat} {pl : List (Nat × Nat)} {S : SS} (h : ¬ S.1 < mx) : tr1 G M k mx x c pl 3 S = lackS S := by
  unfold tr1
  rw [if_pos rfl, if_neg h]
/-- no steps left: nothing but that is told -/
theorem rS_lack {G : Nat → List (Nat × Nat) → SS → SS} {M : MS} {k mx x c t : Nat} {pl : List (Nat × Nat)} {S : SS} (h : ¬ S.1 < mx) (h1 : 1 ≤ t) (h3 : t ≤ 3) : rS G M k mx x c pl t S = lackS S := by
  have hl : lackS (lackS S) = lackS S := rfl
  have k2 : ∀ S' : SS, (S' = S ∨ S' = lackS S) → tr1 G M k mx x c pl 3 S' = lackS S := fun S' h' => by
    rcases h' with h' | h' <;> rw [h']
    · exact tr1_lack3 h
    · exact tr1_lack3 (S := lackS S) h
  have k1 : ∀ S' : SS, (S' = S ∨ S' = lackS S) → (tr1 G M k mx x c pl 2 S' = S ∨ tr1 G M k mx x c pl 2 S' = lackS S) := fun S' h' => by
    rcases h' with h' | h' <;> rw [h']
    · exact tr1_lack h
    · exact Or.inr ((tr1_lack (S := lackS S) h).elim id id)
  unfold rS
  split
  · exact k2 _ (k1 _ (tr1_lack h))
  · split
    · exact k2 _ (k1 _ (Or.inl rfl))
    · rw [if_pos (by omega)]
      exact k2 _ (Or.inl rfl)
theorem rS_skip {G : Nat → List (Nat × Nat) → SS → SS} {M : MS} {k mx x c t : Nat} {pl : List (Nat × Nat)} {S : SS} (h1 : 1 ≤ t) (h3 : t < 3) (hk : ¬ key9 M k c t x) : rS G M k mx x c pl t S = rS G M k mx x c pl (t + 1) S := by
  have e : tr1 G M k mx x c pl t S = S := by
    unfold tr1
    rw [if_neg (by omega), if_neg hk]
  rcases (show t = 1 ∨ t = 2 by omega) with rfl | rfl
  · show tr1 G M k mx x c pl 3 (tr1 G M k mx x c pl 2 (tr1 G M k mx x c pl 1 S)) = tr1 G M k mx x c pl 3 (tr1 G M k mx x c pl 2 S)
    rw [e]
  · show tr1 G M k mx x c pl 3 (tr1 G M k mx x c pl 2 S) = tr1 G M k mx x c pl 3 S
    rw [e]
theorem rS_box {G : Nat → List (Nat × Nat) → SS → SS} {M : MS} {k mx x c t : Nat} {pl : List (Nat × Nat)} {S : SS} (h1 : 1 ≤ t) (h3 : t < 3) (hk : key9 M k c t x) (hs : S.1 < mx) : rS G M k mx x c pl t S = rS G M k mx x c pl (t + 1) (G (x ||| cel M k c (t - 1)) (pl ++ [(c, t - 1)]) (stepS S)) := by
  have e : tr1 G M k mx x c pl t S = G (x ||| cel M k c (t - 1)) (pl ++ [(c, t - 1)]) (stepS S) := by
    unfold tr1
    rw [if_neg (by omega), if_pos hk, if_pos hs]
  rcases (show t = 1 ∨ t = 2 by omega) with rfl | rfl
  · show tr1 G M k mx x c pl 3 (tr1 G M k mx x c pl 2 (tr1 G M k mx x c pl 1 S)) = tr1 G M k mx x c pl 3 (tr1 G M k mx x c pl 2 _)
    rw [e]
  · show tr1 G M k mx x c pl 3 (tr1 G M k mx x c pl 2 S) = tr1 G M k mx x c pl 3 _
    rw [e]
theorem rS_free {G : Nat → List (Nat × Nat) → SS → SS} {M : MS} {k mx x c : Nat} {pl : List (Nat × Nat)} {S : SS} (hs : S.1 < mx) : rS G M k mx x c pl 3 S = rS G M k mx x c pl 4 (G (x ||| 2 ^ c) pl (stepS S)) := by
  show tr1 G M k mx x c pl 3 S = G (x ||| 2 ^ c) pl (stepS S)
  unfold tr1
  rw [if_pos rfl, if_pos hs]
/-- cells left free lie ahead: what is taken alone decides -/
theorem key_TF {M : MS} {k c t T F : Nat} (hF : ∀ i, F.testBit i = true → i < c) : key9 M k c t (T ||| F) ↔ (¬ (t = 2 ∧ kw M k = kd M k) ∧ cel M k c (t - 1) ≠ 0 ∧ cel M k c (t - 1) &&& T = 0) := by
  have hz : cel M k c (t - 1) &&& F = 0 := by
    apply Nat.eq_of_testBit_eq
    intro i
    rw [Nat.testBit_and, Nat.zero_testBit]
    cases h1 : (cel M k c (t - 1)).testBit i with
    | false => rfl
    | true =>
      cases h2 : F.testBit i with
      | false => rfl
      | true => have := cel_ge h1; have := hF i h2; omega
  have e : cel M k c (t - 1) &&& (T ||| F) = cel M k c (t - 1) &&& T := by rw [Nat.and_or_distrib_left, hz, Nat.or_zero]
  unfold key9
  rw [e]
