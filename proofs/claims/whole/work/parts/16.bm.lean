/-! ===== the cells of a box, the first open cell ===== -/
theorem bm_top {W c w d D : Nat} (hw : c % W + w ≤ W) (hd : c / W + (d + 1) ≤ D) : c + W * d + w ≤ W * D := by
  have h1 := Nat.div_add_mod c W
  have h2 : W * (c / W + (d + 1)) ≤ W * D := Nat.mul_le_mul_left W hd
  rw [Nat.mul_add, Nat.mul_add] at h2
  omega
theorem sl_lt {w n : Nat} : (2 ^ w - 1) <<< n < 2 ^ (n + w) := by
  rw [Nat.shiftLeft_eq, Nat.pow_add, Nat.mul_comm]
  have h1 := Nat.two_pow_pos w
  have h2 := Nat.two_pow_pos n
  exact Nat.mul_lt_mul_of_pos_left (by omega) h2
theorem bm_lt {W c w D : Nat} (hw : c % W + w ≤ W) : ∀ d, c / W + d ≤ D → bm W c w d < 2 ^ (W * D) := by
  intro d
  induction d with
  | zero => intro _; exact Nat.two_pow_pos _
  | succ d ih =>
    intro hd
    refine Nat.or_lt_two_pow (ih (by omega)) ?_
    exact Nat.lt_of_lt_of_le sl_lt (Nat.pow_le_pow_right (by decide) (bm_top hw hd))
theorem bm_ge {W c w : Nat} : ∀ d i, (bm W c w d).testBit i = true → c ≤ i := by
  intro d
  induction d with
  | zero => intro i h; simp [bm] at h
  | succ d ih =>
    intro i h
    simp only [bm, Nat.testBit_or, Bool.or_eq_true] at h
    rcases h with h | h
    · exact ih i h
    · simp only [Nat.testBit_shiftLeft, Bool.and_eq_true, decide_eq_true_eq] at h
      omega
theorem bm_c {W c w d : Nat} (hw : 0 < w) (hd : 0 < d) : (bm W c w d).testBit c = true := by
  induction d with
  | zero => omega
  | succ d ih =>
    simp only [bm, Nat.testBit_or, Bool.or_eq_true]
    by_cases h : d = 0
    · subst h
      right
      simp [Nat.testBit_shiftLeft, hw]
    · exact Or.inl (ih (by omega))
theorem bm_sh {W c w : Nat} : ∀ d, bm W 0 w d <<< c = bm W c w d := by
  intro d
  induction d with
  | zero => simp [bm]
  | succ d ih =>
    simp only [bm]
    rw [Nat.shiftLeft_or_distrib, ih, ← Nat.shiftLeft_add, Nat.zero_add, Nat.add_comm (W * d) c]
theorem bm_row {W c w i : Nat} : (2 ^ w - 1) * 2 ^ (c % W) * 2 ^ (W * (c / W + i)) = (2 ^ w - 1) <<< (c + W * i) := by
  have h1 := Nat.div_add_mod c W
  rw [Nat.shiftLeft_eq, Nat.mul_assoc, ← Nat.pow_add]
  congr 2
  rw [Nat.mul_add]
  omega
/-- the cells of a box of kind k, its corner the cell c, in the way y; none where it isn't within -/
def cel (M : MS) (k c y : Nat) : Nat := if c % mW M + ac M k y ≤ mW M ∧ c / mW M + alo M k y ≤ mD M then bm (mW M) c (ac M k y) (alo M k y) else 0
theorem p36 {n : Nat} (h : n ≤ 36) : 2 ^ n ≤ 68719476736 := Nat.pow_le_pow_right (by decide) h
theorem cel_lt {M : MS} {k c y : Nat} : cel M k c y < 2 ^ (mW M * mD M) := by
  unfold cel
  split
  · next h => exact bm_lt h.1 _ h.2
  · exact Nat.two_pow_pos _
/-- the first cell from c on, f more, that isn't in x -/
def fof (x : Nat) : Nat → Nat → Nat
  | 0, c => c
  | f + 1, c => if x.testBit c = true then fof x f (c + 1) else c
def fo (n x : Nat) : Nat := fof x n 0
theorem fof_le (x : Nat) : ∀ f c, fof x f c ≤ c + f ∧ c ≤ fof x f c := by
  intro f
  induction f with
  | zero => intro c; exact ⟨Nat.le_refl _, Nat.le_refl _⟩
  | succ f ih =>
    intro c
    simp only [fof]
    split
    · have := ih (c + 1); omega
    · omega
theorem fof_open (x : Nat) : ∀ f c, fof x f c < c + f → x.testBit (fof x f c) = false := by
  intro f
  induction f with
  | zero => intro c h; simp [fof] at h
  | succ f ih =>
    intro c h
    simp only [fof] at h ⊢
    split
    · next h1 => rw [if_pos h1] at h; exact ih (c + 1) (by omega)
    · next h1 => exact Bool.eq_false_iff.mpr h1
theorem fof_closed (x : Nat) : ∀ f c i, c ≤ i → i < fof x f c → x.testBit i = true := by
  intro f
  induction f with
  | zero => intro c i h1 h2; simp [fof] at h2; omega
  | succ f ih =>
    intro c i h1 h2
    simp only [fof] at h2
    split at h2
    · next h3 =>
      by_cases h4 : i = c
      · rw [h4]; exact h3
      · exact ih (c + 1) i (by omega) h2
    · omega
theorem fof_skip (x : Nat) : ∀ k f c, (∀ i, c ≤ i → i < c + k → x.testBit i = true) → fof x (k + f) c = fof x f (c + k) := by
  intro k
  induction k with
  | zero => intro f c _; rw [Nat.zero_add]; rfl
  | succ k ih =>
    intro f c h
    rw [show k + 1 + f = (k + f) + 1 by omega]
    simp only [fof]
    rw [if_pos (h c (Nat.le_refl _) (by omega)), ih f (c + 1) (fun i h1 h2 => h i (by omega) (by omega)), show c + 1 + k = c + (k + 1) by omega]
theorem fo_from {n x c : Nat} (hc : c ≤ n) (h : ∀ i, i < c → x.testBit i = true) : fo n x = fof x (n - c) c := by
  have := fof_skip x c (n - c) 0 (fun i _ hi => h i (by omega))
  rw [show c + (n - c) = n by omega, Nat.zero_add] at this
  exact this
theorem fo_le (n x : Nat) : fo n x ≤ n := by have := (fof_le x n 0).1; unfold fo; omega
theorem tb_div {n i : Nat} : n / 2 ^ i % 2 = 1 ↔ n.testBit i = true := by
  rw [Nat.testBit_eq_decide_div_mod_eq, decide_eq_true_eq]
