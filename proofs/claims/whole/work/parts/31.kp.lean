theorem bm_st {W w y : Nat} : bm W 0 w y ||| (1 * 2 ^ w - 1) * 2 ^ (y * W) = bm W 0 w (y + 1) := by
  simp only [bm, Nat.shiftLeft_eq, Nat.one_mul, Nat.zero_add]
  rw [Nat.mul_comm y W]
theorem bm_s1 {W y : Nat} (hW : W ≤ 6) (hy : y < 6) : y * W < 64 := Nat.lt_of_le_of_lt (Nat.mul_le_mul (show y ≤ 5 by omega) hW) (by decide)
theorem bm_s2 {W w y : Nat} (hW : W ≤ 6) (hw : w ≤ 6) (hy : y ≤ 6) : bm W 0 w y < 2 ^ 64 := Nat.lt_of_lt_of_le (bm_b hW hw y hy) (by decide)
theorem bm_s3 {W w y : Nat} (hW : W ≤ 6) (hw : w ≤ 6) (hy : y ≤ 5) : (1 * 2 ^ w - 1) * 2 ^ (y * W) < 2 ^ 64 := by
  rw [← Nat.shiftLeft_eq, Nat.one_mul]
  refine Nat.lt_of_lt_of_le sl_lt (Nat.pow_le_pow_right (by decide) ?_)
  have : y * W ≤ 5 * 6 := Nat.mul_le_mul hy hW
  omega
theorem min_36 {n : Nat} (h : n ≤ 36) : (if nI 36 < nI n then nI 36 else nI n) = nI n := by
  rw [if_neg (fun z => by rw [nI_ltI (by decide) (by omega)] at z; omega)]
/-- the pattern's first i boxes are copied: behind R, R1 -/
def KP (k n : Nat) (R R1 : RS) (i : Nat) : Prop := (∀ x j, fi R1 x j = if x = 10 + 3 * k ∧ j = 9 then nI n else fi R x j) ∧ (∀ x j, fl R1 x j = fl R x j) ∧ (∀ x j, fr R1 x j = fr R x j) ∧ (∀ x j, al R1 x j = al R x j) ∧ (∀ x j, aq R1 x j = aq R x j) ∧ (∀ j, j < i → (ai R1 (11 + 3 * k) j = ai R 2 j ∧ ai R1 (12 + 3 * k) j = ai R 3 j)) ∧ ∀ x j, x ≠ 11 + 3 * k → x ≠ 12 + 3 * k → ai R1 x j = ai R x j
theorem KP_0 {k n : Nat} {R : RS} : KP k n R (sfi R (10 + 3 * k) 9 (nI n)) 0 := ⟨fun _ _ => rfl, fun _ _ => rfl, fun _ _ => rfl, fun _ _ => rfl, fun _ _ => rfl, fun _ h => absurd h (Nat.not_lt_zero _), fun _ _ _ _ => rfl⟩
theorem KP_1 {k n i : Nat} {R R1 : RS} (h : KP k n R R1 i) (hk : k < 6) : KP k n R (sai (sai R1 (11 + 3 * k) i (ai R 2 i)) (12 + 3 * k) i (ai R 3 i)) (i + 1) := by
  obtain ⟨a1, a2, a3, a4, a5, a6, a7⟩ := h
  refine ⟨a1, a2, a3, a4, a5, fun j hj => ?_, fun x j h1 h2 => ?_⟩
  · by_cases hji : j = i
    · subst hji
      exact ⟨(up2_n (by omega)).trans (up2_s _ _ _ _), up2_s _ _ _ _⟩
    · have := a6 j (by omega)
      exact ⟨(up2_n (by omega)).trans ((up2_n (by omega)).trans this.1), (up2_n (by omega)).trans ((up2_n (by omega)).trans this.2)⟩
  · exact (up2_n (by omega)).trans ((up2_n (by omega)).trans (a7 x j h1 h2))
