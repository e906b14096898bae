/-! ===== numbers ===== -/
theorem i_le {x y : Int32} : x ≤ y ↔ x.toInt ≤ y.toInt := Int32.le_iff_toInt_le
theorem i_lt {x y : Int32} : x < y ↔ x.toInt < y.toInt := Int32.lt_iff_toInt_lt
theorem in_of {x : Int32} {n : Nat} (hn : n < 2 ^ 30) (h : nI 0 ≤ x ∧ x ≤ nI n - nI 1) : ∃ j, j < n ∧ x = nI j := by
  obtain ⟨j, hj, rfl⟩ := nI_of (x := x) (by intro h9; exact absurd h.1 (by rw [nI_0]; exact Int32.not_le.mpr h9))
  have h2 := i_le.mp h.2
  rw [pk_sub_toInt hn (by decide), nI_toInt hj] at h2
  exact ⟨j, by omega, rfl⟩
theorem in_to {x : Int32} {n : Nat} (hn : n < 2 ^ 30) (h : ∃ j, j < n ∧ x = nI j) : nI 0 ≤ x ∧ x ≤ nI n - nI 1 := by
  obtain ⟨j, hj, rfl⟩ := h
  refine ⟨nI_le (Nat.zero_le _) (by omega), i_le.mpr ?_⟩
  rw [pk_sub_toInt hn (by decide), nI_toInt (by omega)]
  omega
def hld (x : Int32) : Nat := if x.toInt < 1 then 1 else if 6 < x.toInt then 6 else x.toInt.toNat
theorem hld_b' (x : Int32) : 1 ≤ hld x ∧ hld x ≤ 6 := by
  unfold hld
  split
  · omega
  · split <;> omega
theorem hld_a {x : Int32} (h : ¬ nI 1 ≤ x) : nI 1 = nI (hld x) := by
  have h1 : ¬ (1 : Int) ≤ x.toInt := fun z => h (i_le.mpr (by rw [nI_toInt (by decide)]; exact z))
  unfold hld
  rw [if_pos (by omega)]
theorem hld_b {x : Int32} (h : nI 1 ≤ x) (h2 : ¬ x ≤ nI 6) : nI 6 = nI (hld x) := by
  have h1 := i_le.mp h
  rw [nI_toInt (by decide)] at h1
  have h3 : ¬ x.toInt ≤ (6 : Int) := fun z => h2 (i_le.mpr (by rw [nI_toInt (by decide)]; exact z))
  unfold hld
  rw [if_neg (by omega), if_pos (by omega)]
theorem hld_c {x : Int32} (h : nI 1 ≤ x) (h2 : x ≤ nI 6) : x = nI (hld x) := by
  have h1 := i_le.mp h
  have h3 := i_le.mp h2
  rw [nI_toInt (by decide)] at h1 h3
  unfold hld
  rw [if_neg (by omega), if_neg (by omega)]
  obtain ⟨j, hj, rfl⟩ := nI_of (x := x) (by intro h9; have := i_lt.mp h9; simp at this; omega)
  rw [nI_toInt hj]
  rfl
theorem nI_dec {x : Nat} (h : 0 < x) : nI x + Int32.ofInt (-1) = nI (x - 1) := by
  obtain ⟨y, rfl⟩ : ∃ y, x = y + 1 := ⟨x - 1, by omega⟩
  exact pk_m1 y
