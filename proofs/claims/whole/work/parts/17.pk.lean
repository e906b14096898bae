/-! ===== what of the reference stands while it seeks ===== -/
def PK (R : RS) (M : MS) : Prop := fi R 100 0 = nI (mW M) ∧ fi R 100 1 = nI (mD M) ∧ fi R 100 2 = nI (mW M * mD M) ∧ fi R 100 3 = nI (mnk M) ∧ ∀ k, k < mnk M → (ai R 106 k = nI (kw M k) ∧ ai R 107 k = nI (kd M k) ∧ ai R 108 k = nI (kh M k) ∧ ai R 109 k = nI (kq M k))
theorem pk_of {R : RS} {M : MS} (h : PM R M) : PK R M := ⟨h.1.1, h.1.2.1, h.1.2.2.1, h.1.2.2.2.1, fun k hk => ⟨(h.2.1 k hk).1, (h.2.1 k hk).2.1, (h.2.1 k hk).2.2.1, (h.2.1 k hk).2.2.2.1⟩⟩
theorem fo_1 {n x i : Nat} (hi : i ≤ n) (h : ∀ j, j < i → x.testBit j = true) (h2 : i = n) : fo n x = i := by
  rw [fo_from hi h, h2, Nat.sub_self]; rfl
theorem fo_2 {n x i : Nat} (hi : i < n) (h : ∀ j, j < i → x.testBit j = true) (h2 : ¬ x.testBit i = true) : fo n x = i := by
  rw [fo_from (Nat.le_of_lt hi) h, show n - i = (n - i - 1) + 1 by omega]
  simp only [fof]
  rw [if_neg h2]
theorem ac_b {M : MS} {k y : Nat} (h : 1 ≤ kw M k ∧ kw M k ≤ 6 ∧ 1 ≤ kd M k ∧ kd M k ≤ 6 ∧ 1 ≤ kh M k ∧ kh M k ≤ 6 ∧ kq M k ≤ 100 ∧ kb M k ≤ 36 ∧ kx M k ≤ 1) : 1 ≤ ac M k y ∧ ac M k y ≤ 6 ∧ 1 ≤ alo M k y ∧ alo M k y ≤ 6 := by
  unfold ac alo
  split <;> omega
theorem md_b {c n : Nat} (h : 1 ≤ n ∧ n ≤ 6) (hc : c ≤ 36) : c % n < n ∧ c / n ≤ 36 := ⟨Nat.mod_lt _ (by omega), Nat.le_trans (Nat.div_le_self _ _) hc⟩
theorem cel_t {M : MS} {k c y : Nat} (h1 : c % mW M + ac M k y ≤ mW M) (h2 : c / mW M + alo M k y ≤ mD M) : cel M k c y = bm (mW M) c (ac M k y) (alo M k y) := if_pos ⟨h1, h2⟩
theorem cel_f {M : MS} {k c y : Nat} (h : ¬ (c % mW M + ac M k y ≤ mW M ∧ c / mW M + alo M k y ≤ mD M)) : cel M k c y = 0 := if_neg h
/-- a set, and what is taken away from it, comes back -/
theorem and_not {o c : Nat} (h1 : o < 2 ^ 64) (h2 : c < 2 ^ 64) (h : o &&& c = 0) : lN (o ||| c) &&& (lN c ^^^ (-1)) = lN o := by
  apply wb_inj
  apply BitVec.eq_of_getLsbD_eq
  intro i hi
  have ho : ∀ n : Nat, n < 2 ^ 64 → (lN n).toBitVec.getLsbD i = n.testBit i := fun n hn => by
    rw [wb_tb, BitVec.getLsbD_ofNat]; simp [hi]
  have hm : (-1 : Int64).toBitVec.getLsbD i = true := by
    rw [show (-1 : Int64).toBitVec = BitVec.allOnes 64 by decide, BitVec.getLsbD_allOnes]
    exact decide_eq_true hi
  rw [Int64.toBitVec_and, Int64.toBitVec_xor, BitVec.getLsbD_and, BitVec.getLsbD_xor, ho _ (Nat.or_lt_two_pow h1 h2), ho _ h2, ho _ h1, hm, Nat.testBit_or]
  have hz : (o &&& c).testBit i = false := by rw [h]; exact Nat.zero_testBit i
  rw [Nat.testBit_and] at hz
  cases ha : o.testBit i <;> cases hc : c.testBit i <;> simp_all
def hkey (M : MS) (k c t T : Nat) : Prop := t = 3 ∨ (¬ (t = 2 ∧ kw M k = kd M k) ∧ cel M k c (t - 1) ≠ 0 ∧ cel M k c (t - 1) &&& T = 0)
/-- the best pattern so far is kept: its first n boxes are copied -/
def kbS (M : MS) (k n : Nat) (cn wn : Nat → Nat) (R : RS) (i : Nat) : RS :=
  (up2 R.1 100 32 (nI n), R.2.1, R.2.2.1, (fun x j => if x = 110 ∧ j = k then nI n else if x = 113 ∧ 36 * k ≤ j ∧ j < 36 * k + i then nI (cn (j - 36 * k)) else if x = 114 ∧ 36 * k ≤ j ∧ j < 36 * k + i then nI (wn (j - 36 * k)) else R.2.2.2.1 x j), (fun x j => if x = 112 ∧ 36 * k ≤ j ∧ j < 36 * k + i then lN (cel M k (cn (j - 36 * k)) (wn (j - 36 * k))) else R.2.2.2.2.1 x j), R.2.2.2.2.2)
theorem kbS_0 {M : MS} {k n : Nat} {cn wn : Nat → Nat} {R : RS} : sai (sfi R 100 32 (nI n)) 110 k (nI n) = kbS M k n cn wn R 0 := by
  unfold kbS sai sfi
  simp only [Prod.mk.injEq, true_and, and_true]
  refine ⟨?_, ?_⟩
  · funext x j
    unfold up2
    by_cases h : x = 110 ∧ j = k
    · simp only [if_pos h]
    · have h1 : ¬ (x = 113 ∧ 36 * k ≤ j ∧ j < 36 * k + 0) := by omega
      have h2 : ¬ (x = 114 ∧ 36 * k ≤ j ∧ j < 36 * k + 0) := by omega
      simp only [if_neg h, if_neg h1, if_neg h2]
  · refine Prod.ext ?_ rfl
    funext x j
    have h1 : ¬ (x = 112 ∧ 36 * k ≤ j ∧ j < 36 * k + 0) := by omega
    simp only [if_neg h1]
theorem kbS_1 {M : MS} {k n i : Nat} {cn wn : Nat → Nat} {R : RS} : sal (sai (sai (kbS M k n cn wn R i) 113 (36 * k + i) (nI (cn i))) 114 (36 * k + i) (nI (wn i))) 112 (36 * k + i) (lN (cel M k (cn i) (wn i))) = kbS M k n cn wn R (i + 1) := by
  unfold kbS sai sal
  simp only [Prod.mk.injEq, true_and, and_true]
  refine ⟨?_, ?_⟩
  · funext x j
    simp only [up2]
    by_cases h4 : x = 114 ∧ j = 36 * k + i
    · rw [if_pos h4, if_neg (by omega), if_neg (by omega), if_pos (by omega), show j - 36 * k = i by omega]
    · rw [if_neg h4]
      by_cases h3 : x = 113 ∧ j = 36 * k + i
      · rw [if_pos h3, if_neg (by omega), if_pos (by omega), show j - 36 * k = i by omega]
      · rw [if_neg h3]
        by_cases h0 : x = 110 ∧ j = k
        · rw [if_pos h0, if_pos h0]
        · rw [if_neg h0, if_neg h0]
          by_cases h5 : x = 113 ∧ 36 * k ≤ j ∧ j < 36 * k + i
          · rw [if_pos h5, if_pos (by omega)]
          · rw [if_neg h5, if_neg (show ¬ (x = 113 ∧ 36 * k ≤ j ∧ j < 36 * k + (i + 1)) by omega)]
            by_cases h6 : x = 114 ∧ 36 * k ≤ j ∧ j < 36 * k + i
            · rw [if_pos h6, if_pos (by omega)]
            · rw [if_neg h6, if_neg (by omega)]
  · funext x j
    simp only [up2]
    by_cases h4 : x = 112 ∧ j = 36 * k + i
    · rw [if_pos h4, if_pos (by omega), show j - 36 * k = i by omega]
    · rw [if_neg h4]
      by_cases h5 : x = 112 ∧ 36 * k ≤ j ∧ j < 36 * k + i
      · rw [if_pos h5, if_pos (by omega)]
      · rw [if_neg h5, if_neg (by omega)]
theorem stI_00 {n : Nat} (hn : n < 1000) (h : stI n = -1) : n = 0 := by
  by_cases h0 : n = 0
  · exact h0
  · unfold stI at h
    rw [if_neg h0] at h
    have h1 := congrArg Int32.toInt h
    rw [nI_toInt (by omega)] at h1
    exact absurd h1 (by simp)
theorem kbS_sc {M : MS} {k n i x j : Nat} {cn wn : Nat → Nat} {R : RS} (h : ¬ x = 110 ∧ ¬ x = 113 ∧ ¬ x = 114) : ai (kbS M k n cn wn R i) x j = ai R x j := by
  show (if x = 110 ∧ j = k then nI n else if x = 113 ∧ 36 * k ≤ j ∧ j < 36 * k + i then nI (cn (j - 36 * k)) else if x = 114 ∧ 36 * k ≤ j ∧ j < 36 * k + i then nI (wn (j - 36 * k)) else R.2.2.2.1 x j) = _
  rw [if_neg (by omega), if_neg (by omega), if_neg (by omega)]
theorem pk_kbS {M : MS} {k n i : Nat} {cn wn : Nat → Nat} {R : RS} (h : PK R M) : PK (kbS M k n cn wn R i) M := ⟨h.1, h.2.1, h.2.2.1, h.2.2.2.1, fun q hq => by
  obtain ⟨a1, a2, a3, a4⟩ := h.2.2.2.2 q hq
  exact ⟨by rw [kbS_sc (by decide)]; exact a1, by rw [kbS_sc (by decide)]; exact a2, by rw [kbS_sc (by decide)]; exact a3, by rw [kbS_sc (by decide)]; exact a4⟩⟩
theorem pk_up {M : MS} {j1 j2 : Nat} {v1 v2 : Int32} {R : RS} (h : PK R M) : PK (sai (sai R 113 j1 v1) 114 j2 v2) M := h
