/-! ===== what always holds is kept ===== -/
theorem iv_rules {M : MS} {s d l : Nat} (hI : Inv M) (h1 : s ≤ 100) (h2 : d ≤ 100) (h3 : l ≤ 10000) : Inv (nRules M s d l) := by
  obtain ⟨hb, hr⟩ := hI
  exact ⟨⟨hb.1, hb.2.1, hb.2.2.1, hb.2.2.2.1, hb.2.2.2.2.1, hb.2.2.2.2.2.1, hb.2.2.2.2.2.2.1, h1, h2, h3, hb.2.2.2.2.2.2.2.2.2.2⟩, hr⟩
theorem iv_kind {M : MS} {w d h q : Nat} (hI : Inv M) (h6 : mnk M < 6) (h1 : 1 ≤ w ∧ w ≤ 6) (h2 : 1 ≤ d ∧ d ≤ 6) (h3 : 1 ≤ h ∧ h ≤ 6) (h4 : q ≤ 100) : Inv (nKind M w d h q) := by
  obtain ⟨hb, hk, hf, hd, hp, ht, hj⟩ := hI
  have hn : mnk (nKind M w d h q) = mnk M + 1 := rfl
  have hx : ∀ k i, k ≠ mnk M → bx (nKind M w d h q) k i = bx M k i := fun k i hne => by simp [bx, ac, alo, nKind, mup, hne]
  have hkb : ∀ k, k ≠ mnk M → kb (nKind M w d h q) k = kb M k := fun k hne => by simp [nKind, mup, hne]
  have hk0 : kb (nKind M w d h q) (mnk M) = 0 := by simp [nKind, mup]
  refine ⟨⟨hb.1, hb.2.1, hb.2.2.1, hb.2.2.2.1, by rw [hn]; omega, hb.2.2.2.2.2⟩, ?_, ?_, ?_, ?_, ht, hj⟩
  · intro k hk9
    rw [hn] at hk9
    by_cases hkn : k = mnk M
    · subst hkn
      simp [nKind, mup]
      omega
    · have h9 := hk k (by omega)
      simp [nKind, mup, hkn]
      omega
  · intro k hk9 i hi
    rw [hn] at hk9
    by_cases hkn : k = mnk M
    · rw [hkn, hk0] at hi; omega
    · rw [hkb k hkn] at hi
      have h9 := hf k (by omega) i hi
      have e1 : ac (nKind M w d h q) k (ky M k i) = ac M k (ky M k i) := by simp [ac, nKind, mup, hkn]
      have e2 : alo (nKind M w d h q) k (ky M k i) = alo M k (ky M k i) := by simp [alo, nKind, mup, hkn]
      exact ⟨h9.1, h9.2.1, by rw [← e1] at h9; exact h9.2.2.1, by rw [← e2] at h9; exact h9.2.2.2⟩
  · intro k hk9 i j hi hj9 hij
    rw [hn] at hk9
    by_cases hkn : k = mnk M
    · rw [hkn, hk0] at hi; omega
    · rw [hkb k hkn] at hi hj9
      rw [hx k i hkn, hx k j hkn]
      exact hd k (by omega) i j hi hj9 hij
  · intro p hp9
    obtain ⟨a1, a2, a3⟩ := hp p hp9
    refine ⟨a1, a2, fun l hl => ?_⟩
    obtain ⟨b1, b2, b3⟩ := a3 l hl
    refine ⟨by rw [hn]; exact Nat.lt_succ_of_lt b1, b2, ?_⟩
    rw [show kb (nKind M w d h q) (lk (nKind M w d h q) p l) = kb M (lk M p l) from hkb _ (Nat.ne_of_lt b1)]
    exact b3
theorem iv_pallet {M : MS} (hI : Inv M) (h8 : mnp M < 8) : Inv (nPallet M) := by
  obtain ⟨hb, hk, hf, hd, hp, ht, hj⟩ := hI
  have hn : mnp (nPallet M) = mnp M + 1 := rfl
  refine ⟨⟨hb.1, hb.2.1, hb.2.2.1, hb.2.2.2.1, hb.2.2.2.2.1, by rw [hn]; omega, hb.2.2.2.2.2.2⟩, hk, hf, hd, ?_, ?_, hj⟩
  · intro p hp9
    rw [hn] at hp9
    by_cases hpn : p = mnp M
    · subst hpn
      refine ⟨by simp [nPallet, mup], by simp [nPallet, mup], fun l hl => ?_⟩
      simp [nPallet, mup] at hl
    · obtain ⟨a1, a2, a3⟩ := hp p (by omega)
      refine ⟨by simp [nPallet, mup, hpn]; exact a1, by simp [nPallet, mup, hpn]; exact a2, fun l hl => a3 l (by simpa [nPallet, mup, hpn] using hl)⟩
  · intro i hi
    obtain ⟨a1, a2⟩ := ht i hi
    have hne : tb M i ≠ mnp M := Nat.ne_of_lt a1
    refine ⟨Nat.lt_succ_of_lt a1, ?_⟩
    show nPallet M 21 (tb M i) 0 ≠ 0
    rw [show nPallet M 21 (tb M i) 0 = ps M (tb M i) by simp [nPallet, mup, hne]]
    exact a2
theorem iv_add {M : MS} {p k n : Nat} (hI : Inv M) (hp9 : p < mnp M) (hk9 : k < mnk M) (h10 : pn M p < 10) (hn1 : 1 ≤ n) (hn2 : n ≤ kb M k) : Inv (nAdd M p k n) := by
  obtain ⟨hb, hk, hf, hd, hp, ht, hj⟩ := hI
  refine ⟨hb, hk, hf, hd, ?_, ht, hj⟩
  intro q hq
  obtain ⟨a1, a2, a3⟩ := hp q hq
  by_cases hqp : q = p
  · subst hqp
    refine ⟨by simp [nAdd, mup]; omega, a2, fun l hl => ?_⟩
    have hl : l < pn M q + 1 := by simpa [nAdd, mup] using hl
    by_cases hlp : l = pn M q
    · subst hlp
      simp [nAdd, mup]
      exact ⟨hk9, hn1, hn2⟩
    · have h9 := a3 l (by omega)
      simp [nAdd, mup, hlp]
      exact h9
  · refine ⟨by simp [nAdd, mup, hqp]; exact a1, a2, fun l hl => ?_⟩
    have h9 := a3 l (by simpa [nAdd, mup, hqp] using hl)
    simp [nAdd, mup, hqp]
    exact h9
theorem iv_take {M : MS} {p : Nat} (hI : Inv M) : Inv (nTake M p) := by
  obtain ⟨hb, hk, hf, hd, hp, ht, hj⟩ := hI
  refine ⟨hb, hk, hf, hd, ?_, ht, hj⟩
  intro q hq
  obtain ⟨a1, a2, a3⟩ := hp q hq
  by_cases hqp : q = p
  · subst hqp
    refine ⟨by simp [nTake, mup]; omega, a2, fun l hl => a3 l ?_⟩
    have hl : l < pn M q - 1 := by simpa [nTake, mup] using hl
    omega
  · exact ⟨by simp [nTake, mup, hqp]; exact a1, a2, fun l hl => a3 l (by simpa [nTake, mup, hqp] using hl)⟩
/-- so many different numbers below m: no more than m -/
theorem pig : ∀ (m n : Nat) (f : Nat → Nat), (∀ i, i < n → f i < m) → (∀ i j, i < n → j < n → f i = f j → i = j) → n ≤ m := by
  intro m
  induction m with
  | zero =>
    intro n f h1 _
    rcases Nat.eq_zero_or_pos n with h | h
    · omega
    · exact absurd (h1 0 h) (Nat.not_lt_zero _)
  | succ m ih =>
    intro n f h1 h2
    rcases Nat.eq_zero_or_pos n with h | h
    · omega
    · -- take the place that has m (or none) out by putting the last one there
      by_cases hx : ∃ i, i < n ∧ f i = m
      · obtain ⟨i0, hi0, hf0⟩ := hx
        have := ih (n - 1) (fun i => if i = i0 then f (n - 1) else f i) (fun i hi => by
          by_cases hii : i = i0
          · simp only [if_pos hii]
            have a1 := h1 (n - 1) (by omega)
            have a2 : f (n - 1) ≠ m := fun z => by
              have := h2 (n - 1) i0 (by omega) hi0 (z.trans hf0.symm)
              omega
            omega
          · simp only [if_neg hii]
            have a1 := h1 i (by omega)
            have a2 : f i ≠ m := fun z => hii (h2 i i0 (by omega) hi0 (z.trans hf0.symm))
            omega) (fun i j hi hj9 hij => by
          by_cases hii : i = i0
          · by_cases hjj : j = i0
            · omega
            · simp only [if_pos hii, if_neg hjj] at hij
              have := h2 (n - 1) j (by omega) (by omega) hij
              omega
          · by_cases hjj : j = i0
            · simp only [if_neg hii, if_pos hjj] at hij
              have := h2 i (n - 1) (by omega) (by omega) hij
              omega
            · simp only [if_neg hii, if_neg hjj] at hij
              exact h2 i j (by omega) (by omega) hij)
        omega
      · have := ih n f (fun i hi => by
          have a1 := h1 i hi
          have a2 : f i ≠ m := fun z => hx ⟨i, hi, z⟩
          omega) h2
        omega
/-- a pallet that isn't on the truck leaves room there -/
theorem na_lt {M : MS} {p : Nat} (hI : Inv M) (hp : p < mnp M) (h0 : ps M p = 0) : mna M < 8 := by
  have hb := iv_b hI
  have h9 := pig 8 (mna M + 1) (fun i => if i = mna M then p else tb M i) (fun i hi => by
    by_cases hii : i = mna M
    · simp only [if_pos hii]; omega
    · simp only [if_neg hii]
      have := (iv_t hI (show i < mna M by omega)).1
      omega) (fun i j hi hj hij => by
    by_cases hii : i = mna M
    · by_cases hjj : j = mna M
      · omega
      · simp only [if_pos hii, if_neg hjj] at hij
        have := (iv_t hI (show j < mna M by omega)).2
        rw [← hij] at this
        exact absurd h0 this
    · by_cases hjj : j = mna M
      · simp only [if_neg hii, if_pos hjj] at hij
        have := (iv_t hI (show i < mna M by omega)).2
        rw [hij] at this
        exact absurd h0 this
      · simp only [if_neg hii, if_neg hjj] at hij
        exact hI.2.2.2.2.2.2 i j (by omega) (by omega) hij)
  omega
theorem iv_truck {M : MS} {p s : Nat} (hI : Inv M) (hp9 : p < mnp M) (h0 : ps M p = 0) (hs : s ≤ 9) : Inv (nTruck M p s) := by
  have h8 := na_lt hI hp9 h0
  obtain ⟨hb, hk, hf, hd, hp, ht, hj⟩ := hI
  have hn : mna (nTruck M p s) = mna M + 1 := rfl
  have htb : ∀ i, i < mna M → tb (nTruck M p s) i = tb M i := fun i hi => by
    have : i ≠ mna M := Nat.ne_of_lt hi
    simp [nTruck, mup, this]
  have htn : tb (nTruck M p s) (mna M) = p := by simp [nTruck, mup]
  have hps : ∀ q, q ≠ p → ps (nTruck M p s) q = ps M q := fun q hq => by simp [nTruck, mup, hq]
  have hpp : ps (nTruck M p s) p = s + 1 := by simp [nTruck, mup]
  refine ⟨⟨hb.1, hb.2.1, hb.2.2.1, hb.2.2.2.1, hb.2.2.2.2.1, hb.2.2.2.2.2.1, by rw [hn]; omega, hb.2.2.2.2.2.2.2⟩, hk, hf, hd, ?_, ?_, ?_⟩
  · intro q hq
    obtain ⟨a1, a2, a3⟩ := hp q hq
    refine ⟨a1, ?_, a3⟩
    by_cases hqp : q = p
    · rw [hqp, hpp]; omega
    · rw [hps q hqp]; exact a2
  · intro i hi
    rw [hn] at hi
    by_cases hin : i = mna M
    · rw [hin, htn]
      exact ⟨hp9, by rw [hpp]; omega⟩
    · rw [htb i (by omega)]
      obtain ⟨a1, a2⟩ := ht i (by omega)
      refine ⟨a1, ?_⟩
      by_cases hqp : tb M i = p
      · rw [hqp] at a2; exact absurd h0 a2
      · rw [hps _ hqp]; exact a2
  · intro i j hi hj9 hij
    rw [hn] at hi hj9
    by_cases hin : i = mna M
    · by_cases hjn : j = mna M
      · omega
      · rw [hin, htn, htb j (by omega)] at hij
        have := (ht j (by omega)).2
        rw [← hij] at this
        exact absurd h0 this
    · by_cases hjn : j = mna M
      · rw [hjn, htn, htb i (by omega)] at hij
        have := (ht i (by omega)).2
        rw [hij] at this
        exact absurd h0 this
      · rw [htb i (by omega), htb j (by omega)] at hij
        exact hj i j (by omega) (by omega) hij
theorem iv_pop {M : MS} (hI : Inv M) (h0 : 0 < mna M) : Inv (nPop M) := by
  obtain ⟨hb, hk, hf, hd, hp, ht, hj⟩ := hI
  have hn : mna (nPop M) = mna M - 1 := rfl
  have hps : ∀ q, q ≠ tb M (mna M - 1) → ps (nPop M) q = ps M q := fun q hq => by simp [nPop, mup, hq]
  refine ⟨⟨hb.1, hb.2.1, hb.2.2.1, hb.2.2.2.1, hb.2.2.2.2.1, hb.2.2.2.2.2.1, by rw [hn]; omega, hb.2.2.2.2.2.2.2⟩, hk, hf, hd, ?_, ?_, ?_⟩
  · intro q hq
    obtain ⟨a1, a2, a3⟩ := hp q hq
    by_cases hqp : q = tb M (mna M - 1)
    · refine ⟨by simp [nPop, mup, hqp], by simp [nPop, mup, hqp], fun l hl => ?_⟩
      simp [nPop, mup, hqp] at hl
    · exact ⟨by simp [nPop, mup, hqp]; exact a1, by rw [hps q hqp]; exact a2, fun l hl => a3 l (by simpa [nPop, mup, hqp] using hl)⟩
  · intro i hi
    rw [hn] at hi
    obtain ⟨a1, a2⟩ := ht i (by omega)
    refine ⟨a1, ?_⟩
    show ps (nPop M) (tb M i) ≠ 0
    rw [hps _ (fun z => by have := hj i (mna M - 1) (by omega) (by omega) z; omega)]
    exact a2
  · intro i j hi hj9 hij
    rw [hn] at hi hj9
    exact hj i j (by omega) (by omega) hij
