/-! ===== what a search leaves ===== -/
def nSearch (M : MS) (k : Nat) (S : SS) : MS := fun c i j => if c = 8 ∧ i = 0 ∧ j = 0 then S.1 else if c = 14 ∧ i = k ∧ j = 0 then S.2.2.2.length else if c = 15 ∧ i = k ∧ j = 0 then (if S.2.2.1 = true then 0 else 1) else if c = 16 ∧ i = k ∧ j < S.2.2.2.length then (pb S.2.2.2 j).1 else if c = 17 ∧ i = k ∧ j < S.2.2.2.length then (pb S.2.2.2 j).2 else M c i j
abbrev sk0 (M : MS) (k mx : Nat) : SS := goS M k mx 37 0 [] (0, 0, false, [])
def oSearch (M : MS) (k s : Int32) : AN := if isN k (mnk M) then (if isR s 0 5000 then (if onP M (tN k) (mnp M) = true then (3, nI 0, M) else (0, nI (sk0 M (tN k) (tN s)).2.2.2.length, nSearch M (tN k) (sk0 M (tN k) (tN s)))) else (2, nI 0, M)) else (1, nI 0, M)
theorem sk0_si {M : MS} {k mx : Nat} (hI : Inv M) (hk : k < mnk M) : SI M k mx (sk0 M k mx) := goS_si hI hk 37 0 [] _ ⟨Nat.zero_le _, 0, Dj_nil, rfl⟩ ⟨Nat.zero_le _, Or.inl ⟨rfl, rfl⟩, Nat.zero_le _, 0, Dj_nil⟩
section NS
variable {M : MS} {k : Nat} {S : SS}
theorem ns_o {c i j : Nat} (h : c ≠ 8 ∧ c ≠ 14 ∧ c ≠ 15 ∧ c ≠ 16 ∧ c ≠ 17) : nSearch M k S c i j = M c i j := by
  unfold nSearch
  rw [if_neg (by omega), if_neg (by omega), if_neg (by omega), if_neg (by omega), if_neg (by omega)]
theorem ns_k {c i j : Nat} (h : c ≠ 8) (hi : i ≠ k) : nSearch M k S c i j = M c i j := by
  unfold nSearch
  rw [if_neg (by omega), if_neg (by omega), if_neg (by omega), if_neg (by omega), if_neg (by omega)]
theorem ns_b : kb (nSearch M k S) k = S.2.2.2.length := by
  show nSearch M k S 14 k 0 = _
  unfold nSearch
  rw [if_neg (by omega), if_pos (by omega)]
theorem ns_x : kx (nSearch M k S) k = if S.2.2.1 = true then 0 else 1 := by
  show nSearch M k S 15 k 0 = _
  unfold nSearch
  rw [if_neg (by omega), if_neg (by omega), if_pos (by omega)]
theorem ns_c {i : Nat} (h : i < S.2.2.2.length) : kc (nSearch M k S) k i = (pb S.2.2.2 i).1 := by
  show nSearch M k S 16 k i = _
  unfold nSearch
  rw [if_neg (by omega), if_neg (by omega), if_neg (by omega), if_pos (by omega)]
theorem ns_y {i : Nat} (h : i < S.2.2.2.length) : ky (nSearch M k S) k i = (pb S.2.2.2 i).2 := by
  show nSearch M k S 17 k i = _
  unfold nSearch
  rw [if_neg (by omega), if_neg (by omega), if_neg (by omega), if_neg (by omega), if_pos (by omega)]
theorem ns_bx {i : Nat} (h : i < S.2.2.2.length) (ho : ok9 M k (pb S.2.2.2 i)) : bx (nSearch M k S) k i = cel M k (pb S.2.2.2 i).1 (pb S.2.2.2 i).2 := by
  rw [cel_t ho.2.2.1 ho.2.2.2]
  unfold bx
  rw [ns_c h, ns_y h]
  rfl
theorem ns_bxo {q i : Nat} (h : q ≠ k) : bx (nSearch M k S) q i = bx M q i := by
  unfold bx
  rw [show kc (nSearch M k S) q i = kc M q i from ns_k (by omega) h, show ky (nSearch M k S) q i = ky M q i from ns_k (by omega) h]
  rfl
theorem iv_search {mx : Nat} (hI : Inv M) (hk : k < mnk M) (hS : SI M k mx S) (hmx : mx ≤ 5000) (ho : onP M k (mnp M) = false) : Inv (nSearch M k S) := by
  obtain ⟨hb, hk9, hf, hd, hp, ht, hj⟩ := hI
  obtain ⟨s1, s2, s3, T, s4⟩ := hS
  refine ⟨⟨hb.1, hb.2.1, hb.2.2.1, hb.2.2.2.1, hb.2.2.2.2.1, hb.2.2.2.2.2.1, hb.2.2.2.2.2.2.1, hb.2.2.2.2.2.2.2.1, hb.2.2.2.2.2.2.2.2.1, hb.2.2.2.2.2.2.2.2.2.1, ?_⟩, ?_, ?_, ?_, ?_, ht, hj⟩
  · show nSearch M k S 8 0 0 ≤ 5000
    unfold nSearch
    rw [if_pos (by omega)]
    omega
  · intro q hq
    have h9 := hk9 q hq
    refine ⟨h9.1, h9.2.1, h9.2.2.1, h9.2.2.2.1, h9.2.2.2.2.1, h9.2.2.2.2.2.1, h9.2.2.2.2.2.2.1, ?_, ?_⟩
    · by_cases h : q = k
      · rw [h, ns_b]; exact s3
      · rw [show kb (nSearch M k S) q = kb M q from ns_k (by omega) h]; exact h9.2.2.2.2.2.2.2.1
    · by_cases h : q = k
      · rw [h, ns_x]; split <;> omega
      · rw [show kx (nSearch M k S) q = kx M q from ns_k (by omega) h]; exact h9.2.2.2.2.2.2.2.2
  · intro q hq i hi
    by_cases h : q = k
    · subst h
      rw [ns_b] at hi
      rw [ns_c hi, ns_y hi]
      exact (s4.1 i hi).1
    · rw [show kb (nSearch M k S) q = kb M q from ns_k (by omega) h] at hi
      rw [show kc (nSearch M k S) q i = kc M q i from ns_k (by omega) h, show ky (nSearch M k S) q i = ky M q i from ns_k (by omega) h]
      exact hf q hq i hi
  · intro q hq i j hi hj9 hij
    by_cases h : q = k
    · subst h
      rw [ns_b] at hi hj9
      rw [ns_bx hi (s4.1 i hi).1, ns_bx hj9 (s4.1 j hj9).1]
      exact s4.2 i j hi hj9 hij
    · rw [show kb (nSearch M k S) q = kb M q from ns_k (by omega) h] at hi hj9
      rw [ns_bxo h, ns_bxo h]
      exact hd q hq i j hi hj9 hij
  · intro p hp9
    obtain ⟨a1, a2, a3⟩ := hp p hp9
    refine ⟨a1, a2, fun l hl => ?_⟩
    obtain ⟨b1, b2, b3⟩ := a3 l hl
    refine ⟨b1, b2, ?_⟩
    have hne : lk M p l ≠ k := fun z => by
      have := onP_of (M := M) (n := mnp M) (i := p) (q := l) hp9 hl z
      rw [ho] at this
      cases this
    rw [show kb (nSearch M k S) (lk (nSearch M k S) p l) = kb M (lk M p l) from ns_k (by omega) hne]
    exact b3
theorem pm_search {R R' : RS} {mx : Nat} (hM : PM R M) (hI : Inv M) (hk : k < mnk M) (hF : FSt R R' k) (hL : LSt R' M k 0 0 [] S) (hS : SI M k mx S) : PM R' (nSearch M k S) := by
  obtain ⟨hs, hk9, hf, hb, hp, hl, ht⟩ := hM
  obtain ⟨f1, f2, f3, f4⟩ := hF
  obtain ⟨a1, a2, a3, a4, a5, a6, a7, a8, a9⟩ := hL
  obtain ⟨s1, s2, s3, T, s4⟩ := hS
  have hb9 := iv_b hI
  have e : ∀ j, j ≠ 24 → j ≠ 31 → j ≠ 32 → fi R' 100 j = fi R 100 j := f2
  refine ⟨⟨(e 0 (by omega) (by omega) (by omega)).trans hs.1, (e 1 (by omega) (by omega) (by omega)).trans hs.2.1, (e 2 (by omega) (by omega) (by omega)).trans hs.2.2.1, (e 3 (by omega) (by omega) (by omega)).trans hs.2.2.2.1, (e 4 (by omega) (by omega) (by omega)).trans hs.2.2.2.2.1, (e 15 (by omega) (by omega) (by omega)).trans hs.2.2.2.2.2.1, (e 16 (by omega) (by omega) (by omega)).trans hs.2.2.2.2.2.2.1, (e 17 (by omega) (by omega) (by omega)).trans hs.2.2.2.2.2.2.2.1, (e 23 (by omega) (by omega) (by omega)).trans hs.2.2.2.2.2.2.2.2.1, ?_⟩, ?_, ?_, ?_, ?_, ?_, ?_⟩
  · rw [a5]
    show _ = nI (nSearch M k S 8 0 0)
    unfold nSearch
    rw [if_pos (by omega)]
  · intro q hq
    obtain ⟨b1, b2, b3, b4, b5, b6⟩ := hk9 q hq
    have g : ∀ i, (i = 106 ∨ i = 107 ∨ i = 108 ∨ i = 109) → ai R' i q = ai R i q := fun i hi => f3 i q (by omega) (by omega) (by omega) (by omega) (by omega) (by omega) (by omega)
    refine ⟨(g 106 (by omega)).trans b1, (g 107 (by omega)).trans b2, (g 108 (by omega)).trans b3, (g 109 (by omega)).trans b4, ?_, ?_⟩
    · by_cases h : q = k
      · rw [h, a7, ns_b]
      · rw [f3 110 q (by omega) (by omega) (by omega) (by omega) (by omega) (by omega) (by omega), b5, show kb (nSearch M k S) q = kb M q from ns_k (by omega) h]
    · by_cases h : q = k
      · rw [h, a6, ns_x]
      · rw [f3 111 q (by omega) (by omega) (by omega) (by omega) (by omega) (by omega) (by omega), b6, show kx (nSearch M k S) q = kx M q from ns_k (by omega) h]
  · intro q hq h6
    have hq : mnk M ≤ q := hq
    obtain ⟨b1, b2⟩ := hf q hq h6
    exact ⟨(f3 110 q (by omega) (by omega) (by omega) (by omega) (by omega) (by omega) (by omega)).trans b1, (f3 111 q (by omega) (by omega) (by omega) (by omega) (by omega) (by omega) (by omega)).trans b2⟩
  · intro q hq i hi
    by_cases h : q = k
    · subst h
      rw [ns_b] at hi
      obtain ⟨c1, c2, c3⟩ := a8 i hi
      rw [ns_c hi, ns_y hi, ns_bx hi (s4.1 i hi).1]
      exact ⟨c1, c2, c3⟩
    · rw [show kb (nSearch M k S) q = kb M q from ns_k (by omega) h] at hi
      obtain ⟨c1, c2, c3⟩ := hb q hq i hi
      have hq36 := (iv_k hI hq).2.2.2.2.2.2.2.1
      have hr : ¬ (36 * k ≤ 36 * q + i ∧ 36 * q + i < 36 * k + 36) := by omega
      rw [show kc (nSearch M k S) q i = kc M q i from ns_k (by omega) h, show ky (nSearch M k S) q i = ky M q i from ns_k (by omega) h, ns_bxo h]
      exact ⟨(f3 113 _ (by omega) (by omega) (by omega) (by omega) (by omega) (by omega) (by omega)).trans c1, (f3 114 _ (by omega) (by omega) (by omega) (by omega) (by omega) (by omega) (by omega)).trans c2, (f4 112 _ (by omega)).trans c3⟩
  · intro p hp9
    obtain ⟨b1, b2⟩ := hp p hp9
    exact ⟨(f3 118 p (by omega) (by omega) (by omega) (by omega) (by omega) (by omega) (by omega)).trans b1, (f3 121 p (by omega) (by omega) (by omega) (by omega) (by omega) (by omega) (by omega)).trans b2⟩
  · intro p hp9 l hl9
    obtain ⟨b1, b2⟩ := hl p hp9 l hl9
    exact ⟨(f3 119 _ (by omega) (by omega) (by omega) (by omega) (by omega) (by omega) (by omega)).trans b1, (f3 120 _ (by omega) (by omega) (by omega) (by omega) (by omega) (by omega) (by omega)).trans b2⟩
  · intro i hi
    exact (f3 122 _ (by omega) (by omega) (by omega) (by omega) (by omega) (by omega) (by omega)).trans (ht i hi)
end NS
