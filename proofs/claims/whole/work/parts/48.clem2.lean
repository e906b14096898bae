theorem rsn_0 {M : MS} {p k n : Nat} (h : 0 ≤ rsn M p k n) : rsn M p k n = nI 0 := by
  unfold rsn at h ⊢
  split
  · next h1 => rw [if_pos h1] at h; exact absurd h (by decide)
  · next h1 =>
    rw [if_neg h1] at h
    split
    · next h2 => rw [if_pos h2] at h; exact absurd h (by decide)
    · next h2 =>
      rw [if_neg h2] at h
      split
      · next h3 => rw [if_pos h3] at h; exact absurd h (by decide)
      · next h3 =>
        rw [if_neg h3] at h
        split
        · next h4 => rw [if_pos h4] at h; exact absurd h (by decide)
        · rfl
theorem outC_fc {R R' : RS} {k : Nat} (h : FC R R' k) (hk : k < 6) : outC R R' := ⟨fun i hi j => ⟨h.1 i j (by omega) (by omega), h.2.1 i j, h.2.2.1 i j, h.2.2.2.2.2 i j (by omega) (by omega) (by omega) (by omega), h.2.2.2.1 i j, h.2.2.2.2.1 i j⟩, h.2.2.1, h.2.2.2.2.1⟩
theorem pn_add {M : MS} {p k n : Nat} : pn (nAdd M p k n) p = pn M p + 1 := by simp [nAdd, mup]
theorem min_nn {x y : Nat} (hx : x < 2 ^ 31) (hy : y < 2 ^ 31) : (if nI x < nI y then nI x else nI y) = nI (if x < y then x else y) := by
  by_cases h : x < y
  · rw [if_pos h, if_pos ((nI_ltI hx hy).mpr h)]
  · rw [if_neg h, if_neg (fun z => h ((nI_ltI hx hy).mp z))]
theorem sfi_id {R : RS} {i k : Nat} {v : Int32} (h : fi R i k = v) : sfi R i k v = R := by
  unfold sfi
  refine Prod.ext ?_ rfl
  funext x j
  show up2 R.1 i k v x j = R.1 x j
  unfold up2
  split
  · next h9 => obtain ⟨rfl, rfl⟩ := h9; exact h.symm
  · rfl
theorem nI_m1 (n : Nat) : nI n + (-1) = nI n - nI 1 := by
  rw [Int32.sub_eq_add_neg]; rfl
theorem cl_0 {R : RS} {p j : Nat} (hp : p < 8) : fi (clS R p) 0 j = fi R 0 j := (up2_ni (by omega)).trans ((up2_ni (by omega)).trans ((up2_ni (by omega)).trans ((up2_ni (by omega)).trans (up2_ni (by omega)))))
