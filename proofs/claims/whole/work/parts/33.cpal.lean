/-! ===== what the methods of a pallet leave ===== -/
def clS (R : RS) (p : Nat) : RS := sfi (sfi (sfi (sfi (sfi R (40 + 6 * p) 5 (nI 0)) (40 + 6 * p) 6 (nI 0)) (40 + 6 * p) 7 (nI 0)) (40 + 6 * p) 8 (nI 0)) (40 + 6 * p) 9 (-1)
def liS (R : RS) (M : MS) (p : Nat) : RS := sfi (sfi (sfi (sfi R (40 + 6 * p) 5 (nI (pn M p - 1))) (40 + 6 * p) 6 (nI (hS M p (pn M p - 1)))) (40 + 6 * p) 7 (nI (wS M p (pn M p - 1)))) (40 + 6 * p) 8 (nI (bS M p (pn M p - 1)))
def laS (R : RS) (M : MS) (p k n : Nat) : RS := sfi (sfi (sfi (sfi (sal (sai (sai (sai (sai R (41 + 6 * p) (pn M p) (nI k)) (42 + 6 * p) (pn M p) (nI n)) (43 + 6 * p) (pn M p) (nI (hS M p (pn M p)))) (44 + 6 * p) (pn M p) (nI (kq M k * n))) (45 + 6 * p) (pn M p) (lN (cov M k n))) (40 + 6 * p) 6 (nI (hS M p (pn M p) + kh M k))) (40 + 6 * p) 7 (nI (wS M p (pn M p) + kq M k * n))) (40 + 6 * p) 8 (nI (bS M p (pn M p) + n))) (40 + 6 * p) 5 (nI (pn M p + 1))
theorem wS_top {M : MS} {p : Nat} (h : 0 < pn M p) : wS M p (pn M p) = wS M p (pn M p - 1) + kq M (lk M p (pn M p - 1)) * lb M p (pn M p - 1) := by
  obtain ⟨n, hn⟩ : ∃ n, pn M p = n + 1 := ⟨pn M p - 1, by omega⟩
  rw [hn, Nat.add_sub_cancel]; rfl
theorem bS_top {M : MS} {p : Nat} (h : 0 < pn M p) : bS M p (pn M p) = bS M p (pn M p - 1) + lb M p (pn M p - 1) := by
  obtain ⟨n, hn⟩ : ∃ n, pn M p = n + 1 := ⟨pn M p - 1, by omega⟩
  rw [hn, Nat.add_sub_cancel]; rfl
theorem KV.sai {R : RS} {M : MS} {k nm j : Nat} {v : Int32} (h : KV R M k) (hn : nm ≠ 11 + 3 * k ∧ nm ≠ 12 + 3 * k) : KV (sai R nm j v) M k := ⟨h.1, h.2.1, fun i hi => ⟨(up2_ni (Ne.symm hn.1)).trans (h.2.2 i hi).1, (up2_ni (Ne.symm hn.2)).trans (h.2.2 i hi).2⟩⟩
theorem KV.sfi {R : RS} {M : MS} {k nm j : Nat} {v : Int32} (h : KV R M k) (hn : nm ≠ 10 + 3 * k) : KV (sfi R nm j v) M k := ⟨(up2_ni (Ne.symm hn)).trans h.1, (up2_ni (Ne.symm hn)).trans h.2.1, h.2.2⟩
theorem KS.sfi {R : RS} {M : MS} {k nm j : Nat} {v : Int32} (h : KS R M k) (hn : nm ≠ 10 + 3 * k) : KS (sfi R nm j v) M k := ⟨(up2_ni (Ne.symm hn)).trans h.1, (up2_ni (Ne.symm hn)).trans h.2.1, (up2_ni (Ne.symm hn)).trans h.2.2.1, (up2_ni (Ne.symm hn)).trans h.2.2.2.1, (up2_ni (Ne.symm hn)).trans h.2.2.2.2.1, h.2.2.2.2.2⟩
