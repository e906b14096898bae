/-! ===== the class's own store: what it refers to, what lives, what it holds ===== -/
/-- the union of the first n boxes of kind k -/
def cov (M : MS) (k : Nat) : Nat → Nat
  | 0 => 0
  | n + 1 => cov M k n ||| bx M k n
def KR (lv : Nat → Bool) (a : Nat → Nat) (R : RS) (k : Nat) : Prop := lv (10 + 3 * k) = true ∧ lv (11 + 3 * k) = true ∧ lv (12 + 3 * k) = true ∧ fr R (10 + 3 * k) 7 = some (a (11 + 3 * k)) ∧ fr R (10 + 3 * k) 8 = some (a (12 + 3 * k))
def KS (R : RS) (M : MS) (k : Nat) : Prop := fi R (10 + 3 * k) 0 = nI (kw M k) ∧ fi R (10 + 3 * k) 1 = nI (kd M k) ∧ fi R (10 + 3 * k) 2 = nI (kh M k) ∧ fi R (10 + 3 * k) 3 = nI (kq M k) ∧ fi R (10 + 3 * k) 4 = nI (kw M k * kd M k) ∧ fl R (10 + 3 * k) 5 = lN (bm (mW M) 0 (kw M k) (kd M k)) ∧ fl R (10 + 3 * k) 6 = lN (bm (mW M) 0 (kd M k) (kw M k))
def KV (R : RS) (M : MS) (k : Nat) : Prop := fi R (10 + 3 * k) 9 = nI (kb M k) ∧ fi R (10 + 3 * k) 10 = nI (kx M k) ∧ ∀ i, i < kb M k → (ai R (11 + 3 * k) i = nI (kc M k i) ∧ ai R (12 + 3 * k) i = nI (ky M k i))
def SR (lv : Nat → Bool) (a : Nat → Nat) (R : RS) : Prop := lv 1 = true ∧ lv 2 = true ∧ lv 3 = true ∧ fr R 1 3 = some (a 2) ∧ fr R 1 4 = some (a 3)
def SV (R : RS) (M : MS) : Prop := fi R 1 0 = nI (mW M) ∧ fi R 1 1 = nI (mD M) ∧ fi R 1 2 = nI (mW M * mD M)
def PR (lv : Nat → Bool) (a : Nat → Nat) (R : RS) (p : Nat) : Prop := (lv (40 + 6 * p) = true ∧ lv (41 + 6 * p) = true ∧ lv (42 + 6 * p) = true ∧ lv (43 + 6 * p) = true ∧ lv (44 + 6 * p) = true ∧ lv (45 + 6 * p) = true) ∧ fr R (40 + 6 * p) 0 = some (a (41 + 6 * p)) ∧ fr R (40 + 6 * p) 1 = some (a (42 + 6 * p)) ∧ fr R (40 + 6 * p) 2 = some (a (43 + 6 * p)) ∧ fr R (40 + 6 * p) 3 = some (a (44 + 6 * p)) ∧ fr R (40 + 6 * p) 4 = some (a (45 + 6 * p))
def PF (R : RS) (M : MS) (p : Nat) : Prop := fi R (40 + 6 * p) 5 = nI (pn M p) ∧ fi R (40 + 6 * p) 6 = nI (hS M p (pn M p)) ∧ fi R (40 + 6 * p) 7 = nI (wS M p (pn M p)) ∧ fi R (40 + 6 * p) 8 = nI (bS M p (pn M p)) ∧ fi R (40 + 6 * p) 9 = stI (ps M p)
def PL (R : RS) (M : MS) (p l : Nat) : Prop := ai R (41 + 6 * p) l = nI (lk M p l) ∧ ai R (42 + 6 * p) l = nI (lb M p l) ∧ ai R (43 + 6 * p) l = nI (hS M p l) ∧ ai R (44 + 6 * p) l = nI (kq M (lk M p l) * lb M p l) ∧ al R (45 + 6 * p) l = lN (cov M (lk M p l) (lb M p l))
def TR (lv : Nat → Bool) (a : Nat → Nat) (R : RS) : Prop := lv 0 = true ∧ lv 4 = true ∧ lv 5 = true ∧ lv 6 = true ∧ fr R 0 2 = some (a 1) ∧ fr R 0 3 = some (a 4) ∧ fr R 0 4 = some (a 5) ∧ fr R 0 5 = some (a 6)
def TV (R : RS) (M : MS) : Prop := fi R 0 0 = nI (mW M) ∧ fi R 0 1 = nI (mD M) ∧ fi R 0 6 = nI (mnk M) ∧ fi R 0 7 = nI (mnp M) ∧ fi R 0 8 = nI (mna M) ∧ fi R 0 9 = nI (msh M) ∧ fi R 0 10 = nI (mdo M) ∧ fi R 0 11 = nI (mlo M) ∧ fi R 1 6 = nI (mst M)
/-- what the class refers to -/
def PCr (lv : Nat → Bool) (a : Nat → Nat) (R : RS) (M : MS) : Prop :=
  TR lv a R ∧ SR lv a R ∧ (∀ k, k < mnk M → KR lv a R k) ∧ (∀ p, p < mnp M → PR lv a R p) ∧
  (∀ k, k < 6 → aq R 4 k = if k < mnk M then some (a (10 + 3 * k)) else none) ∧ (∀ p, p < 8 → aq R 5 p = if p < mnp M then some (a (40 + 6 * p)) else none) ∧
  (∀ k, mnk M ≤ k → k < 6 → (lv (10 + 3 * k) = false ∧ lv (11 + 3 * k) = false ∧ lv (12 + 3 * k) = false)) ∧
  (∀ p, mnp M ≤ p → p < 8 → (lv (40 + 6 * p) = false ∧ lv (41 + 6 * p) = false ∧ lv (42 + 6 * p) = false ∧ lv (43 + 6 * p) = false ∧ lv (44 + 6 * p) = false ∧ lv (45 + 6 * p) = false))
/-- what the class holds -/
def PC (R : RS) (M : MS) : Prop :=
  TV R M ∧ SV R M ∧ (∀ k, k < mnk M → KS R M k) ∧ (∀ k, k < mnk M → KV R M k) ∧ (∀ p, p < mnp M → PF R M p) ∧ (∀ p, p < mnp M → ∀ l, l < pn M p → PL R M p l) ∧ ∀ i, i < mna M → ai R 6 i = nI (tb M i)
/-- what a call of the class leaves as it was (where nothing is made) -/
def outC (R R' : RS) : Prop := (∀ i, 100 ≤ i → ∀ k, fi R' i k = fi R i k ∧ fl R' i k = fl R i k ∧ fr R' i k = fr R i k ∧ ai R' i k = ai R i k ∧ al R' i k = al R i k ∧ aq R' i k = aq R i k) ∧ (∀ i k, fr R' i k = fr R i k) ∧ ∀ i k, aq R' i k = aq R i k
theorem outC.r (R : RS) : outC R R := ⟨fun _ _ _ => ⟨rfl, rfl, rfl, rfl, rfl, rfl⟩, fun _ _ => rfl, fun _ _ => rfl⟩
theorem outC.trans {R R' R'' : RS} (h : outC R R') (h' : outC R' R'') : outC R R'' := ⟨fun i hi k => by
  obtain ⟨a1, a2, a3, a4, a5, a6⟩ := h.1 i hi k
  obtain ⟨b1, b2, b3, b4, b5, b6⟩ := h'.1 i hi k
  exact ⟨b1.trans a1, b2.trans a2, b3.trans a3, b4.trans a4, b5.trans a5, b6.trans a6⟩, fun i k => (h'.2.1 i k).trans (h.2.1 i k), fun i k => (h'.2.2 i k).trans (h.2.2 i k)⟩
theorem outC.sfi {R R' : RS} {i k : Nat} {v : Int32} (h : outC R R') (hi : i < 100) : outC R (sfi R' i k v) := ⟨fun j hj q => by
  obtain ⟨a1, a2, a3, a4, a5, a6⟩ := h.1 j hj q
  exact ⟨(up2_ni (by omega)).trans a1, a2, a3, a4, a5, a6⟩, h.2.1, h.2.2⟩
theorem outC.sfl {R R' : RS} {i k : Nat} {v : Int64} (h : outC R R') (hi : i < 100) : outC R (sfl R' i k v) := ⟨fun j hj q => by
  obtain ⟨a1, a2, a3, a4, a5, a6⟩ := h.1 j hj q
  exact ⟨a1, (up2_ni (by omega)).trans a2, a3, a4, a5, a6⟩, h.2.1, h.2.2⟩
theorem outC.sai {R R' : RS} {i k : Nat} {v : Int32} (h : outC R R') (hi : i < 100) : outC R (sai R' i k v) := ⟨fun j hj q => by
  obtain ⟨a1, a2, a3, a4, a5, a6⟩ := h.1 j hj q
  exact ⟨a1, a2, a3, (up2_ni (by omega)).trans a4, a5, a6⟩, h.2.1, h.2.2⟩
theorem outC.sal {R R' : RS} {i k : Nat} {v : Int64} (h : outC R R') (hi : i < 100) : outC R (sal R' i k v) := ⟨fun j hj q => by
  obtain ⟨a1, a2, a3, a4, a5, a6⟩ := h.1 j hj q
  exact ⟨a1, a2, a3, a4, (up2_ni (by omega)).trans a5, a6⟩, h.2.1, h.2.2⟩
theorem KR.out {lv : Nat → Bool} {a : Nat → Nat} {R R' : RS} {k : Nat} (h : KR lv a R k) (ho : ∀ i k, fr R' i k = fr R i k) : KR lv a R' k := ⟨h.1, h.2.1, h.2.2.1, (ho _ _).trans h.2.2.2.1, (ho _ _).trans h.2.2.2.2⟩
theorem SR.out {lv : Nat → Bool} {a : Nat → Nat} {R R' : RS} (h : SR lv a R) (ho : ∀ i k, fr R' i k = fr R i k) : SR lv a R' := ⟨h.1, h.2.1, h.2.2.1, (ho _ _).trans h.2.2.2.1, (ho _ _).trans h.2.2.2.2⟩
theorem PR.out {lv : Nat → Bool} {a : Nat → Nat} {R R' : RS} {p : Nat} (h : PR lv a R p) (ho : ∀ i k, fr R' i k = fr R i k) : PR lv a R' p := ⟨h.1, (ho _ _).trans h.2.1, (ho _ _).trans h.2.2.1, (ho _ _).trans h.2.2.2.1, (ho _ _).trans h.2.2.2.2.1, (ho _ _).trans h.2.2.2.2.2⟩
theorem TR.out {lv : Nat → Bool} {a : Nat → Nat} {R R' : RS} (h : TR lv a R) (ho : ∀ i k, fr R' i k = fr R i k) : TR lv a R' := ⟨h.1, h.2.1, h.2.2.1, h.2.2.2.1, (ho _ _).trans h.2.2.2.2.1, (ho _ _).trans h.2.2.2.2.2.1, (ho _ _).trans h.2.2.2.2.2.2.1, (ho _ _).trans h.2.2.2.2.2.2.2⟩
theorem PCr.out {lv : Nat → Bool} {a : Nat → Nat} {R R' : RS} {M M' : MS} (h : PCr lv a R M) (h1 : ∀ i k, fr R' i k = fr R i k) (h2 : ∀ i k, aq R' i k = aq R i k) (h3 : mnk M' = mnk M) (h4 : mnp M' = mnp M) : PCr lv a R' M' := by
  obtain ⟨a1, a2, a3, a4, a5, a6, a7, a8⟩ := h
  refine ⟨a1.out h1, a2.out h1, fun k hk => (a3 k (by rw [← h3]; exact hk)).out h1, fun p hp => (a4 p (by rw [← h4]; exact hp)).out h1, fun k hk => ?_, fun p hp => ?_, fun k hk hk6 => a7 k (by rw [← h3]; exact hk) hk6, fun p hp hp8 => a8 p (by rw [← h4]; exact hp) hp8⟩
  · rw [h2, h3]; exact a5 k hk
  · rw [h2, h4]; exact a6 p hp
theorem cov_lt {M : MS} {k : Nat} (hI : Inv M) (hk : k < mnk M) : ∀ n, n ≤ kb M k → cov M k n < 68719476736 := by
  intro n
  induction n with
  | zero => intro _; show 0 < 68719476736; decide
  | succ n ih =>
    intro h
    exact Nat.or_lt_two_pow (n := 36) (ih (by omega)) (bx_lt hI hk (by omega))
theorem bm_b {W : Nat} (hW : W ≤ 6) {w : Nat} (hw : w ≤ 6) : ∀ d, d ≤ 6 → bm W 0 w d < 68719476736 := by
  intro d
  induction d with
  | zero => intro _; show 0 < 68719476736; decide
  | succ d ih =>
    intro h
    refine Nat.or_lt_two_pow (n := 36) (ih (by omega)) (Nat.lt_of_lt_of_le sl_lt (Nat.pow_le_pow_right (by decide) ?_))
    have : W * d ≤ 6 * 5 := Nat.mul_le_mul hW (by omega)
    omega
theorem nout_iff {x : Int32} {n : Nat} (hn : n < 2 ^ 30) : ¬ (nI 0 ≤ x ∧ x ≤ nI n - nI 1) ↔ ¬ isN x n := not_congr (in_iff hn)
