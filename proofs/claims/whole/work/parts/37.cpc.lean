/-! ===== the class's picture behind each change ===== -/
theorem goC_all (l : Launch) (D : va_G) (g : Nat → ClassId) (lv : Nat → Bool) (a : Nat → Nat) (M : MS) (k mx : Nat) (hk : k < 6) (hkm : k < mnk M) (hI : Inv M) (hmx : mx ≤ 5000) : ∀ f, goC l D g lv a M k mx f := by
  intro f
  induction f with
  | zero => intro R x c0 pl S _ _ _ _ _ _ _ h; exact absurd h (Nat.not_lt_zero _)
  | succ f ih => intro R x c0 pl S hst hL hG hsi hxx hc0 hcl hfu; exact c_X2_goOn l D g lv a R M k mx hk hkm hI hmx pl S hst hL hsi f ih x c0 hxx hG hc0 hcl hfu
theorem FC.k10 {R0 R : RS} {k : Nat} {v : Int32} (h : FC R0 R k) : FC R0 (sfi R (10 + 3 * k) 10 v) k := ⟨fun x q h1 h2 => (up2_n (by omega)).trans (h.1 x q h1 h2), h.2⟩
theorem KS.to {R R' : RS} {M : MS} {k : Nat} (h : KS R M k) (e1 : ∀ j, fi R' (10 + 3 * k) j = fi R (10 + 3 * k) j) (e2 : ∀ j, fl R' (10 + 3 * k) j = fl R (10 + 3 * k) j) : KS R' M k := ⟨(e1 _).trans h.1, (e1 _).trans h.2.1, (e1 _).trans h.2.2.1, (e1 _).trans h.2.2.2.1, (e1 _).trans h.2.2.2.2.1, (e2 _).trans h.2.2.2.2.2.1, (e2 _).trans h.2.2.2.2.2.2⟩
theorem KV.to {R R' : RS} {M : MS} {k : Nat} (h : KV R M k) (e1 : ∀ j, fi R' (10 + 3 * k) j = fi R (10 + 3 * k) j) (e2 : ∀ j, ai R' (11 + 3 * k) j = ai R (11 + 3 * k) j) (e3 : ∀ j, ai R' (12 + 3 * k) j = ai R (12 + 3 * k) j) : KV R' M k := ⟨(e1 _).trans h.1, (e1 _).trans h.2.1, fun i hi => ⟨(e2 _).trans (h.2.2 i hi).1, (e3 _).trans (h.2.2 i hi).2⟩⟩
theorem PF.to {R R' : RS} {M : MS} {p : Nat} (h : PF R M p) (e1 : ∀ j, fi R' (40 + 6 * p) j = fi R (40 + 6 * p) j) : PF R' M p := ⟨(e1 _).trans h.1, (e1 _).trans h.2.1, (e1 _).trans h.2.2.1, (e1 _).trans h.2.2.2.1, (e1 _).trans h.2.2.2.2⟩
theorem PL.to {R R' : RS} {M : MS} {p l : Nat} (h : PL R M p l) (e1 : ai R' (41 + 6 * p) l = ai R (41 + 6 * p) l) (e2 : ai R' (42 + 6 * p) l = ai R (42 + 6 * p) l) (e3 : ai R' (43 + 6 * p) l = ai R (43 + 6 * p) l) (e4 : ai R' (44 + 6 * p) l = ai R (44 + 6 * p) l) (e5 : al R' (45 + 6 * p) l = al R (45 + 6 * p) l) : PL R' M p l := ⟨e1.trans h.1, e2.trans h.2.1, e3.trans h.2.2.1, e4.trans h.2.2.2.1, e5.trans h.2.2.2.2⟩
theorem hS_co {M M' : MS} {p : Nat} : ∀ n, (∀ l, l < n → (lk M' p l = lk M p l ∧ kh M' (lk M p l) = kh M (lk M p l))) → hS M' p n = hS M p n := by
  intro n
  induction n with
  | zero => intro _; rfl
  | succ n ih => intro h; have := h n (by omega); simp only [hS]; rw [ih (fun l hl => h l (by omega)), this.1, this.2]
theorem wS_co {M M' : MS} {p : Nat} : ∀ n, (∀ l, l < n → (lk M' p l = lk M p l ∧ lb M' p l = lb M p l ∧ kq M' (lk M p l) = kq M (lk M p l))) → wS M' p n = wS M p n := by
  intro n
  induction n with
  | zero => intro _; rfl
  | succ n ih => intro h; have := h n (by omega); simp only [wS]; rw [ih (fun l hl => h l (by omega)), this.1, this.2.1, this.2.2]
theorem bS_co {M M' : MS} {p : Nat} : ∀ n, (∀ l, l < n → lb M' p l = lb M p l) → bS M' p n = bS M p n := by
  intro n
  induction n with
  | zero => intro _; rfl
  | succ n ih => intro h; have := h n (by omega); simp only [bS]; rw [ih (fun l hl => h l (by omega)), this]
theorem cov_co {M M' : MS} {k : Nat} : ∀ n, (∀ i, i < n → bx M' k i = bx M k i) → cov M' k n = cov M k n := by
  intro n
  induction n with
  | zero => intro _; rfl
  | succ n ih => intro h; have := h n (by omega); simp only [cov]; rw [ih (fun l hl => h l (by omega)), this]

theorem pc_rules {R : RS} {M : MS} {s d l : Nat} (h : PC R M) : PC (sfi (sfi (sfi R 0 9 (nI s)) 0 10 (nI d)) 0 11 (nI l)) (nRules M s d l) := by
  have s1 : ∀ q m, hS (nRules M s d l) q m = hS M q m := fun q m => hS_co m (fun _ _ => ⟨rfl, rfl⟩)
  have s2 : ∀ q m, wS (nRules M s d l) q m = wS M q m := fun q m => wS_co m (fun _ _ => ⟨rfl, rfl, rfl⟩)
  have s3 : ∀ q m, bS (nRules M s d l) q m = bS M q m := fun q m => bS_co m (fun _ _ => rfl)
  have s4 : ∀ q m, cov (nRules M s d l) q m = cov M q m := fun q m => cov_co m (fun _ _ => rfl)
  refine ⟨⟨h.1.1, h.1.2.1, h.1.2.2.1, h.1.2.2.2.1, h.1.2.2.2.2.1, rfl, rfl, rfl, h.1.2.2.2.2.2.2.2.2⟩, h.2.1, fun k hk => (h.2.2.1 k hk).to (fun _ => ((up2_n (by omega)).trans ((up2_n (by omega)).trans (up2_n (by omega))))) (fun _ => rfl), fun k hk => (h.2.2.2.1 k hk).to (fun _ => ((up2_n (by omega)).trans ((up2_n (by omega)).trans (up2_n (by omega))))) (fun _ => rfl) (fun _ => rfl), fun p hp => ?_, fun p hp i hi => ?_, h.2.2.2.2.2.2⟩
  · have h9 := (h.2.2.2.2.1 p hp).to (R' := sfi (sfi (sfi R 0 9 (nI s)) 0 10 (nI d)) 0 11 (nI l)) (fun _ => ((up2_n (by omega)).trans ((up2_n (by omega)).trans (up2_n (by omega)))))
    exact ⟨h9.1, by rw [s1]; exact h9.2.1, by rw [s2]; exact h9.2.2.1, by rw [s3]; exact h9.2.2.2.1, h9.2.2.2.2⟩
  · have h9 := h.2.2.2.2.2.1 p hp i hi
    exact ⟨h9.1, h9.2.1, by rw [s1]; exact h9.2.2.1, h9.2.2.2.1, by rw [s4]; exact h9.2.2.2.2⟩
theorem pc_take {R : RS} {M : MS} {p : Nat} (h : PC R M) (hp8 : p < 8) (hk6 : mnk M ≤ 6) (hn8 : mnp M ≤ 8) : PC (liS R M p) (nTake M p) := by
  obtain ⟨h1, h2, h3, h4, h5, h6, h7⟩ := h
  have e : ∀ x j, x ≠ 40 + 6 * p → fi (liS R M p) x j = fi R x j := fun x j hx => ((up2_n (by omega)).trans ((up2_n (by omega)).trans ((up2_n (by omega)).trans (up2_n (by omega)))))
  have s1 : ∀ q m, hS (nTake M p) q m = hS M q m := fun q m => hS_co m (fun _ _ => ⟨rfl, rfl⟩)
  have s2 : ∀ q m, wS (nTake M p) q m = wS M q m := fun q m => wS_co m (fun _ _ => ⟨rfl, rfl, rfl⟩)
  have s3 : ∀ q m, bS (nTake M p) q m = bS M q m := fun q m => bS_co m (fun _ _ => rfl)
  have s4 : ∀ q m, cov (nTake M p) q m = cov M q m := fun q m => cov_co m (fun _ _ => rfl)
  refine ⟨⟨(e _ _ (by omega)).trans h1.1, (e _ _ (by omega)).trans h1.2.1, (e _ _ (by omega)).trans h1.2.2.1, (e _ _ (by omega)).trans h1.2.2.2.1, (e _ _ (by omega)).trans h1.2.2.2.2.1, (e _ _ (by omega)).trans h1.2.2.2.2.2.1, (e _ _ (by omega)).trans h1.2.2.2.2.2.2.1, (e _ _ (by omega)).trans h1.2.2.2.2.2.2.2.1, (e _ _ (by omega)).trans h1.2.2.2.2.2.2.2.2⟩, ⟨(e _ _ (by omega)).trans h2.1, (e _ _ (by omega)).trans h2.2.1, (e _ _ (by omega)).trans h2.2.2⟩, fun k hk => ?_, fun k hk => ?_, fun q hq => ?_, fun q hq l hl => ?_, h7⟩
  · have hk : k < mnk M := hk
    exact (h3 k hk).to (fun _ => e _ _ (by omega)) (fun _ => rfl)
  · have hk : k < mnk M := hk
    exact (h4 k hk).to (fun _ => e _ _ (by omega)) (fun _ => rfl) (fun _ => rfl)
  · have hq : q < mnp M := hq
    by_cases hqp : q = p
    · subst hqp
      have hn : pn (nTake M q) q = pn M q - 1 := by simp [nTake, mup]
      refine ⟨by rw [hn]; exact ((up2_n (by omega)).trans ((up2_n (by omega)).trans ((up2_n (by omega)).trans (up2_s _ _ _ _)))), by rw [hn, s1]; exact ((up2_n (by omega)).trans ((up2_n (by omega)).trans (up2_s _ _ _ _))), by rw [hn, s2]; exact ((up2_n (by omega)).trans (up2_s _ _ _ _)), by rw [hn, s3]; exact up2_s _ _ _ _, ((up2_n (by omega)).trans ((up2_n (by omega)).trans ((up2_n (by omega)).trans ((up2_n (by omega)).trans (h5 q hq).2.2.2.2))))⟩
    · have hn : pn (nTake M p) q = pn M q := by simp [nTake, mup, hqp]
      have h9 := (h5 q hq).to (R' := liS R M p) (fun _ => e _ _ (by omega))
      refine ⟨by rw [hn]; exact h9.1, by rw [hn, s1]; exact h9.2.1, by rw [hn, s2]; exact h9.2.2.1, by rw [hn, s3]; exact h9.2.2.2.1, h9.2.2.2.2⟩
  · have hq : q < mnp M := hq
    have hl9 : l < pn M q := by
      by_cases hqp : q = p
      · subst hqp
        simp [nTake, mup] at hl
        omega
      · simpa [nTake, mup, hqp] using hl
    have h9 := h6 q hq l hl9
    exact ⟨h9.1, h9.2.1, by rw [s1]; exact h9.2.2.1, h9.2.2.2.1, by rw [s4]; exact h9.2.2.2.2⟩
theorem pc_add {R : RS} {M : MS} {p k n : Nat} (h : PC R M) (hp8 : p < 8) (hk6 : mnk M ≤ 6) (hn8 : mnp M ≤ 8) : PC (laS R M p k n) (nAdd M p k n) := by
  obtain ⟨h1, h2, h3, h4, h5, h6, h7⟩ := h
  have e : ∀ x j, x ≠ 40 + 6 * p → fi (laS R M p k n) x j = fi R x j := fun x j hx => ((up2_n (by omega)).trans ((up2_n (by omega)).trans ((up2_n (by omega)).trans (up2_n (by omega)))))
  have f : ∀ x j, (x ≤ 40 ∨ (j ≠ pn M p)) → ai (laS R M p k n) x j = ai R x j := fun x j hx => ((up2_n (by omega)).trans ((up2_n (by omega)).trans ((up2_n (by omega)).trans (up2_n (by omega)))))
  have f2 : ∀ x j, x < 41 + 6 * p ∨ 45 + 6 * p ≤ x → ai (laS R M p k n) x j = ai R x j := fun x j hx => ((up2_n (by omega)).trans ((up2_n (by omega)).trans ((up2_n (by omega)).trans (up2_n (by omega)))))
  have g2 : ∀ x j, x ≠ 45 + 6 * p ∨ j ≠ pn M p → al (laS R M p k n) x j = al R x j := fun x j hx => (up2_n (by omega))
  have bxe : ∀ q i, bx (nAdd M p k n) q i = bx M q i := fun q i => rfl
  have hlk : ∀ q l, ¬ (q = p ∧ l = pn M p) → lk (nAdd M p k n) q l = lk M q l := fun q l hx => by simp [nAdd, mup, hx]
  have hlb : ∀ q l, ¬ (q = p ∧ l = pn M p) → lb (nAdd M p k n) q l = lb M q l := fun q l hx => by simp [nAdd, mup, hx]
  have eh : ∀ q m, (q ≠ p ∨ m ≤ pn M p) → hS (nAdd M p k n) q m = hS M q m := fun q m hx => hS_co m (fun l hl => ⟨hlk q l (by omega), rfl⟩)
  have ew : ∀ q m, (q ≠ p ∨ m ≤ pn M p) → wS (nAdd M p k n) q m = wS M q m := fun q m hx => wS_co m (fun l hl => ⟨hlk q l (by omega), hlb q l (by omega), rfl⟩)
  have eb : ∀ q m, (q ≠ p ∨ m ≤ pn M p) → bS (nAdd M p k n) q m = bS M q m := fun q m hx => bS_co m (fun l hl => hlb q l (by omega))
  have lp : lk (nAdd M p k n) p (pn M p) = k := by simp [nAdd, mup]
  have bp : lb (nAdd M p k n) p (pn M p) = n := by simp [nAdd, mup]
  have ec : ∀ q m, cov (nAdd M p k n) q m = cov M q m := fun q m => cov_co m (fun i _ => bxe q i)
  refine ⟨⟨(e _ _ (by omega)).trans h1.1, (e _ _ (by omega)).trans h1.2.1, (e _ _ (by omega)).trans h1.2.2.1, (e _ _ (by omega)).trans h1.2.2.2.1, (e _ _ (by omega)).trans h1.2.2.2.2.1, (e _ _ (by omega)).trans h1.2.2.2.2.2.1, (e _ _ (by omega)).trans h1.2.2.2.2.2.2.1, (e _ _ (by omega)).trans h1.2.2.2.2.2.2.2.1, (e _ _ (by omega)).trans h1.2.2.2.2.2.2.2.2⟩, ⟨(e _ _ (by omega)).trans h2.1, (e _ _ (by omega)).trans h2.2.1, (e _ _ (by omega)).trans h2.2.2⟩, fun q hq => ?_, fun q hq => ?_, fun q hq => ?_, fun q hq l hl => ?_, fun i hi => (f2 _ _ (by omega)).trans (h7 i hi)⟩
  · have hq : q < mnk M := hq
    exact (h3 q hq).to (fun _ => e _ _ (by omega)) (fun _ => rfl)
  · have hq : q < mnk M := hq
    exact (h4 q hq).to (fun _ => e _ _ (by omega)) (fun _ => f2 _ _ (by omega)) (fun _ => f2 _ _ (by omega))
  · have hq : q < mnp M := hq
    by_cases hqp : q = p
    · subst hqp
      have hn : pn (nAdd M q k n) q = pn M q + 1 := by simp [nAdd, mup]
      have s1 : hS (nAdd M q k n) q (pn M q + 1) = hS M q (pn M q) + kh M k := by
        show hS (nAdd M q k n) q (pn M q) + kh M (lk (nAdd M q k n) q (pn M q)) = _
        rw [eh q _ (by omega), lp]
      have s2 : wS (nAdd M q k n) q (pn M q + 1) = wS M q (pn M q) + kq M k * n := by
        show wS (nAdd M q k n) q (pn M q) + kq M (lk (nAdd M q k n) q (pn M q)) * lb (nAdd M q k n) q (pn M q) = _
        rw [ew q _ (by omega), lp, bp]
      have s3 : bS (nAdd M q k n) q (pn M q + 1) = bS M q (pn M q) + n := by
        show bS (nAdd M q k n) q (pn M q) + lb (nAdd M q k n) q (pn M q) = _
        rw [eb q _ (by omega), bp]
      refine ⟨by rw [hn]; exact up2_s _ _ _ _, by rw [hn, s1]; exact ((up2_n (by omega)).trans ((up2_n (by omega)).trans ((up2_n (by omega)).trans (up2_s _ _ _ _)))), by rw [hn, s2]; exact ((up2_n (by omega)).trans ((up2_n (by omega)).trans (up2_s _ _ _ _))), by rw [hn, s3]; exact ((up2_n (by omega)).trans (up2_s _ _ _ _)), ((up2_n (by omega)).trans ((up2_n (by omega)).trans ((up2_n (by omega)).trans ((up2_n (by omega)).trans (h5 q hq).2.2.2.2))))⟩
    · have hn : pn (nAdd M p k n) q = pn M q := by simp [nAdd, mup, hqp]
      have h9 := (h5 q hq).to (R' := laS R M p k n) (fun _ => e _ _ (by omega))
      exact ⟨by rw [hn]; exact h9.1, by rw [hn, eh q _ (Or.inl hqp)]; exact h9.2.1, by rw [hn, ew q _ (Or.inl hqp)]; exact h9.2.2.1, by rw [hn, eb q _ (Or.inl hqp)]; exact h9.2.2.2.1, h9.2.2.2.2⟩
  · have hq : q < mnp M := hq
    by_cases hx : q = p ∧ l = pn M p
    · obtain ⟨rfl, rfl⟩ := hx
      refine ⟨by rw [lp]; exact ((up2_n (by omega)).trans ((up2_n (by omega)).trans ((up2_n (by omega)).trans (up2_s _ _ _ _)))), by rw [bp]; exact ((up2_n (by omega)).trans ((up2_n (by omega)).trans (up2_s _ _ _ _))), by rw [eh q _ (by omega)]; exact ((up2_n (by omega)).trans (up2_s _ _ _ _)), by rw [lp, bp]; exact (up2_s _ _ _ _), by rw [lp, bp, ec]; exact up2_s _ _ _ _⟩
    · have hl9 : l < pn M q := by
        by_cases hqp : q = p
        · subst hqp
          have : l < pn M q + 1 := by simpa [nAdd, mup] using hl
          omega
        · simpa [nAdd, mup, hqp] using hl
      have h9 := h6 q hq l hl9
      have f3 : ∀ j, j = 41 ∨ j = 42 ∨ j = 43 ∨ j = 44 → ai (laS R M p k n) (j + 6 * q) l = ai R (j + 6 * q) l := fun j hj => by
        by_cases hlp : l = pn M p
        · exact f2 _ _ (by omega)
        · exact f _ _ (Or.inr hlp)
      have hk9 := hlk q l hx
      have hb9 := hlb q l hx
      have h10 := eh q l (if z : q = p then Or.inr (by rw [z] at hl9; omega) else Or.inl z)
      have a1 := f3 41 (by omega)
      have a2 := f3 42 (by omega)
      have a3 := f3 43 (by omega)
      have a4 := f3 44 (by omega)
      have a5 := g2 (45 + 6 * q) l (by omega)
      exact ⟨by rw [hk9]; exact a1.trans h9.1, by rw [hb9]; exact a2.trans h9.2.1, by rw [h10]; exact a3.trans h9.2.2.1, by rw [hk9, hb9]; exact a4.trans h9.2.2.2.1, by rw [hk9, hb9, ec]; exact a5.trans h9.2.2.2.2⟩
theorem pc_truck {R : RS} {M : MS} {p s : Nat} (h : PC R M) (hp8 : p < 8) (hk6 : mnk M ≤ 6) (hn8 : mnp M ≤ 8) : PC (sfi (sfi (sai R 6 (mna M) (nI p)) 0 8 (nI (mna M + 1))) (40 + 6 * p) 9 (nI s)) (nTruck M p s) := by
  obtain ⟨h1, h2, h3, h4, h5, h6, h7⟩ := h
  have e : ∀ x j, x ≠ 40 + 6 * p → x ≠ 0 → fi (sfi (sfi (sai R 6 (mna M) (nI p)) 0 8 (nI (mna M + 1))) (40 + 6 * p) 9 (nI s)) x j = fi R x j := fun x j hx h0 => ((up2_n (by omega)).trans (up2_n (by omega)))
  have e0 : ∀ j, j ≠ 8 → fi (sfi (sfi (sai R 6 (mna M) (nI p)) 0 8 (nI (mna M + 1))) (40 + 6 * p) 9 (nI s)) 0 j = fi R 0 j := fun j hj => (up2_n (by omega)).trans (up2_nk hj)
  have f : ∀ x j, x ≠ 6 → ai (sfi (sfi (sai R 6 (mna M) (nI p)) 0 8 (nI (mna M + 1))) (40 + 6 * p) 9 (nI s)) x j = ai R x j := fun x j hx => (up2_n (by omega))
  have s1 : ∀ q m, hS (nTruck M p s) q m = hS M q m := fun q m => hS_co m (fun _ _ => ⟨rfl, rfl⟩)
  have s2 : ∀ q m, wS (nTruck M p s) q m = wS M q m := fun q m => wS_co m (fun _ _ => ⟨rfl, rfl, rfl⟩)
  have s3 : ∀ q m, bS (nTruck M p s) q m = bS M q m := fun q m => bS_co m (fun _ _ => rfl)
  have s4 : ∀ q m, cov (nTruck M p s) q m = cov M q m := fun q m => cov_co m (fun _ _ => rfl)
  refine ⟨⟨(e0 _ (by omega)).trans h1.1, (e0 _ (by omega)).trans h1.2.1, (e0 _ (by omega)).trans h1.2.2.1, (e0 _ (by omega)).trans h1.2.2.2.1, (up2_ni (by omega)).trans rfl, (e0 _ (by omega)).trans h1.2.2.2.2.2.1, (e0 _ (by omega)).trans h1.2.2.2.2.2.2.1, (e0 _ (by omega)).trans h1.2.2.2.2.2.2.2.1, (e _ _ (by omega) (by omega)).trans h1.2.2.2.2.2.2.2.2⟩, ⟨(e _ _ (by omega) (by omega)).trans h2.1, (e _ _ (by omega) (by omega)).trans h2.2.1, (e _ _ (by omega) (by omega)).trans h2.2.2⟩, fun k hk => ?_, fun k hk => ?_, fun q hq => ?_, fun q hq l hl => ?_, fun i hi => ?_⟩
  · have hk : k < mnk M := hk
    exact (h3 k hk).to (fun _ => e _ _ (by omega) (by omega)) (fun _ => rfl)
  · have hk : k < mnk M := hk
    exact (h4 k hk).to (fun _ => e _ _ (by omega) (by omega)) (fun _ => f _ _ (by omega)) (fun _ => f _ _ (by omega))
  · have hq : q < mnp M := hq
    have h9 := h5 q hq
    have g : ∀ j, j ≠ 9 → fi (sfi (sfi (sai R 6 (mna M) (nI p)) 0 8 (nI (mna M + 1))) (40 + 6 * p) 9 (nI s)) (40 + 6 * q) j = fi R (40 + 6 * q) j := fun j hj => (up2_nk hj).trans (up2_ni (by omega))
    refine ⟨(g _ (by omega)).trans h9.1, by rw [s1]; exact (g _ (by omega)).trans h9.2.1, by rw [s2]; exact (g _ (by omega)).trans h9.2.2.1, by rw [s3]; exact (g _ (by omega)).trans h9.2.2.2.1, ?_⟩
    by_cases hqp : q = p
    · subst hqp
      rw [show ps (nTruck M q s) q = s + 1 by simp [nTruck, mup]]
      exact up2_s _ _ _ _
    · rw [show ps (nTruck M p s) q = ps M q by simp [nTruck, mup, hqp]]
      exact (e _ _ (by omega) (by omega)).trans h9.2.2.2.2
  · have hq : q < mnp M := hq
    have h9 := h6 q hq l hl
    exact ⟨(f _ _ (by omega)).trans h9.1, (f _ _ (by omega)).trans h9.2.1, by rw [s1]; exact (f _ _ (by omega)).trans h9.2.2.1, (f _ _ (by omega)).trans h9.2.2.2.1, by rw [s4]; exact h9.2.2.2.2⟩
  · have hi : i < mna M + 1 := hi
    by_cases hin : i = mna M
    · subst hin
      rw [show tb (nTruck M p s) (mna M) = p by simp [nTruck, mup]]
      exact up2_s _ _ _ _
    · rw [show tb (nTruck M p s) i = tb M i by simp [nTruck, mup, hin]]
      exact (up2_nk hin).trans (h7 i (by omega))
theorem pc_pop {R : RS} {M : MS} {p : Nat} (h : PC (sfi R 0 8 (nI (mna M))) M) (hp : p = tb M (mna M - 1)) (hp8 : p < 8) (hk6 : mnk M ≤ 6) (hn8 : mnp M ≤ 8) : PC (sfi (clS R p) 0 8 (nI (mna M - 1))) (nPop M) := by
  obtain ⟨h1, h2, h3, h4, h5, h6, h7⟩ := h
  have e : ∀ x j, x ≠ 40 + 6 * p → fi (sfi (clS R p) 0 8 (nI (mna M - 1))) x j = if x = 0 ∧ j = 8 then nI (mna M - 1) else fi R x j := fun x j hx => by
    show up2 (fi (clS R p)) 0 8 (nI (mna M - 1)) x j = _
    unfold up2
    split
    · rfl
    · exact ((up2_n (by omega)).trans ((up2_n (by omega)).trans ((up2_n (by omega)).trans ((up2_n (by omega)).trans (up2_n (by omega))))))
  have e1 : ∀ x j, x ≠ 40 + 6 * p → ¬ (x = 0 ∧ j = 8) → fi (sfi (clS R p) 0 8 (nI (mna M - 1))) x j = fi (sfi R 0 8 (nI (mna M))) x j := fun x j hx h0 => by
    rw [e x j hx, if_neg h0]
    exact (up2_n h0).symm
  have s1 : ∀ q m, hS (nPop M) q m = hS M q m := fun q m => hS_co m (fun _ _ => ⟨rfl, rfl⟩)
  have s2 : ∀ q m, wS (nPop M) q m = wS M q m := fun q m => wS_co m (fun _ _ => ⟨rfl, rfl, rfl⟩)
  have s3 : ∀ q m, bS (nPop M) q m = bS M q m := fun q m => bS_co m (fun _ _ => rfl)
  have s4 : ∀ q m, cov (nPop M) q m = cov M q m := fun q m => cov_co m (fun _ _ => rfl)
  refine ⟨⟨(e1 _ _ (by omega) (by omega)).trans h1.1, (e1 _ _ (by omega) (by omega)).trans h1.2.1, (e1 _ _ (by omega) (by omega)).trans h1.2.2.1, (e1 _ _ (by omega) (by omega)).trans h1.2.2.2.1, rfl, (e1 _ _ (by omega) (by omega)).trans h1.2.2.2.2.2.1, (e1 _ _ (by omega) (by omega)).trans h1.2.2.2.2.2.2.1, (e1 _ _ (by omega) (by omega)).trans h1.2.2.2.2.2.2.2.1, (e1 _ _ (by omega) (by omega)).trans h1.2.2.2.2.2.2.2.2⟩, ⟨(e1 _ _ (by omega) (by omega)).trans h2.1, (e1 _ _ (by omega) (by omega)).trans h2.2.1, (e1 _ _ (by omega) (by omega)).trans h2.2.2⟩, fun k hk => ?_, fun k hk => ?_, fun q hq => ?_, fun q hq l hl => ?_, fun i hi => ?_⟩
  · have hk : k < mnk M := hk
    exact (h3 k hk).to (fun _ => e1 _ _ (by omega) (by omega)) (fun _ => rfl)
  · have hk : k < mnk M := hk
    exact (h4 k hk).to (fun _ => e1 _ _ (by omega) (by omega)) (fun _ => rfl) (fun _ => rfl)
  · have hq : q < mnp M := hq
    by_cases hqp : q = p
    · subst hqp
      have n0 : pn (nPop M) q = 0 := by rw [hp]; simp [nPop, mup]
      have n1 : ps (nPop M) q = 0 := by rw [hp]; simp [nPop, mup]
      refine ⟨by rw [n0]; exact ((up2_n (by omega)).trans ((up2_n (by omega)).trans ((up2_n (by omega)).trans ((up2_n (by omega)).trans ((up2_n (by omega)).trans (up2_s _ _ _ _)))))), by rw [n0]; exact ((up2_n (by omega)).trans ((up2_n (by omega)).trans ((up2_n (by omega)).trans ((up2_n (by omega)).trans (up2_s _ _ _ _))))), by rw [n0]; exact ((up2_n (by omega)).trans ((up2_n (by omega)).trans ((up2_n (by omega)).trans (up2_s _ _ _ _)))), by rw [n0]; exact ((up2_n (by omega)).trans ((up2_n (by omega)).trans (up2_s _ _ _ _))), by rw [n1]; exact ((up2_n (by omega)).trans (up2_s _ _ _ _))⟩
    · have n0 : pn (nPop M) q = pn M q := by rw [hp] at hqp; simp [nPop, mup, hqp]
      have n1 : ps (nPop M) q = ps M q := by rw [hp] at hqp; simp [nPop, mup, hqp]
      have h9 := (h5 q hq).to (R' := sfi (clS R p) 0 8 (nI (mna M - 1))) (fun _ => e1 _ _ (by omega) (by omega))
      exact ⟨by rw [n0]; exact h9.1, by rw [n0, s1]; exact h9.2.1, by rw [n0, s2]; exact h9.2.2.1, by rw [n0, s3]; exact h9.2.2.2.1, by rw [n1]; exact h9.2.2.2.2⟩
  · have hq : q < mnp M := hq
    by_cases hqp : q = p
    · have n0 : pn (nPop M) q = 0 := by rw [hqp, hp]; simp [nPop, mup]
      rw [n0] at hl
      exact absurd hl (Nat.not_lt_zero _)
    · have n0 : pn (nPop M) q = pn M q := by rw [hp] at hqp; simp [nPop, mup, hqp]
      rw [n0] at hl
      have h9 := h6 q hq l hl
      exact ⟨h9.1, h9.2.1, by rw [s1]; exact h9.2.2.1, h9.2.2.2.1, by rw [s4]; exact h9.2.2.2.2⟩
  · have hi : i < mna M - 1 := hi
    exact h7 i (by omega)
theorem pc_search {R R' : RS} {M : MS} {k mx : Nat} {S : SS} (h : PC R M) (hI : Inv M) (hk : k < mnk M) (hF : FC R R' k) (hL : LC R' k mx [] S) (hx : fi R' (10 + 3 * k) 10 = nI (if S.2.2.1 = true then 0 else 1)) (ho : onP M k (mnp M) = false) : PC R' (nSearch M k S) := by
  obtain ⟨h1, h2, h3, h4, h5, h6, h7⟩ := h
  obtain ⟨f1, f2, f3, f4, f5, f6⟩ := hF
  obtain ⟨a1, a2, a3, a4, a5, a6, a7⟩ := hL
  have hb := iv_b hI
  have s1 : ∀ q m, hS (nSearch M k S) q m = hS M q m := fun q m => hS_co m (fun _ _ => ⟨rfl, rfl⟩)
  have s2 : ∀ q m, wS (nSearch M k S) q m = wS M q m := fun q m => wS_co m (fun _ _ => ⟨rfl, rfl, rfl⟩)
  have s3 : ∀ q m, bS (nSearch M k S) q m = bS M q m := fun q m => bS_co m (fun _ _ => rfl)
  refine ⟨⟨(f1 _ _ (by omega) (by omega)).trans h1.1, (f1 _ _ (by omega) (by omega)).trans h1.2.1, (f1 _ _ (by omega) (by omega)).trans h1.2.2.1, (f1 _ _ (by omega) (by omega)).trans h1.2.2.2.1, (f1 _ _ (by omega) (by omega)).trans h1.2.2.2.2.1, (f1 _ _ (by omega) (by omega)).trans h1.2.2.2.2.2.1, (f1 _ _ (by omega) (by omega)).trans h1.2.2.2.2.2.2.1, (f1 _ _ (by omega) (by omega)).trans h1.2.2.2.2.2.2.2.1, ?_⟩, ⟨(f1 _ _ (by omega) (by omega)).trans h2.1, (f1 _ _ (by omega) (by omega)).trans h2.2.1, (f1 _ _ (by omega) (by omega)).trans h2.2.2⟩, fun q hq => ?_, fun q hq => ?_, fun q hq => ?_, fun q hq l hl => ?_, fun i hi => (f6 _ _ (by omega) (by omega) (by omega) (by omega)).trans (h7 i hi)⟩
  · rw [a2]
    show _ = nI (nSearch M k S 8 0 0)
    unfold nSearch
    rw [if_pos (by omega)]
  · have hq : q < mnk M := hq
    have b := h3 q hq
    exact ⟨(f1 _ _ (by omega) (by omega)).trans b.1, (f1 _ _ (by omega) (by omega)).trans b.2.1, (f1 _ _ (by omega) (by omega)).trans b.2.2.1, (f1 _ _ (by omega) (by omega)).trans b.2.2.2.1, (f1 _ _ (by omega) (by omega)).trans b.2.2.2.2.1, (f2 _ _).trans b.2.2.2.2.2.1, (f2 _ _).trans b.2.2.2.2.2.2⟩
  · have hq : q < mnk M := hq
    by_cases hqk : q = k
    · subst hqk
      refine ⟨a5.trans (by rw [ns_b]), hx.trans (by rw [ns_x]), fun i hi => ?_⟩
      rw [ns_b] at hi
      rw [ns_c hi, ns_y hi]
      exact a6 i hi
    · have h9 := (h4 q hq).to (R' := R') (fun _ => f1 _ _ (by omega) (by omega)) (fun _ => f6 _ _ (by omega) (by omega) (by omega) (by omega)) (fun _ => f6 _ _ (by omega) (by omega) (by omega) (by omega))
      have e1 : kb (nSearch M k S) q = kb M q := ns_k (by omega) hqk
      have e2 : kx (nSearch M k S) q = kx M q := ns_k (by omega) hqk
      refine ⟨by rw [e1]; exact h9.1, by rw [e2]; exact h9.2.1, fun i hi => ?_⟩
      rw [e1] at hi
      rw [show kc (nSearch M k S) q i = kc M q i from ns_k (by omega) hqk, show ky (nSearch M k S) q i = ky M q i from ns_k (by omega) hqk]
      exact h9.2.2 i hi
  · have hq : q < mnp M := hq
    have h9 := (h5 q hq).to (R' := R') (fun _ => f1 _ _ (by omega) (by omega))
    exact ⟨h9.1, by show _ = nI (hS (nSearch M k S) q (pn M q)); rw [s1]; exact h9.2.1, by show _ = nI (wS (nSearch M k S) q (pn M q)); rw [s2]; exact h9.2.2.1, by show _ = nI (bS (nSearch M k S) q (pn M q)); rw [s3]; exact h9.2.2.2.1, h9.2.2.2.2⟩
  · have hq : q < mnp M := hq
    have hl : l < pn M q := hl
    have h9 := (h6 q hq l hl).to (R' := R') (f6 _ _ (by omega) (by omega) (by omega) (by omega)) (f6 _ _ (by omega) (by omega) (by omega) (by omega)) (f6 _ _ (by omega) (by omega) (by omega) (by omega)) (f6 _ _ (by omega) (by omega) (by omega) (by omega)) (f4 _ _)
    have hne : lk M q l ≠ k := fun z => by
      have := onP_of (M := M) (n := mnp M) (i := q) (q := l) hq hl z
      rw [ho] at this
      cases this
    refine ⟨h9.1, h9.2.1, by rw [s1]; exact h9.2.2.1, h9.2.2.2.1, ?_⟩
    rw [show cov (nSearch M k S) (lk (nSearch M k S) q l) (lb (nSearch M k S) q l) = cov M (lk M q l) (lb M q l) from cov_co _ (fun i _ => ns_bxo hne)]
    exact h9.2.2.2.2
theorem lc_x {R : RS} {k mx : Nat} {pl : List (Nat × Nat)} {S : SS} {v : Int32} (h : LC R k mx pl S) : LC (sfi R (10 + 3 * k) 10 v) k mx pl S := by
  obtain ⟨a1, a2, a3, a4, a5, a6, a7⟩ := h
  exact ⟨(up2_n (by omega)).trans a1, (up2_n (by omega)).trans a2, (up2_n (by omega)).trans a3, (up2_n (by omega)).trans a4, (up2_nk (by omega)).trans a5, a6, a7⟩
