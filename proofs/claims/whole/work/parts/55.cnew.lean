/-! ===== a new kind, a new pallet, the start ===== -/
abbrev six (R R' : RS) (x : Nat) : Prop := ∀ j, fi R' x j = fi R x j ∧ fl R' x j = fl R x j ∧ fr R' x j = fr R x j ∧ ai R' x j = ai R x j ∧ al R' x j = al R x j ∧ aq R' x j = aq R x j
/-- of a call that makes something: what is owed behind its return -/
def QA (lv : Nat → Bool) (a : Nat → Nat) (R : RS) (o : AN) (r : Int32) (lv' : Nat → Bool) (a' : Nat → Nat) (R' : RS) : Prop := o.1 = 0 ∧ r = o.2.1 ∧ PC R' o.2.2 ∧ PCr lv' a' R' o.2.2 ∧ (∀ i, 100 ≤ i → (lv' i = lv i ∧ a' i = a i ∧ six R R' i)) ∧ a' 0 = a 0
theorem pk_kind {lv lv' : Nat → Bool} {a a' : Nat → Nat} {R R' : RS} {M : MS} (k : Nat) {w d h q : Nat} (hr : PCr lv a R M) (hC : PC R M) (hk : mnk M = k) (hk6 : k < 6) (hI : Inv M)
    (hlv : ∀ j, j ≠ 10 + 3 * k → j ≠ 11 + 3 * k → j ≠ 12 + 3 * k → (lv' j = lv j ∧ a' j = a j)) (hl3 : lv' (10 + 3 * k) = true ∧ lv' (11 + 3 * k) = true ∧ lv' (12 + 3 * k) = true)
    (hfi : ∀ x j, x ≠ 10 + 3 * k → x ≠ 11 + 3 * k → x ≠ 12 + 3 * k → ¬ (x = 0 ∧ j = 6) → fi R' x j = fi R x j) (hfl : ∀ x j, x ≠ 10 + 3 * k → x ≠ 11 + 3 * k → x ≠ 12 + 3 * k → fl R' x j = fl R x j) (hfr : ∀ x j, x ≠ 10 + 3 * k → x ≠ 11 + 3 * k → x ≠ 12 + 3 * k → fr R' x j = fr R x j)
    (hai : ∀ x j, x ≠ 10 + 3 * k → x ≠ 11 + 3 * k → x ≠ 12 + 3 * k → ai R' x j = ai R x j) (hal : ∀ x j, x ≠ 10 + 3 * k → x ≠ 11 + 3 * k → x ≠ 12 + 3 * k → al R' x j = al R x j) (haq : ∀ x j, x ≠ 10 + 3 * k → x ≠ 11 + 3 * k → x ≠ 12 + 3 * k → ¬ (x = 4 ∧ j = k) → aq R' x j = aq R x j)
    (h06 : fi R' 0 6 = nI (k + 1)) (h4k : aq R' 4 k = some (a' (10 + 3 * k)))
    (hf : fi R' (10 + 3 * k) 0 = nI w ∧ fi R' (10 + 3 * k) 1 = nI d ∧ fi R' (10 + 3 * k) 2 = nI h ∧ fi R' (10 + 3 * k) 3 = nI q ∧ fi R' (10 + 3 * k) 4 = nI (w * d) ∧ fl R' (10 + 3 * k) 5 = lN (bm (mW M) 0 w d) ∧ fl R' (10 + 3 * k) 6 = lN (bm (mW M) 0 d w) ∧ fi R' (10 + 3 * k) 9 = nI 0 ∧ fi R' (10 + 3 * k) 10 = nI 0 ∧ fr R' (10 + 3 * k) 7 = some (a' (11 + 3 * k)) ∧ fr R' (10 + 3 * k) 8 = some (a' (12 + 3 * k))) :
    PC R' (nKind M w d h q) ∧ PCr lv' a' R' (nKind M w d h q) := by
  subst hk
  have hb := iv_b hI
  obtain ⟨t1, t2, t3, t4, t5, t6, t7⟩ := hC
  obtain ⟨r1, r2, r3, r4, r5, r6, r7, r8⟩ := hr
  obtain ⟨f0, f1, f2, f3, f4, f5, f6, f9, f10, f7, f8⟩ := hf
  have hn : mnk (nKind M w d h q) = mnk M + 1 := rfl
  have s1 : ∀ p m, m ≤ pn M p → p < mnp M → (∀ l, l < pn M p → lk M p l ≠ mnk M) → (hS (nKind M w d h q) p m = hS M p m ∧ wS (nKind M w d h q) p m = wS M p m ∧ bS (nKind M w d h q) p m = bS M p m) := fun p m hm hp hne => by
    have e : ∀ l, l < m → kh (nKind M w d h q) (lk M p l) = kh M (lk M p l) ∧ kq (nKind M w d h q) (lk M p l) = kq M (lk M p l) := fun l hl => by
      have := hne l (by omega)
      exact ⟨by simp [nKind, mup, this], by simp [nKind, mup, this]⟩
    exact ⟨hS_co m (fun l hl => ⟨rfl, (e l hl).1⟩), wS_co m (fun l hl => ⟨rfl, rfl, (e l hl).2⟩), bS_co m (fun _ _ => rfl)⟩
  have hx : ∀ k i, k ≠ mnk M → bx (nKind M w d h q) k i = bx M k i := fun k i hne => by simp [bx, ac, alo, nKind, mup, hne]
  have KO : ∀ k, k ≠ mnk M → (kw (nKind M w d h q) k = kw M k ∧ kd (nKind M w d h q) k = kd M k ∧ kh (nKind M w d h q) k = kh M k ∧ kq (nKind M w d h q) k = kq M k ∧ kb (nKind M w d h q) k = kb M k ∧ kx (nKind M w d h q) k = kx M k) := fun k hne => by simp [nKind, mup, hne]
  have KN9 : kw (nKind M w d h q) (mnk M) = w ∧ kd (nKind M w d h q) (mnk M) = d ∧ kh (nKind M w d h q) (mnk M) = h ∧ kq (nKind M w d h q) (mnk M) = q ∧ kb (nKind M w d h q) (mnk M) = 0 ∧ kx (nKind M w d h q) (mnk M) = 0 := by simp [nKind, mup]
  refine ⟨⟨⟨(hfi _ _ (by omega) (by omega) (by omega) (by omega)).trans t1.1, (hfi _ _ (by omega) (by omega) (by omega) (by omega)).trans t1.2.1, h06, (hfi _ _ (by omega) (by omega) (by omega) (by omega)).trans t1.2.2.2.1, (hfi _ _ (by omega) (by omega) (by omega) (by omega)).trans t1.2.2.2.2.1, (hfi _ _ (by omega) (by omega) (by omega) (by omega)).trans t1.2.2.2.2.2.1, (hfi _ _ (by omega) (by omega) (by omega) (by omega)).trans t1.2.2.2.2.2.2.1, (hfi _ _ (by omega) (by omega) (by omega) (by omega)).trans t1.2.2.2.2.2.2.2.1, (hfi _ _ (by omega) (by omega) (by omega) (by omega)).trans t1.2.2.2.2.2.2.2.2⟩, ⟨(hfi _ _ (by omega) (by omega) (by omega) (by omega)).trans t2.1, (hfi _ _ (by omega) (by omega) (by omega) (by omega)).trans t2.2.1, (hfi _ _ (by omega) (by omega) (by omega) (by omega)).trans t2.2.2⟩, fun k hk => ?_, fun k hk => ?_, fun p hp => ?_, fun p hp l hl => ?_, fun i hi => (hai _ _ (by omega) (by omega) (by omega)).trans (t7 i hi)⟩, ⟨?_, ?_, fun k hk => ?_, fun p hp => ?_, fun k hk => ?_, fun p hp => ?_, fun k hk hk6' => ?_, fun p hp hp8 => ?_⟩⟩
  · rw [hn] at hk
    by_cases hkn : k = mnk M
    · subst hkn
      obtain ⟨n1, n2, n3, n4, n5, n6⟩ := KN9
      unfold KS
      rw [n1, n2, n3, n4]
      exact ⟨f0, f1, f2, f3, f4, f5, f6⟩
    · obtain ⟨n1, n2, n3, n4, n5, n6⟩ := KO k hkn
      unfold KS
      rw [n1, n2, n3, n4]
      exact (t3 k (by omega)).to (fun _ => hfi _ _ (by omega) (by omega) (by omega) (by omega)) (fun _ => hfl _ _ (by omega) (by omega) (by omega))
  · rw [hn] at hk
    by_cases hkn : k = mnk M
    · subst hkn
      obtain ⟨n1, n2, n3, n4, n5, n6⟩ := KN9
      unfold KV
      rw [n5, n6]
      exact ⟨f9, f10, fun i hi => absurd hi (Nat.not_lt_zero _)⟩
    · obtain ⟨n1, n2, n3, n4, n5, n6⟩ := KO k hkn
      unfold KV
      rw [n5, n6]
      exact (t4 k (by omega)).to (fun _ => hfi _ _ (by omega) (by omega) (by omega) (by omega)) (fun _ => hai _ _ (by omega) (by omega) (by omega)) (fun _ => hai _ _ (by omega) (by omega) (by omega))
  · have hp : p < mnp M := hp
    have h9 := (t5 p hp).to (R' := R') (fun _ => hfi _ _ (by omega) (by omega) (by omega) (by omega))
    have h8 := s1 p (pn M p) (Nat.le_refl _) hp (fun l hl => Nat.ne_of_lt (iv_l hI hp hl).1)
    exact ⟨h9.1, by show _ = nI (hS (nKind M w d h q) p (pn M p)); rw [h8.1]; exact h9.2.1, by show _ = nI (wS (nKind M w d h q) p (pn M p)); rw [h8.2.1]; exact h9.2.2.1, by show _ = nI (bS (nKind M w d h q) p (pn M p)); rw [h8.2.2]; exact h9.2.2.2.1, h9.2.2.2.2⟩
  · have hp : p < mnp M := hp
    have hl : l < pn M p := hl
    have h9 := (t6 p hp l hl).to (R' := R') (hai _ _ (by omega) (by omega) (by omega)) (hai _ _ (by omega) (by omega) (by omega)) (hai _ _ (by omega) (by omega) (by omega)) (hai _ _ (by omega) (by omega) (by omega)) (hal _ _ (by omega) (by omega) (by omega))
    have h8 := s1 p l (Nat.le_of_lt hl) hp (fun l hl => Nat.ne_of_lt (iv_l hI hp hl).1)
    have hne : lk M p l ≠ mnk M := Nat.ne_of_lt (iv_l hI hp hl).1
    refine ⟨h9.1, h9.2.1, by rw [h8.1]; exact h9.2.2.1, ?_, ?_⟩
    · show _ = nI (kq (nKind M w d h q) (lk M p l) * lb M p l)
      rw [(KO _ hne).2.2.2.1]; exact h9.2.2.2.1
    · show _ = lN (cov (nKind M w d h q) (lk M p l) (lb M p l))
      rw [cov_co _ (fun i _ => hx _ i hne)]; exact h9.2.2.2.2
  · have g : ∀ j, j ≠ 10 + 3 * mnk M → j ≠ 11 + 3 * mnk M → j ≠ 12 + 3 * mnk M → lv' j = lv j ∧ a' j = a j := hlv
    obtain ⟨b1, b2, b3, b4, b5, b6, b7, b8⟩ := r1
    exact ⟨(g 0 (by omega) (by omega) (by omega)).1.trans b1, (g 4 (by omega) (by omega) (by omega)).1.trans b2, (g 5 (by omega) (by omega) (by omega)).1.trans b3, (g 6 (by omega) (by omega) (by omega)).1.trans b4, by rw [hfr 0 2 (by omega) (by omega) (by omega), (g 1 (by omega) (by omega) (by omega)).2]; exact b5, by rw [hfr 0 3 (by omega) (by omega) (by omega), (g 4 (by omega) (by omega) (by omega)).2]; exact b6, by rw [hfr 0 4 (by omega) (by omega) (by omega), (g 5 (by omega) (by omega) (by omega)).2]; exact b7, by rw [hfr 0 5 (by omega) (by omega) (by omega), (g 6 (by omega) (by omega) (by omega)).2]; exact b8⟩
  · obtain ⟨b1, b2, b3, b4, b5⟩ := r2
    exact ⟨(hlv 1 (by omega) (by omega) (by omega)).1.trans b1, (hlv 2 (by omega) (by omega) (by omega)).1.trans b2, (hlv 3 (by omega) (by omega) (by omega)).1.trans b3, by rw [hfr 1 3 (by omega) (by omega) (by omega), (hlv 2 (by omega) (by omega) (by omega)).2]; exact b4, by rw [hfr 1 4 (by omega) (by omega) (by omega), (hlv 3 (by omega) (by omega) (by omega)).2]; exact b5⟩
  · rw [hn] at hk
    by_cases hkn : k = mnk M
    · subst hkn
      exact ⟨hl3.1, hl3.2.1, hl3.2.2, f7, f8⟩
    · obtain ⟨b1, b2, b3, b4, b5⟩ := r3 k (by omega)
      exact ⟨(hlv _ (by omega) (by omega) (by omega)).1.trans b1, (hlv _ (by omega) (by omega) (by omega)).1.trans b2, (hlv _ (by omega) (by omega) (by omega)).1.trans b3, by rw [hfr _ 7 (by omega) (by omega) (by omega), (hlv (11 + 3 * k) (by omega) (by omega) (by omega)).2]; exact b4, by rw [hfr _ 8 (by omega) (by omega) (by omega), (hlv (12 + 3 * k) (by omega) (by omega) (by omega)).2]; exact b5⟩
  · have hp : p < mnp M := hp
    obtain ⟨⟨b1, b2, b3, b4, b5, b6⟩, c1, c2, c3, c4, c5⟩ := r4 p hp
    have g : ∀ j, (lv' (40 + j + 6 * p) = lv (40 + j + 6 * p) ∧ a' (40 + j + 6 * p) = a (40 + j + 6 * p)) := fun j => hlv _ (by omega) (by omega) (by omega)
    exact ⟨⟨(g 0).1.trans b1, (g 1).1.trans b2, (g 2).1.trans b3, (g 3).1.trans b4, (g 4).1.trans b5, (g 5).1.trans b6⟩, by rw [hfr _ 0 (by omega) (by omega) (by omega)]; exact c1.trans (congrArg some (g 1).2.symm), by rw [hfr _ 1 (by omega) (by omega) (by omega)]; exact c2.trans (congrArg some (g 2).2.symm), by rw [hfr _ 2 (by omega) (by omega) (by omega)]; exact c3.trans (congrArg some (g 3).2.symm), by rw [hfr _ 3 (by omega) (by omega) (by omega)]; exact c4.trans (congrArg some (g 4).2.symm), by rw [hfr _ 4 (by omega) (by omega) (by omega)]; exact c5.trans (congrArg some (g 5).2.symm)⟩
  · rw [hn]
    by_cases hkn : k = mnk M
    · subst hkn
      rw [if_pos (by omega)]; exact h4k
    · rw [haq 4 k (by omega) (by omega) (by omega) (by omega), r5 k hk]
      by_cases hlt : k < mnk M
      · rw [if_pos hlt, if_pos (by omega), (hlv (10 + 3 * k) (by omega) (by omega) (by omega)).2]
      · rw [if_neg hlt, if_neg (by omega)]
  · show aq R' 5 p = if p < mnp M then some (a' (40 + 6 * p)) else none
    rw [haq 5 p (by omega) (by omega) (by omega) (by omega), r6 p hp]
    split
    · rw [(hlv (40 + 6 * p) (by omega) (by omega) (by omega)).2]
    · rfl
  · rw [hn] at hk
    obtain ⟨b1, b2, b3⟩ := r7 k (by omega) hk6'
    exact ⟨(hlv _ (by omega) (by omega) (by omega)).1.trans b1, (hlv _ (by omega) (by omega) (by omega)).1.trans b2, (hlv _ (by omega) (by omega) (by omega)).1.trans b3⟩
  · obtain ⟨b1, b2, b3, b4, b5, b6⟩ := r8 p hp hp8
    have g : ∀ j, (lv' (40 + j + 6 * p) = lv (40 + j + 6 * p)) := fun j => (hlv _ (by omega) (by omega) (by omega)).1
    exact ⟨(g 0).trans b1, (g 1).trans b2, (g 2).trans b3, (g 3).trans b4, (g 4).trans b5, (g 5).trans b6⟩
theorem pk_pallet {lv lv' : Nat → Bool} {a a' : Nat → Nat} {R R' : RS} {M : MS} (p : Nat) (hr : PCr lv a R M) (hC : PC R M) (hp : mnp M = p) (hp8 : p < 8) (hI : Inv M)
    (hlv : ∀ j, (j < 40 + 6 * p ∨ 45 + 6 * p < j) → (lv' j = lv j ∧ a' j = a j)) (hl6 : lv' (40 + 6 * p) = true ∧ lv' (41 + 6 * p) = true ∧ lv' (42 + 6 * p) = true ∧ lv' (43 + 6 * p) = true ∧ lv' (44 + 6 * p) = true ∧ lv' (45 + 6 * p) = true)
    (hfi : ∀ x j, (x < 40 + 6 * p ∨ 45 + 6 * p < x) → ¬ (x = 0 ∧ j = 7) → fi R' x j = fi R x j) (hfl : ∀ x j, (x < 40 + 6 * p ∨ 45 + 6 * p < x) → fl R' x j = fl R x j) (hfr : ∀ x j, (x < 40 + 6 * p ∨ 45 + 6 * p < x) → fr R' x j = fr R x j)
    (hai : ∀ x j, (x < 40 + 6 * p ∨ 45 + 6 * p < x) → ai R' x j = ai R x j) (hal : ∀ x j, (x < 40 + 6 * p ∨ 45 + 6 * p < x) → al R' x j = al R x j) (haq : ∀ x j, (x < 40 + 6 * p ∨ 45 + 6 * p < x) → ¬ (x = 5 ∧ j = p) → aq R' x j = aq R x j)
    (h07 : fi R' 0 7 = nI (p + 1)) (h5p : aq R' 5 p = some (a' (40 + 6 * p)))
    (hf : fi R' (40 + 6 * p) 5 = nI 0 ∧ fi R' (40 + 6 * p) 6 = nI 0 ∧ fi R' (40 + 6 * p) 7 = nI 0 ∧ fi R' (40 + 6 * p) 8 = nI 0 ∧ fi R' (40 + 6 * p) 9 = -1 ∧ fr R' (40 + 6 * p) 0 = some (a' (41 + 6 * p)) ∧ fr R' (40 + 6 * p) 1 = some (a' (42 + 6 * p)) ∧ fr R' (40 + 6 * p) 2 = some (a' (43 + 6 * p)) ∧ fr R' (40 + 6 * p) 3 = some (a' (44 + 6 * p)) ∧ fr R' (40 + 6 * p) 4 = some (a' (45 + 6 * p))) :
    PC R' (nPallet M) ∧ PCr lv' a' R' (nPallet M) := by
  subst hp
  have hb := iv_b hI
  obtain ⟨t1, t2, t3, t4, t5, t6, t7⟩ := hC
  obtain ⟨r1, r2, r3, r4, r5, r6, r7, r8⟩ := hr
  obtain ⟨f5, f6, f7, f8, f9, c1, c2, c3, c4, c5⟩ := hf
  have hn : mnp (nPallet M) = mnp M + 1 := rfl
  have s1 : ∀ q m, hS (nPallet M) q m = hS M q m := fun q m => hS_co m (fun _ _ => ⟨rfl, rfl⟩)
  have s2 : ∀ q m, wS (nPallet M) q m = wS M q m := fun q m => wS_co m (fun _ _ => ⟨rfl, rfl, rfl⟩)
  have s3 : ∀ q m, bS (nPallet M) q m = bS M q m := fun q m => bS_co m (fun _ _ => rfl)
  have s4 : ∀ q m, cov (nPallet M) q m = cov M q m := fun q m => cov_co m (fun _ _ => rfl)
  have po : ∀ q, q ≠ mnp M → (pn (nPallet M) q = pn M q ∧ ps (nPallet M) q = ps M q) := fun q hq => by simp [nPallet, mup, hq]
  have pnew : pn (nPallet M) (mnp M) = 0 ∧ ps (nPallet M) (mnp M) = 0 := by simp [nPallet, mup]
  refine ⟨⟨⟨(hfi _ _ (by omega) (by omega)).trans t1.1, (hfi _ _ (by omega) (by omega)).trans t1.2.1, (hfi _ _ (by omega) (by omega)).trans t1.2.2.1, h07, (hfi _ _ (by omega) (by omega)).trans t1.2.2.2.2.1, (hfi _ _ (by omega) (by omega)).trans t1.2.2.2.2.2.1, (hfi _ _ (by omega) (by omega)).trans t1.2.2.2.2.2.2.1, (hfi _ _ (by omega) (by omega)).trans t1.2.2.2.2.2.2.2.1, (hfi _ _ (by omega) (by omega)).trans t1.2.2.2.2.2.2.2.2⟩, ⟨(hfi _ _ (by omega) (by omega)).trans t2.1, (hfi _ _ (by omega) (by omega)).trans t2.2.1, (hfi _ _ (by omega) (by omega)).trans t2.2.2⟩, fun k hk => ?_, fun k hk => ?_, fun p hp => ?_, fun p hp l hl => ?_, fun i hi => (hai _ _ (by omega)).trans (t7 i hi)⟩, ⟨?_, ?_, fun k hk => ?_, fun p hp => ?_, fun k hk => ?_, fun p hp => ?_, fun k hk hk6' => ?_, fun p hp hp8 => ?_⟩⟩
  · have hk : k < mnk M := hk
    exact (t3 k hk).to (fun _ => hfi _ _ (by omega) (by omega)) (fun _ => hfl _ _ (by omega))
  · have hk : k < mnk M := hk
    exact (t4 k hk).to (fun _ => hfi _ _ (by omega) (by omega)) (fun _ => hai _ _ (by omega)) (fun _ => hai _ _ (by omega))
  · rw [hn] at hp
    by_cases hpn : p = mnp M
    · subst hpn
      obtain ⟨n1, n2⟩ := pnew
      unfold PF
      rw [n1, n2]
      exact ⟨f5, f6, f7, f8, f9⟩
    · obtain ⟨n1, n2⟩ := po p hpn
      have h9 := (t5 p (by omega)).to (R' := R') (fun _ => hfi _ _ (by omega) (by omega))
      unfold PF
      rw [n1, n2, s1, s2, s3]
      exact h9
  · rw [hn] at hp
    by_cases hpn : p = mnp M
    · rw [hpn, pnew.1] at hl
      exact absurd hl (Nat.not_lt_zero _)
    · rw [(po p hpn).1] at hl
      have h9 := (t6 p (by omega) l hl).to (R' := R') (hai _ _ (by omega)) (hai _ _ (by omega)) (hai _ _ (by omega)) (hai _ _ (by omega)) (hal _ _ (by omega))
      exact ⟨h9.1, h9.2.1, by rw [s1]; exact h9.2.2.1, h9.2.2.2.1, by rw [s4]; exact h9.2.2.2.2⟩
  · obtain ⟨b1, b2, b3, b4, b5, b6, b7, b8⟩ := r1
    exact ⟨(hlv 0 (by omega)).1.trans b1, (hlv 4 (by omega)).1.trans b2, (hlv 5 (by omega)).1.trans b3, (hlv 6 (by omega)).1.trans b4, by rw [hfr 0 2 (by omega), (hlv 1 (by omega)).2]; exact b5, by rw [hfr 0 3 (by omega), (hlv 4 (by omega)).2]; exact b6, by rw [hfr 0 4 (by omega), (hlv 5 (by omega)).2]; exact b7, by rw [hfr 0 5 (by omega), (hlv 6 (by omega)).2]; exact b8⟩
  · obtain ⟨b1, b2, b3, b4, b5⟩ := r2
    exact ⟨(hlv 1 (by omega)).1.trans b1, (hlv 2 (by omega)).1.trans b2, (hlv 3 (by omega)).1.trans b3, by rw [hfr 1 3 (by omega), (hlv 2 (by omega)).2]; exact b4, by rw [hfr 1 4 (by omega), (hlv 3 (by omega)).2]; exact b5⟩
  · have hk : k < mnk M := hk
    obtain ⟨b1, b2, b3, b4, b5⟩ := r3 k hk
    exact ⟨(hlv _ (by omega)).1.trans b1, (hlv _ (by omega)).1.trans b2, (hlv _ (by omega)).1.trans b3, by rw [hfr _ 7 (by omega), (hlv (11 + 3 * k) (by omega)).2]; exact b4, by rw [hfr _ 8 (by omega), (hlv (12 + 3 * k) (by omega)).2]; exact b5⟩
  · rw [hn] at hp
    by_cases hpn : p = mnp M
    · subst hpn
      exact ⟨hl6, c1, c2, c3, c4, c5⟩
    · obtain ⟨⟨b1, b2, b3, b4, b5, b6⟩, d1, d2, d3, d4, d5⟩ := r4 p (by omega)
      have g : ∀ j, j ≤ 5 → (lv' (40 + j + 6 * p) = lv (40 + j + 6 * p) ∧ a' (40 + j + 6 * p) = a (40 + j + 6 * p)) := fun j hj => hlv _ (by omega)
      exact ⟨⟨(g 0 (by decide)).1.trans b1, (g 1 (by decide)).1.trans b2, (g 2 (by decide)).1.trans b3, (g 3 (by decide)).1.trans b4, (g 4 (by decide)).1.trans b5, (g 5 (by decide)).1.trans b6⟩, by rw [hfr _ 0 (by omega)]; exact d1.trans (congrArg some (g 1 (by decide)).2.symm), by rw [hfr _ 1 (by omega)]; exact d2.trans (congrArg some (g 2 (by decide)).2.symm), by rw [hfr _ 2 (by omega)]; exact d3.trans (congrArg some (g 3 (by decide)).2.symm), by rw [hfr _ 3 (by omega)]; exact d4.trans (congrArg some (g 4 (by decide)).2.symm), by rw [hfr _ 4 (by omega)]; exact d5.trans (congrArg some (g 5 (by decide)).2.symm)⟩
  · show aq R' 4 k = if k < mnk M then some (a' (10 + 3 * k)) else none
    rw [haq 4 k (by omega) (by omega), r5 k hk]
    split
    · rw [(hlv (10 + 3 * k) (by omega)).2]
    · rfl
  · rw [hn]
    by_cases hpn : p = mnp M
    · subst hpn
      rw [if_pos (by omega)]; exact h5p
    · rw [haq 5 p (by omega) (by omega), r6 p hp]
      by_cases hlt : p < mnp M
      · rw [if_pos hlt, if_pos (by omega), (hlv (40 + 6 * p) (by omega)).2]
      · rw [if_neg hlt, if_neg (by omega)]
  · obtain ⟨b1, b2, b3⟩ := r7 k hk hk6'
    exact ⟨(hlv _ (by omega)).1.trans b1, (hlv _ (by omega)).1.trans b2, (hlv _ (by omega)).1.trans b3⟩
  · rw [hn] at hp
    obtain ⟨b1, b2, b3, b4, b5, b6⟩ := r8 p (by omega) hp8
    have g : ∀ j, j ≤ 5 → (lv' (40 + j + 6 * p) = lv (40 + j + 6 * p)) := fun j hj => (hlv _ (by omega)).1
    exact ⟨(g 0 (by decide)).trans b1, (g 1 (by decide)).trans b2, (g 2 (by decide)).trans b3, (g 3 (by decide)).trans b4, (g 4 (by decide)).trans b5, (g 5 (by decide)).trans b6⟩
/-- the start -/
def M0 (w d : Nat) : MS := fun c _ _ => match c with | 0 => w | 1 => d | 5 => 50 | 6 => 100 | 7 => 10000 | _ => 0
theorem iv_0 {w d : Nat} (hw : 1 ≤ w ∧ w ≤ 6) (hd : 1 ≤ d ∧ d ≤ 6) : Inv (M0 w d) := by
  refine ⟨⟨hw.1, hw.2, hd.1, hd.2, show 0 ≤ 6 by decide, show 0 ≤ 8 by decide, show 0 ≤ 8 by decide, show 50 ≤ 100 by decide, show 100 ≤ 100 by decide, show 10000 ≤ 10000 by decide, show 0 ≤ 5000 by decide⟩, ?_, ?_, ?_, ?_, ?_, ?_⟩
  · intro k hk; exact absurd hk (Nat.not_lt_zero _)
  · intro k hk; exact absurd hk (Nat.not_lt_zero _)
  · intro k hk; exact absurd hk (Nat.not_lt_zero _)
  · intro k hk; exact absurd hk (Nat.not_lt_zero _)
  · intro k hk; exact absurd hk (Nat.not_lt_zero _)
  · intro i j hi; exact absurd hi (Nat.not_lt_zero _)
theorem hld_mm (x : Int32) : (if nI 1 < (if x < nI 6 then x else nI 6) then (if x < nI 6 then x else nI 6) else nI 1) = nI (hld x) := by
  by_cases h1 : nI 1 ≤ x
  · by_cases h2 : x ≤ nI 6
    · rw [← hld_c h1 h2]
      by_cases h3 : x < nI 6
      · rw [if_pos h3]
        by_cases h4 : nI 1 < x
        · rw [if_pos h4]
        · rw [if_neg h4]; exact Int32.le_antisymm h1 (Int32.not_lt.mp h4)
      · rw [if_neg h3, if_pos (by decide)]; exact Int32.le_antisymm (Int32.not_lt.mp h3) h2
    · rw [← hld_b h1 h2, if_neg (fun z => h2 (Int32.le_of_lt z)), if_pos (by decide)]
  · rw [← hld_a h1]
    have h3 : x < nI 6 := Int32.lt_of_lt_of_le (Int32.not_le.mp h1) (by decide)
    rw [if_pos h3, if_neg (fun z => h1 (Int32.le_of_lt z))]
