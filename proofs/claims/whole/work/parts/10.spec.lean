/-! ===== what each call answers: (which refusal, the answer, the state behind it) ===== -/
abbrev isN (x : Int32) (n : Nat) : Prop := 0 ≤ x.toInt ∧ x.toInt < n
abbrev isR (x : Int32) (lo hi : Nat) : Prop := (lo : Int) ≤ x.toInt ∧ x.toInt ≤ hi
def tN (x : Int32) : Nat := x.toInt.toNat
theorem w_iff {x : Int32} {lo hi : Nat} (h1 : lo < 2 ^ 31) (h2 : hi < 2 ^ 31) : (nI lo ≤ x ∧ x ≤ nI hi) ↔ isR x lo hi := by
  rw [i_le, i_le, nI_toInt h1, nI_toInt h2]
theorem in_iff {x : Int32} {n : Nat} (hn : n < 2 ^ 30) : (nI 0 ≤ x ∧ x ≤ nI n - nI 1) ↔ isN x n := by
  rw [i_le, i_le, pk_sub_toInt hn (by decide), nI_toInt (by decide)]
  constructor
  · intro h; exact ⟨by have := h.1; simpa using this, by have := h.2; omega⟩
  · intro h; exact ⟨by have := h.1; simpa using this, by have := h.2; omega⟩
theorem isN_ex {x : Int32} {n : Nat} (h : isN x n) : ∃ j, j < n ∧ j < 2 ^ 31 ∧ x = nI j := by
  obtain ⟨j, hj, rfl⟩ := nI_of (x := x) (by intro h9; have := i_lt.mp h9; simp at this; omega)
  have h2 := h.2
  rw [nI_toInt hj] at h2
  exact ⟨j, by omega, hj, rfl⟩
theorem isR_ex {x : Int32} {lo hi : Nat} (h : isR x lo hi) : ∃ j, lo ≤ j ∧ j ≤ hi ∧ j < 2 ^ 31 ∧ x = nI j := by
  obtain ⟨j, hj, rfl⟩ := nI_of (x := x) (by intro h9; have := i_lt.mp h9; simp at this; omega)
  have h1 := h.1
  have h2 := h.2
  rw [nI_toInt hj] at h1 h2
  exact ⟨j, by omega, by omega, hj, rfl⟩
theorem tN_nI {j : Nat} (h : j < 2 ^ 31) : tN (nI j) = j := by unfold tN; rw [nI_toInt h]; rfl
theorem isN_nI {j n : Nat} (h : j < 2 ^ 31) : isN (nI j) n ↔ j < n := by
  unfold isN; rw [nI_toInt h]; omega
theorem isR_nI {j lo hi : Nat} (h : j < 2 ^ 31) : isR (nI j) lo hi ↔ (lo ≤ j ∧ j ≤ hi) := by
  unfold isR; rw [nI_toInt h]; omega
abbrev AN : Type := Nat × Int32 × MS
def nKind (M : MS) (w d h q : Nat) : MS := mup (mup (mup (mup (mup (mup (mup M 10 (mnk M) 0 w) 11 (mnk M) 0 d) 12 (mnk M) 0 h) 13 (mnk M) 0 q) 14 (mnk M) 0 0) 15 (mnk M) 0 0) 2 0 0 (mnk M + 1)
def oKind (M : MS) (w d h q : Int32) : AN := if isR w 1 6 then (if isR d 1 6 then (if isR h 1 6 then (if isR q 0 100 then (if mnk M = 6 then (2, nI 0, M) else (0, nI (mnk M), nKind M (tN w) (tN d) (tN h) (tN q))) else (1, nI 0, M)) else (1, nI 0, M)) else (1, nI 0, M)) else (1, nI 0, M)
def oPattern (M : MS) (k i w : Int32) : AN := if isN k (mnk M) then (if isR w 0 2 then (if isN i (kb M (tN k)) then (0, nI (if tN w = 0 then kc M (tN k) (tN i) % mW M else if tN w = 1 then kc M (tN k) (tN i) / mW M else ky M (tN k) (tN i)), M) else (3, nI 0, M)) else (2, nI 0, M)) else (1, nI 0, M)
def oExact (M : MS) (k : Int32) : AN := if isN k (mnk M) then (0, nI (kx M (tN k)), M) else (1, nI 0, M)
def oBound (M : MS) (k : Int32) : AN := if isN k (mnk M) then (0, nI (mW M * mD M / (kw M (tN k) * kd M (tN k))), M) else (1, nI 0, M)
def nRules (M : MS) (s d l : Nat) : MS := mup (mup (mup M 5 0 0 s) 6 0 0 d) 7 0 0 l
def oRules (M : MS) (s d l : Int32) : AN := if isR s 0 100 then (if isR d 1 100 then (if isR l 0 10000 then (0, nI 0, nRules M (tN s) (tN d) (tN l)) else (1, nI 0, M)) else (1, nI 0, M)) else (1, nI 0, M)
def nPallet (M : MS) : MS := mup (mup (mup M 20 (mnp M) 0 0) 21 (mnp M) 0 0) 3 0 0 (mnp M + 1)
def oPallet (M : MS) : AN := if mnp M = 8 then (1, nI 0, M) else (0, nI (mnp M), nPallet M)
def nAdd (M : MS) (p k n : Nat) : MS := mup (mup (mup M 22 p (pn M p) k) 23 p (pn M p) n) 20 p 0 (pn M p + 1)
def nTake (M : MS) (p : Nat) : MS := mup M 20 p 0 (pn M p - 1)
def oTake (M : MS) (p : Int32) : AN := if isN p (mnp M) then (if ps M (tN p) = 0 then (if pn M (tN p) = 0 then (2, nI 0, M) else (0, nI (lb M (tN p) (pn M (tN p) - 1)), nTake M (tN p))) else (2, nI 0, M)) else (1, nI 0, M)
def kbit (M : MS) (p : Nat) : Nat → Int32
  | 0 => nI 0
  | l + 1 => kbit M p l ||| (nI 1 <<< (nI (lk M p l) &&& 31))
def oTold (M : MS) (p w : Int32) : AN := if isN p (mnp M) then (if isR w 0 5 then (0, (if tN w = 0 then nI (hS M (tN p) (pn M (tN p))) else if tN w = 1 then nI (wS M (tN p) (pn M (tN p))) else if tN w = 2 then nI (pn M (tN p)) else if tN w = 3 then nI (bS M (tN p) (pn M (tN p))) else if tN w = 4 then stI (ps M (tN p)) else kbit M (tN p) (pn M (tN p))), M) else (2, nI 0, M)) else (1, nI 0, M)
def oLayer (M : MS) (p l w : Int32) : AN := if isN p (mnp M) ∧ isN l (pn M (tN p)) then (if isR w 0 3 then (0, nI (if tN w = 0 then lk M (tN p) (tN l) else if tN w = 1 then lb M (tN p) (tN l) else if tN w = 2 then hS M (tN p) (tN l) else if lb M (tN p) (tN l) = kb M (lk M (tN p) (tN l)) then 1 else 0), M) else (2, nI 0, M)) else (1, nI 0, M)
/-- a pallet on the truck, among the first n, has a lesser stop than s -/
def les (M : MS) (s : Nat) : Nat → Bool
  | 0 => false
  | n + 1 => les M s n || decide (ps M (tb M n) < s + 1)
def nTruck (M : MS) (p s : Nat) : MS := mup (mup (mup M 21 p 0 (s + 1)) 24 (mna M) 0 p) 4 0 0 (mna M + 1)
def oTruck (M : MS) (p s : Int32) : AN := if isN p (mnp M) then (if isR s 0 9 then (if ps M (tN p) = 0 then (if pn M (tN p) = 0 then (3, nI 0, M) else (if les M (tN s) (mna M) = true then (3, nI 0, M) else (0, nI (mna M + 1), nTruck M (tN p) (tN s)))) else (3, nI 0, M)) else (2, nI 0, M)) else (1, nI 0, M)
/-- among the first n on the truck one for the stop s (the second: seen), and one for another behind it -/
def sen (M : MS) (s : Nat) : Nat → Bool
  | 0 => false
  | n + 1 => sen M s n || decide (ps M (tb M n) = s + 1)
def bar (M : MS) (s : Nat) : Nat → Bool
  | 0 => false
  | n + 1 => bar M s n || (sen M s n && !decide (ps M (tb M n) = s + 1))
/-- one pallet is unloaded -/
def nPop (M : MS) : MS := mup (mup (mup M 21 (tb M (mna M - 1)) 0 0) 20 (tb M (mna M - 1)) 0 0) 4 0 0 (mna M - 1)
def nUn (s : Nat) : Nat → MS → Nat × MS
  | 0, M => (0, M)
  | f + 1, M => if 0 < mna M ∧ ps M (tb M (mna M - 1)) = s + 1 then ((nUn s f (nPop M)).1 + 1, (nUn s f (nPop M)).2) else (0, M)
def oUnload (M : MS) (s : Int32) : AN := if isR s 0 9 then (if bar M (tN s) (mna M) = true then (2, nI 0, M) else (0, nI (nUn (tN s) 8 M).1, (nUn (tN s) 8 M).2)) else (1, nI 0, M)
def oOrder (M : MS) (i : Int32) : AN := if isN i (mna M) then (0, nI (tb M (mna M - 1 - tN i)), M) else (1, nI 0, M)
def allS (M : MS) : Nat → Nat
  | 0 => 0
  | p + 1 => allS M p + bS M p (pn M p)
def trkS (M : MS) : Nat → Nat
  | 0 => 0
  | p + 1 => trkS M p + (if ps M p = 0 then 0 else bS M p (pn M p))
def oCount (M : MS) (w : Int32) : Int32 := if isR w 0 5 then nI (if tN w = 0 then mnk M else if tN w = 1 then mnp M else if tN w = 2 then mna M else if tN w = 3 then allS M (mnp M) else if tN w = 4 then trkS M (mnp M) else mst M) else (-1)
/-- a layer of kind k is on one of the first n pallets -/
def onL (M : MS) (k p : Nat) : Nat → Bool
  | 0 => false
  | l + 1 => onL M k p l || decide (lk M p l = k)
def onP (M : MS) (k : Nat) : Nat → Bool
  | 0 => false
  | p + 1 => onP M k p || onL M k p (pn M p)
/-! ===== what a call of the reference leaves as it was ===== -/
def outM (R R' : RS) : Prop := (∀ i, (i < 100 ∨ 200 ≤ i) → ∀ k, fi R' i k = fi R i k ∧ fl R' i k = fl R i k ∧ fr R' i k = fr R i k ∧ ai R' i k = ai R i k ∧ al R' i k = al R i k ∧ aq R' i k = aq R i k) ∧ ∀ k, fr R' 100 k = fr R 100 k
theorem outM.r (R : RS) : outM R R := ⟨fun _ _ _ => ⟨rfl, rfl, rfl, rfl, rfl, rfl⟩, fun _ => rfl⟩
theorem outM.trans {R R' R'' : RS} (h : outM R R') (h' : outM R' R'') : outM R R'' := ⟨fun i hi k => by
  obtain ⟨a1, a2, a3, a4, a5, a6⟩ := h.1 i hi k
  obtain ⟨b1, b2, b3, b4, b5, b6⟩ := h'.1 i hi k
  exact ⟨b1.trans a1, b2.trans a2, b3.trans a3, b4.trans a4, b5.trans a5, b6.trans a6⟩, fun k => (h'.2 k).trans (h.2 k)⟩
theorem outM.sfi {R R' : RS} {i k : Nat} {v : Int32} (h : outM R R') (hi : 100 ≤ i ∧ i < 200) : outM R (sfi R' i k v) := ⟨fun j hj q => by
  obtain ⟨a1, a2, a3, a4, a5, a6⟩ := h.1 j hj q
  exact ⟨(up2_ni (by omega)).trans a1, a2, a3, a4, a5, a6⟩, h.2⟩
theorem outM.sfl {R R' : RS} {i k : Nat} {v : Int64} (h : outM R R') (hi : 100 ≤ i ∧ i < 200) : outM R (sfl R' i k v) := ⟨fun j hj q => by
  obtain ⟨a1, a2, a3, a4, a5, a6⟩ := h.1 j hj q
  exact ⟨a1, (up2_ni (by omega)).trans a2, a3, a4, a5, a6⟩, h.2⟩
theorem outM.sai {R R' : RS} {i k : Nat} {v : Int32} (h : outM R R') (hi : 100 ≤ i ∧ i < 200) : outM R (sai R' i k v) := ⟨fun j hj q => by
  obtain ⟨a1, a2, a3, a4, a5, a6⟩ := h.1 j hj q
  exact ⟨a1, a2, a3, (up2_ni (by omega)).trans a4, a5, a6⟩, h.2⟩
theorem outM.sal {R R' : RS} {i k : Nat} {v : Int64} (h : outM R R') (hi : 100 ≤ i ∧ i < 200) : outM R (sal R' i k v) := ⟨fun j hj q => by
  obtain ⟨a1, a2, a3, a4, a5, a6⟩ := h.1 j hj q
  exact ⟨a1, a2, a3, a4, (up2_ni (by omega)).trans a5, a6⟩, h.2⟩
/-- what the reference's calls owe -/
def QM (R : RS) (x : AN) (r : Int32) (R' : RS) : Prop := r = x.2.1 ∧ fi R' 100 5 = nI x.1 ∧ PM R' x.2.2 ∧ outM R R'
theorem pm_th {R : RS} {M : MS} {v : Int32} (h : PM R M) : PM (sfi R 100 5 v) M := h
theorem pm_rules {R : RS} {M : MS} {s d l : Nat} {v : Int32} (h : PM R M) : PM (sfi (sfi (sfi (sfi R 100 5 v) 100 15 (nI s)) 100 16 (nI d)) 100 17 (nI l)) (nRules M s d l) :=
  ⟨⟨h.1.1, h.1.2.1, h.1.2.2.1, h.1.2.2.2.1, h.1.2.2.2.2.1, rfl, rfl, rfl, h.1.2.2.2.2.2.2.2.2.1, h.1.2.2.2.2.2.2.2.2.2⟩, h.2⟩
theorem pm_kind {R : RS} {M : MS} {w d h q : Nat} {v : Int32} (hM : PM R M) (h6 : mnk M < 6) : PM (sfi (sai (sai (sai (sai (sfi R 100 5 v) 106 (mnk M) (nI w)) 107 (mnk M) (nI d)) 108 (mnk M) (nI h)) 109 (mnk M) (nI q)) 100 3 (nI (mnk M + 1))) (nKind M w d h q) := by
  obtain ⟨hs, hk, hf, hb, hp, hl, ht⟩ := hM
  refine ⟨⟨hs.1, hs.2.1, hs.2.2.1, rfl, hs.2.2.2.2⟩, ?_, ?_, ?_, hp, hl, ht⟩
  · intro k hk9
    have hk9 : k < mnk M + 1 := hk9
    by_cases hkn : k = mnk M
    · subst hkn
      have h2 := hf _ (Nat.le_refl _) h6
      exact ⟨by simp [q_fi_sfi, q_fi_sfl, q_fi_sfr, q_fi_sai, q_fi_sal, q_fi_saq, q_fl_sfi, q_fl_sfl, q_fl_sfr, q_fl_sai, q_fl_sal, q_fl_saq, q_fr_sfi, q_fr_sfl, q_fr_sfr, q_fr_sai, q_fr_sal, q_fr_saq, q_ai_sfi, q_ai_sfl, q_ai_sfr, q_ai_sai, q_ai_sal, q_ai_saq, q_al_sfi, q_al_sfl, q_al_sfr, q_al_sai, q_al_sal, q_al_saq, q_aq_sfi, q_aq_sfl, q_aq_sfr, q_aq_sai, q_aq_sal, q_aq_saq, nKind, mup], by simp [q_fi_sfi, q_fi_sfl, q_fi_sfr, q_fi_sai, q_fi_sal, q_fi_saq, q_fl_sfi, q_fl_sfl, q_fl_sfr, q_fl_sai, q_fl_sal, q_fl_saq, q_fr_sfi, q_fr_sfl, q_fr_sfr, q_fr_sai, q_fr_sal, q_fr_saq, q_ai_sfi, q_ai_sfl, q_ai_sfr, q_ai_sai, q_ai_sal, q_ai_saq, q_al_sfi, q_al_sfl, q_al_sfr, q_al_sai, q_al_sal, q_al_saq, q_aq_sfi, q_aq_sfl, q_aq_sfr, q_aq_sai, q_aq_sal, q_aq_saq, nKind, mup], by simp [q_fi_sfi, q_fi_sfl, q_fi_sfr, q_fi_sai, q_fi_sal, q_fi_saq, q_fl_sfi, q_fl_sfl, q_fl_sfr, q_fl_sai, q_fl_sal, q_fl_saq, q_fr_sfi, q_fr_sfl, q_fr_sfr, q_fr_sai, q_fr_sal, q_fr_saq, q_ai_sfi, q_ai_sfl, q_ai_sfr, q_ai_sai, q_ai_sal, q_ai_saq, q_al_sfi, q_al_sfl, q_al_sfr, q_al_sai, q_al_sal, q_al_saq, q_aq_sfi, q_aq_sfl, q_aq_sfr, q_aq_sai, q_aq_sal, q_aq_saq, nKind, mup], by simp [q_fi_sfi, q_fi_sfl, q_fi_sfr, q_fi_sai, q_fi_sal, q_fi_saq, q_fl_sfi, q_fl_sfl, q_fl_sfr, q_fl_sai, q_fl_sal, q_fl_saq, q_fr_sfi, q_fr_sfl, q_fr_sfr, q_fr_sai, q_fr_sal, q_fr_saq, q_ai_sfi, q_ai_sfl, q_ai_sfr, q_ai_sai, q_ai_sal, q_ai_saq, q_al_sfi, q_al_sfl, q_al_sfr, q_al_sai, q_al_sal, q_al_saq, q_aq_sfi, q_aq_sfl, q_aq_sfr, q_aq_sai, q_aq_sal, q_aq_saq, nKind, mup], by simp [q_fi_sfi, q_fi_sfl, q_fi_sfr, q_fi_sai, q_fi_sal, q_fi_saq, q_fl_sfi, q_fl_sfl, q_fl_sfr, q_fl_sai, q_fl_sal, q_fl_saq, q_fr_sfi, q_fr_sfl, q_fr_sfr, q_fr_sai, q_fr_sal, q_fr_saq, q_ai_sfi, q_ai_sfl, q_ai_sfr, q_ai_sai, q_ai_sal, q_ai_saq, q_al_sfi, q_al_sfl, q_al_sfr, q_al_sai, q_al_sal, q_al_saq, q_aq_sfi, q_aq_sfl, q_aq_sfr, q_aq_sai, q_aq_sal, q_aq_saq, nKind, mup, h2.1], by simp [q_fi_sfi, q_fi_sfl, q_fi_sfr, q_fi_sai, q_fi_sal, q_fi_saq, q_fl_sfi, q_fl_sfl, q_fl_sfr, q_fl_sai, q_fl_sal, q_fl_saq, q_fr_sfi, q_fr_sfl, q_fr_sfr, q_fr_sai, q_fr_sal, q_fr_saq, q_ai_sfi, q_ai_sfl, q_ai_sfr, q_ai_sai, q_ai_sal, q_ai_saq, q_al_sfi, q_al_sfl, q_al_sfr, q_al_sai, q_al_sal, q_al_saq, q_aq_sfi, q_aq_sfl, q_aq_sfr, q_aq_sai, q_aq_sal, q_aq_saq, nKind, mup, h2.2]⟩
    · have h3 := hk k (by omega)
      exact ⟨by simp [q_fi_sfi, q_fi_sfl, q_fi_sfr, q_fi_sai, q_fi_sal, q_fi_saq, q_fl_sfi, q_fl_sfl, q_fl_sfr, q_fl_sai, q_fl_sal, q_fl_saq, q_fr_sfi, q_fr_sfl, q_fr_sfr, q_fr_sai, q_fr_sal, q_fr_saq, q_ai_sfi, q_ai_sfl, q_ai_sfr, q_ai_sai, q_ai_sal, q_ai_saq, q_al_sfi, q_al_sfl, q_al_sfr, q_al_sai, q_al_sal, q_al_saq, q_aq_sfi, q_aq_sfl, q_aq_sfr, q_aq_sai, q_aq_sal, q_aq_saq, nKind, mup, hkn, h3.1], by simp [q_fi_sfi, q_fi_sfl, q_fi_sfr, q_fi_sai, q_fi_sal, q_fi_saq, q_fl_sfi, q_fl_sfl, q_fl_sfr, q_fl_sai, q_fl_sal, q_fl_saq, q_fr_sfi, q_fr_sfl, q_fr_sfr, q_fr_sai, q_fr_sal, q_fr_saq, q_ai_sfi, q_ai_sfl, q_ai_sfr, q_ai_sai, q_ai_sal, q_ai_saq, q_al_sfi, q_al_sfl, q_al_sfr, q_al_sai, q_al_sal, q_al_saq, q_aq_sfi, q_aq_sfl, q_aq_sfr, q_aq_sai, q_aq_sal, q_aq_saq, nKind, mup, hkn, h3.2.1], by simp [q_fi_sfi, q_fi_sfl, q_fi_sfr, q_fi_sai, q_fi_sal, q_fi_saq, q_fl_sfi, q_fl_sfl, q_fl_sfr, q_fl_sai, q_fl_sal, q_fl_saq, q_fr_sfi, q_fr_sfl, q_fr_sfr, q_fr_sai, q_fr_sal, q_fr_saq, q_ai_sfi, q_ai_sfl, q_ai_sfr, q_ai_sai, q_ai_sal, q_ai_saq, q_al_sfi, q_al_sfl, q_al_sfr, q_al_sai, q_al_sal, q_al_saq, q_aq_sfi, q_aq_sfl, q_aq_sfr, q_aq_sai, q_aq_sal, q_aq_saq, nKind, mup, hkn, h3.2.2.1], by simp [q_fi_sfi, q_fi_sfl, q_fi_sfr, q_fi_sai, q_fi_sal, q_fi_saq, q_fl_sfi, q_fl_sfl, q_fl_sfr, q_fl_sai, q_fl_sal, q_fl_saq, q_fr_sfi, q_fr_sfl, q_fr_sfr, q_fr_sai, q_fr_sal, q_fr_saq, q_ai_sfi, q_ai_sfl, q_ai_sfr, q_ai_sai, q_ai_sal, q_ai_saq, q_al_sfi, q_al_sfl, q_al_sfr, q_al_sai, q_al_sal, q_al_saq, q_aq_sfi, q_aq_sfl, q_aq_sfr, q_aq_sai, q_aq_sal, q_aq_saq, nKind, mup, hkn, h3.2.2.2.1], by simp [q_fi_sfi, q_fi_sfl, q_fi_sfr, q_fi_sai, q_fi_sal, q_fi_saq, q_fl_sfi, q_fl_sfl, q_fl_sfr, q_fl_sai, q_fl_sal, q_fl_saq, q_fr_sfi, q_fr_sfl, q_fr_sfr, q_fr_sai, q_fr_sal, q_fr_saq, q_ai_sfi, q_ai_sfl, q_ai_sfr, q_ai_sai, q_ai_sal, q_ai_saq, q_al_sfi, q_al_sfl, q_al_sfr, q_al_sai, q_al_sal, q_al_saq, q_aq_sfi, q_aq_sfl, q_aq_sfr, q_aq_sai, q_aq_sal, q_aq_saq, nKind, mup, hkn, h3.2.2.2.2.1], by simp [q_fi_sfi, q_fi_sfl, q_fi_sfr, q_fi_sai, q_fi_sal, q_fi_saq, q_fl_sfi, q_fl_sfl, q_fl_sfr, q_fl_sai, q_fl_sal, q_fl_saq, q_fr_sfi, q_fr_sfl, q_fr_sfr, q_fr_sai, q_fr_sal, q_fr_saq, q_ai_sfi, q_ai_sfl, q_ai_sfr, q_ai_sai, q_ai_sal, q_ai_saq, q_al_sfi, q_al_sfl, q_al_sfr, q_al_sai, q_al_sal, q_al_saq, q_aq_sfi, q_aq_sfl, q_aq_sfr, q_aq_sai, q_aq_sal, q_aq_saq, nKind, mup, hkn, h3.2.2.2.2.2]⟩
  · intro k hk9 h69
    have hk9 : mnk M + 1 ≤ k := hk9
    exact hf k (by omega) h69
  · intro k hk9 i hi
    have hk9 : k < mnk M + 1 := hk9
    by_cases hkn : k = mnk M
    · subst hkn
      simp [nKind, mup] at hi
    · have hi9 : i < kb M k := by simpa [nKind, mup, hkn] using hi
      have h3 := hb k (by omega) i hi9
      refine ⟨h3.1, h3.2.1, ?_⟩
      rw [show bx (nKind M w d h q) k i = bx M k i by simp [bx, ac, alo, nKind, mup, hkn]]
      exact h3.2.2
theorem pm_pallet {R : RS} {M : MS} {v : Int32} (hM : PM R M) : PM (sfi (sai (sai (sfi R 100 5 v) 118 (mnp M) (nI 0)) 121 (mnp M) (-1)) 100 4 (nI (mnp M + 1))) (nPallet M) := by
  obtain ⟨hs, hk, hf, hb, hp, hl, ht⟩ := hM
  refine ⟨⟨hs.1, hs.2.1, hs.2.2.1, hs.2.2.2.1, rfl, hs.2.2.2.2.2⟩, hk, hf, hb, ?_, ?_, ht⟩
  · intro p hp9
    have hp9 : p < mnp M + 1 := hp9
    by_cases hpn : p = mnp M
    · subst hpn
      exact ⟨by simp [q_fi_sfi, q_fi_sfl, q_fi_sfr, q_fi_sai, q_fi_sal, q_fi_saq, q_fl_sfi, q_fl_sfl, q_fl_sfr, q_fl_sai, q_fl_sal, q_fl_saq, q_fr_sfi, q_fr_sfl, q_fr_sfr, q_fr_sai, q_fr_sal, q_fr_saq, q_ai_sfi, q_ai_sfl, q_ai_sfr, q_ai_sai, q_ai_sal, q_ai_saq, q_al_sfi, q_al_sfl, q_al_sfr, q_al_sai, q_al_sal, q_al_saq, q_aq_sfi, q_aq_sfl, q_aq_sfr, q_aq_sai, q_aq_sal, q_aq_saq, nPallet, mup], by simp [q_fi_sfi, q_fi_sfl, q_fi_sfr, q_fi_sai, q_fi_sal, q_fi_saq, q_fl_sfi, q_fl_sfl, q_fl_sfr, q_fl_sai, q_fl_sal, q_fl_saq, q_fr_sfi, q_fr_sfl, q_fr_sfr, q_fr_sai, q_fr_sal, q_fr_saq, q_ai_sfi, q_ai_sfl, q_ai_sfr, q_ai_sai, q_ai_sal, q_ai_saq, q_al_sfi, q_al_sfl, q_al_sfr, q_al_sai, q_al_sal, q_al_saq, q_aq_sfi, q_aq_sfl, q_aq_sfr, q_aq_sai, q_aq_sal, q_aq_saq, nPallet, mup, stI]⟩
    · have h3 := hp p (by omega)
      exact ⟨by simp [q_fi_sfi, q_fi_sfl, q_fi_sfr, q_fi_sai, q_fi_sal, q_fi_saq, q_fl_sfi, q_fl_sfl, q_fl_sfr, q_fl_sai, q_fl_sal, q_fl_saq, q_fr_sfi, q_fr_sfl, q_fr_sfr, q_fr_sai, q_fr_sal, q_fr_saq, q_ai_sfi, q_ai_sfl, q_ai_sfr, q_ai_sai, q_ai_sal, q_ai_saq, q_al_sfi, q_al_sfl, q_al_sfr, q_al_sai, q_al_sal, q_al_saq, q_aq_sfi, q_aq_sfl, q_aq_sfr, q_aq_sai, q_aq_sal, q_aq_saq, nPallet, mup, hpn, h3.1], by simp [q_fi_sfi, q_fi_sfl, q_fi_sfr, q_fi_sai, q_fi_sal, q_fi_saq, q_fl_sfi, q_fl_sfl, q_fl_sfr, q_fl_sai, q_fl_sal, q_fl_saq, q_fr_sfi, q_fr_sfl, q_fr_sfr, q_fr_sai, q_fr_sal, q_fr_saq, q_ai_sfi, q_ai_sfl, q_ai_sfr, q_ai_sai, q_ai_sal, q_ai_saq, q_al_sfi, q_al_sfl, q_al_sfr, q_al_sai, q_al_sal, q_al_saq, q_aq_sfi, q_aq_sfl, q_aq_sfr, q_aq_sai, q_aq_sal, q_aq_saq, nPallet, mup, hpn, h3.2]⟩
  · intro p hp9 l hl9
    have hp9 : p < mnp M + 1 := hp9
    by_cases hpn : p = mnp M
    · subst hpn
      simp [nPallet, mup] at hl9
    · exact hl p (by omega) l (by simpa [nPallet, mup, hpn] using hl9)
theorem pm_take {R : RS} {M : MS} {v : Int32} {p : Nat} (hM : PM R M) : PM (sai (sfi R 100 5 v) 118 p (nI (pn M p - 1))) (nTake M p) := by
  obtain ⟨hs, hk, hf, hb, hp, hl, ht⟩ := hM
  refine ⟨hs, hk, hf, hb, ?_, ?_, ht⟩
  · intro q hq
    have h3 := hp q hq
    by_cases hqp : q = p
    · subst hqp
      exact ⟨by simp [q_fi_sfi, q_fi_sfl, q_fi_sfr, q_fi_sai, q_fi_sal, q_fi_saq, q_fl_sfi, q_fl_sfl, q_fl_sfr, q_fl_sai, q_fl_sal, q_fl_saq, q_fr_sfi, q_fr_sfl, q_fr_sfr, q_fr_sai, q_fr_sal, q_fr_saq, q_ai_sfi, q_ai_sfl, q_ai_sfr, q_ai_sai, q_ai_sal, q_ai_saq, q_al_sfi, q_al_sfl, q_al_sfr, q_al_sai, q_al_sal, q_al_saq, q_aq_sfi, q_aq_sfl, q_aq_sfr, q_aq_sai, q_aq_sal, q_aq_saq, nTake, mup], h3.2⟩
    · exact ⟨by simp [q_fi_sfi, q_fi_sfl, q_fi_sfr, q_fi_sai, q_fi_sal, q_fi_saq, q_fl_sfi, q_fl_sfl, q_fl_sfr, q_fl_sai, q_fl_sal, q_fl_saq, q_fr_sfi, q_fr_sfl, q_fr_sfr, q_fr_sai, q_fr_sal, q_fr_saq, q_ai_sfi, q_ai_sfl, q_ai_sfr, q_ai_sai, q_ai_sal, q_ai_saq, q_al_sfi, q_al_sfl, q_al_sfr, q_al_sai, q_al_sal, q_al_saq, q_aq_sfi, q_aq_sfl, q_aq_sfr, q_aq_sai, q_aq_sal, q_aq_saq, nTake, mup, hqp, h3.1], h3.2⟩
  · intro q hq l hl9
    refine hl q hq l ?_
    by_cases hqp : q = p
    · subst hqp
      simp [nTake, mup] at hl9
      omega
    · simpa [nTake, mup, hqp] using hl9
theorem pm_truck {R : RS} {M : MS} {v : Int32} {p s : Nat} (hM : PM R M) : PM (sfi (sai (sai (sfi R 100 5 v) 121 p (nI s)) 122 (mna M) (nI p)) 100 23 (nI (mna M + 1))) (nTruck M p s) := by
  obtain ⟨hs, hk, hf, hb, hp, hl, ht⟩ := hM
  refine ⟨⟨hs.1, hs.2.1, hs.2.2.1, hs.2.2.2.1, hs.2.2.2.2.1, hs.2.2.2.2.2.1, hs.2.2.2.2.2.2.1, hs.2.2.2.2.2.2.2.1, rfl, hs.2.2.2.2.2.2.2.2.2⟩, hk, hf, hb, ?_, hl, ?_⟩
  · intro q hq
    have h3 := hp q hq
    by_cases hqp : q = p
    · subst hqp
      exact ⟨h3.1, by simp [q_fi_sfi, q_fi_sfl, q_fi_sfr, q_fi_sai, q_fi_sal, q_fi_saq, q_fl_sfi, q_fl_sfl, q_fl_sfr, q_fl_sai, q_fl_sal, q_fl_saq, q_fr_sfi, q_fr_sfl, q_fr_sfr, q_fr_sai, q_fr_sal, q_fr_saq, q_ai_sfi, q_ai_sfl, q_ai_sfr, q_ai_sai, q_ai_sal, q_ai_saq, q_al_sfi, q_al_sfl, q_al_sfr, q_al_sai, q_al_sal, q_al_saq, q_aq_sfi, q_aq_sfl, q_aq_sfr, q_aq_sai, q_aq_sal, q_aq_saq, nTruck, mup, stI]⟩
    · exact ⟨h3.1, by simp [q_fi_sfi, q_fi_sfl, q_fi_sfr, q_fi_sai, q_fi_sal, q_fi_saq, q_fl_sfi, q_fl_sfl, q_fl_sfr, q_fl_sai, q_fl_sal, q_fl_saq, q_fr_sfi, q_fr_sfl, q_fr_sfr, q_fr_sai, q_fr_sal, q_fr_saq, q_ai_sfi, q_ai_sfl, q_ai_sfr, q_ai_sai, q_ai_sal, q_ai_saq, q_al_sfi, q_al_sfl, q_al_sfr, q_al_sai, q_al_sal, q_al_saq, q_aq_sfi, q_aq_sfl, q_aq_sfr, q_aq_sai, q_aq_sal, q_aq_saq, nTruck, mup, hqp, h3.2]⟩
  · intro i hi
    have hi : i < mna M + 1 := hi
    by_cases hin : i = mna M
    · subst hin
      simp [q_fi_sfi, q_fi_sfl, q_fi_sfr, q_fi_sai, q_fi_sal, q_fi_saq, q_fl_sfi, q_fl_sfl, q_fl_sfr, q_fl_sai, q_fl_sal, q_fl_saq, q_fr_sfi, q_fr_sfl, q_fr_sfr, q_fr_sai, q_fr_sal, q_fr_saq, q_ai_sfi, q_ai_sfl, q_ai_sfr, q_ai_sai, q_ai_sal, q_ai_saq, q_al_sfi, q_al_sfl, q_al_sfr, q_al_sai, q_al_sal, q_al_saq, q_aq_sfi, q_aq_sfl, q_aq_sfr, q_aq_sai, q_aq_sal, q_aq_saq, nTruck, mup]
    · have h3 := ht i (by omega)
      simp [q_fi_sfi, q_fi_sfl, q_fi_sfr, q_fi_sai, q_fi_sal, q_fi_saq, q_fl_sfi, q_fl_sfl, q_fl_sfr, q_fl_sai, q_fl_sal, q_fl_saq, q_fr_sfi, q_fr_sfl, q_fr_sfr, q_fr_sai, q_fr_sal, q_fr_saq, q_ai_sfi, q_ai_sfl, q_ai_sfr, q_ai_sai, q_ai_sal, q_ai_saq, q_al_sfi, q_al_sfl, q_al_sfr, q_al_sai, q_al_sal, q_al_saq, q_aq_sfi, q_aq_sfl, q_aq_sfr, q_aq_sai, q_aq_sal, q_aq_saq, nTruck, mup, hin, h3]
theorem ar_b {M : MS} {k : Nat} (h : 1 ≤ kw M k ∧ kw M k ≤ 6 ∧ 1 ≤ kd M k ∧ kd M k ≤ 6 ∧ 1 ≤ kh M k ∧ kh M k ≤ 6 ∧ kq M k ≤ 100 ∧ kb M k ≤ 36 ∧ kx M k ≤ 1) : 0 < kw M k * kd M k ∧ kw M k * kd M k ≤ 36 :=
  ⟨Nat.mul_pos h.1 h.2.2.1, Nat.mul_le_mul h.2.1 h.2.2.2.1⟩
theorem ce_b {M : MS} (h : 1 ≤ mW M ∧ mW M ≤ 6 ∧ 1 ≤ mD M ∧ mD M ≤ 6 ∧ mnk M ≤ 6 ∧ mnp M ≤ 8 ∧ mna M ≤ 8 ∧ msh M ≤ 100 ∧ mdo M ≤ 100 ∧ mlo M ≤ 10000 ∧ mst M ≤ 5000) : 0 < mW M * mD M ∧ mW M * mD M ≤ 36 :=
  ⟨Nat.mul_pos h.1 h.2.2.1, Nat.mul_le_mul h.2.1 h.2.2.2.1⟩
theorem stI_0 {n : Nat} (hn : n ≤ 10) (h : stI n = -1) : n = 0 := by
  by_cases h0 : n = 0
  · exact h0
  · unfold stI at h
    rw [if_neg h0] at h
    have h1 := congrArg Int32.toInt h
    rw [nI_toInt (by omega)] at h1
    exact absurd h1 (by simp)
theorem up2_2 {α : Type} (f : Nat → Nat → α) (i k : Nat) (v w : α) : up2 (up2 f i k v) i k w = up2 f i k w := by
  funext j q
  by_cases h : j = i ∧ q = k <;> simp [up2, h]
theorem sfi_2 (R : RS) (i k : Nat) (v w : Int32) : sfi (sfi R i k v) i k w = sfi R i k w := by unfold sfi; rw [up2_2]
theorem sfl_2 (R : RS) (i k : Nat) (v w : Int64) : sfl (sfl R i k v) i k w = sfl R i k w := by unfold sfl; simp only [up2_2]
theorem sai_2 (R : RS) (i k : Nat) (v w : Int32) : sai (sai R i k v) i k w = sai R i k w := by unfold sai; simp only [up2_2]
theorem stI_p {n : Nat} (h : n ≠ 0) : stI n = nI (n - 1) := by unfold stI; rw [if_neg h]
theorem les_mono {M : MS} {s i n : Nat} (h : i ≤ n) (hi : les M s i = true) : les M s n = true := by
  induction n with
  | zero => rw [show i = 0 by omega] at hi; exact hi
  | succ n ih =>
    by_cases h1 : i = n + 1
    · rw [← h1]; exact hi
    · have h2 := ih (by omega)
      simp [les, h2]
theorem bar_mono {M : MS} {s i n : Nat} (h : i ≤ n) (hi : bar M s i = true) : bar M s n = true := by
  induction n with
  | zero => rw [show i = 0 by omega] at hi; exact hi
  | succ n ih =>
    by_cases h1 : i = n + 1
    · rw [← h1]; exact hi
    · have h2 := ih (by omega)
      simp [bar, h2]
theorem onL_mono {M : MS} {k p i n : Nat} (h : i ≤ n) (hi : onL M k p i = true) : onL M k p n = true := by
  induction n with
  | zero => rw [show i = 0 by omega] at hi; exact hi
  | succ n ih =>
    by_cases h1 : i = n + 1
    · rw [← h1]; exact hi
    · have h2 := ih (by omega)
      simp [onL, h2]
theorem onP_mono {M : MS} {k i n : Nat} (h : i ≤ n) (hi : onP M k i = true) : onP M k n = true := by
  induction n with
  | zero => rw [show i = 0 by omega] at hi; exact hi
  | succ n ih =>
    by_cases h1 : i = n + 1
    · rw [← h1]; exact hi
    · have h2 := ih (by omega)
      simp [onP, h2]
theorem pm_add {R : RS} {M : MS} {p k n : Nat} (hM : PM R M) (h10 : ∀ q, q < mnp M → pn M q ≤ 10) (hp10 : pn M p < 10) : PM (sai (sai (sai R 119 (10 * p + pn M p) (nI k)) 120 (10 * p + pn M p) (nI n)) 118 p (nI (pn M p + 1))) (nAdd M p k n) := by
  obtain ⟨hs, hk, hf, hb, hp, hl, ht⟩ := hM
  refine ⟨hs, hk, hf, hb, ?_, ?_, ht⟩
  · intro q hq
    have h3 := hp q hq
    by_cases hqp : q = p
    · subst hqp
      exact ⟨by simp [q_fi_sfi, q_fi_sfl, q_fi_sfr, q_fi_sai, q_fi_sal, q_fi_saq, q_fl_sfi, q_fl_sfl, q_fl_sfr, q_fl_sai, q_fl_sal, q_fl_saq, q_fr_sfi, q_fr_sfl, q_fr_sfr, q_fr_sai, q_fr_sal, q_fr_saq, q_ai_sfi, q_ai_sfl, q_ai_sfr, q_ai_sai, q_ai_sal, q_ai_saq, q_al_sfi, q_al_sfl, q_al_sfr, q_al_sai, q_al_sal, q_al_saq, q_aq_sfi, q_aq_sfl, q_aq_sfr, q_aq_sai, q_aq_sal, q_aq_saq, nAdd, mup], h3.2⟩
    · exact ⟨by simp [q_fi_sfi, q_fi_sfl, q_fi_sfr, q_fi_sai, q_fi_sal, q_fi_saq, q_fl_sfi, q_fl_sfl, q_fl_sfr, q_fl_sai, q_fl_sal, q_fl_saq, q_fr_sfi, q_fr_sfl, q_fr_sfr, q_fr_sai, q_fr_sal, q_fr_saq, q_ai_sfi, q_ai_sfl, q_ai_sfr, q_ai_sai, q_ai_sal, q_ai_saq, q_al_sfi, q_al_sfl, q_al_sfr, q_al_sai, q_al_sal, q_al_saq, q_aq_sfi, q_aq_sfl, q_aq_sfr, q_aq_sai, q_aq_sal, q_aq_saq, nAdd, mup, hqp, h3.1], h3.2⟩
  · intro q hq l hl9
    have hq9 := h10 q hq
    by_cases hqp : q = p
    · subst hqp
      have hl8 : l < pn M q + 1 := by simpa [nAdd, mup] using hl9
      by_cases hlp : l = pn M q
      · subst hlp
        exact ⟨by simp [q_fi_sfi, q_fi_sfl, q_fi_sfr, q_fi_sai, q_fi_sal, q_fi_saq, q_fl_sfi, q_fl_sfl, q_fl_sfr, q_fl_sai, q_fl_sal, q_fl_saq, q_fr_sfi, q_fr_sfl, q_fr_sfr, q_fr_sai, q_fr_sal, q_fr_saq, q_ai_sfi, q_ai_sfl, q_ai_sfr, q_ai_sai, q_ai_sal, q_ai_saq, q_al_sfi, q_al_sfl, q_al_sfr, q_al_sai, q_al_sal, q_al_saq, q_aq_sfi, q_aq_sfl, q_aq_sfr, q_aq_sai, q_aq_sal, q_aq_saq, nAdd, mup], by simp [q_fi_sfi, q_fi_sfl, q_fi_sfr, q_fi_sai, q_fi_sal, q_fi_saq, q_fl_sfi, q_fl_sfl, q_fl_sfr, q_fl_sai, q_fl_sal, q_fl_saq, q_fr_sfi, q_fr_sfl, q_fr_sfr, q_fr_sai, q_fr_sal, q_fr_saq, q_ai_sfi, q_ai_sfl, q_ai_sfr, q_ai_sai, q_ai_sal, q_ai_saq, q_al_sfi, q_al_sfl, q_al_sfr, q_al_sai, q_al_sal, q_al_saq, q_aq_sfi, q_aq_sfl, q_aq_sfr, q_aq_sai, q_aq_sal, q_aq_saq, nAdd, mup]⟩
      · have h3 := hl q hq l (by omega)
        have h4 : ¬ (10 * q + l = 10 * q + pn M q) := by omega
        exact ⟨by simp [q_fi_sfi, q_fi_sfl, q_fi_sfr, q_fi_sai, q_fi_sal, q_fi_saq, q_fl_sfi, q_fl_sfl, q_fl_sfr, q_fl_sai, q_fl_sal, q_fl_saq, q_fr_sfi, q_fr_sfl, q_fr_sfr, q_fr_sai, q_fr_sal, q_fr_saq, q_ai_sfi, q_ai_sfl, q_ai_sfr, q_ai_sai, q_ai_sal, q_ai_saq, q_al_sfi, q_al_sfl, q_al_sfr, q_al_sai, q_al_sal, q_al_saq, q_aq_sfi, q_aq_sfl, q_aq_sfr, q_aq_sai, q_aq_sal, q_aq_saq, nAdd, mup, h3.1, hlp], by simp [q_fi_sfi, q_fi_sfl, q_fi_sfr, q_fi_sai, q_fi_sal, q_fi_saq, q_fl_sfi, q_fl_sfl, q_fl_sfr, q_fl_sai, q_fl_sal, q_fl_saq, q_fr_sfi, q_fr_sfl, q_fr_sfr, q_fr_sai, q_fr_sal, q_fr_saq, q_ai_sfi, q_ai_sfl, q_ai_sfr, q_ai_sai, q_ai_sal, q_ai_saq, q_al_sfi, q_al_sfl, q_al_sfr, q_al_sai, q_al_sal, q_al_saq, q_aq_sfi, q_aq_sfl, q_aq_sfr, q_aq_sai, q_aq_sal, q_aq_saq, nAdd, mup, h3.2, hlp]⟩
    · have hl8 : l < pn M q := by simpa [nAdd, mup, hqp] using hl9
      have h3 := hl q hq l hl8
      have h4 : ¬ (10 * q + l = 10 * p + pn M p) := by omega
      exact ⟨by simp [q_fi_sfi, q_fi_sfl, q_fi_sfr, q_fi_sai, q_fi_sal, q_fi_saq, q_fl_sfi, q_fl_sfl, q_fl_sfr, q_fl_sai, q_fl_sal, q_fl_saq, q_fr_sfi, q_fr_sfl, q_fr_sfr, q_fr_sai, q_fr_sal, q_fr_saq, q_ai_sfi, q_ai_sfl, q_ai_sfr, q_ai_sai, q_ai_sal, q_ai_saq, q_al_sfi, q_al_sfl, q_al_sfr, q_al_sai, q_al_sal, q_al_saq, q_aq_sfi, q_aq_sfl, q_aq_sfr, q_aq_sai, q_aq_sal, q_aq_saq, nAdd, mup, h3.1, hqp, h4], by simp [q_fi_sfi, q_fi_sfl, q_fi_sfr, q_fi_sai, q_fi_sal, q_fi_saq, q_fl_sfi, q_fl_sfl, q_fl_sfr, q_fl_sai, q_fl_sal, q_fl_saq, q_fr_sfi, q_fr_sfl, q_fr_sfr, q_fr_sai, q_fr_sal, q_fr_saq, q_ai_sfi, q_ai_sfl, q_ai_sfr, q_ai_sai, q_ai_sal, q_ai_saq, q_al_sfi, q_al_sfl, q_al_sfr, q_al_sai, q_al_sal, q_al_saq, q_aq_sfi, q_aq_sfl, q_aq_sfr, q_aq_sai, q_aq_sal, q_aq_saq, nAdd, mup, h3.2, hqp, h4]⟩
theorem pm_pop {R : RS} {M : MS} (hM : PM R M) (hI : Inv M) (h0 : 0 < mna M) : PM (sai (sai (sfi R 100 23 (nI (mna M - 1))) 121 (tb M (mna M - 1)) (-1)) 118 (tb M (mna M - 1)) (nI 0)) (nPop M) := by
  obtain ⟨hs, hk, hf, hb, hp, hl, ht⟩ := hM
  refine ⟨⟨hs.1, hs.2.1, hs.2.2.1, hs.2.2.2.1, hs.2.2.2.2.1, hs.2.2.2.2.2.1, hs.2.2.2.2.2.2.1, hs.2.2.2.2.2.2.2.1, rfl, hs.2.2.2.2.2.2.2.2.2⟩, hk, hf, hb, ?_, ?_, ?_⟩
  · intro q hq
    have h3 := hp q hq
    by_cases hqp : q = tb M (mna M - 1)
    · exact ⟨by simp [q_fi_sfi, q_fi_sfl, q_fi_sfr, q_fi_sai, q_fi_sal, q_fi_saq, q_fl_sfi, q_fl_sfl, q_fl_sfr, q_fl_sai, q_fl_sal, q_fl_saq, q_fr_sfi, q_fr_sfl, q_fr_sfr, q_fr_sai, q_fr_sal, q_fr_saq, q_ai_sfi, q_ai_sfl, q_ai_sfr, q_ai_sai, q_ai_sal, q_ai_saq, q_al_sfi, q_al_sfl, q_al_sfr, q_al_sai, q_al_sal, q_al_saq, q_aq_sfi, q_aq_sfl, q_aq_sfr, q_aq_sai, q_aq_sal, q_aq_saq, nPop, mup, hqp], by simp [q_fi_sfi, q_fi_sfl, q_fi_sfr, q_fi_sai, q_fi_sal, q_fi_saq, q_fl_sfi, q_fl_sfl, q_fl_sfr, q_fl_sai, q_fl_sal, q_fl_saq, q_fr_sfi, q_fr_sfl, q_fr_sfr, q_fr_sai, q_fr_sal, q_fr_saq, q_ai_sfi, q_ai_sfl, q_ai_sfr, q_ai_sai, q_ai_sal, q_ai_saq, q_al_sfi, q_al_sfl, q_al_sfr, q_al_sai, q_al_sal, q_al_saq, q_aq_sfi, q_aq_sfl, q_aq_sfr, q_aq_sai, q_aq_sal, q_aq_saq, nPop, mup, stI, hqp]⟩
    · exact ⟨by simp [q_fi_sfi, q_fi_sfl, q_fi_sfr, q_fi_sai, q_fi_sal, q_fi_saq, q_fl_sfi, q_fl_sfl, q_fl_sfr, q_fl_sai, q_fl_sal, q_fl_saq, q_fr_sfi, q_fr_sfl, q_fr_sfr, q_fr_sai, q_fr_sal, q_fr_saq, q_ai_sfi, q_ai_sfl, q_ai_sfr, q_ai_sai, q_ai_sal, q_ai_saq, q_al_sfi, q_al_sfl, q_al_sfr, q_al_sai, q_al_sal, q_al_saq, q_aq_sfi, q_aq_sfl, q_aq_sfr, q_aq_sai, q_aq_sal, q_aq_saq, nPop, mup, hqp, h3.1], by simp [q_fi_sfi, q_fi_sfl, q_fi_sfr, q_fi_sai, q_fi_sal, q_fi_saq, q_fl_sfi, q_fl_sfl, q_fl_sfr, q_fl_sai, q_fl_sal, q_fl_saq, q_fr_sfi, q_fr_sfl, q_fr_sfr, q_fr_sai, q_fr_sal, q_fr_saq, q_ai_sfi, q_ai_sfl, q_ai_sfr, q_ai_sai, q_ai_sal, q_ai_saq, q_al_sfi, q_al_sfl, q_al_sfr, q_al_sai, q_al_sal, q_al_saq, q_aq_sfi, q_aq_sfl, q_aq_sfr, q_aq_sai, q_aq_sal, q_aq_saq, nPop, mup, hqp, h3.2]⟩
  · intro q hq l hl9
    refine hl q hq l ?_
    by_cases hqp : q = tb M (mna M - 1)
    · simp [nPop, mup, hqp] at hl9
    · simpa [nPop, mup, hqp] using hl9
  · intro i hi
    have hi : i < mna M - 1 := hi
    exact ht i (by omega)
theorem onP_of {M : MS} {k i q n : Nat} (hi : i < n) (hq : q < pn M i) (h : lk M i q = k) : onP M k n = true := by
  have h1 : onL M k i (pn M i) = true := onL_mono (i := q + 1) hq (by show (onL M k i q || decide (lk M i q = k)) = true; rw [decide_eq_true h, Bool.or_true])
  exact onP_mono (i := i + 1) hi (by show (onP M k i || onL M k i (pn M i)) = true; rw [h1, Bool.or_true])
def b2n (b : Bool) : Nat := if b = true then 1 else 0
theorem nUn_0 {s f : Nat} {M : MS} (hf : mna M ≤ f) (h : ¬ (0 < mna M ∧ ps M (tb M (mna M - 1)) = s + 1)) : nUn s f M = (0, M) := by
  cases f with
  | zero => rfl
  | succ f => simp only [nUn, if_neg h]
theorem nUn_1 {s f : Nat} {M : MS} (hf : mna M ≤ f) (h : 0 < mna M ∧ ps M (tb M (mna M - 1)) = s + 1) : nUn s f M = ((nUn s (f - 1) (nPop M)).1 + 1, (nUn s (f - 1) (nPop M)).2) := by
  cases f with
  | zero => omega
  | succ f => simp only [nUn, if_pos h, Nat.add_sub_cancel]
