/-! ===== supports, layers put ===== -/
def spS (M : MS) (k i p l : Nat) : Nat → Nat
  | 0 => 0
  | j + 1 => spS M k i p l j + pc (bx M k i &&& bx M (lk M p l) j)
/-- the support of box i of kind k as the layer l of pallet p -/
def spt (M : MS) (k i p l : Nat) : Nat := if l = 0 then kw M k * kd M k else spS M k i p (l - 1) (lb M p (l - 1))
/-- the first n boxes have enough -/
def sAll (M : MS) (p k : Nat) : Nat → Bool
  | 0 => true
  | i + 1 => sAll M p k i && decide (msh M * (kw M k * kd M k) ≤ 100 * spt M k i p (pn M p))
def rsn (M : MS) (p k n : Nat) : Int32 := if kb M k < n then -1 else if sAll M p k n = false then -2 else if mdo M < hS M p (pn M p) + kh M k then -3 else if mlo M < wS M p (pn M p) + n * kq M k then -4 else nI 0
def oPut (M : MS) (p k n : Int32) : AN := if isN p (mnp M) ∧ isN k (mnk M) then (if isR n 1 100 then (if ps M (tN p) = 0 then (if pn M (tN p) = 10 then (4, nI 0, M) else (if rsn M (tN p) (tN k) (tN n) = nI 0 then (0, nI (pn M (tN p) + 1), nAdd M (tN p) (tN k) (tN n)) else (0, rsn M (tN p) (tN k) (tN n), M))) else (3, nI 0, M)) else (2, nI 0, M)) else (1, nI 0, M)
def flM (p k : Nat) : Nat → Nat → MS → Nat × MS
  | 0, r, M => (r, M)
  | f + 1, r, M => if 0 < r ∧ pn M p < 10 ∧ rsn M p k (if r < kb M k then r else kb M k) = nI 0 then flM p k f (r - (if r < kb M k then r else kb M k)) (nAdd M p k (if r < kb M k then r else kb M k)) else (r, M)
def oFill (M : MS) (p k n : Int32) : AN := if isN p (mnp M) ∧ isN k (mnk M) then (if isR n 1 600 then (if ps M (tN p) = 0 then (if kb M (tN k) = 0 then (0, nI 0, M) else (0, nI (tN n - (flM (tN p) (tN k) 11 (tN n) M).1), (flM (tN p) (tN k) 11 (tN n) M).2)) else (3, nI 0, M)) else (2, nI 0, M)) else (1, nI 0, M)
def oSupport (M : MS) (p l i : Int32) : AN := if isN p (mnp M) ∧ isN l (pn M (tN p)) then (if isN i (lb M (tN p) (tN l)) then (0, nI (100 * spt M (lk M (tN p) (tN l)) (tN i) (tN p) (tN l) / (kw M (lk M (tN p) (tN l)) * kd M (lk M (tN p) (tN l)))), M) else (1, nI 0, M)) else (1, nI 0, M)
theorem pcn_f : ∀ f x, pcn f x ≤ f := by
  intro f
  induction f with
  | zero => intro x; exact Nat.le_refl _
  | succ f ih => intro x; simp only [pcn]; have := ih (x / 2); omega
theorem spS_le (M : MS) (k i p l : Nat) : ∀ j, spS M k i p l j ≤ 64 * j := by
  intro j
  induction j with
  | zero => exact Nat.le_refl _
  | succ j ih => simp only [spS]; have := pcn_f 64 (bx M k i &&& bx M (lk M p l) j); unfold pc; omega
theorem spt_le {M : MS} {k i p l : Nat} (hI : Inv M) (hk : k < mnk M) (hp : p < mnp M) (hl : l ≤ pn M p) : spt M k i p l ≤ 2304 := by
  unfold spt
  split
  · have := (ar_b (iv_k hI hk)).2; omega
  · have h1 := iv_l hI hp (show l - 1 < pn M p by omega)
    have h2 := iv_k hI h1.1
    have := spS_le M k i p (l - 1) (lb M p (l - 1))
    omega
theorem bx_lt {M : MS} {k i : Nat} (hI : Inv M) (hk : k < mnk M) (hi : i < kb M k) : bx M k i < 68719476736 := by
  have h1 := iv_i hI hk hi
  exact Nat.lt_of_lt_of_le (bm_lt h1.2.2.1 _ h1.2.2.2) (p36 (ce_b (iv_b hI)).2)
theorem sub1_ge {l : Nat} (hl : l ≤ 10) : (0 ≤ nI l - nI 1) ↔ 0 < l := by
  rw [i_le, pk_sub_toInt (by omega) (by decide)]
  simp
  omega
theorem hS_le {M : MS} {p : Nat} (hI : Inv M) (hp : p < mnp M) : ∀ l, l ≤ pn M p → hS M p l ≤ 6 * l := by
  intro l
  induction l with
  | zero => intro _; exact Nat.le_refl _
  | succ l ih =>
    intro h
    have h1 := iv_l hI hp (show l < pn M p by omega)
    have h2 := iv_k hI h1.1
    have := ih (by omega)
    simp only [hS]
    omega
theorem wS_le {M : MS} {p : Nat} (hI : Inv M) (hp : p < mnp M) : ∀ l, l ≤ pn M p → wS M p l ≤ 3600 * l := by
  intro l
  induction l with
  | zero => intro _; exact Nat.le_refl _
  | succ l ih =>
    intro h
    have h1 := iv_l hI hp (show l < pn M p by omega)
    have h2 := iv_k hI h1.1
    have h3 := ih (by omega)
    have h4 : kq M (lk M p l) * lb M p l ≤ 100 * 36 := Nat.mul_le_mul h2.2.2.2.2.2.2.1 (by omega)
    simp only [wS]
    omega
theorem sAll_mono {M : MS} {p k i n : Nat} (h : i ≤ n) (hi : sAll M p k i = false) : sAll M p k n = false := by
  induction n with
  | zero => rw [show i = 0 by omega] at hi; exact hi
  | succ n ih =>
    by_cases h1 : i = n + 1
    · rw [← h1]; exact hi
    · have h2 := ih (by omega)
      simp [sAll, h2]
theorem fl_0 {p k f r : Nat} {M : MS} (h : ¬ (0 < r ∧ pn M p < 10 ∧ rsn M p k (if r < kb M k then r else kb M k) = nI 0)) : flM p k f r M = (r, M) := by
  cases f with
  | zero => rfl
  | succ f => simp only [flM, if_neg h]
theorem fl_1 {p k f r : Nat} {M : MS} (h : 0 < r ∧ pn M p < 10 ∧ rsn M p k (if r < kb M k then r else kb M k) = nI 0) : flM p k (f + 1) r M = flM p k f (r - (if r < kb M k then r else kb M k)) (nAdd M p k (if r < kb M k then r else kb M k)) := by
  simp only [flM, if_pos h]
/-- a layer that may be put has boxes enough -/
theorem rsn_kb {M : MS} {p k n : Nat} (h : rsn M p k n = nI 0) : n ≤ kb M k := by
  by_cases h1 : kb M k < n
  · unfold rsn at h
    rw [if_pos h1] at h
    exact absurd h (by decide)
  · omega
