/-! ===== the mathematical state: one for the class and for the reference; M code i j ===== -/
abbrev MS : Type := Nat → Nat → Nat → Nat
abbrev mW (M : MS) : Nat := M 0 0 0
abbrev mD (M : MS) : Nat := M 1 0 0
abbrev mnk (M : MS) : Nat := M 2 0 0
abbrev mnp (M : MS) : Nat := M 3 0 0
abbrev mna (M : MS) : Nat := M 4 0 0
abbrev msh (M : MS) : Nat := M 5 0 0
abbrev mdo (M : MS) : Nat := M 6 0 0
abbrev mlo (M : MS) : Nat := M 7 0 0
abbrev mst (M : MS) : Nat := M 8 0 0
abbrev kw (M : MS) (k : Nat) : Nat := M 10 k 0
abbrev kd (M : MS) (k : Nat) : Nat := M 11 k 0
abbrev kh (M : MS) (k : Nat) : Nat := M 12 k 0
abbrev kq (M : MS) (k : Nat) : Nat := M 13 k 0
abbrev kb (M : MS) (k : Nat) : Nat := M 14 k 0
abbrev kx (M : MS) (k : Nat) : Nat := M 15 k 0
abbrev kc (M : MS) (k i : Nat) : Nat := M 16 k i
abbrev ky (M : MS) (k i : Nat) : Nat := M 17 k i
abbrev pn (M : MS) (p : Nat) : Nat := M 20 p 0
/-- the stop and one; 0: on no truck -/
abbrev ps (M : MS) (p : Nat) : Nat := M 21 p 0
abbrev lk (M : MS) (p l : Nat) : Nat := M 22 p l
abbrev lb (M : MS) (p l : Nat) : Nat := M 23 p l
abbrev tb (M : MS) (i : Nat) : Nat := M 24 i 0
def mup (M : MS) (c i j v : Nat) : MS := fun c' i' j' => if c' = c ∧ i' = i ∧ j' = j then v else M c' i' j'
/-- a stop as the machine has it -/
def stI (n : Nat) : Int32 := if n = 0 then -1 else nI (n - 1)
/-- the cells of a box w wide, d deep, its corner the cell c, on an area W wide: bits -/
def bm (W c w : Nat) : Nat → Nat
  | 0 => 0
  | d + 1 => bm W c w d ||| (2 ^ w - 1) <<< (c + W * d)
def ac (M : MS) (k y : Nat) : Nat := if y = 0 then kw M k else kd M k
def alo (M : MS) (k y : Nat) : Nat := if y = 0 then kd M k else kw M k
/-- the cells of box i of kind k -/
def bx (M : MS) (k i : Nat) : Nat := bm (mW M) (kc M k i) (ac M k (ky M k i)) (alo M k (ky M k i))
def hS (M : MS) (p : Nat) : Nat → Nat
  | 0 => 0
  | l + 1 => hS M p l + kh M (lk M p l)
def wS (M : MS) (p : Nat) : Nat → Nat
  | 0 => 0
  | l + 1 => wS M p l + kq M (lk M p l) * lb M p l
def bS (M : MS) (p : Nat) : Nat → Nat
  | 0 => 0
  | l + 1 => bS M p l + lb M p l
/-- what always holds -/
def Inv (M : MS) : Prop :=
  (1 ≤ mW M ∧ mW M ≤ 6 ∧ 1 ≤ mD M ∧ mD M ≤ 6 ∧ mnk M ≤ 6 ∧ mnp M ≤ 8 ∧ mna M ≤ 8 ∧ msh M ≤ 100 ∧ mdo M ≤ 100 ∧ mlo M ≤ 10000 ∧ mst M ≤ 5000) ∧
  (∀ k, k < mnk M → (1 ≤ kw M k ∧ kw M k ≤ 6 ∧ 1 ≤ kd M k ∧ kd M k ≤ 6 ∧ 1 ≤ kh M k ∧ kh M k ≤ 6 ∧ kq M k ≤ 100 ∧ kb M k ≤ 36 ∧ kx M k ≤ 1)) ∧
  (∀ k, k < mnk M → ∀ i, i < kb M k → (ky M k i ≤ 1 ∧ kc M k i < 36 ∧ kc M k i % mW M + ac M k (ky M k i) ≤ mW M ∧ kc M k i / mW M + alo M k (ky M k i) ≤ mD M)) ∧
  (∀ k, k < mnk M → ∀ i j, i < kb M k → j < kb M k → i ≠ j → bx M k i &&& bx M k j = 0) ∧
  (∀ p, p < mnp M → (pn M p ≤ 10 ∧ ps M p ≤ 10 ∧ ∀ l, l < pn M p → (lk M p l < mnk M ∧ 1 ≤ lb M p l ∧ lb M p l ≤ kb M (lk M p l)))) ∧
  (∀ i, i < mna M → (tb M i < mnp M ∧ ps M (tb M i) ≠ 0)) ∧
  (∀ i j, i < mna M → j < mna M → tb M i = tb M j → i = j)
/-- the names of the reference, its slots that hold rows -/
def mN (i : Nat) : Bool := i == 100 || (106 ≤ i && i ≤ 114) || (118 ≤ i && i ≤ 122) || (125 ≤ i && i ≤ 128)
def mRf (k : Nat) : Bool := (6 ≤ k && k ≤ 14) || (18 ≤ k && k ≤ 22) || (25 ≤ k && k ≤ 28)
def PMr (R : RS) (a : Nat → Nat) (lv : Nat → Bool) : Prop := (∀ i, mN i = true → lv i = true) ∧ ∀ k, mRf k = true → fr R 100 k = some (a (100 + k))
/-- the reference holds the state -/
def PM (R : RS) (M : MS) : Prop :=
  (fi R 100 0 = nI (mW M) ∧ fi R 100 1 = nI (mD M) ∧ fi R 100 2 = nI (mW M * mD M) ∧ fi R 100 3 = nI (mnk M) ∧ fi R 100 4 = nI (mnp M) ∧ fi R 100 15 = nI (msh M) ∧ fi R 100 16 = nI (mdo M) ∧ fi R 100 17 = nI (mlo M) ∧ fi R 100 23 = nI (mna M) ∧ fi R 100 24 = nI (mst M)) ∧
  (∀ k, k < mnk M → (ai R 106 k = nI (kw M k) ∧ ai R 107 k = nI (kd M k) ∧ ai R 108 k = nI (kh M k) ∧ ai R 109 k = nI (kq M k) ∧ ai R 110 k = nI (kb M k) ∧ ai R 111 k = nI (kx M k))) ∧
  (∀ k, mnk M ≤ k → k < 6 → (ai R 110 k = nI 0 ∧ ai R 111 k = nI 0)) ∧
  (∀ k, k < mnk M → ∀ i, i < kb M k → (ai R 113 (36 * k + i) = nI (kc M k i) ∧ ai R 114 (36 * k + i) = nI (ky M k i) ∧ al R 112 (36 * k + i) = lN (bx M k i))) ∧
  (∀ p, p < mnp M → (ai R 118 p = nI (pn M p) ∧ ai R 121 p = stI (ps M p))) ∧
  (∀ p, p < mnp M → ∀ l, l < pn M p → (ai R 119 (10 * p + l) = nI (lk M p l) ∧ ai R 120 (10 * p + l) = nI (lb M p l))) ∧
  (∀ i, i < mna M → ai R 122 i = nI (tb M i))
theorem iv_b {M : MS} (h : Inv M) : 1 ≤ mW M ∧ mW M ≤ 6 ∧ 1 ≤ mD M ∧ mD M ≤ 6 ∧ mnk M ≤ 6 ∧ mnp M ≤ 8 ∧ mna M ≤ 8 ∧ msh M ≤ 100 ∧ mdo M ≤ 100 ∧ mlo M ≤ 10000 ∧ mst M ≤ 5000 := h.1
theorem iv_k {M : MS} (h : Inv M) {k : Nat} (hk : k < mnk M) : 1 ≤ kw M k ∧ kw M k ≤ 6 ∧ 1 ≤ kd M k ∧ kd M k ≤ 6 ∧ 1 ≤ kh M k ∧ kh M k ≤ 6 ∧ kq M k ≤ 100 ∧ kb M k ≤ 36 ∧ kx M k ≤ 1 := h.2.1 k hk
theorem iv_i {M : MS} (h : Inv M) {k i : Nat} (hk : k < mnk M) (hi : i < kb M k) : ky M k i ≤ 1 ∧ kc M k i < 36 ∧ kc M k i % mW M + ac M k (ky M k i) ≤ mW M ∧ kc M k i / mW M + alo M k (ky M k i) ≤ mD M := h.2.2.1 k hk i hi
theorem iv_p {M : MS} (h : Inv M) {p : Nat} (hp : p < mnp M) : pn M p ≤ 10 ∧ ps M p ≤ 10 := ⟨(h.2.2.2.2.1 p hp).1, (h.2.2.2.2.1 p hp).2.1⟩
theorem iv_l {M : MS} (h : Inv M) {p l : Nat} (hp : p < mnp M) (hl : l < pn M p) : lk M p l < mnk M ∧ 1 ≤ lb M p l ∧ lb M p l ≤ kb M (lk M p l) := (h.2.2.2.2.1 p hp).2.2 l hl
theorem iv_t {M : MS} (h : Inv M) {i : Nat} (hi : i < mna M) : tb M i < mnp M ∧ ps M (tb M i) ≠ 0 := h.2.2.2.2.2.1 i hi
