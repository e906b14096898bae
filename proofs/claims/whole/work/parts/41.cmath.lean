/-! ===== areas, supports, bits of kinds ===== -/
theorem pcn_ones : ∀ (f w : Nat), w ≤ f → pcn f (2 ^ w - 1) = w := by
  intro f
  induction f with
  | zero => intro w h; rw [show w = 0 by omega]; rfl
  | succ f ih =>
    intro w h
    cases w with
    | zero => rw [show 2 ^ 0 - 1 = 0 from rfl, pcn_0]
    | succ w =>
      have h2 := Nat.two_pow_pos w
      have e1 : (2 ^ (w + 1) - 1) % 2 = 1 := by rw [Nat.pow_succ]; omega
      have e2 : (2 ^ (w + 1) - 1) / 2 = 2 ^ w - 1 := by rw [Nat.pow_succ]; omega
      simp only [pcn]
      rw [e1, e2, ih w (by omega)]
      omega
theorem pcn_sh : ∀ (n f x : Nat), pcn (n + f) (x * 2 ^ n) = pcn f x := by
  intro n
  induction n with
  | zero => intro f x; rw [Nat.zero_add, Nat.pow_zero, Nat.mul_one]
  | succ n ih =>
    intro f x
    rw [show n + 1 + f = (n + f) + 1 by omega]
    simp only [pcn]
    have e : x * 2 ^ (n + 1) = x * 2 ^ n * 2 := by rw [Nat.pow_succ, Nat.mul_assoc]
    rw [e, Nat.mul_mod_left, Nat.mul_div_cancel _ (by decide), ih]
    omega
theorem pc_row {w n : Nat} (h : n + w ≤ 64) : pc ((2 ^ w - 1) <<< n) = w := by
  rw [Nat.shiftLeft_eq]
  show pcn 64 _ = w
  rw [show 64 = n + (64 - n) by omega, pcn_sh, pcn_ones _ _ (by omega)]
theorem bm_up {W c w : Nat} (hw : w ≤ W) : ∀ d i, (bm W c w d).testBit i = true → i < c + W * d := by
  intro d
  induction d with
  | zero => intro i h; simp [bm] at h
  | succ d ih =>
    intro i h
    simp only [bm, Nat.testBit_or, Bool.or_eq_true] at h
    have hm : W * (d + 1) = W * d + W := Nat.mul_succ W d
    rcases h with h | h
    · have := ih i h; omega
    · simp only [Nat.testBit_shiftLeft, Bool.and_eq_true, decide_eq_true_eq] at h
      have h2 := h.2
      rw [Nat.testBit_two_pow_sub_one] at h2
      have := of_decide_eq_true h2
      omega
theorem bm_pc {W c w D : Nat} (hw : c % W + w ≤ W) (h64 : W * D ≤ 64) : ∀ d, c / W + d ≤ D → pc (bm W c w d) = w * d := by
  intro d
  induction d with
  | zero => intro _; exact pc_0
  | succ d ih =>
    intro hd
    have ht := bm_top hw hd
    simp only [bm]
    rw [pc_or, ih (by omega), pc_row (by omega), Nat.mul_succ]
    apply Nat.eq_of_testBit_eq
    intro i
    rw [Nat.testBit_and, Nat.zero_testBit]
    cases h1 : (bm W c w d).testBit i with
    | false => rfl
    | true =>
      have h2 := bm_up (by omega) d i h1
      rw [Nat.testBit_shiftLeft]
      simp
      intro h3
      omega
theorem bx_pc {M : MS} {k i : Nat} (hI : Inv M) (hk : k < mnk M) (hi : i < kb M k) : pc (bx M k i) = kw M k * kd M k := by
  have h1 := iv_i hI hk hi
  have h2 := ce_b (iv_b hI)
  unfold bx
  rw [bm_pc h1.2.2.1 (by omega) _ h1.2.2.2]
  unfold ac alo
  split
  · rfl
  · exact Nat.mul_comm _ _
theorem cov_dj {M : MS} {k x n : Nat} (h : ∀ i, i < n → bx M k i &&& x = 0) : cov M k n &&& x = 0 := by
  induction n with
  | zero => exact Nat.zero_and _
  | succ n ih =>
    simp only [cov]
    rw [Nat.and_or_distrib_right, ih (fun i hi => h i (by omega)), h n (by omega)]
    rfl
theorem spS_cov {M : MS} {k i p l : Nat} (hI : Inv M) (hl : lk M p l < mnk M) : ∀ n, n ≤ kb M (lk M p l) → spS M k i p l n = pc (bx M k i &&& cov M (lk M p l) n) := by
  intro n
  induction n with
  | zero => intro _; rw [show cov M (lk M p l) 0 = 0 from rfl, Nat.and_zero, pc_0]; rfl
  | succ n ih =>
    intro h
    simp only [spS, cov]
    rw [ih (by omega), Nat.and_or_distrib_left, pc_or]
    have h2 : cov M (lk M p l) n &&& bx M (lk M p l) n = 0 := cov_dj (fun j hj => hI.2.2.2.1 _ hl j n (by omega) (by omega) (by omega))
    rw [Nat.and_assoc, ← Nat.and_assoc (cov M (lk M p l) n), Nat.and_comm (cov M (lk M p l) n), Nat.and_assoc, h2, Nat.and_zero, Nat.and_zero]
/-- the kinds of the first n layers, bit by bit -/
def kbn (M : MS) (p : Nat) : Nat → Nat
  | 0 => 0
  | l + 1 => kbn M p l ||| 2 ^ (lk M p l)
theorem kb_or : ∀ v, v < 64 → ∀ q, q < 6 → (nI v ||| (nI 1 <<< (nI q &&& 31))) = nI (v ||| 2 ^ q) := by decide +kernel
theorem kb_sh : ∀ v, v < 64 → ∀ q, q < 6 → ((nI v >>> (nI q &&& 31)) &&& nI 1) = nI (v / 2 ^ q % 2) := by decide +kernel
theorem kbn_lt {M : MS} {p : Nat} : ∀ n, (∀ l, l < n → lk M p l < 6) → kbn M p n < 64 := by
  intro n
  induction n with
  | zero => intro _; show 0 < 64; decide
  | succ n ih =>
    intro h
    exact Nat.or_lt_two_pow (n := 6) (ih (fun l hl => h l (by omega))) (Nat.pow_lt_pow_right (by decide) (h n (by omega)))
theorem kbit_n {M : MS} {p : Nat} : ∀ n, (∀ l, l < n → lk M p l < 6) → kbit M p n = nI (kbn M p n) := by
  intro n
  induction n with
  | zero => intro _; rfl
  | succ n ih =>
    intro h
    simp only [kbit, kbn]
    rw [ih (fun l hl => h l (by omega)), kb_or _ (kbn_lt n (fun l hl => h l (by omega))) _ (h n (by omega))]
theorem kbn_on {M : MS} {p k : Nat} : ∀ n, (kbn M p n).testBit k = onL M k p n := by
  intro n
  induction n with
  | zero => exact Nat.zero_testBit k
  | succ n ih =>
    simp only [kbn, onL]
    rw [Nat.testBit_or, ih, Nat.testBit_two_pow]
theorem kbit_on {M : MS} {p k n : Nat} (hk : k < 6) (h : ∀ l, l < n → lk M p l < 6) : ((kbit M p n >>> (nI k &&& 31)) &&& nI 1) = nI 1 ↔ onL M k p n = true := by
  rw [kbit_n n h, kb_sh _ (kbn_lt n h) _ hk, ← kbn_on, nI_eq (by omega) (by omega)]
  exact tb_div
/-- of the class's public calls: what is owed behind a return, behind a throw -/
def QC (R : RS) (o : AN) (r : Int32) (R' : RS) : Prop := o.1 = 0 ∧ r = o.2.1 ∧ PC R' o.2.2 ∧ outC R R'
def XP (R : RS) (o : AN) (cs : List String) (E : String) (R' : RS) : Prop := R' = R ∧ ∃ c, o.1 = c + 1 ∧ cs[c]? = some E
abbrev NSE : String := "java/util/NoSuchElementException"
abbrev IAE : String := "java/lang/IllegalArgumentException"
abbrev ISE : String := "java/lang/IllegalStateException"
abbrev UOE : String := "java/lang/UnsupportedOperationException"
abbrev AIO : String := "java/lang/ArrayIndexOutOfBoundsException"
