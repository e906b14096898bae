/-! the count of Long.bitCount: byte by byte -/
def dig (f : Nat → Nat) : Nat → Nat → Nat
  | 0, _ => 0
  | k + 1, n => 256 * dig f k (n / 256) + f (n % 256)
def mk (m : Nat) : Nat → Nat
  | 0 => 0
  | k + 1 => 256 * mk m k + m
theorem and256 {a b m c : Nat} (hb : b < 256) (hc : c < 256) : (256 * a + b) &&& (256 * m + c) = 256 * (a &&& m) + (b &&& c) := by
  have e1 : ((256 * a + b) &&& (256 * m + c)) / 2 ^ 8 = a &&& m := by
    rw [Nat.and_div_two_pow, show (256 * a + b) / 2 ^ 8 = a by omega, show (256 * m + c) / 2 ^ 8 = m by omega]
  have e2 : ((256 * a + b) &&& (256 * m + c)) % 2 ^ 8 = b &&& c := by
    rw [Nat.and_mod_two_pow, show (256 * a + b) % 2 ^ 8 = b by omega, show (256 * m + c) % 2 ^ 8 = c by omega]
  omega
theorem dec_byte {P : Nat → Prop} [DecidablePred P] (h : (List.range 256).all (fun b => decide (P b)) = true) {b : Nat} (hb : b < 256) : P b := co_dec (N := 256) h hb
theorem bc_1 : ∀ (k n : Nat), n < 256 ^ k → (n / 2 &&& mk 0x55 k) ≤ n ∧ n - (n / 2 &&& mk 0x55 k) = dig (fun b => b - (b / 2 &&& 0x55)) k n := by
  intro k
  induction k with
  | zero => intro n h; simp at h; subst h; exact ⟨by simp, rfl⟩
  | succ k ih =>
    intro n h
    have hp : 256 ^ (k + 1) = 256 * 256 ^ k := by rw [Nat.pow_succ]; omega
    obtain ⟨h1, h2⟩ := ih (n / 256) (by omega)
    have hb : n % 256 < 256 := Nat.mod_lt _ (by decide)
    have e : n / 2 = 256 * (n / 256 / 2) + (128 * (n / 256 % 2) + n % 256 / 2) := by omega
    have e2 : n / 2 &&& mk 0x55 (k + 1) = 256 * (n / 256 / 2 &&& mk 0x55 k) + ((128 * (n / 256 % 2) + n % 256 / 2) &&& 0x55) := by
      rw [e]; exact and256 (by omega) (by decide)
    have e3 : (128 * (n / 256 % 2) + n % 256 / 2) &&& 0x55 = n % 256 / 2 &&& 0x55 := by
      have key : ∀ b, b < 256 → ∀ t, t < 2 → (128 * t + b / 2) &&& 0x55 = b / 2 &&& 0x55 := by decide +kernel
      exact key _ hb _ (Nat.mod_lt _ (by decide))
    have h4 : n % 256 / 2 &&& 0x55 ≤ n % 256 / 2 := Nat.and_le_left
    rw [e2, e3]
    refine ⟨by omega, ?_⟩
    simp only [dig]
    rw [← h2]
    omega
theorem bc_2 : ∀ (k n : Nat), n < 256 ^ k → (n &&& mk 0x33 k) + (n / 4 &&& mk 0x33 k) = dig (fun b => (b &&& 0x33) + (b / 4 &&& 0x33)) k n := by
  intro k
  induction k with
  | zero => intro n h; simp at h; subst h; rfl
  | succ k ih =>
    intro n h
    have hp : 256 ^ (k + 1) = 256 * 256 ^ k := by rw [Nat.pow_succ]; omega
    have h2 := ih (n / 256) (by omega)
    have hb : n % 256 < 256 := Nat.mod_lt _ (by decide)
    have e1 : n &&& mk 0x33 (k + 1) = 256 * (n / 256 &&& mk 0x33 k) + (n % 256 &&& 0x33) := by
      have e : n = 256 * (n / 256) + n % 256 := by omega
      have := and256 (a := n / 256) (b := n % 256) (m := mk 0x33 k) (c := 0x33) hb (by decide)
      rw [← e] at this
      exact this
    have e : n / 4 = 256 * (n / 256 / 4) + (64 * (n / 256 % 4) + n % 256 / 4) := by omega
    have e2 : n / 4 &&& mk 0x33 (k + 1) = 256 * (n / 256 / 4 &&& mk 0x33 k) + ((64 * (n / 256 % 4) + n % 256 / 4) &&& 0x33) := by
      rw [e]; exact and256 (by omega) (by decide)
    have e3 : (64 * (n / 256 % 4) + n % 256 / 4) &&& 0x33 = n % 256 / 4 &&& 0x33 := by
      have key : ∀ b, b < 256 → ∀ t, t < 4 → (64 * t + b / 4) &&& 0x33 = b / 4 &&& 0x33 := by decide +kernel
      exact key _ hb _ (Nat.mod_lt _ (by decide))
    rw [e1, e2, e3]
    simp only [dig]
    rw [← h2]
    omega
/-- every half byte is at most 4 -/
def nib : Nat → Nat → Prop
  | 0, _ => True
  | k + 1, n => n % 16 ≤ 4 ∧ n / 16 % 16 ≤ 4 ∧ nib k (n / 256)
theorem bc_3 : ∀ (k n : Nat), n < 256 ^ k → nib k n → (n + n / 16) &&& mk 0x0f k = dig (fun b => (b + b / 16) &&& 0x0f) k n := by
  intro k
  induction k with
  | zero => intro n h _; simp at h; subst h; rfl
  | succ k ih =>
    intro n h hn
    obtain ⟨n1, n2, n3⟩ := hn
    have hp : 256 ^ (k + 1) = 256 * 256 ^ k := by rw [Nat.pow_succ]; omega
    have h2 := ih (n / 256) (by omega) n3
    have hlow : n / 256 % 16 ≤ 4 := by
      cases k with
      | zero => simp at h; omega
      | succ k => exact n3.1
    have hb : n % 256 ≤ 68 := by omega
    have e : n + n / 16 = 256 * (n / 256 + n / 256 / 16) + (n % 256 + n % 256 / 16 + 16 * (n / 256 % 16)) := by omega
    have e2 : (n + n / 16) &&& mk 0x0f (k + 1) = 256 * ((n / 256 + n / 256 / 16) &&& mk 0x0f k) + ((n % 256 + n % 256 / 16 + 16 * (n / 256 % 16)) &&& 0x0f) := by
      rw [e]; exact and256 (by omega) (by decide)
    have e3 : (n % 256 + n % 256 / 16 + 16 * (n / 256 % 16)) &&& 0x0f = (n % 256 + n % 256 / 16) &&& 0x0f := by
      rw [show (0x0f : Nat) = 2 ^ 4 - 1 by decide, Nat.and_two_pow_sub_one_eq_mod, Nat.and_two_pow_sub_one_eq_mod]
      omega
    rw [e2, e3]
    simp only [dig]
    rw [← h2]
theorem dig_dm {f : Nat → Nat} (hf : ∀ b, b < 256 → f b < 256) (k n : Nat) : dig f (k + 1) n / 256 = dig f k (n / 256) ∧ dig f (k + 1) n % 256 = f (n % 256) := by
  have := hf (n % 256) (Nat.mod_lt _ (by decide))
  simp only [dig]
  omega
theorem dig_lt {f : Nat → Nat} (hf : ∀ b, b < 256 → f b < 256) : ∀ (k n : Nat), dig f k n < 256 ^ k := by
  intro k
  induction k with
  | zero => intro n; simp [dig]
  | succ k ih =>
    intro n
    have := ih (n / 256)
    have h2 := hf (n % 256) (Nat.mod_lt _ (by decide))
    have hp : 256 ^ (k + 1) = 256 * 256 ^ k := by rw [Nat.pow_succ]; omega
    simp only [dig]
    omega
theorem dig_comp {f g : Nat → Nat} (hg : ∀ b, b < 256 → g b < 256) : ∀ (k n : Nat), dig f k (dig g k n) = dig (fun b => f (g b)) k n := by
  intro k
  induction k with
  | zero => intro n; rfl
  | succ k ih =>
    intro n
    obtain ⟨h1, h2⟩ := dig_dm hg k n
    show 256 * dig f k (dig g (k + 1) n / 256) + f (dig g (k + 1) n % 256) = _
    rw [h1, h2, ih]
    rfl
theorem dig_nib {g : Nat → Nat} (hg : ∀ b, b < 256 → g b < 256 ∧ g b % 16 ≤ 4 ∧ g b / 16 % 16 ≤ 4) : ∀ (k n : Nat), nib k (dig g k n) := by
  intro k
  induction k with
  | zero => intro n; trivial
  | succ k ih =>
    intro n
    obtain ⟨h1, h2⟩ := dig_dm (fun b hb => (hg b hb).1) k n
    have h3 := hg (n % 256) (Nat.mod_lt _ (by decide))
    refine ⟨?_, ?_, by rw [h1]; exact ih _⟩
    · rw [show dig g (k + 1) n % 16 = dig g (k + 1) n % 256 % 16 by omega, h2]; exact h3.2.1
    · rw [show dig g (k + 1) n / 16 % 16 = dig g (k + 1) n % 256 / 16 % 16 by omega, h2]; exact h3.2.2
theorem dig_congr {f g : Nat → Nat} (h : ∀ b, b < 256 → f b = g b) : ∀ (k n : Nat), dig f k n = dig g k n := by
  intro k
  induction k with
  | zero => intro n; rfl
  | succ k ih => intro n; simp only [dig]; rw [ih, h _ (Nat.mod_lt _ (by decide))]
theorem pcn_split (f n : Nat) : pcn (f + 8) n = pcn 8 (n % 256) + pcn f (n / 256) := by
  simp only [pcn]
  rw [show n / 2 / 2 / 2 / 2 / 2 / 2 / 2 / 2 = n / 256 by omega]
  rw [show n % 256 % 2 = n % 2 by omega, show n % 256 / 2 % 2 = n / 2 % 2 by omega, show n % 256 / 2 / 2 % 2 = n / 2 / 2 % 2 by omega, show n % 256 / 2 / 2 / 2 % 2 = n / 2 / 2 / 2 % 2 by omega, show n % 256 / 2 / 2 / 2 / 2 % 2 = n / 2 / 2 / 2 / 2 % 2 by omega, show n % 256 / 2 / 2 / 2 / 2 / 2 % 2 = n / 2 / 2 / 2 / 2 / 2 % 2 by omega, show n % 256 / 2 / 2 / 2 / 2 / 2 / 2 % 2 = n / 2 / 2 / 2 / 2 / 2 / 2 % 2 by omega, show n % 256 / 2 / 2 / 2 / 2 / 2 / 2 / 2 % 2 = n / 2 / 2 / 2 / 2 / 2 / 2 / 2 % 2 by omega]
  omega
def bcs (b : Nat) : Nat := (((b - (b / 2 &&& 0x55)) &&& 0x33) + ((b - (b / 2 &&& 0x55)) / 4 &&& 0x33))
def bct (b : Nat) : Nat := (bcs b + bcs b / 16) &&& 0x0f
theorem bct_pc : ∀ b, b < 256 → bct b = pcn 8 b := by decide +kernel
theorem bct_8 {b : Nat} (h : b < 256) : bct b ≤ 8 := by
  have : ∀ b, b < 256 → bct b ≤ 8 := by decide +kernel
  exact this b h
def bc3 (n : Nat) : Nat := dig bct 8 n
theorem bc_123 {n x1 x2 : Nat} (h : n < 2 ^ 64) (e1 : x1 = n - (n / 2 &&& 6148914691236517205)) (e2 : x2 = (x1 &&& 3689348814741910323) + (x1 / 4 &&& 3689348814741910323)) : n / 2 &&& 6148914691236517205 ≤ n ∧ x1 < 2 ^ 64 ∧ x2 ≤ 7378697629483820646 ∧ (x2 + x2 / 16) &&& 1085102592571150095 = bc3 n := by
  have h8 : n < 256 ^ 8 := h
  obtain ⟨a1, a2⟩ := bc_1 8 n h8
  rw [show mk 0x55 8 = 6148914691236517205 by decide] at a1 a2
  have g1 : ∀ b, b < 256 → (fun b => b - (b / 2 &&& 0x55)) b < 256 := fun b hb => Nat.lt_of_le_of_lt (Nat.sub_le _ _) hb
  have hx1 : x1 = dig (fun b => b - (b / 2 &&& 0x55)) 8 n := e1.trans a2
  have l1 := dig_lt g1 8 n
  rw [← hx1] at l1
  have b2 := bc_2 8 x1 l1
  rw [show mk 0x33 8 = 3689348814741910323 by decide] at b2
  have hx2 : x2 = dig bcs 8 n := by
    rw [e2, b2, hx1, dig_comp g1]
    exact dig_congr (fun b hb => rfl) 8 n
  have g2 : ∀ b, b < 256 → bcs b < 256 ∧ bcs b % 16 ≤ 4 ∧ bcs b / 16 % 16 ≤ 4 := by decide +kernel
  have l2 := dig_lt (fun b hb => (g2 b hb).1) 8 n
  rw [← hx2] at l2
  have n2 := dig_nib g2 8 n
  rw [← hx2] at n2
  have c3 := bc_3 8 x2 l2 n2
  rw [show mk 0x0f 8 = 1085102592571150095 by decide] at c3
  refine ⟨a1, l1, ?_, ?_⟩
  · have z1 : x1 &&& 3689348814741910323 ≤ 3689348814741910323 := Nat.and_le_right
    have z2 : x1 / 4 &&& 3689348814741910323 ≤ 3689348814741910323 := Nat.and_le_right
    rw [e2]
    exact Nat.add_le_add z1 z2
  · rw [c3, hx2, dig_comp (fun b hb => (g2 b hb).1)]
    exact dig_congr (fun b hb => rfl) 8 n
theorem bc_lin {p0 p1 p2 p3 p4 p5 p6 p7 x x4 x5 x6 : Nat} (a0 : p0 ≤ 8) (a1 : p1 ≤ 8) (a2 : p2 ≤ 8) (a3 : p3 ≤ 8) (a4 : p4 ≤ 8) (a5 : p5 ≤ 8) (a6 : p6 ≤ 8) (a7 : p7 ≤ 8)
    (hx : x = p0 + 256 * p1 + 65536 * p2 + 16777216 * p3 + 4294967296 * p4 + 1099511627776 * p5 + 281474976710656 * p6 + 72057594037927936 * p7) (h4 : x4 = x + x / 256) (h5 : x5 = x4 + x4 / 65536) (h6 : x6 = x5 + x5 / 4294967296) :
    x < 2305843009213693952 ∧ x4 < 4611686018427387904 ∧ x5 < 4611686018427387904 ∧ x6 < 4611686018427387904 ∧ x6 % 128 = p0 + (p1 + (p2 + (p3 + (p4 + (p5 + (p6 + p7)))))) := by
  have e4 : x / 256 = p1 + 256 * p2 + 65536 * p3 + 16777216 * p4 + 4294967296 * p5 + 1099511627776 * p6 + 281474976710656 * p7 := by
    clear h4 h5 h6; omega
  have f4 : x4 = (p0 + p1) + 256 * (p1 + p2) + 65536 * (p2 + p3) + 16777216 * (p3 + p4) + 4294967296 * (p4 + p5) + 1099511627776 * (p5 + p6) + 281474976710656 * (p6 + p7) + 72057594037927936 * p7 := by
    clear h5 h6; omega
  have e5 : x4 / 65536 = (p2 + p3) + 256 * (p3 + p4) + 65536 * (p4 + p5) + 16777216 * (p5 + p6) + 4294967296 * (p6 + p7) + 1099511627776 * p7 := by
    clear h4 h5 h6 e4 hx; omega
  have f5 : x5 = (p0 + p1 + p2 + p3) + 256 * (p1 + p2 + p3 + p4) + 65536 * (p2 + p3 + p4 + p5) + 16777216 * (p3 + p4 + p5 + p6) + 4294967296 * (p4 + p5 + p6 + p7) + 1099511627776 * (p5 + p6 + p7) + 281474976710656 * (p6 + p7) + 72057594037927936 * p7 := by
    clear h4 h6 e4 hx; omega
  have e6 : x5 / 4294967296 = (p4 + p5 + p6 + p7) + 256 * (p5 + p6 + p7) + 65536 * (p6 + p7) + 16777216 * p7 := by
    clear h4 h5 h6 e4 e5 f4 hx; omega
  refine ⟨?_, ?_, ?_, ?_, ?_⟩
  · clear h4 h5 h6 e4 e5 f4 f5 e6; omega
  · clear h4 h5 h6 e4 e5 f5 e6 hx; omega
  · clear h4 h5 h6 e4 e5 f4 e6 hx; omega
  · clear h4 h5 e4 e5 f4 hx; omega
  · clear h4 h5 e4 e5 f4 hx; omega
theorem bc_456 {n x4 x5 x6 : Nat} (h4 : x4 = bc3 n + bc3 n / 256) (h5 : x5 = x4 + x4 / 65536) (h6 : x6 = x5 + x5 / 4294967296) : bc3 n < 2305843009213693952 ∧ x4 < 4611686018427387904 ∧ x5 < 4611686018427387904 ∧ x6 < 4611686018427387904 ∧ x6 % 128 = pc n := by
  have s1 : pc n = pcn 8 (n % 256) + pcn 56 (n / 256) := pcn_split 56 n
  have s2 : ∀ q, pcn 56 q = pcn 8 (q % 256) + pcn 48 (q / 256) := pcn_split 48
  have s3 : ∀ q, pcn 48 q = pcn 8 (q % 256) + pcn 40 (q / 256) := pcn_split 40
  have s4 : ∀ q, pcn 40 q = pcn 8 (q % 256) + pcn 32 (q / 256) := pcn_split 32
  have s5 : ∀ q, pcn 32 q = pcn 8 (q % 256) + pcn 24 (q / 256) := pcn_split 24
  have s6 : ∀ q, pcn 24 q = pcn 8 (q % 256) + pcn 16 (q / 256) := pcn_split 16
  have s7 : ∀ q, pcn 16 q = pcn 8 (q % 256) + pcn 8 (q / 256) := pcn_split 8
  have s8 : ∀ q, pcn 8 q = pcn 8 (q % 256) := fun q => (pcn_split 0 q).trans (Nat.add_zero _)
  have m : ∀ q, q % 256 < 256 := fun q => Nat.mod_lt _ (by decide)
  have b : ∀ q, pcn 8 (q % 256) = bct (q % 256) := fun q => (bct_pc _ (m q)).symm
  have d1 : ∀ k q, dig bct (k + 1) q = 256 * dig bct k (q / 256) + bct (q % 256) := fun _ _ => rfl
  have d0 : ∀ q, dig bct 0 q = 0 := fun _ => rfl
  have hd : bc3 n = 256 * dig bct 7 (n / 256) + bct (n % 256) := d1 7 n
  have hp := bc_lin (bct_8 (m n)) (bct_8 (m (n / 256))) (bct_8 (m (n / 256 / 256))) (bct_8 (m (n / 256 / 256 / 256))) (bct_8 (m (n / 256 / 256 / 256 / 256))) (bct_8 (m (n / 256 / 256 / 256 / 256 / 256))) (bct_8 (m (n / 256 / 256 / 256 / 256 / 256 / 256))) (bct_8 (m (n / 256 / 256 / 256 / 256 / 256 / 256 / 256))) (x := bc3 n) (by
    rw [hd, d1 6, d1 5, d1 4, d1 3, d1 2, d1 1, d1 0, d0]
    omega) h4 h5 h6
  rw [s1, s2, s3, s4, s5, s6, s7, s8 (n / 256 / 256 / 256 / 256 / 256 / 256 / 256), b, b, b, b, b, b, b, b]
  exact hp
