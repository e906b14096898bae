/-! ===== bits: Nats as sets (the wb_ rows begin as the kit's rows to paste) ===== -/
theorem wb_tb (n : Nat) : (lN n).toBitVec = BitVec.ofNat 64 n := rfl
theorem wb_inj {a b : Int64} (h : a.toBitVec = b.toBitVec) : a = b := Int64.toBitVec_inj.mp h
theorem wb_tn {n : Nat} (h : n < 2 ^ 64) : (lN n).toBitVec.toNat = n := by rw [wb_tb, BitVec.toNat_ofNat, Nat.mod_eq_of_lt h]
theorem wb_of (x : Int64) : ∃ n, n < 2 ^ 64 ∧ x = lN n := ⟨x.toBitVec.toNat, x.toBitVec.isLt, wb_inj (by rw [wb_tb]; simp)⟩
theorem wb_of32 (x : Int32) : ∃ n, n < 2 ^ 32 ∧ x = nI n := ⟨x.toBitVec.toNat, x.toBitVec.isLt, Int32.toBitVec_inj.mp (by show _ = BitVec.ofNat 32 _; simp)⟩
theorem wb_c : ∀ k, k < 64 → ((nI k).toInt64 &&& 63) = lN k := by decide +kernel
theorem wb_cu : ∀ k, k < 64 → ((nI k).toInt64.toUInt64 &&& Int64.toUInt64 63) = UInt64.ofNat k := by decide +kernel
theorem wb_sm : ∀ k, k < 64 → (BitVec.ofNat 64 k).smod 64 = BitVec.ofNat 64 k := by decide +kernel
theorem wb_pw {a b : Nat} (h : a ≤ b) : 2 ^ b = 2 ^ a * 2 ^ (b - a) := by rw [← Nat.pow_add]; congr 1; omega
theorem wb_lt2 {a b : Nat} (h : a < b) : 2 ^ a < 2 ^ b := Nat.pow_lt_pow_right (by decide) h
theorem wb_mod (n : Nat) : lN n = lN (n % 2 ^ 64) := wb_inj (by rw [wb_tb, wb_tb]; apply BitVec.eq_of_toNat_eq; rw [BitVec.toNat_ofNat, BitVec.toNat_ofNat, Nat.mod_mod])
theorem wb_shr {n k : Nat} (hn : n < 2 ^ 64) (hk : k < 64) : ((lN n).toUInt64 >>> ((nI k).toInt64.toUInt64 &&& Int64.toUInt64 63)).toInt64 = lN (n / 2 ^ k) := by
  rw [wb_cu k hk]
  apply wb_inj
  apply BitVec.eq_of_toNat_eq
  show ((lN n).toUInt64 >>> UInt64.ofNat k).toNat = (BitVec.ofNat 64 _).toNat
  have h1 : (UInt64.ofNat k).toNat = k := by
    show (BitVec.ofNat 64 k).toNat = k
    rw [BitVec.toNat_ofNat, Nat.mod_eq_of_lt (by omega)]
  have h2 : (lN n).toUInt64.toNat = n := wb_tn hn
  rw [UInt64.toNat_shiftRight, h1, h2, Nat.mod_eq_of_lt hk, Nat.shiftRight_eq_div_pow, BitVec.toNat_ofNat, Nat.mod_eq_of_lt (Nat.lt_of_le_of_lt (Nat.div_le_self _ _) hn)]
theorem wb_shl (n : Nat) {k : Nat} (hk : k < 64) : lN n <<< ((nI k).toInt64 &&& 63) = lN (n * 2 ^ k) := by
  rw [wb_c k hk]
  apply wb_inj
  rw [Int64.toBitVec_shiftLeft, wb_tb, wb_tb, wb_tb, wb_sm k hk]
  apply BitVec.eq_of_toNat_eq
  rw [BitVec.shiftLeft_eq', BitVec.toNat_shiftLeft, BitVec.toNat_ofNat, BitVec.toNat_ofNat, BitVec.toNat_ofNat, Nat.mod_eq_of_lt (show k < 2 ^ 64 by omega), Nat.shiftLeft_eq, Nat.mul_mod, Nat.mod_mod, ← Nat.mul_mod]
theorem wb_and {a b : Nat} (ha : a < 2 ^ 64) (hb : b < 2 ^ 64) : lN a &&& lN b = lN (a &&& b) := by
  apply wb_inj
  rw [Int64.toBitVec_and, wb_tb, wb_tb, wb_tb]
  apply BitVec.eq_of_toNat_eq
  rw [BitVec.toNat_and, BitVec.toNat_ofNat, BitVec.toNat_ofNat, BitVec.toNat_ofNat, Nat.mod_eq_of_lt ha, Nat.mod_eq_of_lt hb, Nat.mod_eq_of_lt (Nat.and_lt_two_pow _ hb)]
theorem wb_or {a b : Nat} (ha : a < 2 ^ 64) (hb : b < 2 ^ 64) : lN a ||| lN b = lN (a ||| b) := by
  apply wb_inj
  rw [Int64.toBitVec_or, wb_tb, wb_tb, wb_tb]
  apply BitVec.eq_of_toNat_eq
  rw [BitVec.toNat_or, BitVec.toNat_ofNat, BitVec.toNat_ofNat, BitVec.toNat_ofNat, Nat.mod_eq_of_lt ha, Nat.mod_eq_of_lt hb, Nat.mod_eq_of_lt (Nat.or_lt_two_pow ha hb)]
theorem wb_mask {n k : Nat} (hn : n < 2 ^ 64) (hk : k < 64) : lN n &&& lN (2 ^ k - 1) = lN (n % 2 ^ k) := by
  rw [wb_and hn (by have := wb_lt2 hk; omega), Nat.and_two_pow_sub_one_eq_mod]
theorem wb_a1 {n : Nat} (hn : n < 2 ^ 64) : lN n &&& 1 = lN (n % 2) := wb_mask (k := 1) hn (by decide)
theorem wb_bit {n k : Nat} (hn : n < 2 ^ 64) (hk : k < 64) : ((lN n).toUInt64 >>> ((nI k).toInt64.toUInt64 &&& Int64.toUInt64 63)).toInt64 &&& 1 = lN (n / 2 ^ k % 2) := by
  rw [wb_shr hn hk, wb_a1 (Nat.lt_of_le_of_lt (Nat.div_le_self _ _) hn)]
theorem pf_lI {a : Nat} (h : a < 2 ^ 63) : (lN a).toInt = (a : Int) := lg_ofNat_toInt h
theorem pf_shr {a d : Nat} {D : Int64} (hD : (D.toBitVec.smod 64).toNat = d) (h : a < 2 ^ 62) : lN a >>> D = lN (a / 2 ^ d) := by
  have hd : a / 2 ^ d ≤ a := Nat.div_le_self _ _
  apply Int64.toInt_inj.mp
  have e : (lN a >>> D).toInt = (lN a).toInt >>> d := by
    rw [← hD]
    exact BitVec.toInt_sshiftRight ..
  rw [e, Int.shiftRight_eq_div_pow, pf_lI (by omega), pf_lI (by omega)]
  rfl
def pcn : Nat → Nat → Nat
  | 0, _ => 0
  | f + 1, x => x % 2 + pcn f (x / 2)
/-- how many bits -/
def pc (x : Nat) : Nat := pcn 64 x
theorem pcn_0 (f : Nat) : pcn f 0 = 0 := by
  induction f with
  | zero => rfl
  | succ f ih => simp only [pcn, Nat.zero_div, Nat.zero_mod, ih]
theorem and0 {x y : Nat} (h : x &&& y = 0) : x / 2 &&& y / 2 = 0 := by rw [← Nat.and_div_two, h]
theorem or_mod2 {x y : Nat} (h : x &&& y = 0) : (x ||| y) % 2 = x % 2 + y % 2 := by
  have h1 := Nat.or_mod_two_eq_one (a := x) (b := y)
  have h2 : ¬ (x % 2 = 1 ∧ y % 2 = 1) := fun z => by
    have := (Nat.and_mod_two_eq_one (a := x) (b := y)).mpr z
    rw [h] at this
    omega
  have h3 := Nat.mod_two_eq_zero_or_one x
  have h4 := Nat.mod_two_eq_zero_or_one y
  have h5 := Nat.mod_two_eq_zero_or_one (x ||| y)
  omega
theorem pcn_or : ∀ (f x y : Nat), x &&& y = 0 → pcn f (x ||| y) = pcn f x + pcn f y := by
  intro f
  induction f with
  | zero => intros; rfl
  | succ f ih =>
    intro x y h
    simp only [pcn]
    rw [or_mod2 h, Nat.or_div_two, ih _ _ (and0 h)]
    omega
theorem pc_or {x y : Nat} (h : x &&& y = 0) : pc (x ||| y) = pc x + pc y := pcn_or 64 x y h
theorem pc_0 : pc 0 = 0 := pcn_0 64
/-- the lowest bit is taken away -/
theorem low_e {x : Nat} (h : x % 2 = 0) (h0 : x ≠ 0) : x &&& (x - 1) = 2 * ((x / 2) &&& (x / 2 - 1)) := by
  apply Nat.eq_of_testBit_eq
  intro i
  rw [show 2 * ((x / 2) &&& (x / 2 - 1)) = 2 ^ 1 * ((x / 2) &&& (x / 2 - 1)) by simp, Nat.testBit_two_pow_mul]
  cases i with
  | zero => simp [h]
  | succ i =>
    rw [Nat.testBit_and, Nat.testBit_succ, Nat.testBit_succ]
    rw [show (x - 1) / 2 = x / 2 - 1 by omega]
    simp
theorem low_o {x : Nat} (h : x % 2 = 1) : x &&& (x - 1) = x - 1 := by
  apply Nat.eq_of_testBit_eq
  intro i
  rw [Nat.testBit_and]
  cases i with
  | zero =>
    have : (x - 1) % 2 = 0 := by omega
    simp [this]
  | succ i =>
    rw [Nat.testBit_succ, Nat.testBit_succ, show (x - 1) / 2 = x / 2 by omega, Bool.and_self]
theorem pcn_low : ∀ (f x : Nat), x < 2 ^ f → x ≠ 0 → pcn f (x &&& (x - 1)) + 1 = pcn f x := by
  intro f
  induction f with
  | zero => intro x h h0; simp at h; omega
  | succ f ih =>
    intro x h h0
    have hp : 2 ^ (f + 1) = 2 * 2 ^ f := by rw [Nat.pow_succ]; omega
    rcases Nat.mod_two_eq_zero_or_one x with h2 | h2
    · rw [low_e h2 h0]
      simp only [pcn]
      rw [Nat.mul_mod_right, Nat.mul_div_cancel_left _ (by decide), h2]
      have := ih (x / 2) (by omega) (by omega)
      omega
    · rw [low_o h2]
      simp only [pcn]
      rw [show (x - 1) / 2 = x / 2 by omega, show (x - 1) % 2 = 0 by omega, h2]
      omega
theorem pc_low {x : Nat} (h : x < 2 ^ 64) (h0 : x ≠ 0) : pc (x &&& (x - 1)) + 1 = pc x := pcn_low 64 x h h0
theorem low_lt {x : Nat} (h0 : x ≠ 0) : x &&& (x - 1) < x := Nat.lt_of_le_of_lt Nat.and_le_right (by omega)
theorem pcn_le : ∀ (f n x : Nat), x < 2 ^ n → pcn f x ≤ n := by
  intro f
  induction f with
  | zero => intros; exact Nat.zero_le _
  | succ f ih =>
    intro n x h
    cases n with
    | zero => simp at h; rw [h, pcn_0]; omega
    | succ n =>
      have hp : 2 ^ (n + 1) = 2 * 2 ^ n := by rw [Nat.pow_succ]; omega
      simp only [pcn]
      have := ih n (x / 2) (by omega)
      omega
theorem pc_le {n x : Nat} (h : x < 2 ^ n) : pc x ≤ n := pcn_le 64 n x h
theorem n_shr {n k : Nat} (hn : n < 2 ^ 62) (hk : k < 64) : lN n >>> ((nI k).toInt64 &&& 63) = lN (n / 2 ^ k) := by
  rw [wb_c k hk]
  refine pf_shr ?_ hn
  rw [wb_tb, wb_sm k hk, BitVec.toNat_ofNat, Nat.mod_eq_of_lt (by omega)]
theorem lg_0 {x y : Int64} : lg_cmp x y = 0 ↔ x = y := by
  unfold lg_cmp
  constructor
  · intro h
    by_cases h1 : y < x
    · simp [h1] at h
    · by_cases h2 : x < y
      · simp [h1, h2] at h; exact h
      · exact Int64.le_antisymm (Int64.not_lt.mp h1) (Int64.not_lt.mp h2)
  · intro h
    subst h
    simp [Int64.lt_irrefl]
section NL
variable {p : Program} {l : Launch} {e : Env} {R0 : Room} {s : State} {m : MethodId} {args : Array Value} {below : List Frame} {meth : Method} {c : Code} {H : Heap} {locs : List Loc} {cells slots : Nat} {Q : State → Prop} {cc : ByteArray} {pc9 : Nat} {ls : Array Slot} {rest : List Value}
theorem nv_ladd (hexec : p.tables.exec = Jvm.exec) (hb : c.code = cc) {x y : Nat} (hdg : decode cc pc9 = .ok (.ladd, 1)) (k : W p l e R0 s m args below meth c H locs cells slots Q (F0 m (pc9 + 1) ls (.long (lN (x + y)) :: rest))) : W p l e R0 s m args below meth c H locs cells slots Q (F0 m pc9 ls (.long (lN y) :: .long (lN x) :: rest)) := lv_ladd hexec hb hdg (by rw [lN_add]; exact k)
theorem nv_lsub (hexec : p.tables.exec = Jvm.exec) (hb : c.code = cc) {x y : Nat} (hdg : decode cc pc9 = .ok (.lsub, 1)) (h : y ≤ x) (k : W p l e R0 s m args below meth c H locs cells slots Q (F0 m (pc9 + 1) ls (.long (lN (x - y)) :: rest))) : W p l e R0 s m args below meth c H locs cells slots Q (F0 m pc9 ls (.long (lN y) :: .long (lN x) :: rest)) := lv_lsub hexec hb hdg (by rw [lN_sub h]; exact k)
theorem nv_land (hexec : p.tables.exec = Jvm.exec) (hb : c.code = cc) {x y : Nat} (hdg : decode cc pc9 = .ok (.land, 1)) (h1 : x < 2 ^ 64) (h2 : y < 2 ^ 64) (k : W p l e R0 s m args below meth c H locs cells slots Q (F0 m (pc9 + 1) ls (.long (lN (x &&& y)) :: rest))) : W p l e R0 s m args below meth c H locs cells slots Q (F0 m pc9 ls (.long (lN y) :: .long (lN x) :: rest)) := lv_land hexec hb hdg (by rw [wb_and h1 h2]; exact k)
theorem nv_lor (hexec : p.tables.exec = Jvm.exec) (hb : c.code = cc) {x y : Nat} (hdg : decode cc pc9 = .ok (.lor, 1)) (h1 : x < 2 ^ 64) (h2 : y < 2 ^ 64) (k : W p l e R0 s m args below meth c H locs cells slots Q (F0 m (pc9 + 1) ls (.long (lN (x ||| y)) :: rest))) : W p l e R0 s m args below meth c H locs cells slots Q (F0 m pc9 ls (.long (lN y) :: .long (lN x) :: rest)) := lv_lor hexec hb hdg (by rw [wb_or h1 h2]; exact k)
theorem nv_i2l (hexec : p.tables.exec = Jvm.exec) (hb : c.code = cc) {x : Nat} (hdg : decode cc pc9 = .ok (.i2l, 1)) (h1 : x < 2 ^ 31) (k : W p l e R0 s m args below meth c H locs cells slots Q (F0 m (pc9 + 1) ls (.long (lN x) :: rest))) : W p l e R0 s m args below meth c H locs cells slots Q (F0 m pc9 ls (.int (nI x) :: rest)) := lv_i2l hexec hb hdg (nI_l h1) k
theorem nv_l2i (hexec : p.tables.exec = Jvm.exec) (hb : c.code = cc) {x : Nat} (hdg : decode cc pc9 = .ok (.l2i, 1)) (k : W p l e R0 s m args below meth c H locs cells slots Q (F0 m (pc9 + 1) ls (.int (nI x) :: rest))) : W p l e R0 s m args below meth c H locs cells slots Q (F0 m pc9 ls (.long (lN x) :: rest)) := lv_l2i hexec hb hdg (lN_i x) k
end NL
theorem and127 (x : Nat) : nI x &&& nI 127 = nI (x % 128) := by
  rw [pk_and (nI x) 7 (by decide)]
  congr 1
  have : (nI x).toBitVec.toNat = x % 2 ^ 32 := BitVec.toNat_ofNat _ _
  rw [this]
  omega
