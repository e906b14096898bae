/-! ===== the class's store while it seeks ===== -/
def LC (R : RS) (k mx : Nat) (pl : List (Nat × Nat)) (S : SS) : Prop :=
  fi R 1 5 = nI mx ∧ fi R 1 6 = nI S.1 ∧ fi R 1 7 = stI S.2.1 ∧ fi R 1 8 = nI (if S.2.2.1 = true then 1 else 0) ∧ fi R (10 + 3 * k) 9 = nI S.2.2.2.length ∧
  (∀ i, i < S.2.2.2.length → (ai R (11 + 3 * k) i = nI (pb S.2.2.2 i).1 ∧ ai R (12 + 3 * k) i = nI (pb S.2.2.2 i).2)) ∧
  ∀ i, i < pl.length → (ai R 2 i = nI (pb pl i).1 ∧ ai R 3 i = nI (pb pl i).2)
def FC (R0 R : RS) (k : Nat) : Prop := (∀ x j, ¬ (x = 1 ∧ 5 ≤ j ∧ j ≤ 8) → ¬ (x = 10 + 3 * k ∧ (j = 9 ∨ j = 10)) → fi R x j = fi R0 x j) ∧ (∀ x j, fl R x j = fl R0 x j) ∧ (∀ x j, fr R x j = fr R0 x j) ∧ (∀ x j, al R x j = al R0 x j) ∧ (∀ x j, aq R x j = aq R0 x j) ∧ ∀ x j, x ≠ 2 → x ≠ 3 → x ≠ 11 + 3 * k → x ≠ 12 + 3 * k → ai R x j = ai R0 x j
def ST (lv : Nat → Bool) (a : Nat → Nat) (R : RS) (M : MS) (k : Nat) : Prop := KR lv a R k ∧ SR lv a R ∧ KS R M k ∧ SV R M
theorem FC.r (R : RS) (k : Nat) : FC R R k := ⟨fun _ _ _ _ => rfl, fun _ _ => rfl, fun _ _ => rfl, fun _ _ => rfl, fun _ _ => rfl, fun _ _ _ _ _ _ => rfl⟩
theorem FC.trans {R R' R'' : RS} {k : Nat} (h : FC R R' k) (h' : FC R' R'' k) : FC R R'' k := ⟨fun x j h1 h2 => (h'.1 x j h1 h2).trans (h.1 x j h1 h2), fun x j => (h'.2.1 x j).trans (h.2.1 x j), fun x j => (h'.2.2.1 x j).trans (h.2.2.1 x j), fun x j => (h'.2.2.2.1 x j).trans (h.2.2.2.1 x j), fun x j => (h'.2.2.2.2.1 x j).trans (h.2.2.2.2.1 x j), fun x j h1 h2 h3 h4 => (h'.2.2.2.2.2 x j h1 h2 h3 h4).trans (h.2.2.2.2.2 x j h1 h2 h3 h4)⟩
theorem FC.s1 {R0 R : RS} {k j : Nat} {v : Int32} (h : FC R0 R k) (hj : 5 ≤ j ∧ j ≤ 8) : FC R0 (sfi R 1 j v) k := ⟨fun x q h1 h2 => (up2_n (by omega)).trans (h.1 x q h1 h2), h.2⟩
theorem FC.a2 {R0 R : RS} {k i j : Nat} {v : Int32} (h : FC R0 R k) (hi : i = 2 ∨ i = 3) : FC R0 (sai R i j v) k := ⟨h.1, h.2.1, h.2.2.1, h.2.2.2.1, h.2.2.2.2.1, fun x q h1 h2 h3 h4 => (up2_ni (by omega)).trans (h.2.2.2.2.2 x q h1 h2 h3 h4)⟩
theorem FC.kp {R0 R R1 : RS} {k n i : Nat} (h : FC R0 R k) (hp : KP k n R R1 i) : FC R0 R1 k := by
  obtain ⟨a1, a2, a3, a4, a5, a6, a7⟩ := hp
  exact ⟨fun x j h1 h2 => by rw [a1, if_neg (by omega)]; exact h.1 x j h1 h2, fun x j => (a2 x j).trans (h.2.1 x j), fun x j => (a3 x j).trans (h.2.2.1 x j), fun x j => (a4 x j).trans (h.2.2.2.1 x j), fun x j => (a5 x j).trans (h.2.2.2.2.1 x j), fun x j h1 h2 h3 h4 => (a7 x j h3 h4).trans (h.2.2.2.2.2 x j h1 h2 h3 h4)⟩
theorem ST.fc {lv : Nat → Bool} {a : Nat → Nat} {R R' : RS} {M : MS} {k : Nat} (h : ST lv a R M k) (hf : FC R R' k) (hk : k < 6) : ST lv a R' M k := by
  obtain ⟨h1, h2, h3, h4⟩ := h
  obtain ⟨f1, f2, f3, -⟩ := hf
  refine ⟨h1.out f3, h2.out f3, ⟨(f1 _ _ (by omega) (by omega)).trans h3.1, (f1 _ _ (by omega) (by omega)).trans h3.2.1, (f1 _ _ (by omega) (by omega)).trans h3.2.2.1, (f1 _ _ (by omega) (by omega)).trans h3.2.2.2.1, (f1 _ _ (by omega) (by omega)).trans h3.2.2.2.2.1, (f2 _ _).trans h3.2.2.2.2.2.1, (f2 _ _).trans h3.2.2.2.2.2.2⟩, ⟨(f1 _ _ (by omega) (by omega)).trans h4.1, (f1 _ _ (by omega) (by omega)).trans h4.2.1, (f1 _ _ (by omega) (by omega)).trans h4.2.2⟩⟩
section LCs
variable {R R' : RS} {k mx c y : Nat} {pl : List (Nat × Nat)} {S : SS}
theorem lc_step (h : LC R k mx pl S) : LC (sfi R 1 6 (nI (S.1 + 1))) k mx pl (stepS S) := by
  obtain ⟨a1, a2, a3, a4, a5, a6, a7⟩ := h
  exact ⟨a1, rfl, a3, a4, (up2_ni (by omega)).trans a5, a6, a7⟩
theorem lc_lack (h : LC R k mx pl S) : LC (sfi R 1 8 (nI 1)) k mx pl (lackS S) := by
  obtain ⟨a1, a2, a3, a4, a5, a6, a7⟩ := h
  exact ⟨a1, a2, a3, rfl, (up2_ni (by omega)).trans a5, a6, a7⟩
theorem lc_box (h : LC R k mx pl S) (hk : k < 6) : LC (sai (sai R 2 pl.length (nI c)) 3 pl.length (nI y)) k mx (pl ++ [(c, y)]) S := by
  obtain ⟨a1, a2, a3, a4, a5, a6, a7⟩ := h
  refine ⟨a1, a2, a3, a4, a5, fun i hi => ⟨(up2_ni (by omega)).trans ((up2_ni (by omega)).trans (a6 i hi).1), (up2_ni (by omega)).trans ((up2_ni (by omega)).trans (a6 i hi).2)⟩, fun i hi => ?_⟩
  have hi : i < pl.length + 1 := by simpa using hi
  by_cases h1 : i = pl.length
  · subst h1
    rw [pb_r]
    exact ⟨by simp [q_fi_sfi, q_fi_sfl, q_fi_sfr, q_fi_sai, q_fi_sal, q_fi_saq, q_fl_sfi, q_fl_sfl, q_fl_sfr, q_fl_sai, q_fl_sal, q_fl_saq, q_fr_sfi, q_fr_sfl, q_fr_sfr, q_fr_sai, q_fr_sal, q_fr_saq, q_ai_sfi, q_ai_sfl, q_ai_sfr, q_ai_sai, q_ai_sal, q_ai_saq, q_al_sfi, q_al_sfl, q_al_sfr, q_al_sai, q_al_sal, q_al_saq, q_aq_sfi, q_aq_sfl, q_aq_sfr, q_aq_sai, q_aq_sal, q_aq_saq], by simp [q_fi_sfi, q_fi_sfl, q_fi_sfr, q_fi_sai, q_fi_sal, q_fi_saq, q_fl_sfi, q_fl_sfl, q_fl_sfr, q_fl_sai, q_fl_sal, q_fl_saq, q_fr_sfi, q_fr_sfl, q_fr_sfr, q_fr_sai, q_fr_sal, q_fr_saq, q_ai_sfi, q_ai_sfl, q_ai_sfr, q_ai_sai, q_ai_sal, q_ai_saq, q_al_sfi, q_al_sfl, q_al_sfr, q_al_sai, q_al_sal, q_al_saq, q_aq_sfi, q_aq_sfl, q_aq_sfr, q_aq_sai, q_aq_sal, q_aq_saq]⟩
  · rw [pb_l (by omega)]
    have := a7 i (by omega)
    exact ⟨by simp [q_fi_sfi, q_fi_sfl, q_fi_sfr, q_fi_sai, q_fi_sal, q_fi_saq, q_fl_sfi, q_fl_sfl, q_fl_sfr, q_fl_sai, q_fl_sal, q_fl_saq, q_fr_sfi, q_fr_sfl, q_fr_sfr, q_fr_sai, q_fr_sal, q_fr_saq, q_ai_sfi, q_ai_sfl, q_ai_sfr, q_ai_sai, q_ai_sal, q_ai_saq, q_al_sfi, q_al_sfl, q_al_sfr, q_al_sai, q_al_sal, q_al_saq, q_aq_sfi, q_aq_sfl, q_aq_sfr, q_aq_sai, q_aq_sal, q_aq_saq, h1, this.1], by simp [q_fi_sfi, q_fi_sfl, q_fi_sfr, q_fi_sai, q_fi_sal, q_fi_saq, q_fl_sfi, q_fl_sfl, q_fl_sfr, q_fl_sai, q_fl_sal, q_fl_saq, q_fr_sfi, q_fr_sfl, q_fr_sfr, q_fr_sai, q_fr_sal, q_fr_saq, q_ai_sfi, q_ai_sfl, q_ai_sfr, q_ai_sai, q_ai_sal, q_ai_saq, q_al_sfi, q_al_sfl, q_al_sfr, q_al_sai, q_al_sal, q_al_saq, q_aq_sfi, q_aq_sfl, q_aq_sfr, q_aq_sai, q_aq_sal, q_aq_saq, h1, this.2]⟩
theorem lc_back {b : Nat × Nat} (h : LC R k mx (pl ++ [b]) S) : LC R k mx pl S := by
  obtain ⟨a1, a2, a3, a4, a5, a6, a7⟩ := h
  refine ⟨a1, a2, a3, a4, a5, a6, fun i hi => ?_⟩
  have := a7 i (by simp; omega)
  rw [pb_l hi] at this
  exact this
theorem lc_keep (h : LC R k mx pl S) (hk : k < 6) (hb : S.2.1 < pl.length + 1) (hp : KP k pl.length (sfi R 1 7 (nI pl.length)) R' pl.length) : LC R' k mx pl (leaf pl S) := by
  obtain ⟨a1, a2, a3, a4, a5, a6, a7⟩ := h
  obtain ⟨p1, p2, p3, p4, p5, p6, p7⟩ := hp
  have hl : leaf pl S = (S.1, pl.length + 1, S.2.2.1, pl) := if_pos hb
  rw [hl]
  have e : ∀ j, fi R' 1 j = if 1 = 1 ∧ j = 7 then nI pl.length else fi R 1 j := fun j => by rw [p1, if_neg (by omega)]; rfl
  refine ⟨by rw [e, if_neg (by omega)]; exact a1, by rw [e, if_neg (by omega)]; exact a2, by rw [e, if_pos ⟨rfl, rfl⟩]; rfl, by rw [e, if_neg (by omega)]; exact a4, by rw [p1, if_pos ⟨rfl, rfl⟩], fun i hi => ?_, fun i hi => ?_⟩
  · have hi : i < pl.length := hi
    have h1 := p6 i hi
    have h2 := a7 i hi
    exact ⟨h1.1.trans h2.1, h1.2.trans h2.2⟩
  · have h2 := a7 i hi
    exact ⟨(p7 2 i (by omega) (by omega)).trans h2.1, (p7 3 i (by omega) (by omega)).trans h2.2⟩
theorem lc_init (hp : KP k 0 (sfi (sfi (sfi (sfi R 1 5 (nI mx)) 1 6 (nI 0)) 1 7 (-1)) 1 8 (nI 0)) R' 0) : LC R' k mx [] (0, 0, false, []) := by
  obtain ⟨p1, p2, p3, p4, p5, p6, p7⟩ := hp
  have e : ∀ j, fi R' 1 j = fi (sfi (sfi (sfi (sfi R 1 5 (nI mx)) 1 6 (nI 0)) 1 7 (-1)) 1 8 (nI 0)) 1 j := fun j => by rw [p1, if_neg (by omega)]
  exact ⟨by rw [e]; rfl, by rw [e]; rfl, by rw [e]; rfl, by rw [e]; rfl, by rw [p1, if_pos ⟨rfl, rfl⟩]; rfl, fun i hi => absurd hi (Nat.not_lt_zero _), fun i hi => absurd hi (Nat.not_lt_zero _)⟩
end LCs
def gR (f : Nat) : Room := { frames := 2 * f + 4, cells := 0, slots := 0, locals := 60 * f + 200 }
def tR (f : Nat) : Room := { frames := 2 * f + 5, cells := 0, slots := 0, locals := 60 * f + 230 }
/-- what a call of goOn owes, so many cells from the end -/
def goC (l : Launch) (D : va_G) (g : Nat → ClassId) (lv : Nat → Bool) (a : Nat → Nat) (M : MS) (k mx f : Nat) : Prop := ∀ (R : RS) (x c0 : Nat) (pl : List (Nat × Nat)) (S : SS), ST lv a R M k → LC R k mx pl S → GX M k x pl → SI M k mx S → x < 2 ^ (mW M * mD M) → c0 ≤ mW M * mD M → (∀ i, i < c0 → x.testBit i = true) → mW M * mD M - fo (mW M * mD M) x < f → cV l D g lv a yX2_goOn wsX2_goOn (gR f) [.ref (a 1), .ref (a (10 + 3 * k)), .int (nI c0), .long (lN x), .int (nI pl.length)] R (fun R' => FC R R' k ∧ LC R' k mx pl (goS M k mx f x pl S)) 0 0
section TR1
variable {G : Nat → List (Nat × Nat) → SS → SS} {M : MS} {k mx x c y : Nat} {pl : List (Nat × Nat)} {S : SS}
theorem tr1_k (hy : y ≤ 1) (hk : key9 M k c (y + 1) x) (hs : S.1 < mx) : tr1 G M k mx x c pl (y + 1) S = G (x ||| cel M k c y) (pl ++ [(c, y)]) (stepS S) := by
  unfold tr1
  rw [if_neg (by omega), if_pos hk, if_pos hs, Nat.add_sub_cancel]
theorem tr1_n (hy : y ≤ 1) (hk : ¬ key9 M k c (y + 1) x) : tr1 G M k mx x c pl (y + 1) S = S := by
  unfold tr1
  rw [if_neg (by omega), if_neg hk]
theorem tr1_l (hy : y ≤ 1) (hk : key9 M k c (y + 1) x) (hs : ¬ S.1 < mx) : tr1 G M k mx x c pl (y + 1) S = lackS S := by
  unfold tr1
  rw [if_neg (by omega), if_pos hk, if_neg hs]
theorem tr1_3 (hs : S.1 < mx) : tr1 G M k mx x c pl 3 S = G (x ||| 2 ^ c) pl (stepS S) := by
  unfold tr1
  rw [if_pos rfl, if_pos hs]
theorem goS_go3 {f : Nat} (h : ¬ fo (mW M * mD M) x = mW M * mD M) (h2 : S.2.1 < pl.length + (mW M * mD M - pc x) / (kw M k * kd M k) + 1) : goS M k mx (f + 1) x pl S = tr1 (goS M k mx f) M k mx x (fo (mW M * mD M) x) pl 3 (tr1 (goS M k mx f) M k mx x (fo (mW M * mD M) x) pl 2 (tr1 (goS M k mx f) M k mx x (fo (mW M * mD M) x) pl 1 S)) := by
  rw [goS_go h h2]
  unfold rS
  rw [if_pos rfl]
end TR1
/-- closing the first open cell: the cells up to it are closed -/
theorem fo_closed {n x y c : Nat} (hc : c = fo n x) (hb : y.testBit c = true) : ∀ i, i < c + 1 → (x ||| y).testBit i = true := fun i hi => by
  rw [Nat.testBit_or]
  by_cases h : i = c
  · rw [h, hb, Bool.or_true]
  · rw [fof_closed x n 0 i (Nat.zero_le _) (by rw [show fof x n 0 = fo n x from rfl]; omega), Bool.true_or]
theorem p2_lt {c n : Nat} (h : c < n) : 2 ^ c < 2 ^ n := Nat.pow_lt_pow_right (by decide) h
theorem tR_le {f F L N : Nat} (h1 : F ≤ 4) (h2 : 8 + (N + 11) + L ≤ 230) : F + 1 ≤ (tR f).frames ∧ 8 + (N + 11) + L ≤ (tR f).locals := ⟨by show F + 1 ≤ 2 * f + 5; omega, by show 8 + (N + 11) + L ≤ 60 * f + 230; omega⟩
theorem gR_le {f F L N : Nat} (h1 : F ≤ 3) (h2 : 8 + (N + 11) + L ≤ 200) : F + 1 ≤ (gR f).frames ∧ 8 + (N + 11) + L ≤ (gR f).locals := ⟨by show F + 1 ≤ 2 * f + 4; omega, by show 8 + (N + 11) + L ≤ 60 * f + 200; omega⟩
theorem gt_le {f : Nat} : (gR f).frames + 1 ≤ (tR f).frames ∧ 8 + (7 + 11) + (gR f).locals ≤ (tR f).locals := ⟨by show 2 * f + 4 + 1 ≤ 2 * f + 5; omega, by show 8 + (7 + 11) + (60 * f + 200) ≤ 60 * f + 230; omega⟩
theorem tg_le {f : Nat} : (tR f).frames + 1 ≤ (gR (f + 1)).frames ∧ 8 + (10 + 11) + (tR f).locals ≤ (gR (f + 1)).locals := ⟨by show 2 * f + 5 + 1 ≤ 2 * (f + 1) + 4; omega, by show 8 + (10 + 11) + (60 * f + 230) ≤ 60 * (f + 1) + 200; omega⟩
theorem gg_le {f : Nat} : (gR f).frames + 1 ≤ (gR (f + 1)).frames ∧ 8 + (7 + 11) + (gR f).locals ≤ (gR (f + 1)).locals := ⟨by show 2 * f + 4 + 1 ≤ 2 * (f + 1) + 4; omega, by show 8 + (7 + 11) + (60 * f + 200) ≤ 60 * (f + 1) + 200; omega⟩
theorem tR_c {f : Nat} : 0 + 0 ≤ (tR f).cells ∧ 0 + 0 ≤ (tR f).slots := ⟨Nat.le_refl _, Nat.le_refl _⟩
theorem gR_c {f : Nat} : 0 + 0 ≤ (gR f).cells ∧ 0 + 0 ≤ (gR f).slots := ⟨Nat.le_refl _, Nat.le_refl _⟩
