/-! ===== the store: everything that the class, the reference and the law hold, by NAMES (numbers); its address map and who lives are told beside it ===== -/
abbrev RS : Type := (Nat → Nat → Int32) × (Nat → Nat → Int64) × (Nat → Nat → Option Nat) × (Nat → Nat → Int32) × (Nat → Nat → Int64) × (Nat → Nat → Option Nat)
def up2 {α : Type} (f : Nat → Nat → α) (i k : Nat) (v : α) : Nat → Nat → α := fun i' k' => if i' = i ∧ k' = k then v else f i' k'
theorem up2_s {α : Type} (f : Nat → Nat → α) (i k : Nat) (v : α) : up2 f i k v i k = v := by simp [up2]
theorem up2_n {α : Type} {f : Nat → Nat → α} {i k i' k' : Nat} {v : α} (h : ¬ (i' = i ∧ k' = k)) : up2 f i k v i' k' = f i' k' := by simp [up2, h]
theorem up2_ni {α : Type} {f : Nat → Nat → α} {i k i' k' : Nat} {v : α} (h : i' ≠ i) : up2 f i k v i' k' = f i' k' := by simp [up2, h]
theorem up2_nk {α : Type} {f : Nat → Nat → α} {i k i' k' : Nat} {v : α} (h : k' ≠ k) : up2 f i k v i' k' = f i' k' := by simp [up2, h]
def sfi (R : RS) (i k : Nat) (v : Int32) : RS := (up2 R.1 i k v, R.2)
def sfl (R : RS) (i k : Nat) (v : Int64) : RS := (R.1, up2 R.2.1 i k v, R.2.2)
def sfr (R : RS) (i k : Nat) (v : Option Nat) : RS := (R.1, R.2.1, up2 R.2.2.1 i k v, R.2.2.2)
def sai (R : RS) (i k : Nat) (v : Int32) : RS := (R.1, R.2.1, R.2.2.1, up2 R.2.2.2.1 i k v, R.2.2.2.2)
def sal (R : RS) (i k : Nat) (v : Int64) : RS := (R.1, R.2.1, R.2.2.1, R.2.2.2.1, up2 R.2.2.2.2.1 i k v, R.2.2.2.2.2)
def saq (R : RS) (i k : Nat) (v : Option Nat) : RS := (R.1, R.2.1, R.2.2.1, R.2.2.2.1, R.2.2.2.2.1, up2 R.2.2.2.2.2 i k v)
/-- all that is new at the name i: noughts -/
def clr (R : RS) (i : Nat) : RS := ((fun j k => if j = i then 0 else R.1 j k), (fun j k => if j = i then 0 else R.2.1 j k), (fun j k => if j = i then none else R.2.2.1 j k), (fun j k => if j = i then 0 else R.2.2.2.1 j k), (fun j k => if j = i then 0 else R.2.2.2.2.1 j k), (fun j k => if j = i then none else R.2.2.2.2.2 j k))
abbrev fi (R : RS) : Nat → Nat → Int32 := R.1
abbrev fl (R : RS) : Nat → Nat → Int64 := R.2.1
abbrev fr (R : RS) : Nat → Nat → Option Nat := R.2.2.1
abbrev ai (R : RS) : Nat → Nat → Int32 := R.2.2.2.1
abbrev al (R : RS) : Nat → Nat → Int64 := R.2.2.2.2.1
abbrev aq (R : RS) : Nat → Nat → Option Nat := R.2.2.2.2.2
/-- what lies at a name: 0 an object of the class of that number, 1 int[], 2 long[], 3 boolean[], 4 Kind[], 5 Pallet[] of that length -/
def sh (i : Nat) : Nat × Nat :=
  if i < 10 then (match i with | 0 => (0, 5) | 1 => (0, 4) | 2 => (1, 36) | 3 => (1, 36) | 4 => (4, 6) | 5 => (5, 8) | _ => (1, 8))
  else if i < 40 then (if (i - 10) % 3 = 0 then (0, 2) else (1, 36))
  else if i < 100 then (if (i - 40) % 6 = 0 then (0, 3) else if (i - 40) % 6 = 5 then (2, 10) else (1, 10))
  else if i < 200 then (match i with
    | 100 => (0, 6) | 106 => (1, 6) | 107 => (1, 6) | 108 => (1, 6) | 109 => (1, 6) | 110 => (1, 6) | 111 => (3, 6) | 112 => (2, 216) | 113 => (1, 216) | 114 => (1, 216)
    | 118 => (1, 8) | 119 => (1, 80) | 120 => (1, 80) | 121 => (1, 8) | 122 => (1, 8) | 125 => (1, 38) | 126 => (1, 38) | 127 => (1, 36) | _ => (1, 36))
  else (2, 1)
theorem sh_K {k : Nat} (h : k < 6) : sh (10 + 3 * k) = (0, 2) := by
  unfold sh
  rw [if_neg (by omega), if_pos (by omega), if_pos (by omega)]
theorem sh_Kc {k : Nat} (h : k < 6) : sh (11 + 3 * k) = (1, 36) := by
  unfold sh
  rw [if_neg (by omega), if_pos (by omega), if_neg (by omega)]
theorem sh_Kw {k : Nat} (h : k < 6) : sh (12 + 3 * k) = (1, 36) := by
  unfold sh
  rw [if_neg (by omega), if_pos (by omega), if_neg (by omega)]
theorem sh_P {k : Nat} (h : k < 8) : sh (40 + 6 * k) = (0, 3) := by
  unfold sh
  rw [if_neg (by omega), if_neg (by omega), if_pos (by omega), if_pos (by omega)]
theorem sh_Pi {k j : Nat} (h : k < 8) (h1 : 0 < j) (h2 : j < 5) : sh (40 + j + 6 * k) = (1, 10) := by
  unfold sh
  rw [if_neg (by omega), if_neg (by omega), if_pos (by omega), if_neg (by omega), if_neg (by omega)]
theorem sh_Pl {k : Nat} (h : k < 8) : sh (45 + 6 * k) = (2, 10) := by
  unfold sh
  rw [if_neg (by omega), if_neg (by omega), if_pos (by omega), if_neg (by omega), if_pos (by omega)]
/-- of a class's slot: 0 an int, 1 a long, 2 a reference -/
def fT (ci k : Nat) : Nat := match ci with
  | 2 => if k < 5 then 0 else if k < 7 then 1 else if k < 9 then 2 else 0
  | 3 => if k < 5 then 2 else 0
  | 4 => if k < 3 then 0 else if k < 5 then 2 else 0
  | 5 => if k < 2 then 0 else if k < 6 then 2 else 0
  | _ => if k < 6 then 0 else if k < 15 then 2 else if k < 18 then 0 else if k < 23 then 2 else if k < 25 then 0 else if k < 29 then 2 else if k < 31 then 1 else 0
def nF (ci : Nat) : Nat := match ci with | 2 => 11 | 3 => 10 | 4 => 9 | 5 => 12 | _ => 33
def fv (R : RS) (i k t : Nat) : Value := match t with
  | 0 => .int (fi R i k)
  | 1 => .long (fl R i k)
  | _ => va_rf (fr R i k)
def fds (R : RS) (i ci : Nat) : List Value := (List.range (nF ci)).map (fun k => fv R i k (fT ci k))
theorem fds_len (R : RS) (i ci : Nat) : (fds R i ci).length = nF ci := by simp [fds]
theorem fds_at {R : RS} {i ci k : Nat} (hk : k < nF ci) : (fds R i ci)[k]? = some (fv R i k (fT ci k)) := by simp [fds, hk]
def ct (g : Nat → ClassId) (R : RS) (i : Nat) : va_E := match sh i with
  | (0, n) => .inr (n, fds R i n)
  | (1, n) => .inl (g 0, n, .inl (ai R i))
  | (2, n) => .inl (g 1, n, .inr (.inl (al R i)))
  | (3, n) => .inl (g 2, n, .inl (ai R i))
  | (4, n) => .inl (g 3, n, .inr (.inr (.inr (.inr (aq R i)))))
  | (_, n) => .inl (g 4, n, .inr (.inr (.inr (.inr (aq R i)))))
theorem ct_o {g : Nat → ClassId} {R : RS} {i n : Nat} (h : sh i = (0, n)) : ct g R i = .inr (n, fds R i n) := by unfold ct; rw [h]; rfl
theorem ct_i {g : Nat → ClassId} {R : RS} {i n : Nat} (h : sh i = (1, n)) : ct g R i = .inl (g 0, n, .inl (ai R i)) := by unfold ct; rw [h]; rfl
theorem ct_l {g : Nat → ClassId} {R : RS} {i n : Nat} (h : sh i = (2, n)) : ct g R i = .inl (g 1, n, .inr (.inl (al R i))) := by unfold ct; rw [h]; rfl
theorem ct_z {g : Nat → ClassId} {R : RS} {i n : Nat} (h : sh i = (3, n)) : ct g R i = .inl (g 2, n, .inl (ai R i)) := by unfold ct; rw [h]; rfl
theorem ct_k {g : Nat → ClassId} {R : RS} {i n : Nat} (h : sh i = (4, n)) : ct g R i = .inl (g 3, n, .inr (.inr (.inr (.inr (aq R i))))) := by unfold ct; rw [h]; rfl
theorem ct_p {g : Nat → ClassId} {R : RS} {i n : Nat} (h : sh i = (5, n)) : ct g R i = .inl (g 4, n, .inr (.inr (.inr (.inr (aq R i))))) := by unfold ct; rw [h]; rfl
theorem ct_eq {g : Nat → ClassId} {R R' : RS} {j : Nat} (h1 : ∀ k, fi R' j k = fi R j k) (h2 : ∀ k, fl R' j k = fl R j k) (h3 : ∀ k, fr R' j k = fr R j k) (h4 : ∀ k, ai R' j k = ai R j k) (h5 : ∀ k, al R' j k = al R j k) (h6 : ∀ k, aq R' j k = aq R j k) : ct g R' j = ct g R j := by
  have e1 : ∀ n, fds R' j n = fds R j n := fun n => by
    unfold fds
    refine List.map_congr_left (fun k _ => ?_)
    unfold fv
    split
    · rw [h1]
    · rw [h2]
    · rw [h3]
  have e4 : ai R' j = ai R j := funext h4
  have e5 : al R' j = al R j := funext h5
  have e6 : aq R' j = aq R j := funext h6
  unfold ct
  rw [e4, e5, e6]
  simp only [e1]
abbrev tyG (g : Nat → ClassId) : List (ClassId × FieldType) := [(g 0, .int), (g 1, .long), (g 2, .boolean), (g 3, .object "PalletLayers$Kind"), (g 4, .object "PalletLayers$Pallet")]
def rP (D : va_G) (g : Nat → ClassId) (lv : Nat → Bool) (a : Nat → Nat) (R : RS) (H : Heap) : Prop := (∀ i j, lv i = true → lv j = true → a i = a j → i = j) ∧ ∀ i, lv i = true → va_at D vwCl (a i, ct g R i) H
def rA (lv : Nat → Bool) (a : Nat → Nat) (sz : Nat) : Nat → Prop := fun q => (∃ i, lv i = true ∧ a i = q) ∨ sz ≤ q
def rc (D : va_G) (g : Nat → ClassId) (A : Nat → Prop) (H0 : Heap) (lv : Nat → Bool) (a : Nat → Nat) (R : RS) (H : Heap) (locs : List Loc) : Prop := rP D g lv a R H ∧ (∀ i, lv i = true → A (a i)) ∧ va_S A H0 H locs
/-- one thing of the store is written -/
theorem rP_set {D : va_G} {g : Nat → ClassId} {lv : Nat → Bool} {a : Nat → Nat} {R R' : RS} {H H1 : Heap} {i : Nat} (h : rP D g lv a R H) (hi : lv i = true) (he : va_at D vwCl (a i, ct g R' i) H1) (oq : ∀ q : Nat, q ≠ a i → H1[q]? = H[q]?) (hne : ∀ j, j ≠ i → ct g R' j = ct g R j) : rP D g lv a R' H1 := by
  refine ⟨h.1, fun j hj => ?_⟩
  by_cases hji : j = i
  · subst hji; exact he
  · rw [hne j hji]
    exact (h.2 j hj).kept (oq (a j) (fun z => hji (h.1 j i hj hi z)))
theorem rc_set {D : va_G} {g : Nat → ClassId} {A : Nat → Prop} {H0 : Heap} {lv : Nat → Bool} {a : Nat → Nat} {R R' : RS} {H H1 : Heap} {locs : List Loc} {i k : Nat} (h : rc D g A H0 lv a R H locs) (hi : lv i = true) (he : va_at D vwCl (a i, ct g R' i) H1) (z : H1.size = H.size) (oq : ∀ q : Nat, q ≠ a i → H1[q]? = H[q]?) (hne : ∀ j, j ≠ i → ct g R' j = ct g R j) : rc D g A H0 lv a R' H1 (locs ++ [⟨a i, k⟩]) :=
  ⟨rP_set h.1 hi he oq hne, h.2.1, h.2.2.put z oq (h.2.1 i hi)⟩
theorem ct_sfi {g : Nat → ClassId} {R : RS} {i k j : Nat} {v : Int32} (h : j ≠ i) : ct g (sfi R i k v) j = ct g R j := ct_eq (fun _ => up2_ni h) (fun _ => rfl) (fun _ => rfl) (fun _ => rfl) (fun _ => rfl) (fun _ => rfl)
theorem ct_sfl {g : Nat → ClassId} {R : RS} {i k j : Nat} {v : Int64} (h : j ≠ i) : ct g (sfl R i k v) j = ct g R j := ct_eq (fun _ => rfl) (fun _ => up2_ni h) (fun _ => rfl) (fun _ => rfl) (fun _ => rfl) (fun _ => rfl)
theorem ct_sfr {g : Nat → ClassId} {R : RS} {i k j : Nat} {v : Option Nat} (h : j ≠ i) : ct g (sfr R i k v) j = ct g R j := ct_eq (fun _ => rfl) (fun _ => rfl) (fun _ => up2_ni h) (fun _ => rfl) (fun _ => rfl) (fun _ => rfl)
theorem ct_sai {g : Nat → ClassId} {R : RS} {i k j : Nat} {v : Int32} (h : j ≠ i) : ct g (sai R i k v) j = ct g R j := ct_eq (fun _ => rfl) (fun _ => rfl) (fun _ => rfl) (fun _ => up2_ni h) (fun _ => rfl) (fun _ => rfl)
theorem ct_sal {g : Nat → ClassId} {R : RS} {i k j : Nat} {v : Int64} (h : j ≠ i) : ct g (sal R i k v) j = ct g R j := ct_eq (fun _ => rfl) (fun _ => rfl) (fun _ => rfl) (fun _ => rfl) (fun _ => up2_ni h) (fun _ => rfl)
theorem ct_saq {g : Nat → ClassId} {R : RS} {i k j : Nat} {v : Option Nat} (h : j ≠ i) : ct g (saq R i k v) j = ct g R j := ct_eq (fun _ => rfl) (fun _ => rfl) (fun _ => rfl) (fun _ => rfl) (fun _ => rfl) (fun _ => up2_ni h)
theorem ct_clr {g : Nat → ClassId} {R : RS} {i j : Nat} (h : j ≠ i) : ct g (clr R i) j = ct g R j := ct_eq (fun _ => if_neg h) (fun _ => if_neg h) (fun _ => if_neg h) (fun _ => if_neg h) (fun _ => if_neg h) (fun _ => if_neg h)
theorem fds_set {R R' : RS} {i ci k : Nat} {v : Value} (hk : k < nF ci) (hv : fv R' i k (fT ci k) = v) (ho : ∀ j, j ≠ k → fv R' i j (fT ci j) = fv R i j (fT ci j)) : fds R' i ci = (fds R i ci).set k v := by
  refine List.ext_getElem? (fun j => ?_)
  by_cases hj : j < nF ci
  · rw [fds_at hj]
    by_cases hjk : j = k
    · subst hjk
      rw [List.getElem?_set_self (by rw [fds_len]; exact hk), hv]
    · rw [List.getElem?_set_ne (Ne.symm hjk), fds_at hj, ho j hjk]
  · rw [List.getElem?_eq_none (by rw [fds_len]; omega), List.getElem?_eq_none (by rw [List.length_set, fds_len]; omega)]
theorem fds_sfi {R : RS} {i ci k : Nat} {v : Int32} (hk : k < nF ci) (ht : fT ci k = 0) : fds (sfi R i k v) i ci = (fds R i ci).set k (.int v) := by
  refine fds_set hk ?_ (fun j hj => ?_)
  · rw [ht]; show Value.int (up2 R.1 i k v i k) = _; rw [up2_s]
  · unfold fv
    split
    · show Value.int (up2 R.1 i k v i j) = _; rw [up2_nk hj]
    · rfl
    · rfl
theorem fds_sfl {R : RS} {i ci k : Nat} {v : Int64} (hk : k < nF ci) (ht : fT ci k = 1) : fds (sfl R i k v) i ci = (fds R i ci).set k (.long v) := by
  refine fds_set hk ?_ (fun j hj => ?_)
  · rw [ht]; show Value.long (up2 R.2.1 i k v i k) = _; rw [up2_s]
  · unfold fv
    split
    · rfl
    · show Value.long (up2 R.2.1 i k v i j) = _; rw [up2_nk hj]
    · rfl
theorem fds_sfr {R : RS} {i ci k : Nat} {v : Option Nat} (hk : k < nF ci) (ht : fT ci k = 2) : fds (sfr R i k v) i ci = (fds R i ci).set k (va_rf v) := by
  refine fds_set hk ?_ (fun j hj => ?_)
  · rw [ht]; show va_rf (up2 R.2.2.1 i k v i k) = _; rw [up2_s]
  · unfold fv
    split
    · rfl
    · rfl
    · show va_rf (up2 R.2.2.1 i k v i j) = _; rw [up2_nk hj]
theorem ai_sai (R : RS) (i k : Nat) (v : Int32) : ai (sai R i k v) i = upd (ai R i) k v := by
  funext j
  show up2 (ai R) i k v i j = _
  by_cases h : j = k <;> simp [up2, upd, h]
theorem al_sal (R : RS) (i k : Nat) (v : Int64) : al (sal R i k v) i = vp_updL (al R i) k v := by
  funext j
  show up2 (al R) i k v i j = _
  by_cases h : j = k <;> simp [up2, vp_updL, h]
theorem aq_saq (R : RS) (i k : Nat) (v : Option Nat) : aq (saq R i k v) i = va_up (aq R i) k v := by
  funext j
  show up2 (aq R) i k v i j = _
  by_cases h : j = k <;> simp [up2, va_up, h]
theorem q_fi_sfi (R : RS) (i k : Nat) (v : Int32) (j q : Nat) : fi (sfi R i k v) j q = if j = i ∧ q = k then v else fi R j q := rfl
theorem q_fi_sfl (R : RS) (i k : Nat) (v : Int64) (j q : Nat) : fi (sfl R i k v) j q = fi R j q := rfl
theorem q_fi_sfr (R : RS) (i k : Nat) (v : Option Nat) (j q : Nat) : fi (sfr R i k v) j q = fi R j q := rfl
theorem q_fi_sai (R : RS) (i k : Nat) (v : Int32) (j q : Nat) : fi (sai R i k v) j q = fi R j q := rfl
theorem q_fi_sal (R : RS) (i k : Nat) (v : Int64) (j q : Nat) : fi (sal R i k v) j q = fi R j q := rfl
theorem q_fi_saq (R : RS) (i k : Nat) (v : Option Nat) (j q : Nat) : fi (saq R i k v) j q = fi R j q := rfl
theorem q_fl_sfi (R : RS) (i k : Nat) (v : Int32) (j q : Nat) : fl (sfi R i k v) j q = fl R j q := rfl
theorem q_fl_sfl (R : RS) (i k : Nat) (v : Int64) (j q : Nat) : fl (sfl R i k v) j q = if j = i ∧ q = k then v else fl R j q := rfl
theorem q_fl_sfr (R : RS) (i k : Nat) (v : Option Nat) (j q : Nat) : fl (sfr R i k v) j q = fl R j q := rfl
theorem q_fl_sai (R : RS) (i k : Nat) (v : Int32) (j q : Nat) : fl (sai R i k v) j q = fl R j q := rfl
theorem q_fl_sal (R : RS) (i k : Nat) (v : Int64) (j q : Nat) : fl (sal R i k v) j q = fl R j q := rfl
theorem q_fl_saq (R : RS) (i k : Nat) (v : Option Nat) (j q : Nat) : fl (saq R i k v) j q = fl R j q := rfl
theorem q_fr_sfi (R : RS) (i k : Nat) (v : Int32) (j q : Nat) : fr (sfi R i k v) j q = fr R j q := rfl
theorem q_fr_sfl (R : RS) (i k : Nat) (v : Int64) (j q : Nat) : fr (sfl R i k v) j q = fr R j q := rfl
theorem q_fr_sfr (R : RS) (i k : Nat) (v : Option Nat) (j q : Nat) : fr (sfr R i k v) j q = if j = i ∧ q = k then v else fr R j q := rfl
theorem q_fr_sai (R : RS) (i k : Nat) (v : Int32) (j q : Nat) : fr (sai R i k v) j q = fr R j q := rfl
theorem q_fr_sal (R : RS) (i k : Nat) (v : Int64) (j q : Nat) : fr (sal R i k v) j q = fr R j q := rfl
theorem q_fr_saq (R : RS) (i k : Nat) (v : Option Nat) (j q : Nat) : fr (saq R i k v) j q = fr R j q := rfl
theorem q_ai_sfi (R : RS) (i k : Nat) (v : Int32) (j q : Nat) : ai (sfi R i k v) j q = ai R j q := rfl
theorem q_ai_sfl (R : RS) (i k : Nat) (v : Int64) (j q : Nat) : ai (sfl R i k v) j q = ai R j q := rfl
theorem q_ai_sfr (R : RS) (i k : Nat) (v : Option Nat) (j q : Nat) : ai (sfr R i k v) j q = ai R j q := rfl
theorem q_ai_sai (R : RS) (i k : Nat) (v : Int32) (j q : Nat) : ai (sai R i k v) j q = if j = i ∧ q = k then v else ai R j q := rfl
theorem q_ai_sal (R : RS) (i k : Nat) (v : Int64) (j q : Nat) : ai (sal R i k v) j q = ai R j q := rfl
theorem q_ai_saq (R : RS) (i k : Nat) (v : Option Nat) (j q : Nat) : ai (saq R i k v) j q = ai R j q := rfl
theorem q_al_sfi (R : RS) (i k : Nat) (v : Int32) (j q : Nat) : al (sfi R i k v) j q = al R j q := rfl
theorem q_al_sfl (R : RS) (i k : Nat) (v : Int64) (j q : Nat) : al (sfl R i k v) j q = al R j q := rfl
theorem q_al_sfr (R : RS) (i k : Nat) (v : Option Nat) (j q : Nat) : al (sfr R i k v) j q = al R j q := rfl
theorem q_al_sai (R : RS) (i k : Nat) (v : Int32) (j q : Nat) : al (sai R i k v) j q = al R j q := rfl
theorem q_al_sal (R : RS) (i k : Nat) (v : Int64) (j q : Nat) : al (sal R i k v) j q = if j = i ∧ q = k then v else al R j q := rfl
theorem q_al_saq (R : RS) (i k : Nat) (v : Option Nat) (j q : Nat) : al (saq R i k v) j q = al R j q := rfl
theorem q_aq_sfi (R : RS) (i k : Nat) (v : Int32) (j q : Nat) : aq (sfi R i k v) j q = aq R j q := rfl
theorem q_aq_sfl (R : RS) (i k : Nat) (v : Int64) (j q : Nat) : aq (sfl R i k v) j q = aq R j q := rfl
theorem q_aq_sfr (R : RS) (i k : Nat) (v : Option Nat) (j q : Nat) : aq (sfr R i k v) j q = aq R j q := rfl
theorem q_aq_sai (R : RS) (i k : Nat) (v : Int32) (j q : Nat) : aq (sai R i k v) j q = aq R j q := rfl
theorem q_aq_sal (R : RS) (i k : Nat) (v : Int64) (j q : Nat) : aq (sal R i k v) j q = aq R j q := rfl
theorem q_aq_saq (R : RS) (i k : Nat) (v : Option Nat) (j q : Nat) : aq (saq R i k v) j q = if j = i ∧ q = k then v else aq R j q := rfl
