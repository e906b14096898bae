theorem sAll_yes {M : MS} {p k i : Nat} (h : sAll M p k i = true) (hs : msh M * (kw M k * kd M k) ≤ 100 * spt M k i p (pn M p)) : sAll M p k (i + 1) = true := by
  show (sAll M p k i && decide (msh M * (kw M k * kd M k) ≤ 100 * spt M k i p (pn M p))) = true
  rw [h, decide_eq_true hs]; rfl
theorem sAll_no {M : MS} {p k i : Nat} (hs : ¬ msh M * (kw M k * kd M k) ≤ 100 * spt M k i p (pn M p)) : sAll M p k (i + 1) = false := by
  show (sAll M p k i && decide (msh M * (kw M k * kd M k) ≤ 100 * spt M k i p (pn M p))) = false
  rw [decide_eq_false hs, Bool.and_false]
theorem b2n_b {b : Bool} : b2n b < 2 ^ 31 := by cases b <;> decide
theorem b2n_0 {b : Bool} (h : b2n b = 0) : b = false := by cases b; rfl; exact absurd h (by decide)
theorem b2n_1 {b : Bool} (h : ¬ b2n b = 0) : b = true := by cases b; exact absurd rfl h; rfl
theorem nar_01 {n : Nat} (h : n ≤ 1) : narrow .boolean (.int (nI n)) = .int (nI n) := by
  rcases (show n = 0 ∨ n = 1 by omega) with rfl | rfl <;> decide
theorem outC_li {R : RS} {M : MS} {p : Nat} (hp : p < 8) : outC R (liS R M p) := ((((outC.r R).sfi (by omega)).sfi (by omega)).sfi (by omega)).sfi (by omega)
theorem outC_cl {R : RS} {p : Nat} (hp : p < 8) : outC R (clS R p) := (((((outC.r R).sfi (by omega)).sfi (by omega)).sfi (by omega)).sfi (by omega)).sfi (by omega)
theorem outC_la {R : RS} {M : MS} {p k n : Nat} (hp : p < 8) : outC R (laS R M p k n) := (((((((((outC.r R).sai (by omega)).sai (by omega)).sai (by omega)).sai (by omega)).sal (by omega)).sfi (by omega)).sfi (by omega)).sfi (by omega)).sfi (by omega)
theorem goodIn_l {big X ws : List Cond} (h : GoodIn big ws) : GoodIn (big ++ X) ws := fun w hw => ⟨List.mem_append_left _ (h w hw).1, (h w hw).2⟩
abbrev aioW : List Cond := (vx_atS RX3 115 "java/lang/ArrayIndexOutOfBoundsException" ["java/lang/IndexOutOfBoundsException", "java/lang/RuntimeException", "java/lang/Exception"]).filter goodWord
def wsP3 : List Cond := wsX3_pattern ++ aioW
set_option maxRecDepth 100000 in
theorem aioW_in : ∀ w ∈ aioW, w ∈ lw_tbl := by decide +kernel
