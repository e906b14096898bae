theorem min_in {i n : Nat} (h : i < n) : min i n = i ∧ min (i + 1) n = i + 1 := by omega
theorem min_out {i n : Nat} (h : ¬ i < n) : min i n = n ∧ min (i + 1) n = n := by omega
theorem onP_s1 {M : MS} {k i : Nat} (h : onP M k (min i (mnp M)) = false) (hv : i < mnp M) (ho : onL M k i (pn M i) = false) : onP M k (min (i + 1) (mnp M)) = false := by
  rw [(min_in hv).1] at h
  rw [(min_in hv).2]
  show (onP M k i || onL M k i (pn M i)) = false
  rw [h, ho]; rfl
theorem onP_s2 {M : MS} {k i : Nat} (h : onP M k (min i (mnp M)) = false) (hv : ¬ i < mnp M) : onP M k (min (i + 1) (mnp M)) = false := by
  rw [(min_out hv).1] at h
  rw [(min_out hv).2]
  exact h
theorem allS_s1 {M : MS} {i : Nat} (hv : i < mnp M) : allS M (min i (mnp M)) + bS M i (pn M i) = allS M (min (i + 1) (mnp M)) := by rw [(min_in hv).1, (min_in hv).2]; rfl
theorem allS_s2 {M : MS} {i : Nat} (hv : ¬ i < mnp M) : allS M (min i (mnp M)) = allS M (min (i + 1) (mnp M)) := by rw [(min_out hv).1, (min_out hv).2]
theorem trkS_s1 {M : MS} {i : Nat} (hv : i < mnp M) (hp : ¬ ps M i = 0) : trkS M (min i (mnp M)) + bS M i (pn M i) = trkS M (min (i + 1) (mnp M)) := by
  rw [(min_in hv).1, (min_in hv).2]
  show _ = trkS M i + (if ps M i = 0 then 0 else bS M i (pn M i))
  rw [if_neg hp]
theorem trkS_s3 {M : MS} {i : Nat} (hv : i < mnp M) (hp : ps M i = 0) : trkS M (min i (mnp M)) = trkS M (min (i + 1) (mnp M)) := by
  rw [(min_in hv).1, (min_in hv).2]
  show _ = trkS M i + (if ps M i = 0 then 0 else bS M i (pn M i))
  rw [if_pos hp]; rfl
theorem trkS_s2 {M : MS} {i : Nat} (hv : ¬ i < mnp M) : trkS M (min i (mnp M)) = trkS M (min (i + 1) (mnp M)) := by rw [(min_out hv).1, (min_out hv).2]
