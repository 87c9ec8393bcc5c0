theorem zz_probe : ∀ w ∈ u_ws RX2 TX2 9, w ∈ wsX2_leftFor := by decide +kernel
theorem zz_probe2 : ∀ w ∈ u_ws RX2 TX2 9, w ∈ wsX2_digest := by decide +kernel
theorem zz_probe3 : (.code yX0_place cX0_place 3 (some .int) : Cond) ∈ wsX2_digest := by decide +kernel
theorem zz_probe4 (x a : Nat) (h : x = a) (k : x ≤ 3) : a ≤ 3 := by
  subst x
  exact k
