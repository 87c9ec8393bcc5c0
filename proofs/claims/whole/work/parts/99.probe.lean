theorem zz_probe : ∀ w ∈ u_ws RX2 TX2 9, w ∈ wsX2_leftFor := by decide +kernel
theorem zz_probe2 : ∀ w ∈ u_ws RX2 TX2 9, w ∈ wsX2_digest := by decide +kernel
theorem zz_probe3 : (.code yX0_place cX0_place 3 (some .int) : Cond) ∈ wsX2_digest := by decide +kernel
theorem zz_probe5 : ((vx_atS RX2 177 "java/lang/IndexOutOfBoundsException" ["java/lang/RuntimeException", "java/lang/Exception"]).filter (fun w => !goodWord w)) = [] := by decide +kernel
theorem zz_probe6 : ((vx_atS RX2 177 "java/lang/IndexOutOfBoundsException" ["java/lang/RuntimeException", "java/lang/Exception"]).filter (fun w => !goodWord w)).map Cond.castableQ = [] := rfl
