/-! the mean: no NaN comes -/
def vfb (n : Nat) : Bool := decide (FP.ddiv (FP.i2d (Int32.ofNat n)) 4638144666238189568 &&& 0x7fffffffffffffff ≤ 0x7ff0000000000000)
theorem vfb_all : (List.range 4561).all vfb = true := by decide +kernel
theorem vfb_ok {z : Int} (h : 0 ≤ z ∧ z ≤ 4560) : vf_n64 (FP.ddiv (FP.i2d (iI z)) 4638144666238189568) := by
  have h1 := List.all_eq_true.mp vfb_all z.toNat (List.mem_range.mpr (by omega))
  have h2 := of_decide_eq_true h1
  rw [iI_nI h.1]
  exact h2
