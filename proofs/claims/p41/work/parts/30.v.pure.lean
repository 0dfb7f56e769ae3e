theorem pt_50 : ∀ d, d < 8 → qcpy (99 * nI d) 0 99 792 99 = true ∧ (99 * nI d).toNatClampNeg = 99 * d := by decide +kernel
