theorem sw_6_0 : ∀ j, j < 11 → 0 < j → Cond.not (Cond.eq (tmS 0) (tmS j)) ∈ fgn := by decide +kernel
theorem sw_6_1 : ∀ j, j < 11 → 1 < j → Cond.not (Cond.eq (tmS 1) (tmS j)) ∈ fgn := by decide +kernel
