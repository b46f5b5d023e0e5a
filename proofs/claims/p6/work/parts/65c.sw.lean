theorem sw_6_2 : ∀ j, j < 11 → 2 < j → Cond.not (Cond.eq (tmS 2) (tmS j)) ∈ fgn := by decide +kernel
theorem sw_6_3 : ∀ j, j < 11 → 3 < j → Cond.not (Cond.eq (tmS 3) (tmS j)) ∈ fgn := by decide +kernel
