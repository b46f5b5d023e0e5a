theorem sw_6_4 : ∀ j, j < 11 → 4 < j → Cond.not (Cond.eq (tmS 4) (tmS j)) ∈ fgn := by decide +kernel
theorem sw_6_5 : ∀ j, j < 11 → 5 < j → Cond.not (Cond.eq (tmS 5) (tmS j)) ∈ fgn := by decide +kernel
theorem sw_6_6 : ∀ j, j < 11 → 6 < j → Cond.not (Cond.eq (tmS 6) (tmS j)) ∈ fgn := by decide +kernel
