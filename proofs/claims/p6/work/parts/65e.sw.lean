theorem sw_6_7 : ∀ j, j < 11 → 7 < j → Cond.not (Cond.eq (tmS 7) (tmS j)) ∈ fgn := by decide +kernel
theorem sw_6_8 : ∀ j, j < 11 → 8 < j → Cond.not (Cond.eq (tmS 8) (tmS j)) ∈ fgn := by decide +kernel
theorem sw_6_9 : ∀ j, j < 11 → 9 < j → Cond.not (Cond.eq (tmS 9) (tmS j)) ∈ fgn := by decide +kernel
