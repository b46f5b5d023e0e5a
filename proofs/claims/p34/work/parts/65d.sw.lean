theorem sw_6_1 : ∀ j, j < 11 → rkS 1 < rkS j → Cond.not (Cond.eq (tmS 1) (tmS j)) ∈ fgn := by decide +kernel
theorem sw_6_2 : ∀ j, j < 11 → rkS 2 < rkS j → Cond.not (Cond.eq (tmS 2) (tmS j)) ∈ fgn := by decide +kernel
theorem sw_6_3 : ∀ j, j < 11 → rkS 3 < rkS j → Cond.not (Cond.eq (tmS 3) (tmS j)) ∈ fgn := by decide +kernel
