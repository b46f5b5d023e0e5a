theorem sw_6_10 : ∀ j, j < 11 → rkS 10 < rkS j → Cond.not (Cond.eq (tmS 10) (tmS j)) ∈ fgn := by decide +kernel
theorem sw_6_0 : ∀ j, j < 11 → rkS 0 < rkS j → Cond.not (Cond.eq (tmS 0) (tmS j)) ∈ fgn := by decide +kernel
