theorem sw_6_4 : ∀ j, j < 11 → rkS 4 < rkS j → Cond.not (Cond.eq (tmS 4) (tmS j)) ∈ fgn := by decide +kernel
theorem sw_6_5 : ∀ j, j < 11 → rkS 5 < rkS j → Cond.not (Cond.eq (tmS 5) (tmS j)) ∈ fgn := by decide +kernel
theorem sw_6_6 : ∀ j, j < 11 → rkS 6 < rkS j → Cond.not (Cond.eq (tmS 6) (tmS j)) ∈ fgn := by decide +kernel
theorem sw_6_7 : ∀ j, j < 11 → rkS 7 < rkS j → Cond.not (Cond.eq (tmS 7) (tmS j)) ∈ fgn := by decide +kernel
