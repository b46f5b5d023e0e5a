def rkS (i : Nat) : Nat := (i + 3) % 11
theorem sw_6_8 : ∀ j, j < 11 → rkS 8 < rkS j → Cond.not (Cond.eq (tmS 8) (tmS j)) ∈ fgn := by decide +kernel
theorem sw_6_9 : ∀ j, j < 11 → rkS 9 < rkS j → Cond.not (Cond.eq (tmS 9) (tmS j)) ∈ fgn := by decide +kernel
