/-! longs by their toInt -/
theorem fl_rng (x : Int64) : -9223372036854775808 ≤ x.toInt ∧ x.toInt < 9223372036854775808 := by
  have h1 := Int64.le_toInt x
  have h2 := Int64.toInt_lt x
  omega
theorem fl_bmod {z : Int} (h1 : -9223372036854775808 ≤ z) (h2 : z < 9223372036854775808) : z.bmod (2 ^ 64) = z := by
  rw [Int.bmod_eq_of_le (by omega) (by omega)]
theorem nl_add {x y z : Int64} (h : z = x + y) (h1 : -9223372036854775808 ≤ x.toInt + y.toInt) (h2 : x.toInt + y.toInt < 9223372036854775808) : z.toInt = x.toInt + y.toInt := by
  rw [h, Int64.toInt_add, fl_bmod h1 h2]
theorem nl_sub {x y z : Int64} (h : z = x - y) (h1 : -9223372036854775808 ≤ x.toInt - y.toInt) (h2 : x.toInt - y.toInt < 9223372036854775808) : z.toInt = x.toInt - y.toInt := by
  rw [h, Int64.toInt_sub, fl_bmod h1 h2]
theorem nl_divc {x y z : Int64} (c : Int) (h : z = x / y) (hy : y.toInt = c) (hx : 0 ≤ x.toInt) (hc : 0 < c) : z.toInt = x.toInt / c := by
  have := fl_rng x
  have h3 : x.toInt.tdiv c = x.toInt / c := Int.tdiv_eq_ediv_of_nonneg hx
  have h4 : x.toInt / c ≤ x.toInt := Int.ediv_le_self _ hx
  have h5 : 0 ≤ x.toInt / c := Int.ediv_nonneg hx (by omega)
  rw [h, Int64.toInt_div, hy, h3, fl_bmod (by omega) (by omega)]
theorem nl_eq0 {x : Int64} (h : x = 0) : x.toInt = 0 := by rw [h]; rfl
theorem nl_cmp {x y : Int64} {v : Int32} (h : v = lg_cmp x y) : (v.toInt = 1 ∧ y.toInt < x.toInt) ∨ (v.toInt = 0 ∧ x.toInt = y.toInt) ∨ (v.toInt = -1 ∧ x.toInt < y.toInt) := by
  subst h
  by_cases h1 : y < x
  · have := (fa_lt64 _ _).mp h1
    have e : lg_cmp x y = 1 := by simp [lg_cmp, h1]
    rw [e]
    exact Or.inl ⟨rfl, this⟩
  · have n1 : ¬ y.toInt < x.toInt := fun q => h1 ((fa_lt64 _ _).mpr q)
    by_cases h2 : x = y
    · subst h2
      have e : lg_cmp x x = 0 := by simp [lg_cmp]
      rw [e]
      exact Or.inr (Or.inl ⟨rfl, rfl⟩)
    · have n2 : x.toInt ≠ y.toInt := fun q => h2 ((fa_eq64 _ _).mpr q)
      have e : lg_cmp x y = -1 := by simp [lg_cmp, h1, h2]
      rw [e]
      exact Or.inr (Or.inr ⟨rfl, by omega⟩)
theorem nl_shr1 {x z : Int64} {y : Int32} (h : x >>> (y.toInt64 &&& 63) = z) (hy : y.toInt = 1) (hx : 0 ≤ x.toInt) : z.toInt = x.toInt / 2 := by
  have ey : y = 1 := fa_k 1 hy
  subst ey
  have e1 : ((1 : Int32).toInt64 &&& 63) = 1 := by decide +kernel
  rw [e1] at h
  subst h
  show (BitVec.sshiftRight' x.toBitVec ((1 : Int64).toBitVec.smod 64)).toInt = x.toBitVec.toInt / 2
  rw [BitVec.toInt_sshiftRight', show ((1 : Int64).toBitVec.smod 64).toNat = 1 from by decide +kernel, Int.shiftRight_eq_div_pow]
  rfl
