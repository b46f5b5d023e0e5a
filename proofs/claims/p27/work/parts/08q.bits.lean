/-! BITS of a set of at most 12 pieces (p27) -/
theorem nu_pow {x c z : Int32} (h : z = x <<< (c &&& 31)) (hx : x.toInt = 1) (h0 : 0 ≤ c.toInt) (h1 : c.toInt ≤ 12) : z.toInt = ((2 ^ c.toInt.toNat : Nat) : Int) := by
  have ex : x = 1 := fa_k 1 hx
  have hc : c = 0 ∨ c = 1 ∨ c = 2 ∨ c = 3 ∨ c = 4 ∨ c = 5 ∨ c = 6 ∨ c = 7 ∨ c = 8 ∨ c = 9 ∨ c = 10 ∨ c = 11 ∨ c = 12 := by
    have : c.toInt = 0 ∨ c.toInt = 1 ∨ c.toInt = 2 ∨ c.toInt = 3 ∨ c.toInt = 4 ∨ c.toInt = 5 ∨ c.toInt = 6 ∨ c.toInt = 7 ∨ c.toInt = 8 ∨ c.toInt = 9 ∨ c.toInt = 10 ∨ c.toInt = 11 ∨ c.toInt = 12 := by omega
    rcases this with q | q | q | q | q | q | q | q | q | q | q | q | q <;> simp [fa_eq, q]
  subst ex
  subst h
  rcases hc with rfl | rfl | rfl | rfl | rfl | rfl | rfl | rfl | rfl | rfl | rfl | rfl | rfl <;> decide +kernel
theorem nu_xorN {x y z : Int32} (h : z = x ^^^ y) (h0 : 0 ≤ x.toInt) (h1 : x.toInt ≤ 4095) (g0 : 0 ≤ y.toInt) (g1 : y.toInt ≤ 4095) : z.toInt = ((x.toInt.toNat ^^^ y.toInt.toNat : Nat) : Int) := by
  obtain ⟨a, a1, a2, rfl⟩ := nu_nat h0
  obtain ⟨b, b1, b2, rfl⟩ := nu_nat g0
  have e : nI a ^^^ nI b = nI (a ^^^ b) := by
    apply Int32.toBitVec_inj.mp
    simp [nI, Int32.toBitVec_ofNat, BitVec.ofNat_xor]
  have hl : a ^^^ b < 2 ^ 12 := Nat.xor_lt_two_pow (by omega) (by omega)
  rw [h, e, nI_toInt (by omega), ← a1, ← b1]
  simp
theorem bit_all : ∀ c : Nat, c < 12 → ∀ a : Nat, a < 64 → ∀ b : Nat, b < 64 → ((nI (64 * a + b) >>> (nI c &&& 31)) &&& 1).toInt = if (64 * a + b).testBit c then 1 else 0 := by decide +kernel
theorem nu_bit {x c z w o : Int32} (h : z = x >>> (c &&& 31)) (hw : w = z &&& o) (ho : o.toInt = 1) (h0 : 0 ≤ x.toInt) (h1 : x.toInt ≤ 4095) (g0 : 0 ≤ c.toInt) (g1 : c.toInt ≤ 11) : w.toInt = if x.toInt.toNat.testBit c.toInt.toNat then 1 else 0 := by
  have eo : o = 1 := fa_k 1 ho
  obtain ⟨a, a1, a2, rfl⟩ := nu_nat h0
  obtain ⟨b, b1, b2, rfl⟩ := nu_nat g0
  have q := bit_all b (by omega) (a / 64) (by omega) (a % 64) (by omega)
  rw [show 64 * (a / 64) + a % 64 = a by omega] at q
  rw [hw, h, eo, q, ← a1, ← b1]
  simp
