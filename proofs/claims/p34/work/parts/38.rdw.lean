/-! THE READER: parts that look at the next tread only where 'primed' says so; ends not beyond the parts -/
def RdW (E : Ec) (a qe qs : Nat) : Prop := (∀ j : Nat, (j : Int) < (fi E a 9).toInt → (ai E qs j).toInt ≤ (fi E a 7).toInt) ∧ ∀ i : Nat, (i : Int) < (fi E a 8).toInt → (ai E qe i).toInt ≤ (fi E a 9).toInt
theorem RdW.same {E E' : Ec} {a qe qs : Nat} (h : RdW E a qe qs) (he : E' qe = E qe) (hs : E' qs = E qs) (h7 : fi E' a 7 = fi E a 7) (h8 : fi E' a 8 = fi E a 8) (h9 : fi E' a 9 = fi E a 9) : RdW E' a qe qs := by
  unfold RdW
  rw [ai_cell he, ai_cell hs, h7, h8, h9]
  exact h
theorem RdW.push {E E' : Ec} {a qe qs : Nat} (h : RdW E a qe qs) {n : Int32} (hn : fi E a 9 = n) (h0 : 0 ≤ n.toInt) (h9 : (fi E' a 9).toInt = n.toInt + 1) (h8 : fi E' a 8 = fi E a 8) (he : E' qe = E qe) (h7 : (fi E a 7).toInt ≤ (fi E' a 7).toInt) (hs : ∀ j : Nat, j ≠ n.toInt.toNat → ai E' qs j = ai E qs j) (hl : (ai E' qs n.toInt.toNat).toInt ≤ (fi E' a 7).toInt) : RdW E' a qe qs := by
  refine ⟨fun j hj => ?_, fun i hi => ?_⟩
  · by_cases c : j = n.toInt.toNat
    · rw [c]; exact hl
    · rw [hs j c]
      have := h.1 j (by rw [hn]; omega)
      omega
  · rw [h8] at hi
    have := h.2 i hi
    rw [ai_cell he]
    rw [hn] at this
    omega
theorem RdW.rel {E E1 E' : Ec} {a qe qs : Nat} (h : RdW E a qe qs) {r n i : Int32} (hr : fi E a 8 = r) (hn : fi E a 9 = n) (h0 : 0 ≤ r.toInt) {Ea : Ec} (P : isSet Ea E1 qe i.toNatClampNeg n) (hi : i.toInt = r.toInt) (he : E' qe = E1 qe) (hs : E' qs = E qs) (h7 : fi E' a 7 = fi E a 7) (h8 : (fi E' a 8).toInt = r.toInt + 1) (h9 : fi E' a 9 = fi E a 9) (hea : Ea qe = E qe := by rfl) : RdW E' a qe qs := by
  have ei : i.toNatClampNeg = i.toInt.toNat := rfl
  refine ⟨fun j hj => ?_, fun k hk => ?_⟩
  · rw [ai_cell hs, h7]
    exact h.1 j (by rw [← h9]; exact hj)
  · rw [ai_cell he, h9, hn]
    by_cases c : k = i.toNatClampNeg
    · rw [c, P.2.1]
      exact Int.le_refl _
    · rw [P.2.2 k c, ai_cell hea]
      have := h.2 k (by rw [hr]; omega)
      rw [hn] at this
      exact this
