/-! ONE NUMBER of the class is one of the reference's: the pieces on the bench -/
def TI (L : List Nat) (τ : Nat → Ro) (E : Ec) (mm : Nat) : Prop := ∀ q ∈ L, τ q = (9, 0) → (fi E q 2).toInt = (fi E mm 45).toInt
theorem fi_cell {E E' : Ec} {a k : Nat} (h : E' a = E a) : fi E' a k = fi E a k := by simp only [fi, fv, h]
theorem TI.cls {L : List Nat} {τ : Nat → Ro} {E E' : Ec} {wr : Ro → Bool} {mm : Nat} (J : TI L τ E mm) (hm : mm ∈ L) (tm : τ mm = (11, 0)) (hF : Fr L τ wr E E') (w1 : wr (9, 0) = false) (w2 : wr (11, 0) = false) : TI L τ E' mm := fun q hq tq => by
  rw [fi_cell (hF q hq (by rw [tq]; exact w1)), fi_cell (hF mm hm (by rw [tm]; exact w2))]
  exact J q hq tq
theorem TI.ref {L : List Nat} {τ : Nat → Ro} {E E' : Ec} {wr : Ro → Bool} {mm : Nat} (J : TI L τ E mm) (hF : Fr L τ wr E E') (w1 : wr (9, 0) = false) (h : fi E' mm 45 = fi E mm 45) : TI L τ E' mm := fun q hq tq => by
  rw [fi_cell (hF q hq (by rw [tq]; exact w1)), h]
  exact J q hq tq
theorem TI.grow {L L' : List Nat} {τ τ' : Nat → Ro} {E E' : Ec} {wr : Ro → Bool} {x mm : Nat} (J : TI L τ E mm) (g : GL x wr L τ E L' τ' E') (tx : τ x = (0, 0)) (tx' : τ' x = (0, 0)) (hm : mm ∈ L) (tm : τ mm = (11, 0)) (w1 : wr (9, 0) = false) (w2 : wr (11, 0) = false) : TI L' τ' E' mm := fun q hq tq => by
  have hq0 : q ∈ L := by
    rcases g.2.2.2 q hq with y | y
    · exact y
    · have y' : lawK (9, 0) := by rw [← tq]; exact y
      exact absurd y' (by unfold lawK; decide)
  have qx : q ≠ x := fun z => by rw [z, tx'] at tq; exact absurd tq (by decide)
  have mx : mm ≠ x := fun z => by rw [z, tx] at tm; exact absurd tm (by decide)
  have tq0 : τ q = (9, 0) := (g.2.1 q hq0 qx).symm.trans tq
  rw [fi_cell (g.2.2.1 q hq0 qx (by rw [tq0]; exact w1)), fi_cell (g.2.2.1 mm hm mx (by rw [tm]; exact w2))]
  exact J q hq0 tq0
