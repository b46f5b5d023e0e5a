/-! the pieces on the bench are the reference's -/
def TI (L : List Nat) (τ : Nat → Ro) (E : Ec) (mm : Nat) : Prop := ∀ qb ∈ L, τ qb = (9, 0) → ∀ qp ∈ L, τ qp = (39, 0) → ∀ qk ∈ L, τ qk = (83, 0) → (fi E qb 2).toInt = (fi E mm 45).toInt ∧ ∀ k : Nat, k < (fi E mm 45).toInt.toNat → ai E qp k = ai E qk k
theorem TI.cls {L : List Nat} {τ : Nat → Ro} {E E' : Ec} {wr : Ro → Bool} {mm : Nat} (J : TI L τ E mm) (hm : mm ∈ L) (tm : τ mm = (11, 0)) (hF : Fr L τ wr E E') (w1 : (wr (9, 0) || wr (39, 0) || wr (83, 0)) = false) (w2 : wr (11, 0) = false) : TI L τ E' mm := fun qb hb tb qp hp tp qk hk tk => by
  obtain ⟨w0, w3⟩ := Bool.or_eq_false_iff.mp w1
  obtain ⟨w0, w4⟩ := Bool.or_eq_false_iff.mp w0
  rw [fi_cell (hF qb hb (by rw [tb]; exact w0)), fi_cell (hF mm hm (by rw [tm]; exact w2)), ai_cell (hF qp hp (by rw [tp]; exact w4)), ai_cell (hF qk hk (by rw [tk]; exact w3))]
  exact J qb hb tb qp hp tp qk hk tk
theorem TI.ref {L : List Nat} {τ : Nat → Ro} {E E' : Ec} {wr : Ro → Bool} {mm : Nat} (J : TI L τ E mm) (hF : Fr L τ wr E E') (w1 : (wr (9, 0) || wr (39, 0) || wr (83, 0)) = false) (h : fi E' mm 45 = fi E mm 45) : TI L τ E' mm := fun qb hb tb qp hp tp qk hk tk => by
  obtain ⟨w0, w3⟩ := Bool.or_eq_false_iff.mp w1
  obtain ⟨w0, w4⟩ := Bool.or_eq_false_iff.mp w0
  rw [fi_cell (hF qb hb (by rw [tb]; exact w0)), h, ai_cell (hF qp hp (by rw [tp]; exact w4)), ai_cell (hF qk hk (by rw [tk]; exact w3))]
  exact J qb hb tb qp hp tp qk hk tk
theorem TI.grow {L L' : List Nat} {τ τ' : Nat → Ro} {E E' : Ec} {wr : Ro → Bool} {x mm : Nat} (J : TI L τ E mm) (g : GL x wr L τ E L' τ' E') (tx : τ x = (0, 0)) (tx' : τ' x = (0, 0)) (hm : mm ∈ L) (tm : τ mm = (11, 0)) (w1 : (wr (9, 0) || wr (39, 0) || wr (83, 0)) = false) (w2 : wr (11, 0) = false) : TI L' τ' E' mm := fun qb hb tb qp hp tp qk hk tk => by
  obtain ⟨w0, w3⟩ := Bool.or_eq_false_iff.mp w1
  obtain ⟨w0, w4⟩ := Bool.or_eq_false_iff.mp w0
  have old : ∀ q ∈ L', ∀ r : Ro, τ' q = r → ¬ lawK r → r ≠ (0, 0) → q ∈ L ∧ τ q = r ∧ q ≠ x := fun q hq r hr hk h0 => by
    have qx : q ≠ x := fun z => h0 (by rw [← hr, z]; exact tx')
    rcases g.2.2.2 q hq with y | y
    · exact ⟨y, (g.2.1 q y qx).symm.trans hr, qx⟩
    · exact absurd (show lawK r from by rw [← hr]; exact y) hk
  obtain ⟨hb, tb, xb⟩ := old qb hb _ tb (by unfold lawK; decide) (by decide)
  obtain ⟨hp, tp, xp⟩ := old qp hp _ tp (by unfold lawK; decide) (by decide)
  obtain ⟨hk, tk, xk⟩ := old qk hk _ tk (by unfold lawK; decide) (by decide)
  have mx : mm ≠ x := fun z => by rw [z, tx] at tm; exact absurd tm (by decide)
  rw [fi_cell (g.2.2.1 qb hb xb (by rw [tb]; exact w0)), fi_cell (g.2.2.1 mm hm mx (by rw [tm]; exact w2)), ai_cell (g.2.2.1 qp hp xp (by rw [tp]; exact w4)), ai_cell (g.2.2.1 qk hk xk (by rw [tk]; exact w3))]
  exact J qb hb tb qp hp tp qk hk tk
theorem TI.piece {E E1 E2 : Ec} {qb qp qk mm : Nat} {a : Int32} (jt : (fi E qb 2).toInt = (fi E mm 45).toInt ∧ ∀ k : Nat, k < (fi E mm 45).toInt.toNat → ai E qp k = ai E qk k) (jm : fi E1 mm 45 = fi E mm 45) (jk : ai E1 qk = ai E qk) (jb : fi E2 qb 2 = fi E1 qb 2) (jp : ai E2 qp = ai E1 qp)
    (P1 : ((1 ≤ a.toInt ∧ a.toInt ≤ 10000 ∧ (fi E qb 2).toInt < 12) ∧ (fi E1 qb 2).toInt = (fi E qb 2).toInt + 1 ∧ ai E1 qp (fi E qb 2).toInt.toNat = a ∧ ∀ j : Nat, j ≠ (fi E qb 2).toInt.toNat → ai E1 qp j = ai E qp j) ∨ (¬ (1 ≤ a.toInt ∧ a.toInt ≤ 10000 ∧ (fi E qb 2).toInt < 12) ∧ (fi E1 qb 2).toInt = (fi E qb 2).toInt ∧ ∀ j : Nat, ai E1 qp j = ai E qp j))
    (P2 : ((1 ≤ a.toInt ∧ a.toInt ≤ 10000 ∧ (fi E1 mm 45).toInt < 12) ∧ (fi E2 mm 45).toInt = (fi E1 mm 45).toInt + 1 ∧ ai E2 qk (fi E1 mm 45).toInt.toNat = a ∧ ∀ j : Nat, j ≠ (fi E1 mm 45).toInt.toNat → ai E2 qk j = ai E1 qk j) ∨ (¬ (1 ≤ a.toInt ∧ a.toInt ≤ 10000 ∧ (fi E1 mm 45).toInt < 12) ∧ (fi E2 mm 45).toInt = (fi E1 mm 45).toInt ∧ ∀ j : Nat, ai E2 qk j = ai E1 qk j)) : (fi E2 qb 2).toInt = (fi E2 mm 45).toInt ∧ ∀ k : Nat, k < (fi E2 mm 45).toInt.toNat → ai E2 qp k = ai E2 qk k := by
  obtain ⟨j1, j2⟩ := jt
  rw [jm, jk, ← j1] at P2
  rw [← j1] at j2
  rw [jb, jp]
  rcases P1 with ⟨o1, c1, d1, e1⟩ | ⟨o1, c1, d1⟩
  · rcases P2 with ⟨o2, c2, d2, e2⟩ | ⟨o2, c2, d2⟩
    · rw [c1, c2]
      refine ⟨rfl, fun k hk => ?_⟩
      by_cases z : k = (fi E qb 2).toInt.toNat
      · rw [z, d1, d2]
      · rw [e1 k z, e2 k z]
        exact j2 k (by omega)
    · exact absurd o1 o2
  · rcases P2 with ⟨o2, c2, d2, e2⟩ | ⟨o2, c2, d2⟩
    · exact absurd o2 o1
    · rw [c1, c2]
      exact ⟨rfl, fun k hk => by rw [d1 k, d2 k]; exact j2 k hk⟩
