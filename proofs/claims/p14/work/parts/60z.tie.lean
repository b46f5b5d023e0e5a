/-! THE TAPES are alike, and so are the faults (p14) -/
abbrev TT (E : Ec) (mm q t u : Nat) : Prop := (fi E q 1).toInt = (fi E mm 20).toInt ∧ (fi E q 4).toInt = (fi E mm 5).toInt ∧ ∀ i : Nat, i < (fi E mm 20).toInt.toNat → ai E t i = ai E u i
def TI (L : List Nat) (τ : Nat → Ro) (E : Ec) (mm : Nat) : Prop := ∀ q ∈ L, τ q = (7, 0) → ∀ t ∈ L, τ t = (32, 0) → ∀ u ∈ L, τ u = (72, 0) → TT E mm q t u
theorem TI.cls {L : List Nat} {τ : Nat → Ro} {E E' : Ec} {wr : Ro → Bool} {mm : Nat} (J : TI L τ E mm) (hm : mm ∈ L) (tm : τ mm = (11, 0)) (hF : Fr L τ wr E E') (w1 : wr (7, 0) = false) (w2 : wr (11, 0) = false) (w3 : wr (32, 0) = false) (w4 : wr (72, 0) = false) : TI L τ E' mm := fun q hq tq t ht tt u hu tu => by
  have hJ := J q hq tq t ht tt u hu tu
  unfold TT at hJ ⊢
  rw [fi_cell (k := 1) (hF q hq (by rw [tq]; exact w1)), fi_cell (k := 4) (hF q hq (by rw [tq]; exact w1)), fi_cell (k := 20) (hF mm hm (by rw [tm]; exact w2)), fi_cell (k := 5) (hF mm hm (by rw [tm]; exact w2)), ai_cell (hF t ht (by rw [tt]; exact w3)), ai_cell (hF u hu (by rw [tu]; exact w4))]
  exact hJ
theorem TI.ref {L : List Nat} {τ : Nat → Ro} {E E' : Ec} {wr : Ro → Bool} {mm : Nat} (J : TI L τ E mm) (hF : Fr L τ wr E E') (w1 : wr (7, 0) = false) (w3 : wr (32, 0) = false) (w4 : wr (72, 0) = false) (h20 : fi E' mm 20 = fi E mm 20) (h5 : fi E' mm 5 = fi E mm 5) : TI L τ E' mm := fun q hq tq t ht tt u hu tu => by
  have hJ := J q hq tq t ht tt u hu tu
  unfold TT at hJ ⊢
  rw [fi_cell (k := 1) (hF q hq (by rw [tq]; exact w1)), fi_cell (k := 4) (hF q hq (by rw [tq]; exact w1)), h20, h5, ai_cell (hF t ht (by rw [tt]; exact w3)), ai_cell (hF u hu (by rw [tu]; exact w4))]
  exact hJ
theorem TI.feed {E E1 E2 : Ec} {mm q t u : Nat} {B : Nat → Int32} {r1 r2 : Int32} (jt : TT E mm q t u) (m20 : fi E1 mm 20 = fi E mm 20) (m5 : fi E1 mm 5 = fi E mm 5) (jv : ai E1 u = ai E u) (b1 : fi E2 q 1 = fi E1 q 1) (b4 : fi E2 q 4 = fi E1 q 4) (jq : ai E2 t = ai E1 t) (p4 : fi E1 q 4 = fi E q 4) (p5 : fi E2 mm 5 = fi E1 mm 5)
    (P1 : ((fi E q 1).toInt ≤ 100 ∧ r1.toInt = (fi E q 1).toInt + 20 ∧ (fi E1 q 1).toInt = (fi E q 1).toInt + 20 ∧ Fed (ai E1 t) (ai E t) (fi E q 1).toInt.toNat 20 B) ∨ (100 < (fi E q 1).toInt ∧ r1.toInt = -1 ∧ (fi E1 q 1).toInt = (fi E q 1).toInt ∧ ∀ i : Nat, ai E1 t i = ai E t i))
    (P2 : ((fi E1 mm 20).toInt ≤ 100 ∧ r2.toInt = (fi E1 mm 20).toInt + 20 ∧ (fi E2 mm 20).toInt = (fi E1 mm 20).toInt + 20 ∧ Fed (ai E2 u) (ai E1 u) (fi E1 mm 20).toInt.toNat 20 B) ∨ (100 < (fi E1 mm 20).toInt ∧ r2.toInt = -1 ∧ (fi E2 mm 20).toInt = (fi E1 mm 20).toInt ∧ ∀ i : Nat, ai E2 u i = ai E1 u i)) (h0 : 0 ≤ (fi E mm 20).toInt) : r1.toInt = r2.toInt ∧ TT E2 mm q t u := by
  unfold TT at jt ⊢
  obtain ⟨j1, j4, jb⟩ := jt
  rw [m20, jv] at P2
  rw [b1, b4, jq, p4, p5, m5]
  rcases P1 with ⟨x1, x2, x3, x4⟩ | ⟨x1, x2, x3, x4⟩
  · rcases P2 with ⟨y1, y2, y3, y4⟩ | ⟨y1, y2, y3, y4⟩
    · exact ⟨by omega, by omega, j4, fun i hi => Fed.both (by omega) x4 y4 jb i (by omega)⟩
    · exfalso
      omega
  · rcases P2 with ⟨y1, y2, y3, y4⟩ | ⟨y1, y2, y3, y4⟩
    · exfalso
      omega
    · exact ⟨by omega, by omega, j4, fun i hi => (x4 i).trans ((jb i (by omega)).trans (y4 i).symm)⟩
theorem TI.law {E E1 E2 : Ec} {mm q t u : Nat} {a : Int32} (jt : TT E mm q t u) (m20 : fi E1 mm 20 = fi E mm 20) (m5 : fi E1 mm 5 = fi E mm 5) (jv : ai E1 u = ai E u) (b1 : fi E2 q 1 = fi E1 q 1) (b4 : fi E2 q 4 = fi E1 q 4) (jq : ai E2 t = ai E1 t)
    (P1 : (0 ≤ a.toInt ∧ a.toInt ≤ (fi E q 1).toInt ∧ (fi E1 q 1).toInt = 0 ∧ DidF (fi E1 q 4).toInt (fi E1 q 5).toInt (readI (mkB (fun i => (ai E t i).toInt) a.toInt.toNat) a.toInt.toNat)) ∨ (¬ (0 ≤ a.toInt ∧ a.toInt ≤ (fi E q 1).toInt) ∧ (fi E1 q 1).toInt = (fi E q 1).toInt ∧ fi E1 q 4 = fi E q 4 ∧ ∀ i : Nat, ai E1 t i = ai E t i))
    (P2 : (0 ≤ a.toInt ∧ a.toInt ≤ (fi E1 mm 20).toInt ∧ (fi E2 mm 20).toInt = 0 ∧ DidF (fi E2 mm 5).toInt (fi E2 mm 6).toInt (readI (mkB (fun i => (ai E1 u i).toInt) a.toInt.toNat) a.toInt.toNat)) ∨ (¬ (0 ≤ a.toInt ∧ a.toInt ≤ (fi E1 mm 20).toInt) ∧ (fi E2 mm 20).toInt = (fi E1 mm 20).toInt ∧ fi E2 mm 5 = fi E1 mm 5 ∧ ∀ i : Nat, ai E2 u i = ai E1 u i)) : TT E2 mm q t u := by
  unfold TT at jt ⊢
  obtain ⟨j1, j4, jb⟩ := jt
  rw [m20, m5, jv] at P2
  rw [b1, b4, jq]
  rcases P1 with ⟨x1, x2, x3, x4⟩ | ⟨x1, x2, x3, x4⟩
  · rcases P2 with ⟨y1, y2, y3, y4⟩ | ⟨y1, y2, y3, y4⟩
    · have e : mkB (fun i => (ai E t i).toInt) a.toInt.toNat = mkB (fun i => (ai E u i).toInt) a.toInt.toNat := mk_eq (fun i hi => congrArg Int32.toInt (jb i (by omega)))
      rw [e] at x4
      exact ⟨by omega, x4.1.trans y4.1.symm, fun i hi => absurd hi (by omega)⟩
    · exfalso
      omega
  · rcases P2 with ⟨y1, y2, y3, y4⟩ | ⟨y1, y2, y3, y4⟩
    · exfalso
      omega
    · exact ⟨by omega, by rw [x3, y3]; exact j4, fun i hi => (x4 i).trans ((jb i (by omega)).trans (y4 i).symm)⟩
