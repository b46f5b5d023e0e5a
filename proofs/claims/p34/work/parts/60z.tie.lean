/-! THE TAPES are alike, and so are the faults (p34) -/
abbrev TT (E : Ec) (mm q t u : Nat) : Prop := (fi E q 1).toInt = (fi E mm 20).toInt ∧ (fi E q 4).toInt = (fi E mm 5).toInt ∧ ∀ i : Nat, i < (fi E mm 20).toInt.toNat → ai E t i = ai E u i
def TH (L : List Nat) (τ : Nat → Ro) (E : Ec) (mm : Nat) : Prop := ∀ q ∈ L, τ q = (7, 0) → ∀ t ∈ L, τ t = (32, 0) → ∀ u ∈ L, τ u = (72, 0) → TT E mm q t u
theorem TH.cls {L : List Nat} {τ : Nat → Ro} {E E' : Ec} {wr : Ro → Bool} {mm : Nat} (J : TH L τ E mm) (hm : mm ∈ L) (tm : τ mm = (11, 0)) (hF : Fr L τ wr E E') (w1 : wr (7, 0) = false) (w2 : wr (11, 0) = false) (w3 : wr (32, 0) = false) (w4 : wr (72, 0) = false) : TH L τ E' mm := fun q hq tq t ht tt u hu tu => by
  have hJ := J q hq tq t ht tt u hu tu
  unfold TT at hJ ⊢
  rw [fi_cell (k := 1) (hF q hq (by rw [tq]; exact w1)), fi_cell (k := 4) (hF q hq (by rw [tq]; exact w1)), fi_cell (k := 20) (hF mm hm (by rw [tm]; exact w2)), fi_cell (k := 5) (hF mm hm (by rw [tm]; exact w2)), ai_cell (hF t ht (by rw [tt]; exact w3)), ai_cell (hF u hu (by rw [tu]; exact w4))]
  exact hJ
theorem TH.ref {L : List Nat} {τ : Nat → Ro} {E E' : Ec} {wr : Ro → Bool} {mm : Nat} (J : TH L τ E mm) (hF : Fr L τ wr E E') (w1 : wr (7, 0) = false) (w3 : wr (32, 0) = false) (w4 : wr (72, 0) = false) (h20 : fi E' mm 20 = fi E mm 20) (h5 : fi E' mm 5 = fi E mm 5) : TH L τ E' mm := fun q hq tq t ht tt u hu tu => by
  have hJ := J q hq tq t ht tt u hu tu
  unfold TT at hJ ⊢
  rw [fi_cell (k := 1) (hF q hq (by rw [tq]; exact w1)), fi_cell (k := 4) (hF q hq (by rw [tq]; exact w1)), h20, h5, ai_cell (hF t ht (by rw [tt]; exact w3)), ai_cell (hF u hu (by rw [tu]; exact w4))]
  exact hJ
theorem TT.feed {E E1 E2 : Ec} {mm q t u : Nat} {B : Nat → Int32} {r1 r2 : Int32} (jt : TT E mm q t u) (m20 : fi E1 mm 20 = fi E mm 20) (m5 : fi E1 mm 5 = fi E mm 5) (jv : ai E1 u = ai E u) (b1 : fi E2 q 1 = fi E1 q 1) (b4 : fi E2 q 4 = fi E1 q 4) (jq : ai E2 t = ai E1 t) (p4 : fi E1 q 4 = fi E q 4) (p5 : fi E2 mm 5 = fi E1 mm 5)
    (P1 : ((fi E q 1).toInt ≤ 100 ∧ r1.toInt = (fi E q 1).toInt + 20 ∧ (fi E1 q 1).toInt = (fi E q 1).toInt + 20 ∧ Fed (ai E1 t) (ai E t) (fi E q 1).toInt.toNat 20 B) ∨ (100 < (fi E q 1).toInt ∧ r1.toInt = -1 ∧ (fi E1 q 1).toInt = (fi E q 1).toInt ∧ ∀ i : Nat, ai E1 t i = ai E t i))
    (P2 : ((fi E1 mm 20).toInt ≤ 100 ∧ r2.toInt = (fi E1 mm 20).toInt + 20 ∧ (fi E2 mm 20).toInt = (fi E1 mm 20).toInt + 20 ∧ Fed (ai E2 u) (ai E1 u) (fi E1 mm 20).toInt.toNat 20 B) ∨ (100 < (fi E1 mm 20).toInt ∧ r2.toInt = -1 ∧ (fi E2 mm 20).toInt = (fi E1 mm 20).toInt ∧ ∀ i : Nat, ai E2 u i = ai E1 u i)) (h0 : 0 ≤ (fi E mm 20).toInt) : r1.toInt = r2.toInt ∧ TT E2 mm q t u := by
  unfold TT at jt ⊢
  obtain ⟨j1, j4, jb⟩ := jt
  rw [m20, jv] at P2
  rw [b1, b4, jq, p4, p5, m5]
  rcases P1 with ⟨x1, x2, x3, x4⟩ | ⟨x1, x2, x3, x4⟩
  · rcases P2 with ⟨y1, y2, y3, y4⟩ | ⟨y1, y2, y3, y4⟩
    · exact ⟨by omega, by omega, j4, fun i hi => Fed.both (by omega) x4 y4 jb i (by omega)⟩
    · exfalso
      omega
  · rcases P2 with ⟨y1, y2, y3, y4⟩ | ⟨y1, y2, y3, y4⟩
    · exfalso
      omega
    · exact ⟨by omega, by omega, j4, fun i hi => (x4 i).trans ((jb i (by omega)).trans (y4 i).symm)⟩
theorem TT.law {E E1 E2 : Ec} {mm q t u : Nat} {a : Int32} (jt : TT E mm q t u) (m20 : fi E1 mm 20 = fi E mm 20) (m5 : fi E1 mm 5 = fi E mm 5) (jv : ai E1 u = ai E u) (b1 : fi E2 q 1 = fi E1 q 1) (b4 : fi E2 q 4 = fi E1 q 4) (jq : ai E2 t = ai E1 t)
    (P1 : (0 ≤ a.toInt ∧ a.toInt ≤ (fi E q 1).toInt ∧ (fi E1 q 1).toInt = 0 ∧ DidF (fi E1 q 4).toInt (fi E1 q 5).toInt (readI (mkB (fun i => (ai E t i).toInt) a.toInt.toNat) a.toInt.toNat)) ∨ (¬ (0 ≤ a.toInt ∧ a.toInt ≤ (fi E q 1).toInt) ∧ (fi E1 q 1).toInt = (fi E q 1).toInt ∧ fi E1 q 4 = fi E q 4 ∧ ∀ i : Nat, ai E1 t i = ai E t i))
    (P2 : (0 ≤ a.toInt ∧ a.toInt ≤ (fi E1 mm 20).toInt ∧ (fi E2 mm 20).toInt = 0 ∧ DidF (fi E2 mm 5).toInt (fi E2 mm 6).toInt (readI (mkB (fun i => (ai E1 u i).toInt) a.toInt.toNat) a.toInt.toNat)) ∨ (¬ (0 ≤ a.toInt ∧ a.toInt ≤ (fi E1 mm 20).toInt) ∧ (fi E2 mm 20).toInt = (fi E1 mm 20).toInt ∧ fi E2 mm 5 = fi E1 mm 5 ∧ ∀ i : Nat, ai E2 u i = ai E1 u i)) : TT E2 mm q t u := by
  unfold TT at jt ⊢
  obtain ⟨j1, j4, jb⟩ := jt
  rw [m20, m5, jv] at P2
  rw [b1, b4, jq]
  rcases P1 with ⟨x1, x2, x3, x4⟩ | ⟨x1, x2, x3, x4⟩
  · rcases P2 with ⟨y1, y2, y3, y4⟩ | ⟨y1, y2, y3, y4⟩
    · have e : mkB (fun i => (ai E t i).toInt) a.toInt.toNat = mkB (fun i => (ai E u i).toInt) a.toInt.toNat := mk_eq (fun i hi => congrArg Int32.toInt (jb i (by omega)))
      rw [e] at x4
      exact ⟨by omega, x4.1.trans y4.1.symm, fun i hi => absurd hi (by omega)⟩
    · exfalso
      omega
  · rcases P2 with ⟨y1, y2, y3, y4⟩ | ⟨y1, y2, y3, y4⟩
    · exfalso
      omega
    · exact ⟨by omega, by rw [x3, y3]; exact j4, fun i hi => (x4 i).trans ((jb i (by omega)).trans (y4 i).symm)⟩
/-! TROUBLE is 2 on both sides at once, and then the places are alike (p34) -/
abbrev TW (E : Ec) (mm x q : Nat) : Prop := ((fi E x 9).toInt = 2 ↔ (fi E mm 3).toInt = 2) ∧ ((fi E mm 3).toInt = 2 → (fi E q 5).toInt = (fi E mm 6).toInt)
def TI (L : List Nat) (τ : Nat → Ro) (E : Ec) (mm : Nat) : Prop := TH L τ E mm ∧ ∀ x ∈ L, τ x = (0, 0) → ∀ q ∈ L, τ q = (7, 0) → TW E mm x q
theorem TW.same {E E' : Ec} {mm x q : Nat} (h : TW E mm x q) (h9 : fi E' x 9 = fi E x 9) (h5 : fi E' q 5 = fi E q 5) (h3 : fi E' mm 3 = fi E mm 3) (h6 : fi E' mm 6 = fi E mm 6) : TW E' mm x q := by
  unfold TW at h ⊢
  rw [h9, h5, h3, h6]
  exact h
theorem TW.not {E : Ec} {mm x q : Nat} (n9 : (fi E x 9).toInt ≠ 2) (n3 : (fi E mm 3).toInt ≠ 2) : TW E mm x q := ⟨⟨fun h => absurd h n9, fun h => absurd h n3⟩, fun h => absurd h n3⟩
theorem TI.cL {cy : Nat → ClassId} {L : List Nat} {τ : Nat → Ro} {E E' : Ec} {wr : Ro → Bool} {mm x : Nat} (J : TI L τ E mm) (hI : Inv TB cy L τ E) (hx : x ∈ L) (tx : τ x = (0, 0)) (hm : mm ∈ L) (tm : τ mm = (11, 0)) (hF : Fr L τ wr E E') (w1 : wr (7, 0) = false) (w2 : wr (11, 0) = false) (w3 : wr (32, 0) = false) (w4 : wr (72, 0) = false) (h9 : fi E' x 9 = fi E x 9) : TI L τ E' mm := ⟨J.1.cls hm tm hF w1 w2 w3 w4, fun y hy ty q hq tq => by
  have e : x = y := hI.2.2.2 _ hx _ hy (tx.trans ty.symm) (by rw [tx]; rfl)
  subst e
  exact (J.2 x hy ty q hq tq).same h9 (fi_cell (hF q hq (by rw [tq]; exact w1))) (fi_cell (hF mm hm (by rw [tm]; exact w2))) (fi_cell (hF mm hm (by rw [tm]; exact w2)))⟩
theorem TI.rL {L : List Nat} {τ : Nat → Ro} {E E' : Ec} {wr : Ro → Bool} {mm : Nat} (J : TI L τ E mm) (hF : Fr L τ wr E E') (w0 : wr (0, 0) = false) (w1 : wr (7, 0) = false) (w3 : wr (32, 0) = false) (w4 : wr (72, 0) = false) (h20 : fi E' mm 20 = fi E mm 20) (h5 : fi E' mm 5 = fi E mm 5) (h3 : fi E' mm 3 = fi E mm 3) (h6 : fi E' mm 6 = fi E mm 6) : TI L τ E' mm := ⟨J.1.ref hF w1 w3 w4 h20 h5, fun y hy ty q hq tq => (J.2 y hy ty q hq tq).same (fi_cell (hF y hy (by rw [ty]; exact w0))) (fi_cell (hF q hq (by rw [tq]; exact w1))) h3 h6⟩
theorem TI.rS {cy : Nat → ClassId} {L : List Nat} {τ : Nat → Ro} {E E' : Ec} {wr : Ro → Bool} {mm x : Nat} (J : TH L τ E mm) (hI : Inv TB cy L τ E) (hx : x ∈ L) (tx : τ x = (0, 0)) (hF : Fr L τ wr E E') (w0 : wr (0, 0) = false) (w1 : wr (7, 0) = false) (w3 : wr (32, 0) = false) (w4 : wr (72, 0) = false) (h20 : fi E' mm 20 = fi E mm 20) (h5 : fi E' mm 5 = fi E mm 5) (n9 : (fi E x 9).toInt ≠ 2) (n3 : (fi E' mm 3).toInt ≠ 2) : TI L τ E' mm := ⟨J.ref hF w1 w3 w4 h20 h5, fun y hy ty q hq tq => by
  have e : x = y := hI.2.2.2 _ hx _ hy (tx.trans ty.symm) (by rw [tx]; rfl)
  subst e
  exact TW.not (by rw [fi_cell (hF x hy (by rw [ty]; exact w0))]; exact n9) n3⟩
/-- behind feed or law: the two parts, told of the cells themselves -/
theorem TI.both {cy : Nat → ClassId} {L : List Nat} {τ : Nat → Ro} {E : Ec} {mm x q t u : Nat} (hI : Inv TB cy L τ E) (hx : x ∈ L) (tx : τ x = (0, 0)) (hq : q ∈ L) (tq : τ q = (7, 0)) (ht : t ∈ L) (tt : τ t = (32, 0)) (hu : u ∈ L) (tu : τ u = (72, 0)) (j1 : TT E mm q t u) (j2 : TW E mm x q) : TI L τ E mm := by
  refine ⟨fun q1 h1 t1 q2 h2 t2 q3 h3 t3 => ?_, fun y hy ty q1 h1 t1 => ?_⟩
  · have u1 : q = q1 := hI.2.2.2 _ hq _ h1 (tq.trans t1.symm) (by rw [tq]; rfl)
    subst u1
    have u2 : t = q2 := hI.2.2.2 _ ht _ h2 (tt.trans t2.symm) (by rw [tt]; rfl)
    subst u2
    have u3 : u = q3 := hI.2.2.2 _ hu _ h3 (tu.trans t3.symm) (by rw [tu]; rfl)
    subst u3
    exact j1
  · have u1 : q = q1 := hI.2.2.2 _ hq _ h1 (tq.trans t1.symm) (by rw [tq]; rfl)
    subst u1
    have u2 : x = y := hI.2.2.2 _ hx _ hy (tx.trans ty.symm) (by rw [tx]; rfl)
    subst u2
    exact j2
theorem TW.law {E E1 E2 : Ec} {mm q t u x : Nat} {a : Int32} (jt : TT E mm q t u) (m20 : fi E1 mm 20 = fi E mm 20) (jv : ai E1 u = ai E u) (b5 : fi E2 q 5 = fi E1 q 5) (b9 : fi E2 x 9 = fi E1 x 9)
    (P1 : (0 ≤ a.toInt ∧ a.toInt ≤ (fi E q 1).toInt ∧ (fi E1 q 1).toInt = 0 ∧ DidF (fi E1 q 4).toInt (fi E1 q 5).toInt (readI (mkB (fun i => (ai E t i).toInt) a.toInt.toNat) a.toInt.toNat) ∧ (((fi E1 q 4).toInt ≠ 0 ∧ (fi E1 x 9).toInt = 2) ∨ ((fi E1 q 4).toInt = 0 ∧ (fi E1 x 9).toInt ≠ 2))) ∨ (¬ (0 ≤ a.toInt ∧ a.toInt ≤ (fi E q 1).toInt) ∧ (fi E1 q 1).toInt = (fi E q 1).toInt ∧ fi E1 q 4 = fi E q 4 ∧ (∀ i : Nat, ai E1 t i = ai E t i) ∧ (fi E1 x 9).toInt ≠ 2))
    (P2 : (0 ≤ a.toInt ∧ a.toInt ≤ (fi E1 mm 20).toInt ∧ (fi E2 mm 20).toInt = 0 ∧ DidF (fi E2 mm 5).toInt (fi E2 mm 6).toInt (readI (mkB (fun i => (ai E1 u i).toInt) a.toInt.toNat) a.toInt.toNat) ∧ (((fi E2 mm 5).toInt ≠ 0 ∧ (fi E2 mm 3).toInt = 2) ∨ ((fi E2 mm 5).toInt = 0 ∧ (fi E2 mm 3).toInt ≠ 2))) ∨ (¬ (0 ≤ a.toInt ∧ a.toInt ≤ (fi E1 mm 20).toInt) ∧ (fi E2 mm 20).toInt = (fi E1 mm 20).toInt ∧ fi E2 mm 5 = fi E1 mm 5 ∧ (∀ i : Nat, ai E2 u i = ai E1 u i) ∧ (fi E2 mm 3).toInt ≠ 2)) : TW E2 mm x q := by
  unfold TT at jt
  obtain ⟨j1, -, jb⟩ := jt
  rw [m20, jv] at P2
  rcases P1 with ⟨x1, x2, x3, x4, x5⟩ | ⟨x1, x2, x3, x4, x5⟩
  · rcases P2 with ⟨y1, y2, y3, y4, y5⟩ | ⟨y1, y2, y3, y4, y5⟩
    · have e : mkB (fun i => (ai E t i).toInt) a.toInt.toNat = mkB (fun i => (ai E u i).toInt) a.toInt.toNat := mk_eq (fun i hi => congrArg Int32.toInt (jb i (by omega)))
      rw [e] at x4
      have f1 := x4.1
      have f2 := y4.1
      unfold TW
      rw [b5, b9]
      refine ⟨by omega, fun h => ?_⟩
      have ne : (readI (mkB (fun i => (ai E u i).toInt) a.toInt.toNat) a.toInt.toNat).1 ≠ 0 := by omega
      exact (x4.2 ne).trans (y4.2 ne).symm
    · exfalso
      omega
  · rcases P2 with ⟨y1, y2, y3, y4, y5⟩ | ⟨y1, y2, y3, y4, y5⟩
    · exfalso
      omega
    · exact TW.not (by rw [b9]; exact x5) y5
