theorem grow_set {E E' : Ec} {ql s : Nat} {i x : Int32} (P : isSet E E' ql i.toNatClampNeg x) (hx : x.toInt = 1) (hi : i.toNatClampNeg = s) : Grow E E' ql s := fun j => by
  by_cases c : j = i.toNatClampNeg
  · exact Or.inr ⟨c.trans hi, by rw [c, P.2.1]; exact hx⟩
  · exact Or.inl (P.2.2 j c)
theorem fs_next {Q : Int32 → Prop} {s s1 : Int32} (h : ∀ y : Int32, 0 ≤ y.toInt → y.toInt < s.toInt → Q y) (hs : Q s) (h1 : s1.toInt = s.toInt + 1) : ∀ y : Int32, 0 ≤ y.toInt → y.toInt < s1.toInt → Q y := fun y a b => by
  by_cases c : y.toInt = s.toInt
  · rw [(fa_eq y s).mpr c]
    exact hs
  · exact h y a (by omega)
theorem slot_at {E : Ec} {ql qr qm qd : Nat} (h : SlotW E ql qr qm qd) {s w i im id vm vd : Int32} (s0 : 0 ≤ s.toInt) (s1 : s.toInt < 50) (w0 : 0 ≤ w.toInt) (hw : w.toInt < 2 * (ai E qr s.toInt.toNat).toInt) (i0 : 0 ≤ i.toInt) (him : im.toInt = 8 * s.toInt + w.toInt) (hid : id.toInt = 64 * s.toInt + 8 * w.toInt + i.toInt) (hvm : ai E qm im.toNatClampNeg = vm) (hvd : ai E qd id.toNatClampNeg = vd) (hi : i.toInt < vm.toInt) (hv : 15 < vd.toInt) : (ai E ql s.toInt.toNat).toInt = 1 := by
  refine h s.toInt.toNat (by omega) w.toInt.toNat (by omega) i.toInt.toNat ?_ ?_
  · rw [show 8 * s.toInt.toNat + w.toInt.toNat = im.toNatClampNeg from by show _ = im.toInt.toNat; omega, hvm]
    omega
  · rw [show 64 * s.toInt.toNat + 8 * w.toInt.toNat + i.toInt.toNat = id.toNatClampNeg from by show _ = id.toInt.toNat; omega, hvd]
    exact hv
theorem slot_reset2 {E E1 E2 : Ec} {ql qr qm qd s : Nat} {x y : Int32} (h : SlotW E ql qr qm qd) (P : isSet E E1 ql s x) (Q : isSet E1 E2 qr s y) (hy : y.toInt = 0) (n1 : ql ≠ qr) (n2 : qm ≠ ql) (n3 : qd ≠ ql) (n4 : qm ≠ qr) (n5 : qd ≠ qr) : SlotW E2 ql qr qm qd := by
  intro s' hs w hw
  by_cases c : s' = s
  · subst c
    rw [Q.2.1] at hw
    omega
  · have e1 : ai E2 ql s' = ai E ql s' := (congrFun (ai_cell (Q.1 ql n1)) s').trans (P.2.2 s' c)
    have e2 : ai E2 qr s' = ai E qr s' := (Q.2.2 s' c).trans (congrFun (ai_cell (P.1 qr (Ne.symm n1))) s')
    have e3 : ai E2 qm = ai E qm := (ai_cell (Q.1 qm n4)).trans (ai_cell (P.1 qm n2))
    have e4 : ai E2 qd = ai E qd := (ai_cell (Q.1 qd n5)).trans (ai_cell (P.1 qd n3))
    rw [e2] at hw
    unfold PartOK
    rw [e1, e3, e4]
    exact h s' hs w hw
/-- a part of a slot behind a sum at the next place -/
theorem part_sum {cy : Nat → ClassId} {L : List Nat} {τ : Nat → Ro} {E E' : Ec} {ql qm qd s w w1 : Nat} (hI : Inv TB cy L τ E) (hm : qm ∈ L) (tm : τ qm = (77, 0)) (h : PartOK E ql qm qd s w) (hg : Grow E E' ql s) (h2 : ∀ j : Nat, j ≠ 8 * s + w1 → ai E' qm j = ai E qm j) (h3 : ∀ j : Nat, ¬ (64 * s + 8 * w1 ≤ j ∧ j < 64 * s + 8 * w1 + 8) → ai E' qd j = ai E qd j) (hs : s < 50) (hw : w1 = w + 1) (hw8 : w < 8) : PartOK E' ql qm qd s w :=
  h.keep hg (h2 _ (by omega)) (ai_rng hI hm tm rfl (by omega)).2 (fun i hi => h3 _ (by omega))
theorem ai_rngz {cy : Nat → ClassId} {L : List Nat} {τ : Nat → Ro} {E : Ec} {a n j j0 : Nat} {r : Ro} {w : Nat → Int × Int} (hI : Inv TB cy L τ E) (ha : a ∈ L) (hτ : τ a = r) (hr : TB.2.1 r = some (j0, n, w)) (hj : j < n) : (w j).1 ≤ (ai E a j).toInt ∧ (ai E a j).toInt ≤ (w j).2 := by
  subst hτ
  obtain ⟨f, he, hf⟩ := hI.2.1 a ha _ _ _ hr
  have : ai E a j = f j := by simp [ai, he]
  rw [this]
  exact hf j hj
