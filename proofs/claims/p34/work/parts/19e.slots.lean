theorem pb_44 {i : Int32} (h0 : 0 ≤ i.toInt) (h : i.toInt % 53 = 44) : pastB i.toNatClampNeg = (0, 8) := by
  show nowB (i.toInt.toNat % 53) = (0, 8)
  exact nb_44 (by omega)
/-- the shifting loop of act, one step on -/
theorem sh_step {E0 E E' : Ec} {p : Nat} {k i x k1 : Int32} (h : ∀ j : Nat, j < 2120 → ai E p j = if (j : Int) + 53 < k.toInt then ai E0 p (j + 53) else ai E0 p j) (P : isSet E E' p i.toNatClampNeg x) (hx : ai E p k.toNatClampNeg = x) (hi : i.toInt = k.toInt - 53) (h53 : 53 ≤ k.toInt) (hk : k.toInt < 2120) (hk1 : k1.toInt = k.toInt + 1) : ∀ j : Nat, j < 2120 → ai E' p j = if (j : Int) + 53 < k1.toInt then ai E0 p (j + 53) else ai E0 p j := by
  intro j hj
  have ei : i.toNatClampNeg = i.toInt.toNat := rfl
  have ek : k.toNatClampNeg = k.toInt.toNat := rfl
  by_cases q : j = i.toNatClampNeg
  · subst q
    rw [P.2.1, ← hx, h _ (by omega), if_neg (by omega), if_pos (by omega)]
    congr 1
    omega
  · rw [P.2.2 j q, h j hj]
    by_cases c : (j : Int) + 53 < k.toInt
    · rw [if_pos c, if_pos (by omega)]
    · rw [if_neg c, if_neg (by omega)]
/-- the copying loop of act, one step on -/
theorem cp_step {E0 E E' : Ec} {m p q : Nat} {k i x k1 a : Int32} (f1 : ChW E m p (ai E0 q)) (f2 : ∀ j : Nat, (j : Int) < k.toInt → ai E p (53 * (fi E m 2).toInt.toNat + j) = ai E0 q j) (hq : E q = E0 q) (ha : fi E m 2 = a) (h0 : 0 ≤ a.toInt) (hi : i.toInt = 53 * a.toInt + k.toInt) (hk0 : 0 ≤ k.toInt) (hx : ai E q k.toNatClampNeg = x) (P : isSet E E' p i.toNatClampNeg x) (hne : m ≠ p) (hk1 : k1.toInt = k.toInt + 1) : ChW E' m p (ai E0 q) ∧ ∀ j : Nat, (j : Int) < k1.toInt → ai E' p (53 * (fi E' m 2).toInt.toNat + j) = ai E0 q j := by
  have e2 : fi E' m 2 = fi E m 2 := fi_set P hne
  have ei : i.toNatClampNeg = i.toInt.toNat := rfl
  have ek : k.toNatClampNeg = k.toInt.toNat := rfl
  have ea : (fi E m 2).toInt = a.toInt := by rw [ha]
  refine ⟨f1.lt e2 (fun j hj => P.2.2 j (by omega)), fun j hj => ?_⟩
  rw [e2]
  by_cases c : j = k.toInt.toNat
  · subst c
    have : 53 * (fi E m 2).toInt.toNat + k.toInt.toNat = i.toNatClampNeg := by omega
    rw [this, P.2.1, ← hx, ai_cell hq]
    rfl
  · rw [P.2.2 _ (by omega), f2 j (by omega)]
theorem act_post {cy : Nat → ClassId} {L : List Nat} {τ : Nat → Ro} {E E' : Ec} {m qn qp : Nat} (hI : Inv TB cy L τ E') (hq : qn ∈ L) (tq : τ qn = (60, 0)) (hp : qp ∈ L) (tp : τ qp = (61, 0)) (h : ∀ T : Nat → Int32, Link (ai E qn) T → ChW E' m qp T) : ∀ q ∈ L, τ q = (60, 0) → ∀ p ∈ L, τ p = (61, 0) → ∀ T : Nat → Int32, Link (ai E q) T → ChW E' m p T := by
  intro q' hq' tq' p' hp' tp'
  have u2 : qn = q' := hI.2.2.2 _ hq _ hq' (tq.trans tq'.symm) (by rw [tq]; rfl)
  have u3 : qp = p' := hI.2.2.2 _ hp _ hp' (tp.trans tp'.symm) (by rw [tp]; rfl)
  subst u2
  subst u3
  exact h
/-- undo's loop, one step on -/
theorem un_step {E0 E E' : Ec} {m p q : Nat} {k i x k1 a : Int32} (f2 : ∀ j : Nat, (j : Int) < k.toInt → ai E q j = ai E0 p (53 * (fi E m 2).toInt.toNat + j)) (hp : E p = E0 p) (ha : fi E m 2 = a) (h0 : 0 ≤ a.toInt) (hi : i.toInt = 53 * a.toInt + k.toInt) (hk0 : 0 ≤ k.toInt) (hx : ai E p i.toNatClampNeg = x) (P : isSet E E' q k.toNatClampNeg x) (hne : m ≠ q) (hk1 : k1.toInt = k.toInt + 1) : ∀ j : Nat, (j : Int) < k1.toInt → ai E' q j = ai E0 p (53 * (fi E' m 2).toInt.toNat + j) := by
  have e2 : fi E' m 2 = fi E m 2 := fi_set P hne
  have ei : i.toNatClampNeg = i.toInt.toNat := rfl
  have ek : k.toNatClampNeg = k.toInt.toNat := rfl
  have ea : (fi E m 2).toInt = a.toInt := by rw [ha]
  intro j hj
  rw [e2]
  by_cases c : j = k.toNatClampNeg
  · subst c
    have : 53 * (fi E m 2).toInt.toNat + k.toNatClampNeg = i.toNatClampNeg := by omega
    rw [this, P.2.1, ← hx, ai_cell hp]
  · rw [P.2.2 j c, f2 j (by omega)]
theorem Link.law {S T : Nat → Int32} (n : Nat) (hn : (S 44).toInt = n) (ht : (T 44).toInt = n + 1) (ho : ∀ j : Nat, 45 ≤ j → j ≤ 52 → j ≠ 45 + n → T j = S j) : Link S T := ⟨T (45 + n), fun y ⟨i, h1, h2, h3⟩ => by
  by_cases c : i = n
  · subst c
    exact Or.inr h3.symm
  · exact Or.inl ⟨i, h1, by omega, by rw [← ho (45 + i) (by omega) (by omega) (by omega)]; exact h3⟩⟩
theorem Link.rep {S T : Nat → Int32} (ht : (T 44).toInt ≤ (S 44).toInt) (ho : ∀ j : Nat, 45 ≤ j → j ≤ 52 → T j = S j) : Link S T := ⟨0, fun y ⟨i, h1, h2, h3⟩ => Or.inl ⟨i, h1, by omega, by rw [← ho (45 + i) (by omega) (by omega)]; exact h3⟩⟩
/-- SLOTS -/
theorem SlotW.same {E E' : Ec} {ql qr qm qd : Nat} (h : SlotW E ql qr qm qd) (h1 : E' ql = E ql) (h2 : E' qr = E qr) (h3 : E' qm = E qm) (h4 : E' qd = E qd) : SlotW E' ql qr qm qd := by
  unfold SlotW PartOK
  rw [ai_cell h1, ai_cell h2, ai_cell h3, ai_cell h4]
  exact h
theorem PartOK.same {E E' : Ec} {ql qm qd s w : Nat} (h : PartOK E ql qm qd s w) (h1 : E' ql = E ql) (h3 : E' qm = E qm) (h4 : E' qd = E qd) : PartOK E' ql qm qd s w := by
  unfold PartOK
  rw [ai_cell h1, ai_cell h3, ai_cell h4]
  exact h
theorem slot_reset {E E1 E2 : Ec} {ql qr qm qd s : Nat} (h : SlotW E ql qr qm qd) (P : isSet E E1 ql s 0) (Q : isSet E1 E2 qr s 0) (n1 : ql ≠ qr) (n2 : qm ≠ ql) (n3 : qd ≠ ql) (n4 : qm ≠ qr) (n5 : qd ≠ qr) : SlotW E2 ql qr qm qd := by
  intro s' hs w hw
  by_cases c : s' = s
  · subst c
    rw [Q.2.1] at hw
    have : (0 : Int32).toInt = 0 := rfl
    omega
  · have e1 : ai E2 ql s' = ai E ql s' := (congrFun (ai_cell (Q.1 ql n1)) s').trans (P.2.2 s' c)
    have e2 : ai E2 qr s' = ai E qr s' := (Q.2.2 s' c).trans (congrFun (ai_cell (P.1 qr (Ne.symm n1))) s')
    have e3 : ai E2 qm = ai E qm := (ai_cell (Q.1 qm n4)).trans (ai_cell (P.1 qm n2))
    have e4 : ai E2 qd = ai E qd := (ai_cell (Q.1 qd n5)).trans (ai_cell (P.1 qd n3))
    rw [e2] at hw
    unfold PartOK
    rw [e1, e3, e4]
    exact h s' hs w hw
theorem slot_sum {E E' : Ec} {ql qr qm qd s w : Nat} (h : SlotW E ql qr qm qd) (hg : Grow E E' ql s) (hr : E' qr = E qr) (hm : ∀ j : Nat, j ≠ 8 * s + w → ai E' qm j = ai E qm j) (hd : ∀ j : Nat, ¬ (64 * s + 8 * w ≤ j ∧ j < 64 * s + 8 * w + 8) → ai E' qd j = ai E qd j) (hw : w < 8) (h2 : 2 * (ai E qr s).toInt ≤ w) (r4 : ∀ j : Nat, j < 50 → (ai E qr j).toInt ≤ 4) (m8 : ∀ j : Nat, j < 400 → (ai E qm j).toInt ≤ 8) : SlotW E' ql qr qm qd := by
  intro s' hs w' hw'
  rw [ai_cell hr] at hw'
  have := r4 s' hs
  have hne : s' ≠ s ∨ w' ≠ w := by
    by_cases c : s' = s
    · subst c
      exact Or.inr (by omega)
    · exact Or.inl c
  exact (h s' hs w' hw').keep hg (hm _ (by omega)) (m8 _ (by omega)) (fun i hi => hd _ (by omega))
theorem slot_inc {E E' : Ec} {ql qr qm qd s : Nat} {r x : Int32} (h : SlotW E ql qr qm qd) (hr : ai E qr s = r) (h0 : 0 ≤ r.toInt) (hx : x.toInt = r.toInt + 1) (p1 : PartOK E ql qm qd s (2 * r.toInt.toNat)) (p2 : PartOK E ql qm qd s (2 * r.toInt.toNat + 1)) (P : isSet E E' qr s x) (n1 : ql ≠ qr) (n4 : qm ≠ qr) (n5 : qd ≠ qr) : SlotW E' ql qr qm qd := by
  intro s' hs w hw
  have e1 : E' ql = E ql := P.1 ql n1
  have e3 : E' qm = E qm := P.1 qm n4
  have e4 : E' qd = E qd := P.1 qd n5
  refine PartOK.same (E := E) ?_ e1 e3 e4
  by_cases c : s' = s
  · subst c
    rw [P.2.1, hx] at hw
    by_cases c1 : w = 2 * r.toInt.toNat
    · rw [c1]; exact p1
    · by_cases c2 : w = 2 * r.toInt.toNat + 1
      · rw [c2]; exact p2
      · exact h s' hs w (by rw [hr]; omega)
  · rw [P.2.2 s' c] at hw
    exact h s' hs w hw
/-- a sum's parts so far -/
def Parts (E : Ec) (ql qd s b : Nat) (n : Int32) : Prop := ∀ i : Nat, (i : Int) < n.toInt → 15 < (ai E qd (b + i)).toInt → (ai E ql s).toInt = 1
theorem Parts.keep {E E' : Ec} {ql qd s b : Nat} {n : Int32} (h : Parts E ql qd s b n) (hg : Grow E E' ql s) (hd : E' qd = E qd) : Parts E' ql qd s b n := fun i hi hn => by
  rw [ai_cell hd] at hn
  exact hg.one (h i hi hn)
theorem Parts.set {E E' : Ec} {ql qd s b : Nat} {n n1 i x : Int32} (h : Parts E ql qd s b n) (hx : 15 < x.toInt → (ai E ql s).toInt = 1) (P : isSet E E' qd i.toNatClampNeg x) (hi : i.toInt = b + n.toInt) (h0 : 0 ≤ n.toInt) (h1 : n1.toInt = n.toInt + 1) (hne : ql ≠ qd) : Parts E' ql qd s b n1 := fun k hk hn => by
  rw [ai_cell (P.1 ql hne)]
  have ei : i.toNatClampNeg = i.toInt.toNat := rfl
  by_cases c : b + k = i.toNatClampNeg
  · rw [c, P.2.1] at hn
    exact hx hn
  · rw [P.2.2 _ c] at hn
    exact h k (by omega) hn
theorem Parts.ok {E E' : Ec} {ql qm qd s w : Nat} {n i : Int32} (h : Parts E ql qd s (64 * s + 8 * w) n) (P : isSet E E' qm i.toNatClampNeg n) (hi : i.toInt.toNat = 8 * s + w) (n1 : ql ≠ qm) (n2 : qd ≠ qm) : PartOK E' ql qm qd s w := by
  intro k hk hn
  have ei : i.toNatClampNeg = 8 * s + w := hi
  rw [← ei, P.2.1] at hk
  rw [ai_cell (P.1 qd n2)] at hn
  rw [ai_cell (P.1 ql n1)]
  exact h k hk hn
/-- what the arrays' places are within -/
theorem ai_rng {cy : Nat → ClassId} {L : List Nat} {τ : Nat → Ro} {E : Ec} {a n j : Nat} {r : Ro} {w : Nat → Int × Int} (hI : Inv TB cy L τ E) (ha : a ∈ L) (hτ : τ a = r) (hr : TB.2.1 r = some (0, n, w)) (hj : j < n) : (w j).1 ≤ (ai E a j).toInt ∧ (ai E a j).toInt ≤ (w j).2 := by
  subst hτ
  obtain ⟨f, he, hf⟩ := hI.2.1 a ha _ _ _ hr
  have : ai E a j = f j := by simp [ai, he]
  rw [this]
  exact hf j hj
theorem sl_sum {cy : Nat → ClassId} {L : List Nat} {τ : Nat → Ro} {E E' : Ec} {ql qr qm qd s w : Nat} (hI : Inv TB cy L τ E) (hr : qr ∈ L) (tr : τ qr = (76, 0)) (hm : qm ∈ L) (tm : τ qm = (77, 0)) (h : SlotW E ql qr qm qd) (hg : Grow E E' ql s) (h1 : E' qr = E qr) (h2 : ∀ j : Nat, j ≠ 8 * s + w → ai E' qm j = ai E qm j) (h3 : ∀ j : Nat, ¬ (64 * s + 8 * w ≤ j ∧ j < 64 * s + 8 * w + 8) → ai E' qd j = ai E qd j) (hw : w < 8) (h4 : 2 * (ai E qr s).toInt ≤ w) : SlotW E' ql qr qm qd :=
  slot_sum h hg h1 h2 h3 hw h4 (fun j hj => (ai_rng hI hr tr rfl hj).2) (fun j hj => (ai_rng hI hm tm rfl hj).2)
theorem SlotOK.same {cy : Nat → ClassId} {L : List Nat} {τ : Nat → Ro} {E E' : Ec} (h : SlotOK L τ E) (hI : Inv TB cy L τ E') {ql qr qm qd : Nat} (hl : ql ∈ L) (tl : τ ql = (75, 0)) (hr : qr ∈ L) (tr : τ qr = (76, 0)) (hm : qm ∈ L) (tm : τ qm = (77, 0)) (hd : qd ∈ L) (td : τ qd = (79, 0)) (h1 : E' ql = E ql) (h2 : E' qr = E qr) (h3 : E' qm = E qm) (h4 : E' qd = E qd) : SlotOK L τ E' :=
  SlotOK.fin hI hl tl hr tr hm tm hd td ((h ql hl tl qr hr tr qm hm tm qd hd td).same h1 h2 h3 h4)
