/-! THE LAW'S LOOP: what holds between two lines of the script -/
def LI (cL : ClassId) (L : List Nat) (τ : Nat → Ro) (E : Ec) (x mm ao : Nat) : Prop := (x ∈ L ∧ τ x = (0, 0)) ∧ (mm ∈ L ∧ τ mm = (11, 0)) ∧ (ao ∈ L ∧ τ ao = (250, 0) ∧ ∃ f : Nat → Int64, E ao = .inl (cL, 1, .inr (.inl f))) ∧ Chain L τ E ∧ SlotOK L τ E ∧ ∀ b ∈ L, τ b ≠ (210, 0)
theorem Chain.fw {cy : Nat → ClassId} {L : List Nat} {τ : Nat → Ro} {E E' : Ec} {wr : Ro → Bool} {mm : Nat} (hC : Chain L τ E) (hI : Inv TB cy L τ E) (hI' : Inv TB cy L τ E') (hm : mm ∈ L) (tm : τ mm = (11, 0)) (hF : Fr L τ wr E E') (h60 : wr (60, 0) = false) (h61 : wr (61, 0) = false) (h2 : fi E' mm 2 = fi E mm 2) : Chain L τ E' := by
  obtain ⟨q, hq, tq⟩ := ref_of (k := 0) hI hm tm rfl rfl
  obtain ⟨p, hp, tp⟩ := ref_of (k := 1) hI hm tm rfl rfl
  have tq : τ q = (60, 0) := tq
  have tp : τ p = (61, 0) := tp
  exact Chain.same hC hI' hm tm hq tq hp tp (hF q hq (by rw [tq]; exact h60)) (hF p hp (by rw [tp]; exact h61)) h2
/-- a call of the class -/
theorem LI.cls {cL : ClassId} {cy : Nat → ClassId} {L : List Nat} {τ : Nat → Ro} {E E' : Ec} {wr : Ro → Bool} {x mm ao : Nat} (J : LI cL L τ E x mm ao) (hI : Inv TB cy L τ E) (hI' : Inv TB cy L τ E') (hF : Fr L τ wr E E') (w1 : wr (60, 0) = false) (w2 : wr (61, 0) = false) (w3 : wr (11, 0) = false) (w4 : wr (250, 0) = false) (w5 : wr (75, 0) = false) (w6 : wr (76, 0) = false) (w7 : wr (77, 0) = false) (w8 : wr (79, 0) = false) : LI cL L τ E' x mm ao := by
  obtain ⟨jx, jm, ⟨ja, ta, f, ef⟩, jc, js, jr⟩ := J
  refine ⟨jx, jm, ⟨ja, ta, f, (hF ao ja (by rw [ta]; exact w4)).trans ef⟩, jc.fw hI hI' jm.1 jm.2 hF w1 w2 ?_, SlotOK.fr hF w5 w6 w7 w8 js, jr⟩
  simp only [fi, fv, hF mm jm.1 (by rw [jm.2]; exact w3)]
/-- a call of the reference that leaves the chain -/
theorem LI.ref {cL : ClassId} {L : List Nat} {τ : Nat → Ro} {E E' : Ec} {wr : Ro → Bool} {x mm ao : Nat} (J : LI cL L τ E x mm ao) (hF : Fr L τ wr E E') (hC : Chain L τ E') (hS : SlotOK L τ E') (w4 : wr (250, 0) = false) : LI cL L τ E' x mm ao := by
  obtain ⟨jx, jm, ⟨ja, ta, f, ef⟩, jc, js, jr⟩ := J
  exact ⟨jx, jm, ⟨ja, ta, f, (hF ao ja (by rw [ta]; exact w4)).trans ef⟩, hC, hS, jr⟩
/-- new laws -/
theorem LI.grow {cL : ClassId} {L L' : List Nat} {τ τ' : Nat → Ro} {E E' : Ec} {wr : Ro → Bool} {x mm ao : Nat} (J : LI cL L τ E x mm ao) (g : GL x wr L τ E L' τ' E') (hx : τ' x = (0, 0)) (w1 : wr (60, 0) = false) (w2 : wr (61, 0) = false) (w3 : wr (11, 0) = false) (w4 : wr (250, 0) = false) (w5 : wr (75, 0) = false) (w6 : wr (76, 0) = false) (w7 : wr (77, 0) = false) (w8 : wr (79, 0) = false) : LI cL L' τ' E' x mm ao := by
  obtain ⟨⟨jx, tx⟩, ⟨jm, tm⟩, ⟨ja, ta, f, ef⟩, jc, js, jr⟩ := J
  have ht : ∀ a ∈ L, τ' a = τ a := fun a ha => by
    by_cases c : a = x
    · rw [c, hx, tx]
    · exact g.2.1 a ha c
  have nx : ∀ a ∈ L, τ a ≠ (0, 0) → a ≠ x := fun a _ h z => h (by rw [z]; exact tx)
  have hE : ∀ a ∈ L, τ a ≠ (0, 0) → wr (τ a) = false → E' a = E a := fun a ha h hw => g.2.2.1 a ha (nx a ha h) hw
  have old : ∀ b ∈ L', ∀ r : Ro, τ' b = r → ¬ lawK r → b ∈ L ∧ τ b = r := fun b hb r hr hk => by
    rcases g.2.2.2 b hb with y | y
    · exact ⟨y, (ht b y).symm.trans hr⟩
    · exact absurd (hr ▸ y) hk
  refine ⟨⟨g.1 x jx, hx⟩, ⟨g.1 mm jm, (ht mm jm).trans tm⟩, ⟨g.1 ao ja, (ht ao ja).trans ta, f, (hE ao ja (by rw [ta]; decide) (by rw [ta]; exact w4)).trans ef⟩, ?_, ?_, ?_⟩
  · intro m hm tm' q hq tq p hp tp
    obtain ⟨hm, tm'⟩ := old m hm _ tm' (by unfold lawK; decide)
    obtain ⟨hq, tq⟩ := old q hq _ tq (by unfold lawK; decide)
    obtain ⟨hp, tp⟩ := old p hp _ tp (by unfold lawK; decide)
    rw [ai_cell (hE q hq (by rw [tq]; decide) (by rw [tq]; exact w1))]
    refine (jc m hm tm' q hq tq p hp tp).keep (hE p hp (by rw [tp]; decide) (by rw [tp]; exact w2)) ?_
    simp only [fi, fv, hE m hm (by rw [tm']; decide) (by rw [tm']; exact w3)]
  · intro ql hl tl qr hr tr qm hm tm' qd hd td
    obtain ⟨hl, tl⟩ := old ql hl _ tl (by unfold lawK; decide)
    obtain ⟨hr, tr⟩ := old qr hr _ tr (by unfold lawK; decide)
    obtain ⟨hm, tm'⟩ := old qm hm _ tm' (by unfold lawK; decide)
    obtain ⟨hd, td⟩ := old qd hd _ td (by unfold lawK; decide)
    have e1 := ai_cell (hE ql hl (by rw [tl]; decide) (by rw [tl]; exact w5))
    have e2 := ai_cell (hE qr hr (by rw [tr]; decide) (by rw [tr]; exact w6))
    have e3 := ai_cell (hE qm hm (by rw [tm']; decide) (by rw [tm']; exact w7))
    have e4 := ai_cell (hE qd hd (by rw [td]; decide) (by rw [td]; exact w8))
    unfold SlotW PartOK
    rw [e1, e2, e3, e4]
    exact js ql hl tl qr hr tr qm hm tm' qd hd td
  · intro b hb z
    obtain ⟨y, t⟩ := old b hb _ z (by unfold lawK; decide)
    exact jr b y t
/-- what stands still while the law runs -/
def LC (p : Program) (l : Launch) (s : State) (m : MethodId) (meth : Method) (c : Code) (D : va_G) (cy : Nat → ClassId) (A : Nat → Prop) (G : Sg) (tx : String) (sa : Nat) (cL : ClassId) (b Ln : Nat) (xs : Nat → Int32) : Prop :=
  CallFix p m c cL_law 7 s #[Value.ref b] wsL_law RL ∧ va_K D vwCl (tysL cy) s ∧ Nx s ∧ (∀ q, s.heap.size ≤ q → A q) ∧ SW G A s s.heap ∧ TX tx sa A s s.heap ∧ va_K D vwCl [(cL, .long)] s ∧ va_X b Ln xs s s.heap ∧ b < s.heap.size ∧ ¬ A b ∧ l.stackTraces = false ∧ Ln ≤ 3072
