/-! THE REFERENCE'S ROWS OF LAWS: each snapshot has at most one law that the one ahead of it has not -/
def Lmem (S : Nat → Int32) (y : Int32) : Prop := ∃ i : Nat, i < 8 ∧ (i : Int) < (S 44).toInt ∧ S (45 + i) = y
def Link (S T : Nat → Int32) : Prop := ∃ x : Int32, ∀ y, Lmem T y → Lmem S y ∨ y = x
def ChW (E : Ec) (m p : Nat) (T : Nat → Int32) : Prop := (∀ a : Nat, a + 1 < (fi E m 2).toInt.toNat → Link (fun j => ai E p (53 * a + j)) (fun j => ai E p (53 * (a + 1) + j))) ∧ ∀ a : Nat, a + 1 = (fi E m 2).toInt.toNat → Link (fun j => ai E p (53 * a + j)) T
def Chain (L : List Nat) (τ : Nat → Ro) (E : Ec) : Prop := ∀ m ∈ L, τ m = (11, 0) → ∀ q ∈ L, τ q = (60, 0) → ∀ p ∈ L, τ p = (61, 0) → ChW E m p (ai E q)
theorem Lmem.ag {S T : Nat → Int32} {y : Int32} (h : ∀ j : Nat, 44 ≤ j → j ≤ 52 → T j = S j) (hm : Lmem T y) : Lmem S y := by
  obtain ⟨i, h1, h2, h3⟩ := hm
  exact ⟨i, h1, by rw [← h 44 (by omega) (by omega)]; exact h2, by rw [← h (45 + i) (by omega) (by omega)]; exact h3⟩
theorem Link.ag {S T : Nat → Int32} (h : ∀ j : Nat, 44 ≤ j → j ≤ 52 → T j = S j) : Link S T := ⟨0, fun _ hm => Or.inl (hm.ag h)⟩
theorem Link.to {S T T' : Nat → Int32} (hl : Link S T) (h : ∀ j : Nat, 44 ≤ j → j ≤ 52 → T' j = T j) : Link S T' := by
  obtain ⟨x, hx⟩ := hl
  exact ⟨x, fun y hm => hx y (hm.ag h)⟩
theorem Link.of {S S' T : Nat → Int32} (hl : Link S T) (h : ∀ j : Nat, 44 ≤ j → j ≤ 52 → S' j = S j) : Link S' T := by
  obtain ⟨x, hx⟩ := hl
  exact ⟨x, fun y hm => (hx y hm).imp (fun q => q.ag (fun j h1 h2 => (h j h1 h2).symm)) id⟩
theorem ai_cell {E E' : Ec} {a : Nat} (h : E' a = E a) : ai E' a = ai E a := by
  funext j
  simp only [ai, h]
theorem ChW.lt {E E' : Ec} {m p : Nat} {T : Nat → Int32} (h : ChW E m p T) (h2 : fi E' m 2 = fi E m 2) (h1 : ∀ j : Nat, j < 53 * (fi E m 2).toInt.toNat → ai E' p j = ai E p j) : ChW E' m p T := by
  unfold ChW
  rw [h2]
  refine ⟨fun a ha => ?_, fun a ha => ?_⟩
  · exact ((h.1 a ha).to (fun j _ _ => h1 _ (by omega))).of (fun j _ _ => h1 _ (by omega))
  · exact (h.2 a ha).of (fun j _ _ => h1 _ (by omega))
theorem ChW.keep {E E' : Ec} {m p : Nat} {T : Nat → Int32} (h : ChW E m p T) (h1 : E' p = E p) (h2 : fi E' m 2 = fi E m 2) : ChW E' m p T := h.lt h2 (fun j _ => congrFun (ai_cell h1) j)
theorem ChW.to {E : Ec} {m p : Nat} {T T' : Nat → Int32} (h : ChW E m p T) (ht : ∀ j : Nat, 44 ≤ j → j ≤ 52 → T' j = T j) : ChW E m p T' := ⟨h.1, fun a ha => (h.2 a ha).to ht⟩
theorem Chain.fin {cy : Nat → ClassId} {L : List Nat} {τ : Nat → Ro} {E : Ec} (hI : Inv TB cy L τ E) {m q p : Nat} (hm : m ∈ L) (tm : τ m = (11, 0)) (hq : q ∈ L) (tq : τ q = (60, 0)) (hp : p ∈ L) (tp : τ p = (61, 0)) (h : ChW E m p (ai E q)) : Chain L τ E := by
  intro m' hm' tm' q' hq' tq' p' hp' tp'
  have u1 : m = m' := hI.2.2.2 _ hm _ hm' (tm.trans tm'.symm) (by rw [tm]; rfl)
  have u2 : q = q' := hI.2.2.2 _ hq _ hq' (tq.trans tq'.symm) (by rw [tq]; rfl)
  have u3 : p = p' := hI.2.2.2 _ hp _ hp' (tp.trans tp'.symm) (by rw [tp]; rfl)
  subst u1
  subst u2
  subst u3
  exact h
/-- nothing of it was written -/
theorem Chain.same {cy : Nat → ClassId} {L : List Nat} {τ : Nat → Ro} {E E' : Ec} (hC : Chain L τ E) (hI : Inv TB cy L τ E') {m q p : Nat} (hm : m ∈ L) (tm : τ m = (11, 0)) (hq : q ∈ L) (tq : τ q = (60, 0)) (hp : p ∈ L) (tp : τ p = (61, 0)) (h60 : E' q = E q) (h61 : E' p = E p) (h2 : fi E' m 2 = fi E m 2) : Chain L τ E' := by
  refine Chain.fin hI hm tm hq tq hp tp ?_
  rw [ai_cell h60]
  exact (hC m hm tm q hq tq p hp tp).keep h61 h2
/-- behind an act: what is now told differs by one law at most -/
theorem Chain.post {cy : Nat → ClassId} {L : List Nat} {τ : Nat → Ro} {E0 E E' : Ec} {m q p : Nat} (hC : ∀ T : Nat → Int32, Link (ai E0 q) T → ChW E m p T) (hI : Inv TB cy L τ E') (hm : m ∈ L) (tm : τ m = (11, 0)) (hq : q ∈ L) (tq : τ q = (60, 0)) (hp : p ∈ L) (tp : τ p = (61, 0)) (h61 : E' p = E p) (h2 : fi E' m 2 = fi E m 2) (hl : Link (ai E0 q) (ai E' q)) : Chain L τ E' :=
  Chain.fin hI hm tm hq tq hp tp ((hC _ hl).keep h61 h2)
/-- a snapshot more -/
theorem ChW.push {E E' : Ec} {m p : Nat} {N : Nat → Int32} (h : ChW E m p N) (hN : ∀ j : Nat, j < 53 → ai E p (53 * (fi E m 2).toInt.toNat + j) = N j) (h1 : E' p = E p) (h2 : (fi E' m 2).toInt.toNat = (fi E m 2).toInt.toNat + 1) : ∀ T : Nat → Int32, Link N T → ChW E' m p T := by
  intro T hT
  generalize hk : (fi E m 2).toInt.toNat = k at hN h2
  have e : ai E' p = ai E p := ai_cell h1
  unfold ChW
  rw [h2, e]
  refine ⟨fun a ha => ?_, fun a ha => ?_⟩
  · by_cases q : a + 1 < k
    · exact h.1 a (by omega)
    · have : a + 1 = k := by omega
      refine (h.2 a (by omega)).to (fun j _ _ => ?_)
      rw [this]
      exact hN j (by omega)
  · have : a = k := by omega
    subst this
    exact hT.of (fun j _ _ => hN j (by omega))
/-- the oldest snapshot is left out -/
theorem ChW.shift {E E' : Ec} {m p : Nat} {N : Nat → Int32} (h : ChW E m p N) (h40 : (fi E m 2).toInt.toNat = 40) (h39 : (fi E' m 2).toInt.toNat = 39) (hs : ∀ j : Nat, j < 2067 → ai E' p j = ai E p (j + 53)) : ChW E' m p N := by
  unfold ChW
  rw [h39]
  refine ⟨fun a ha => ?_, fun a ha => ?_⟩
  · refine ((h.1 (a + 1) (by omega)).to (fun j _ _ => ?_)).of (fun j _ _ => ?_)
    · rw [hs _ (by omega)]
      congr 1
      omega
    · rw [hs _ (by omega)]
      congr 1
      omega
  · refine (h.2 (a + 1) (by omega)).of (fun j _ _ => ?_)
    rw [hs _ (by omega)]
    congr 1
    omega
/-- the latest snapshot is taken back -/
theorem ChW.pop {E E' : Ec} {m p : Nat} {N N' : Nat → Int32} (h : ChW E m p N) {k : Nat} (hk : (fi E m 2).toInt.toNat = k + 1) (hk' : (fi E' m 2).toInt.toNat = k) (h1 : E' p = E p) (hN : ∀ j : Nat, j < 53 → N' j = ai E p (53 * k + j)) : ChW E' m p N' := by
  have e : ai E' p = ai E p := ai_cell h1
  unfold ChW
  rw [hk', e]
  refine ⟨fun a ha => h.1 a (by omega), fun a ha => ?_⟩
  refine (h.1 a (by omega)).to (fun j _ _ => ?_)
  subst ha
  exact hN j (by omega)
/-- a slot that some law has -/
def Used (E : Ec) (m q p : Nat) (y : Int32) : Prop := Lmem (ai E q) y ∨ ∃ a : Nat, a < (fi E m 2).toInt.toNat ∧ Lmem (fun j => ai E p (53 * a + j)) y
theorem pig : ∀ (n : Nat) (U : List Nat), (∀ s : Nat, s < n → s ∈ U) → n ≤ U.length
  | 0, _, _ => Nat.zero_le _
  | n + 1, U, h => by
    have h1 := pig n (U.erase n) (fun s hs => (List.mem_erase_of_ne (by omega)).mpr (h s (by omega)))
    have h2 := List.length_erase_of_mem (h n (by omega))
    have h3 : 0 < U.length := List.length_pos_of_mem (h n (by omega))
    omega
theorem Lmem.few (S : Nat → Int32) : ∃ U : List Int32, U.length ≤ 8 ∧ ∀ y, Lmem S y → y ∈ U :=
  ⟨(List.range 8).map (fun i => S (45 + i)), by simp, fun y ⟨i, h1, _, h3⟩ => List.mem_map.mpr ⟨i, List.mem_range.mpr h1, h3⟩⟩
theorem Used.few {E : Ec} {m q p : Nat} (h : ChW E m p (ai E q)) (h40 : (fi E m 2).toInt ≤ 40) : ∃ U : List Int32, U.length ≤ 48 ∧ ∀ y, Used E m q p y → y ∈ U := by
  have key : ∀ n : Nat, n < (fi E m 2).toInt.toNat → ∃ U : List Int32, U.length ≤ 8 + n ∧ ∀ a : Nat, a ≤ n → ∀ y, Lmem (fun j => ai E p (53 * a + j)) y → y ∈ U := by
    intro n
    induction n with
    | zero =>
      intro _
      obtain ⟨U, h1, h2⟩ := Lmem.few (fun j => ai E p (53 * 0 + j))
      exact ⟨U, by omega, fun a ha y hy => by
        have : a = 0 := by omega
        subst this
        exact h2 y hy⟩
    | succ n ih =>
      intro hn
      obtain ⟨U, h1, h2⟩ := ih (by omega)
      obtain ⟨x, hx⟩ := h.1 n hn
      refine ⟨x :: U, by simp; omega, fun a ha y hy => ?_⟩
      by_cases q : a = n + 1
      · subst q
        rcases hx y hy with r | r
        · exact List.mem_cons_of_mem _ (h2 n (Nat.le_refl _) y r)
        · rw [r]
          exact List.mem_cons_self
      · exact List.mem_cons_of_mem _ (h2 a (by omega) y hy)
  cases hk : (fi E m 2).toInt.toNat with
  | zero =>
    obtain ⟨U, h1, h2⟩ := Lmem.few (ai E q)
    refine ⟨U, by omega, fun y hy => ?_⟩
    rcases hy with r | ⟨a, ha, -⟩
    · exact h2 y r
    · omega
  | succ k =>
    obtain ⟨U, h1, h2⟩ := key k (by omega)
    obtain ⟨x, hx⟩ := h.2 k (by omega)
    refine ⟨x :: U, by simp; omega, fun y hy => ?_⟩
    rcases hy with r | ⟨a, ha, hm⟩
    · rcases hx y r with r | r
      · exact List.mem_cons_of_mem _ (h2 k (Nat.le_refl _) y r)
      · rw [r]
        exact List.mem_cons_self
    · exact List.mem_cons_of_mem _ (h2 a (by omega) y hm)
/-- one of fifty is free -/
theorem Used.not_all {E : Ec} {m q p : Nat} (h : ChW E m p (ai E q)) (h40 : (fi E m 2).toInt ≤ 40) (hall : ∀ y : Int32, 0 ≤ y.toInt → y.toInt < 50 → Used E m q p y) : False := by
  obtain ⟨U, h1, h2⟩ := Used.few h h40
  have := pig 50 (U.map (fun y => y.toInt.toNat)) (fun s hs => by
    have e : (nI s).toInt = s := nI_toInt (by omega)
    exact List.mem_map.mpr ⟨nI s, h2 _ (hall _ (by omega) (by omega)), by rw [e]; rfl⟩)
  rw [List.length_map] at this
  omega
/-- EACH SLOT: a part that looks at the next tread stands only where the slot's mark says so -/
def PartOK (E : Ec) (ql qm qd s w : Nat) : Prop := ∀ i : Nat, (i : Int) < (ai E qm (8 * s + w)).toInt → 15 < (ai E qd (64 * s + 8 * w + i)).toInt → (ai E ql s).toInt = 1
def SlotW (E : Ec) (ql qr qm qd : Nat) : Prop := ∀ s : Nat, s < 50 → ∀ w : Nat, (w : Int) < 2 * (ai E qr s).toInt → PartOK E ql qm qd s w
def SlotOK (L : List Nat) (τ : Nat → Ro) (E : Ec) : Prop := ∀ ql ∈ L, τ ql = (75, 0) → ∀ qr ∈ L, τ qr = (76, 0) → ∀ qm ∈ L, τ qm = (77, 0) → ∀ qd ∈ L, τ qd = (79, 0) → SlotW E ql qr qm qd
theorem SlotOK.fr {L : List Nat} {τ : Nat → Ro} {wr : Ro → Bool} {E E' : Ec} (hF : Fr L τ wr E E') (h1 : wr (75, 0) = false) (h2 : wr (76, 0) = false) (h3 : wr (77, 0) = false) (h4 : wr (79, 0) = false) (h : SlotOK L τ E) : SlotOK L τ E' := by
  intro ql hl tl qr hr tr qm hm tm qd hd td
  have e1 := ai_cell (hF ql hl (by rw [tl]; exact h1))
  have e2 := ai_cell (hF qr hr (by rw [tr]; exact h2))
  have e3 := ai_cell (hF qm hm (by rw [tm]; exact h3))
  have e4 := ai_cell (hF qd hd (by rw [td]; exact h4))
  unfold SlotW PartOK
  rw [e1, e2, e3, e4]
  exact h ql hl tl qr hr tr qm hm tm qd hd td
theorem SlotOK.fin {cy : Nat → ClassId} {L : List Nat} {τ : Nat → Ro} {E : Ec} (hI : Inv TB cy L τ E) {ql qr qm qd : Nat} (hl : ql ∈ L) (tl : τ ql = (75, 0)) (hr : qr ∈ L) (tr : τ qr = (76, 0)) (hm : qm ∈ L) (tm : τ qm = (77, 0)) (hd : qd ∈ L) (td : τ qd = (79, 0)) (h : SlotW E ql qr qm qd) : SlotOK L τ E := by
  intro a ha ta b hb tb c hc tc d hd' td'
  have u1 : ql = a := hI.2.2.2 _ hl _ ha (tl.trans ta.symm) (by rw [tl]; rfl)
  have u2 : qr = b := hI.2.2.2 _ hr _ hb (tr.trans tb.symm) (by rw [tr]; rfl)
  have u3 : qm = c := hI.2.2.2 _ hm _ hc (tm.trans tc.symm) (by rw [tm]; rfl)
  have u4 : qd = d := hI.2.2.2 _ hd _ hd' (td.trans td'.symm) (by rw [td]; rfl)
  subst u1
  subst u2
  subst u3
  subst u4
  exact h
/-- marks only grow, at one slot -/
def Grow (E E' : Ec) (ql s : Nat) : Prop := ∀ j : Nat, ai E' ql j = ai E ql j ∨ (j = s ∧ (ai E' ql j).toInt = 1)
theorem Grow.refl {E : Ec} {ql s : Nat} : Grow E E ql s := fun _ => Or.inl rfl
theorem Grow.trans {E E1 E2 : Ec} {ql s : Nat} (h1 : Grow E E1 ql s) (h2 : Grow E1 E2 ql s) : Grow E E2 ql s := fun j => by
  rcases h2 j with q | q
  · rcases h1 j with r | r
    · exact Or.inl (q.trans r)
    · exact Or.inr ⟨r.1, by rw [q]; exact r.2⟩
  · exact Or.inr q
theorem Grow.cell {E E1 E2 : Ec} {ql s : Nat} (h1 : Grow E E1 ql s) (h2 : E2 ql = E1 ql) : Grow E E2 ql s := fun j => by rw [ai_cell h2]; exact h1 j
theorem Grow.one {E E' : Ec} {ql s j : Nat} (h : Grow E E' ql s) (h1 : (ai E ql j).toInt = 1) : (ai E' ql j).toInt = 1 := by
  rcases h j with q | q
  · rw [q]; exact h1
  · exact q.2
/-- a part kept, where nothing of it was written -/
theorem PartOK.keep {E E' : Ec} {ql qm qd s w s0 : Nat} (h : PartOK E ql qm qd s w) (hg : Grow E E' ql s0) (hm : ai E' qm (8 * s + w) = ai E qm (8 * s + w)) (h8 : (ai E qm (8 * s + w)).toInt ≤ 8) (hd : ∀ i : Nat, i < 8 → ai E' qd (64 * s + 8 * w + i) = ai E qd (64 * s + 8 * w + i)) : PartOK E' ql qm qd s w := by
  intro i hi hn
  rw [hm] at hi
  rw [hd i (by omega)] at hn
  exact hg.one (h i hi hn)
