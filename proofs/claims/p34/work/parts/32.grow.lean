/-! THE STORE GROWS: new cells get roles; a cell under construction has a role that no table knows (200 and up) -/
def upT (τ : Nat → Ro) (q : Nat) (r : Ro) : Nat → Ro := fun a => if a = q then r else τ a
theorem upT_self (τ : Nat → Ro) (q : Nat) (r : Ro) : upT τ q r q = r := if_pos rfl
theorem upT_ne {τ : Nat → Ro} {q a : Nat} {r : Ro} (h : a ≠ q) : upT τ q r a = τ a := if_neg h
theorem okF_grow {L L' : List Nat} {τ τ' : Nat → Ro} {t : Ft} {v : Value} (hL : ∀ a ∈ L, a ∈ L') (hτ : ∀ a ∈ L, τ' a = τ a) (h : okF L τ t v) : okF L' τ' t v := by
  obtain ⟨k, x, y⟩ := t
  match k with
  | 0 => exact h
  | 1 =>
    obtain ⟨q, h1, h2, h3⟩ := h
    exact ⟨q, h1, hL q h2, (hτ q h2).trans h3⟩
  | 2 =>
    rcases h with h | ⟨q, h1, h2, h3⟩
    · exact Or.inl h
    · exact Or.inr ⟨q, h1, hL q h2, (hτ q h2).trans h3⟩
  | n + 3 =>
    rcases h with h | ⟨q, h1, h2, h3⟩
    · exact Or.inl h
    · exact Or.inr ⟨q, h1, hL q h2, by rw [hτ q h2]; exact h3⟩
/-- from one store to a later one: what is new, and of which role -/
def Psh (L : List Nat) (τ : Nat → Ro) (E : Ec) (L' : List Nat) (τ' : Nat → Ro) (E' : Ec) (q : Nat) (r : Ro) : Prop := (∀ a ∈ L, a ∈ L') ∧ (∀ a ∈ L, τ' a = τ a) ∧ (∀ a ∈ L, E' a = E a) ∧ q ∈ L' ∧ τ' q = r ∧ q ∉ L ∧ ∀ b ∈ L', b ∈ L ∨ b = q
/-- .. over a method: x is built meanwhile, cells of the roles 'made' are new -/
def Gr (x : Nat) (made : List Ro) (L : List Nat) (τ : Nat → Ro) (E : Ec) (L' : List Nat) (τ' : Nat → Ro) (E' : Ec) : Prop := (∀ a ∈ L, a ∈ L') ∧ (∀ a ∈ L, a ≠ x → τ' a = τ a) ∧ (∀ a ∈ L, a ≠ x → E' a = E a) ∧ ∀ b ∈ L', b ∈ L ∨ inW made (τ' b) = true
/-- no cell has one of these roles -/
def Ab (L : List Nat) (τ : Nat → Ro) (ns : List Ro) : Prop := ∀ b ∈ L, inW ns (τ b) = false
theorem Ab.ne {L : List Nat} {τ : Nat → Ro} {ns : List Ro} (h : Ab L τ ns) {r : Ro} (hr : inW ns r = true) : ∀ b ∈ L, τ b ≠ r := fun b hb e => by
  have := h b hb
  rw [e, hr] at this
  cases this
theorem Ab.sub {L : List Nat} {τ : Nat → Ro} {ns ns' : List Ro} (h : Ab L τ ns) (hs : ns'.all (fun q => ns.any (fun x => x.1 == q.1 && x.2 == q.2)) = true) : Ab L τ ns' := fun b hb => inW_mono hs _ (h b hb)
theorem Ab.push {L L' : List Nat} {τ τ' : Nat → Ro} {E E' : Ec} {q : Nat} {r : Ro} {ns ns' : List Ro} (h : Ab L τ ns) (hp : Psh L τ E L' τ' E' q r) (hs : ns'.all (fun q => ns.any (fun x => x.1 == q.1 && x.2 == q.2)) = true) (hr : inW ns' r = false) : Ab L' τ' ns' := by
  intro b hb
  obtain ⟨h1, h2, h3, h4, h5, h6, h7⟩ := hp
  rcases h7 b hb with q | q
  · rw [h2 b q]
    exact h.sub hs b q
  · rw [q, h5]
    exact hr
/-- roles of one list are none of another -/
theorem inW_apart {a b : List Ro} (h : a.all (fun q => !(b.any (fun x => x.1 == q.1 && x.2 == q.2))) = true) {r : Ro} (hr : inW a r = true) : inW b r = false := by
  cases hq : inW b r with
  | false => rfl
  | true =>
    obtain ⟨x, hx, hx2⟩ := List.any_eq_true.mp hr
    obtain ⟨y, hy, hy2⟩ := List.any_eq_true.mp hq
    have h1 := List.all_eq_true.mp h x hx
    have h2 : b.any (fun z => z.1 == x.1 && z.2 == x.2) = true := List.any_eq_true.mpr ⟨y, hy, by
      simp only [Bool.and_eq_true, beq_iff_eq] at hx2 hy2 ⊢
      exact ⟨hy2.1.trans hx2.1.symm, hy2.2.trans hx2.2.symm⟩⟩
    rw [h2] at h1
    cases h1
theorem Ab.call {L L' : List Nat} {τ τ' : Nat → Ro} {E E' : Ec} {x : Nat} {made : List Ro} {ns ns' : List Ro} (h : Ab L τ ns) (hg : Gr x made L τ E L' τ' E') {r : Ro} (hx : τ' x = r) (hr : inW ns' r = false) (hs : ns'.all (fun q => ns.any (fun x => x.1 == q.1 && x.2 == q.2)) = true) (hm : made.all (fun q => !(ns'.any (fun x => x.1 == q.1 && x.2 == q.2))) = true) : Ab L' τ' ns' := by
  intro b hb
  obtain ⟨h1, h2, h3, h4⟩ := hg
  by_cases c : b = x
  · rw [c, hx]
    exact hr
  · rcases h4 b hb with q | q
    · rw [h2 b q c]
      exact h.sub hs b q
    · exact inW_apart hm q
theorem Gr.refl {x : Nat} {L : List Nat} {τ : Nat → Ro} {E : Ec} : Gr x [] L τ E L τ E := ⟨fun _ h => h, fun _ _ _ => rfl, fun _ _ _ => rfl, fun _ h => Or.inl h⟩
theorem inW_cons {r : Ro} {m : List Ro} {s : Ro} (h : inW m s = true) : inW (r :: m) s = true := List.any_eq_true.mpr (by
  obtain ⟨x, hx, hy⟩ := List.any_eq_true.mp h
  exact ⟨x, List.mem_cons_of_mem _ hx, hy⟩)
theorem inW_head {r : Ro} {m : List Ro} : inW (r :: m) r = true := List.any_eq_true.mpr ⟨r, List.mem_cons_self, by simp⟩
theorem inW_app {a b : List Ro} {s : Ro} (h : inW a s = true ∨ inW b s = true) : inW (a ++ b) s = true := by
  rcases h with h | h
  · obtain ⟨x, hx, hy⟩ := List.any_eq_true.mp h
    exact List.any_eq_true.mpr ⟨x, List.mem_append_left _ hx, hy⟩
  · obtain ⟨x, hx, hy⟩ := List.any_eq_true.mp h
    exact List.any_eq_true.mpr ⟨x, List.mem_append_right _ hx, hy⟩
theorem Gr.push {x : Nat} {made : List Ro} {L L1 L2 : List Nat} {τ τ1 τ2 : Nat → Ro} {E E1 E2 : Ec} {q : Nat} {r : Ro} (h : Gr x made L τ E L1 τ1 E1) (hp : Psh L1 τ1 E1 L2 τ2 E2 q r) : Gr x (r :: made) L τ E L2 τ2 E2 := by
  obtain ⟨a1, a2, a3, a4⟩ := h
  obtain ⟨h1, h2, h3, h4, h5, h6, h7⟩ := hp
  refine ⟨fun a ha => h1 a (a1 a ha), fun a ha hx => (h2 a (a1 a ha)).trans (a2 a ha hx), fun a ha hx => (h3 a (a1 a ha)).trans (a3 a ha hx), fun b hb => ?_⟩
  rcases h7 b hb with c | c
  · rcases a4 b c with d | d
    · exact Or.inl d
    · exact Or.inr (by rw [h2 b c]; exact inW_cons d)
  · exact Or.inr (by rw [c, h5]; exact inW_head)
/-- x or a new cell is written -/
theorem Gr.wr {x : Nat} {made : List Ro} {L L1 : List Nat} {τ τ1 : Nat → Ro} {E E1 E2 : Ec} {a : Nat} (h : Gr x made L τ E L1 τ1 E1) (hw : ∀ b, b ≠ a → E2 b = E1 b) (ha : a = x ∨ a ∉ L) : Gr x made L τ E L1 τ1 E2 := by
  obtain ⟨a1, a2, a3, a4⟩ := h
  refine ⟨a1, a2, fun b hb hx => (hw b (fun q => ?_)).trans (a3 b hb hx), a4⟩
  rcases ha with e | e
  · exact hx (q.trans e)
  · exact e (q ▸ hb)
/-- a constructor of a new cell q -/
theorem Gr.call {x q : Nat} {m1 m2 : List Ro} {L L1 L2 : List Nat} {τ τ1 τ2 : Nat → Ro} {E E1 E2 : Ec} {r0 r : Ro} (h : Gr x (r0 :: m1) L τ E L1 τ1 E1) (hg : Gr q m2 L1 τ1 E1 L2 τ2 E2) (hq : q ∉ L) (hr : τ2 q = r) (hone : ∀ b ∈ L1, b ∉ L → b ≠ q → inW m1 (τ1 b) = true) : Gr x (r :: (m2 ++ m1)) L τ E L2 τ2 E2 := by
  obtain ⟨a1, a2, a3, a4⟩ := h
  obtain ⟨b1, b2, b3, b4⟩ := hg
  have ne : ∀ a ∈ L, a ≠ q := fun a ha e => hq (e ▸ ha)
  refine ⟨fun a ha => b1 a (a1 a ha), fun a ha hx => (b2 a (a1 a ha) (ne a ha)).trans (a2 a ha hx), fun a ha hx => (b3 a (a1 a ha) (ne a ha)).trans (a3 a ha hx), fun b hb => ?_⟩
  by_cases c : b = q
  · exact Or.inr (by rw [c, hr]; exact inW_head)
  · by_cases d : b ∈ L
    · exact Or.inl d
    · rcases b4 b hb with e | e
      · exact Or.inr (inW_cons (inW_app (Or.inr (by rw [b2 b e c]; exact hone b e d c))))
      · exact Or.inr (inW_cons (inW_app (Or.inl e)))
/-- what was new ahead of a new cell -/
theorem Gr.one {x q : Nat} {m1 : List Ro} {L L1 L2 : List Nat} {τ τ1 τ2 : Nat → Ro} {E E1 E2 : Ec} {r : Ro} (h : Gr x m1 L τ E L1 τ1 E1) (hp : Psh L1 τ1 E1 L2 τ2 E2 q r) : ∀ b ∈ L2, b ∉ L → b ≠ q → inW m1 (τ2 b) = true := by
  intro b hb hn hq
  obtain ⟨h1, h2, h3, h4, h5, h6, h7⟩ := hp
  rcases h7 b hb with c | c
  · rcases h.2.2.2 b c with d | d
    · exact absurd d hn
    · rw [h2 b c]; exact d
  · exact absurd c hq
theorem Gr.fresh {x q : Nat} {m1 : List Ro} {L L1 L2 : List Nat} {τ τ1 τ2 : Nat → Ro} {E E1 E2 : Ec} {r : Ro} (h : Gr x m1 L τ E L1 τ1 E1) (hp : Psh L1 τ1 E1 L2 τ2 E2 q r) : q ∉ L := fun hq => hp.2.2.2.2.2.1 (h.1 q hq)
/-- at the end x gets its role -/
theorem Gr.role {x : Nat} {made : List Ro} {L L1 : List Nat} {τ τ1 : Nat → Ro} {E E1 : Ec} {r : Ro} (h : Gr x made L τ E L1 τ1 E1) (hx : x ∈ L) : Gr x made L τ E L1 (upT τ1 x r) E1 := by
  obtain ⟨a1, a2, a3, a4⟩ := h
  refine ⟨a1, fun a ha hn => (upT_ne hn).trans (a2 a ha hn), a3, fun b hb => ?_⟩
  by_cases c : b = x
  · exact Or.inl (c ▸ hx)
  · rw [upT_ne c]
    exact a4 b hb
theorem inv_push {tb : Tb} {cy : Nat → ClassId} {L : List Nat} {τ : Nat → Ro} {E : Ec} (hI : Inv tb cy L τ E) {q : Nat} {e : va_E} {r : Ro} (hq : q ∉ L) (hu : uq r = true → ∀ b ∈ L, τ b ≠ r)
    (h1 : ∀ (ci : Nat) (ts : List Ft), tb.1 r = some (ci, ts) → okO (L ++ [q]) (upT τ q r) (va_up E q e) q ci ts) (h2 : ∀ (j n : Nat) (b : Nat → Int × Int), tb.2.1 r = some (j, n, b) → okA (cy j) (va_up E q e) q n b) (h3 : ∀ (j n : Nat) (t : Nat → Ft), tb.2.2 r = some (j, n, t) → okQ (L ++ [q]) (upT τ q r) (cy j) (va_up E q e) q n t) : Inv tb cy (L ++ [q]) (upT τ q r) (va_up E q e) := by
  have hL : ∀ a ∈ L, a ∈ L ++ [q] := fun a ha => List.mem_append_left _ ha
  have hτ : ∀ a ∈ L, upT τ q r a = τ a := fun a ha => upT_ne (fun z => hq (z ▸ ha))
  have hE : ∀ a ∈ L, va_up E q e a = E a := fun a ha => va_up_ne _ _ (fun z => hq (z ▸ ha))
  have cs : ∀ a, a ∈ L ++ [q] → a ∈ L ∨ a = q := fun a ha => by
    rcases List.mem_append.mp ha with h | h
    · exact Or.inl h
    · exact Or.inr (by simpa using h)
  refine ⟨fun a ha ci ts h => ?_, fun a ha j n b h => ?_, fun a ha j n t h => ?_, fun a ha b hb hab hu' => ?_⟩
  · rcases cs a ha with c | c
    · rw [hτ a c] at h
      obtain ⟨fs, g1, g2, g3⟩ := hI.1 a c ci ts h
      exact ⟨fs, by rw [hE a c]; exact g1, g2, fun k t v x y => okF_grow hL hτ (g3 k t v x y)⟩
    · subst c
      rw [upT_self] at h
      exact h1 ci ts h
  · rcases cs a ha with c | c
    · rw [hτ a c] at h
      obtain ⟨f, g1, g2⟩ := hI.2.1 a c j n b h
      exact ⟨f, by rw [hE a c]; exact g1, g2⟩
    · subst c
      rw [upT_self] at h
      exact h2 j n b h
  · rcases cs a ha with c | c
    · rw [hτ a c] at h
      obtain ⟨f, g1, g2⟩ := hI.2.2.1 a c j n t h
      exact ⟨f, by rw [hE a c]; exact g1, fun i hi => okF_grow hL hτ (g2 i hi)⟩
    · subst c
      rw [upT_self] at h
      exact h3 j n t h
  · rcases cs a ha with c | c <;> rcases cs b hb with d | d
    · rw [hτ a c, hτ b d] at hab
      rw [hτ a c] at hu'
      exact hI.2.2.2 a c b d hab hu'
    · subst d
      rw [hτ a c, upT_self] at hab
      rw [hτ a c, hab] at hu'
      exact absurd hab (hu hu' a c)
    · subst c
      rw [hτ b d, upT_self] at hab
      rw [upT_self] at hu'
      exact absurd hab.symm (hu hu' b d)
    · rw [c, d]
theorem psh_push {L : List Nat} {τ : Nat → Ro} {E : Ec} {q : Nat} {e : va_E} {r : Ro} (hq : q ∉ L) : Psh L τ E (L ++ [q]) (upT τ q r) (va_up E q e) q r :=
  ⟨fun a ha => List.mem_append_left _ ha, fun a ha => upT_ne (fun z => hq (z ▸ ha)), fun a ha => va_up_ne _ _ (fun z => hq (z ▸ ha)), by simp, upT_self _ _ _, hq, fun b hb => by
    rcases List.mem_append.mp hb with h | h
    · exact Or.inl h
    · exact Or.inr (by simpa using h)⟩
/-- kinds that the tables name are below 200 -/
theorem tObj_named {r : Ro} {ci : Nat} {ts : List Ft} (h : tObj r = some (ci, ts)) : ts.all (fun t => t.1 == 0 || Nat.blt t.2.1.toNat 200) = true := by
  unfold tObj at h
  split at h <;> first | (cases h; rfl) | (cases h)
theorem tRef_named {r : Ro} {j n : Nat} {t : Nat → Ft} (h : tRef r = some (j, n, t)) : ∀ i : Nat, i < n → (t i).2.1.toNat < 200 := by
  unfold tRef at h
  split at h
  · cases h; intro i _; show (10 : Int).toNat < 200; decide
  · cases h; intro i _; show (1 : Int).toNat < 200; decide
  · cases h
    intro i hi
    show ((100 : Int) + (i : Int)).toNat < 200
    omega
  · cases h
theorem okF_role {L : List Nat} {τ : Nat → Ro} {x : Nat} {r r0 : Ro} {t : Ft} {v : Value} (hx : τ x = r0) (h200 : 200 ≤ r0.1) (ht : t.1 = 0 ∨ t.2.1.toNat < 200) (h : okF L τ t v) : okF L (upT τ x r) t v := by
  obtain ⟨k, a, b⟩ := t
  have key : ∀ q, (τ q).1 < 200 → upT τ x r q = τ q := fun q hq => upT_ne (fun e => by rw [e, hx] at hq; omega)
  match k with
  | 0 => exact h
  | 1 =>
    obtain ⟨q, h1, h2, h3⟩ := h
    have : a.toNat < 200 := ht.elim (fun z => nomatch z) id
    exact ⟨q, h1, h2, (key q (by rw [h3]; exact this)).trans h3⟩
  | 2 =>
    have : a.toNat < 200 := ht.elim (fun z => nomatch z) id
    rcases h with h | ⟨q, h1, h2, h3⟩
    · exact Or.inl h
    · exact Or.inr ⟨q, h1, h2, (key q (by rw [h3]; exact this)).trans h3⟩
  | n + 3 =>
    have : a.toNat < 200 := ht.elim (fun z => nomatch z) id
    rcases h with h | ⟨q, h1, h2, h3⟩
    · exact Or.inl h
    · exact Or.inr ⟨q, h1, h2, by rw [key q (by rw [h3]; exact this)]; exact h3⟩
/-- a cell under construction gets its role -/
theorem inv_role {cy : Nat → ClassId} {L : List Nat} {τ : Nat → Ro} {E : Ec} (hI : Inv TB cy L τ E) {x : Nat} {r0 r : Ro} (hx : τ x = r0) (h200 : 200 ≤ r0.1) (hu : uq r = true → ∀ b ∈ L, τ b ≠ r)
    (h1 : ∀ (ci : Nat) (ts : List Ft), tObj r = some (ci, ts) → okO L (upT τ x r) E x ci ts) (h2 : ∀ (j n : Nat) (b : Nat → Int × Int), tInt r = some (j, n, b) → okA (cy j) E x n b) (h3 : ∀ (j n : Nat) (t : Nat → Ft), tRef r = some (j, n, t) → okQ L (upT τ x r) (cy j) E x n t) : Inv TB cy L (upT τ x r) E := by
  refine ⟨fun a ha ci ts h => ?_, fun a ha j n b h => ?_, fun a ha j n t h => ?_, fun a ha b hb hab hu' => ?_⟩
  · by_cases c : a = x
    · subst c
      rw [upT_self] at h
      exact h1 ci ts h
    · rw [upT_ne c] at h
      obtain ⟨fs, g1, g2, g3⟩ := hI.1 a ha ci ts h
      refine ⟨fs, g1, g2, fun k t v hk hv => okF_role hx h200 ?_ (g3 k t v hk hv)⟩
      have := List.all_eq_true.mp (tObj_named h) t (List.mem_of_getElem? hk)
      simpa [Nat.blt_eq] using this
  · by_cases c : a = x
    · subst c
      rw [upT_self] at h
      exact h2 j n b h
    · rw [upT_ne c] at h
      exact hI.2.1 a ha j n b h
  · by_cases c : a = x
    · subst c
      rw [upT_self] at h
      exact h3 j n t h
    · rw [upT_ne c] at h
      obtain ⟨f, g1, g2⟩ := hI.2.2.1 a ha j n t h
      exact ⟨f, g1, fun i hi => okF_role hx h200 (Or.inr (tRef_named h i hi)) (g2 i hi)⟩
  · by_cases c : a = x <;> by_cases d : b = x
    · rw [c, d]
    · subst c
      rw [upT_self, upT_ne d] at hab
      rw [upT_self] at hu'
      exact absurd hab.symm (hu hu' b hb)
    · subst d
      rw [upT_self, upT_ne c] at hab
      rw [upT_ne c, hab] at hu'
      exact absurd hab (hu hu' a ha)
    · rw [upT_ne c, upT_ne d] at hab
      rw [upT_ne c] at hu'
      exact hI.2.2.2 a ha b hb hab hu'
/-- an object's fields, one by one -/
def okL (L : List Nat) (τ : Nat → Ro) : List Ft → List Value → Prop
  | [], [] => True
  | t :: ts, v :: vs => okF L τ t v ∧ okL L τ ts vs
  | _, _ => False
theorem okL.len {L : List Nat} {τ : Nat → Ro} : ∀ {ts : List Ft} {vs : List Value}, okL L τ ts vs → vs.length = ts.length
  | [], [], _ => rfl
  | _ :: _, _ :: _, h => congrArg (· + 1) (okL.len h.2)
  | [], _ :: _, h => h.elim
  | _ :: _, [], h => h.elim
theorem okL.at {L : List Nat} {τ : Nat → Ro} : ∀ {ts : List Ft} {vs : List Value}, okL L τ ts vs → ∀ (k : Nat) (t : Ft) (v : Value), ts[k]? = some t → vs[k]? = some v → okF L τ t v
  | [], [], _, _, _, _, h, _ => by simp at h
  | t :: ts, v :: vs, h, 0, t', v', h1, h2 => by
    simp at h1 h2
    rw [← h1, ← h2]
    exact h.1
  | t :: ts, v :: vs, h, k + 1, t', v', h1, h2 => okL.at h.2 k t' v' (by simpa using h1) (by simpa using h2)
  | [], _ :: _, h, _, _, _, _, _ => h.elim
  | _ :: _, [], h, _, _, _, _, _ => h.elim
theorem okO_of {L : List Nat} {τ : Nat → Ro} {E : Ec} {a ci : Nat} {ts : List Ft} {fs : List Value} (he : E a = .inr (ci, fs)) (h : okL L τ ts fs) : okO L τ E a ci ts := ⟨fs, he, h.len, h.at⟩
