/-! A STORE WITH TYPES: the world is a pool of cells (addresses L, contents E); each address has a role (τ), a role says what its cell holds: ranges of numbers, roles of references. Each row keeps the typing. -/
abbrev Ro : Type := Nat × Nat
abbrev Ft : Type := Nat × Int × Int
abbrev Ec : Type := Nat → va_E
/-- a value of a field: (0, lo, hi) a number in lo .. hi; (1, k, p) a reference to a cell of role (k, p); (2, k, p) that or null; else one of kind k or null -/
def okF (L : List Nat) (τ : Nat → Ro) (t : Ft) (v : Value) : Prop := match t.1 with
  | 0 => ∃ x : Int32, v = .int x ∧ t.2.1 ≤ x.toInt ∧ x.toInt ≤ t.2.2
  | 1 => ∃ q : Nat, v = .ref q ∧ q ∈ L ∧ τ q = (t.2.1.toNat, t.2.2.toNat)
  | 2 => v = .null ∨ ∃ q : Nat, v = .ref q ∧ q ∈ L ∧ τ q = (t.2.1.toNat, t.2.2.toNat)
  | _ => v = .null ∨ ∃ q : Nat, v = .ref q ∧ q ∈ L ∧ (τ q).1 = t.2.1.toNat
/-- an object of class ci with such fields -/
def okO (L : List Nat) (τ : Nat → Ro) (E : Ec) (a ci : Nat) (ts : List Ft) : Prop := ∃ fs : List Value, E a = .inr (ci, fs) ∧ fs.length = ts.length ∧ ∀ (k : Nat) (t : Ft) (v : Value), ts[k]? = some t → fs[k]? = some v → okF L τ t v
/-- an array of n numbers, the one at place i in (b i).1 .. (b i).2 -/
def okA (cA : ClassId) (E : Ec) (a n : Nat) (b : Nat → Int × Int) : Prop := ∃ f : Nat → Int32, E a = .inl (cA, n, .inl f) ∧ ∀ i : Nat, i < n → (b i).1 ≤ (f i).toInt ∧ (f i).toInt ≤ (b i).2
/-- an array of n references -/
def okQ (L : List Nat) (τ : Nat → Ro) (cA : ClassId) (E : Ec) (a n : Nat) (t : Nat → Ft) : Prop := ∃ f : Nat → Option Nat, E a = .inl (cA, n, .inr (.inr (.inr (.inr f)))) ∧ ∀ i : Nat, i < n → okF L τ (t i) (va_rf (f i))
abbrev Tb : Type := (Ro → Option (Nat × List Ft)) × (Ro → Option (Nat × Nat × (Nat → Int × Int))) × (Ro → Option (Nat × Nat × (Nat → Ft)))
/-- roles that one cell alone has -/
def uq (r : Ro) : Bool := !((r.1 == 1 || (Nat.ble 20 r.1 && Nat.ble r.1 27)) && r.2 == 1) && !(r.1 == 10 || (Nat.ble 120 r.1 && Nat.ble r.1 123))
/-- the whole store keeps the tables -/
def Inv (tb : Tb) (cy : Nat → ClassId) (L : List Nat) (τ : Nat → Ro) (E : Ec) : Prop :=
  (∀ a ∈ L, ∀ (ci : Nat) (ts : List Ft), tb.1 (τ a) = some (ci, ts) → okO L τ E a ci ts) ∧
  (∀ a ∈ L, ∀ (j n : Nat) (b : Nat → Int × Int), tb.2.1 (τ a) = some (j, n, b) → okA (cy j) E a n b) ∧
  (∀ a ∈ L, ∀ (j n : Nat) (t : Nat → Ft), tb.2.2 (τ a) = some (j, n, t) → okQ L τ (cy j) E a n t) ∧
  (∀ a ∈ L, ∀ b ∈ L, τ a = τ b → uq (τ a) = true → a = b)
abbrev tysL (cy : Nat → ClassId) : List (ClassId × FieldType) := [(cy 0, .int), (cy 1, .byte), (cy 2, .boolean), (cy 3, .object "StairShop$Law"), (cy 4, .object "StairShop$Plan"), (cy 5, .array .int)]
def Wd (D : va_G) (A : Nat → Prop) (H0 : Heap) (L : List Nat) (E : Ec) (H : Heap) (locs : List Loc) : Prop := va_P D vwCl (va_pl L E) H ∧ va_D A (va_pl L E) ∧ va_S A H0 H locs
/-- what field k of the cell a holds -/
def fv (E : Ec) (a k : Nat) : Value := match E a with
  | .inr o => (o.2[k]?).getD .null
  | _ => .null
def fi (E : Ec) (a k : Nat) : Int32 := match fv E a k with
  | .int x => x
  | _ => 0
def fq (E : Ec) (a k : Nat) : Option Nat := match fv E a k with
  | .ref q => some q
  | _ => none
/-- what place i of the array a holds, a number or a reference -/
def ai (E : Ec) (a i : Nat) : Int32 := match E a with
  | .inl x => (match x.2.2 with | .inl f => f i | _ => 0)
  | _ => 0
def aq (E : Ec) (a i : Nat) : Option Nat := match E a with
  | .inl x => (match x.2.2 with | .inr (.inr (.inr (.inr f))) => f i | _ => none)
  | _ => none
/-- a write: field k of a becomes v; place i of a becomes x -/
def isPut (E E' : Ec) (a k : Nat) (v : Value) : Prop := (∀ b, b ≠ a → E' b = E b) ∧ fv E' a k = v ∧ ∀ j, j ≠ k → fv E' a j = fv E a j
def isSet (E E' : Ec) (a i : Nat) (x : Int32) : Prop := (∀ b, b ≠ a → E' b = E b) ∧ ai E' a i = x ∧ ∀ j, j ≠ i → ai E' a j = ai E a j
def isSeq (E E' : Ec) (a i : Nat) (x : Option Nat) : Prop := (∀ b, b ≠ a → E' b = E b) ∧ aq E' a i = x ∧ ∀ j, j ≠ i → aq E' a j = aq E a j
theorem pl_at {L : List Nat} {E : Ec} {a : Nat} (h : a ∈ L) : ∃ k : Nat, (va_pl L E)[k]? = some (a, E a) := by
  obtain ⟨k, hk⟩ := va_pl_get (X := []) (f := E) h
  exact ⟨k, by simpa using hk⟩
theorem pl_put {A : Nat → Prop} {L : List Nat} {E : Ec} {a k : Nat} {e : va_E} (hD : va_D A (va_pl L E)) (h : a ∈ L) (hk : (va_pl L E)[k]? = some (a, E a)) : (va_pl L E).set k (a, e) = va_pl L (va_up E a e) := by
  have := va_pl_set (X := []) (e := e) (by simpa using hD) h (by simpa using hk)
  simpa using this
theorem okO_up {L : List Nat} {τ : Nat → Ro} {E : Ec} {a ci b : Nat} {ts : List Ft} {e : va_E} (h : okO L τ E b ci ts) (hb : b ≠ a) : okO L τ (va_up E a e) b ci ts := by
  obtain ⟨fs, h1, h2⟩ := h
  exact ⟨fs, by rw [va_up_ne _ _ hb]; exact h1, h2⟩
theorem okA_up {cA : ClassId} {E : Ec} {a b n : Nat} {w : Nat → Int × Int} {e : va_E} (h : okA cA E b n w) (hb : b ≠ a) : okA cA (va_up E a e) b n w := by
  obtain ⟨f, h1, h2⟩ := h
  exact ⟨f, by rw [va_up_ne _ _ hb]; exact h1, h2⟩
theorem okQ_up {L : List Nat} {τ : Nat → Ro} {cA : ClassId} {E : Ec} {a b n : Nat} {t : Nat → Ft} {e : va_E} (h : okQ L τ cA E b n t) (hb : b ≠ a) : okQ L τ cA (va_up E a e) b n t := by
  obtain ⟨f, h1, h2⟩ := h
  exact ⟨f, by rw [va_up_ne _ _ hb]; exact h1, h2⟩
/-- an object's field is written with a fitting value -/
theorem inv_put {tb : Tb} {cy : Nat → ClassId} {L : List Nat} {τ : Nat → Ro} {E : Ec} (hI : Inv tb cy L τ E) {a ci k : Nat} {ts : List Ft} {t : Ft} {v : Value} {fs : List Value} (he : E a = .inr (ci, fs)) (hr : tb.1 (τ a) = some (ci, ts)) (ht : ts[k]? = some t) (hv : okF L τ t v) : Inv tb cy L τ (va_up E a (.inr (ci, fs.set k v))) := by
  refine ⟨fun b hb ci' ts' h => ?_, fun b hb j n w h => ?_, fun b hb j n t' h => ?_, hI.2.2.2⟩
  · by_cases hba : b = a
    · subst hba
      rw [hr] at h
      cases h
      obtain ⟨fs', h1, h2, h3⟩ := hI.1 b hb ci ts hr
      rw [he] at h1
      cases h1
      refine ⟨fs.set k v, va_up_self _ _ _, by rw [List.length_set]; exact h2, fun k' t' v' hk' hv' => ?_⟩
      by_cases hkk : k' = k
      · subst hkk
        rw [ht] at hk'
        cases hk'
        have hl : k' < fs.length := by
          rw [h2]
          exact (List.getElem?_eq_some_iff.mp ht).1
        rw [List.getElem?_set_self hl] at hv'
        cases hv'
        exact hv
      · rw [List.getElem?_set_ne (Ne.symm hkk)] at hv'
        exact h3 k' t' v' hk' hv'
    · exact okO_up (hI.1 b hb ci' ts' h) hba
  · by_cases hba : b = a
    · subst hba
      obtain ⟨f, h1, -⟩ := hI.2.1 b hb j n w h
      rw [he] at h1
      cases h1
    · exact okA_up (hI.2.1 b hb j n w h) hba
  · by_cases hba : b = a
    · subst hba
      obtain ⟨f, h1, -⟩ := hI.2.2.1 b hb j n t' h
      rw [he] at h1
      cases h1
    · exact okQ_up (hI.2.2.1 b hb j n t' h) hba
theorem isPut_up {E : Ec} {a ci k : Nat} {v : Value} {fs : List Value} (he : E a = .inr (ci, fs)) (hl : k < fs.length) : isPut E (va_up E a (.inr (ci, fs.set k v))) a k v := by
  refine ⟨fun b hb => va_up_ne _ _ hb, ?_, fun j hj => ?_⟩
  · simp [fv, va_up, List.getElem?_set_self hl]
  · simp [fv, va_up, he, List.getElem?_set_ne (Ne.symm hj)]
/-- a number of an array is written -/
theorem inv_seti {tb : Tb} {cy : Nat → ClassId} {L : List Nat} {τ : Nat → Ro} {E : Ec} (hI : Inv tb cy L τ E) {a j n i : Nat} {w : Nat → Int × Int} {x : Int32} {f : Nat → Int32} {cA : ClassId} (he : E a = .inl (cA, n, .inl f)) (hr : tb.2.1 (τ a) = some (j, n, w)) (h1 : (w i).1 ≤ x.toInt) (h2 : x.toInt ≤ (w i).2) : Inv tb cy L τ (va_up E a (.inl (cA, n, .inl (upd f i x)))) := by
  refine ⟨fun b hb ci' ts' h => ?_, fun b hb j' n' w' h => ?_, fun b hb j' n' t' h => ?_, hI.2.2.2⟩
  · by_cases hba : b = a
    · subst hba
      obtain ⟨f, h1, -⟩ := hI.1 b hb _ _ h
      rw [he] at h1
      cases h1
    · exact okO_up (hI.1 b hb ci' ts' h) hba
  · by_cases hba : b = a
    · subst hba
      rw [hr] at h
      cases h
      obtain ⟨f', g1, g2⟩ := hI.2.1 b hb _ _ _ hr
      rw [he] at g1
      cases g1
      refine ⟨_, va_up_self _ _ _, fun k hk => ?_⟩
      by_cases hki : k = i
      · subst hki
        simp only [upd, if_true, eq_self_iff_true]
        exact ⟨h1, h2⟩
      · simp only [upd, if_neg hki]
        exact g2 k hk
    · exact okA_up (hI.2.1 b hb _ _ _ h) hba
  · by_cases hba : b = a
    · subst hba
      obtain ⟨f, h1, -⟩ := hI.2.2.1 b hb _ _ _ h
      rw [he] at h1
      cases h1
    · exact okQ_up (hI.2.2.1 b hb _ _ _ h) hba
theorem inv_setq {tb : Tb} {cy : Nat → ClassId} {L : List Nat} {τ : Nat → Ro} {E : Ec} (hI : Inv tb cy L τ E) {a j n i : Nat} {t : Nat → Ft} {x : Option Nat} {f : Nat → Option Nat} {cA : ClassId} (he : E a = .inl (cA, n, .inr (.inr (.inr (.inr f))))) (hr : tb.2.2 (τ a) = some (j, n, t)) (h1 : okF L τ (t i) (va_rf x)) : Inv tb cy L τ (va_up E a (.inl (cA, n, .inr (.inr (.inr (.inr (va_up f i x))))))) := by
  refine ⟨fun b hb ci' ts' h => ?_, fun b hb j' n' w' h => ?_, fun b hb j' n' t' h => ?_, hI.2.2.2⟩
  · by_cases hba : b = a
    · subst hba
      obtain ⟨f, h1, -⟩ := hI.1 b hb _ _ h
      rw [he] at h1
      cases h1
    · exact okO_up (hI.1 b hb ci' ts' h) hba
  · by_cases hba : b = a
    · subst hba
      obtain ⟨f, h1, -⟩ := hI.2.1 b hb _ _ _ h
      rw [he] at h1
      cases h1
    · exact okA_up (hI.2.1 b hb _ _ _ h) hba
  · by_cases hba : b = a
    · subst hba
      rw [hr] at h
      cases h
      obtain ⟨f', g1, g2⟩ := hI.2.2.1 b hb _ _ _ hr
      rw [he] at g1
      cases g1
      refine ⟨_, va_up_self _ _ _, fun k hk => ?_⟩
      by_cases hki : k = i
      · subst hki
        rw [va_up_self]
        exact h1
      · rw [va_up_ne _ _ hki]
        exact g2 k hk
    · exact okQ_up (hI.2.2.1 b hb _ _ _ h) hba
