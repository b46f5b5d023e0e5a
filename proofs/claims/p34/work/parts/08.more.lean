/-- an array of numbers is written somewhere -/
def isCop (E E' : Ec) (a : Nat) : Prop := ∀ b, b ≠ a → E' b = E b
theorem Fr.cop {L : List Nat} {τ : Nat → Ro} {wr : Ro → Bool} {E E1 E2 : Ec} {a : Nat} (h1 : Fr L τ wr E E1) (h : isCop E1 E2 a) {r : Ro} (hτ : τ a = r) (hw : wr r = true) : Fr L τ wr E E2 := fun b hb hwb => by
  have : b ≠ a := fun q => by rw [q, hτ, hw] at hwb; cases hwb
  rw [h b this]
  exact h1 b hb hwb
theorem inv_seta {tb : Tb} {cy : Nat → ClassId} {L : List Nat} {τ : Nat → Ro} {E : Ec} (hI : Inv tb cy L τ E) {a j n : Nat} {w : Nat → Int × Int} {f g : Nat → Int32} {cA : ClassId} (he : E a = .inl (cA, n, .inl f)) (hr : tb.2.1 (τ a) = some (j, n, w)) (hg : ∀ i, i < n → (w i).1 ≤ (g i).toInt ∧ (g i).toInt ≤ (w i).2) : Inv tb cy L τ (va_up E a (.inl (cA, n, .inl g))) := by
  refine ⟨fun b hb ci' ts' h => ?_, fun b hb j' n' w' h => ?_, fun b hb j' n' t' h => ?_, hI.2.2.2⟩
  · by_cases hba : b = a
    · subst hba
      obtain ⟨f, h1, -⟩ := hI.1 b hb _ _ h
      rw [he] at h1
      cases h1
    · exact okO_up (hI.1 b hb ci' ts' h) hba
  · by_cases hba : b = a
    · subst hba
      rw [hr] at h
      cases h
      obtain ⟨f', g1, g2⟩ := hI.2.1 b hb _ _ _ hr
      rw [he] at g1
      cases g1
      exact ⟨_, va_up_self _ _ _, hg⟩
    · exact okA_up (hI.2.1 b hb _ _ _ h) hba
  · by_cases hba : b = a
    · subst hba
      obtain ⟨f, h1, -⟩ := hI.2.2.1 b hb _ _ _ h
      rw [he] at h1
      cases h1
    · exact okQ_up (hI.2.2.1 b hb _ _ _ h) hba
section MORE
variable {p : Program} {l : Launch} {e : Env} {R : Room} {s : State} {m : MethodId} {args : Array Value} {below : List Frame} {meth : Method} {c : Code} {H : Heap} {locs : List Loc} {cells slots : Nat} {Q : State → Prop}
variable {cc : ByteArray} {pc nL : Nat} {ls : Array Slot} {rest : List Value} {D : va_G} {A : Nat → Prop} {a a0 : Nat} {H0 : Heap} {Ts : List Cond} {own : String} {tb : Tb} {cy : Nat → ClassId} {L : List Nat} {τ : Nat → Ro} {E : Ec}
/-- System.arraycopy of numbers, from the first place to the first place -/
theorem tr_copy (C : CallFix p m c cc nL s args Ts own) (hls : ls.size = nL) (hK : va_K D vwCl (tysL cy) s) (hW : Wd D A H0 L E H locs) (hI : Inv tb cy L τ E) (ha0 : a0 ∈ L) {r0 : Ro} (hτ0 : τ a0 = r0) {n0 : Nat} {lo hi : Int} (hr0 : tb.2.1 r0 = some (0, n0, fun _ => (lo, hi))) (ha : a ∈ L) {r : Ro} (hτ : τ a = r) {n1 : Nat} {lo1 hi1 : Int} (hr : tb.2.1 r = some (0, n1, fun _ => (lo1, hi1))) (hlo : lo1 ≤ lo ∧ hi ≤ hi1)
    {index : Nat} (hlink : (Cond.methodLink own index arraycopyName).before args s = true) (hnat : (Cond.native arraycopyName).before args s = true) (hstat : (Cond.static arraycopyName).before args s = true) (hini : (Cond.initialized "java/lang/System").before args s = true)
    {sp dp n : Int32} (k : Nat) (hk0 : k ≤ n0) (hk1 : k ≤ n1) (h1 : sp.toInt = 0) (h2 : dp.toInt = 0) (h3 : n.toInt = k) (hframes : 1 ≤ R.frames) (hlocals : (rest.map fun v => v.category).sum + (nativeFrameWords "java/lang/System" "arraycopy" 5 + 11) ≤ R.locals) (hdg : decode cc pc = .ok (.invokestatic index, 3))
    (kk : ∀ (E' : Ec) (H1 : Heap) (locs1 : List Loc), Wd D A H0 L E' H1 locs1 → Inv tb cy L τ E' → isCop E E' a → W p l e R s m args below meth c H1 locs1 cells slots Q (F0 m (pc + 3) ls rest)) : W p l e R s m args below meth c H locs cells slots Q (F0 m pc ls (.int n :: .int dp :: .ref a :: .int sp :: .ref a0 :: rest)) := by
  obtain ⟨hx, hb, hml, hown, hts⟩ := C
  obtain ⟨hP, hD, hS⟩ := hW
  subst hτ0
  subst hτ
  obtain ⟨f, he0, hf0⟩ := hI.2.1 a0 ha0 _ _ _ hr0
  obtain ⟨g, he, hg⟩ := hI.2.1 a ha _ _ _ hr
  obtain ⟨j0, hj0⟩ := pl_at (E := E) ha0
  obtain ⟨j, hj⟩ := pl_at (E := E) ha
  have hj' := hj
  rw [he0] at hj0
  rw [he] at hj
  have c1 : sp.toNatClampNeg = 0 := by show sp.toInt.toNat = _; omega
  have c2 : dp.toNatClampNeg = 0 := by show dp.toInt.toNat = _; omega
  have c3 : n.toNatClampNeg = k := by show n.toInt.toNat = _; omega
  have z0 : (0 : Int32).toInt = 0 := rfl
  refine va_copyi hx hb (hml.trans hls.symm) hown hlink hnat hstat hini hK hP hD hS j0 j 0 0 hj0 hj rfl rfl rfl (fun q => by have := (fa_lt _ _).mp q; omega) (fun q => by have := (fa_lt _ _).mp q; omega) (fun q => by have := (fa_lt _ _).mp q; omega) (by omega) (by omega) (fun i _ => rfl) hframes hlocals hdg (fun H1 locs1 hP1 hD1 hS1 => ?_)
  rw [pl_put hD ha hj'] at hP1 hD1
  refine kk _ H1 locs1 ⟨hP1, hD1, hS1⟩ (inv_seta hI he hr (fun i hi2 => ?_)) (fun b hb => va_up_ne _ _ hb)
  show lo1 ≤ _ ∧ _ ≤ hi1
  unfold va_cpy
  split
  · have := hf0 (sp.toNatClampNeg + (i - dp.toNatClampNeg)) (by omega)
    have q1 : lo ≤ (f (sp.toNatClampNeg + (i - dp.toNatClampNeg))).toInt := this.1
    have q2 : (f (sp.toNatClampNeg + (i - dp.toNatClampNeg))).toInt ≤ hi := this.2
    omega
  · exact hg i hi2
/-- a reference or null is written into an array of them; the thing is one of ours -/
theorem tr_aast (C : CallFix p m c cc nL s args Ts own) (hK : va_K D vwCl (tysL cy) s) (hW : Wd D A H0 L E H locs) (hI : Inv tb cy L τ E) (ha : a ∈ L) {r : Ro} (hτ : τ a = r) {j n : Nat} {t : Nat → Ft} (hr : tb.2.2 r = some (j, n, t)) {q : vw_C} {ci : Nat} (hc : vwCl[ci]? = some q) (hj : (tysL cy)[j]? = some (cy j, .object q.1)) {v : Option Nat} (hv : ∀ y : Nat, v = some y → y ∈ L ∧ ∃ ts : List Ft, tb.1 (τ y) = some (ci, ts)) {i : Int32} (hok : okF L τ (t i.toNatClampNeg) (va_rf v)) (h1 : 0 ≤ i.toInt) (h2 : i.toInt < n) (hdg : decode cc pc = .ok (.aastore, 1))
    (kk : ∀ (E' : Ec) (H1 : Heap) (locs1 : List Loc), Wd D A H0 L E' H1 locs1 → Inv tb cy L τ E' → isSeq E E' a i.toNatClampNeg v → W p l e R s m args below meth c H1 locs1 cells slots Q (F0 m (pc + 1) ls rest)) : W p l e R s m args below meth c H locs cells slots Q (F0 m pc ls (va_rf v :: .int i :: .ref a :: rest)) := by
  obtain ⟨hx, hb, hml, hown, hts⟩ := C
  obtain ⟨hP, hD, hS⟩ := hW
  subst hτ
  obtain ⟨f, he, hf⟩ := hI.2.2.1 a ha _ _ _ hr
  obtain ⟨k, hk⟩ := pl_at (E := E) ha
  have hk' := hk
  rw [he] at hk
  have fin : ∀ (H1 : Heap) (locs1 : List Loc), va_P D vwCl ((va_pl L E).set k (a, .inl (cy j, n, .inr (.inr (.inr (.inr (va_up f i.toNatClampNeg v))))))) H1 → va_D A ((va_pl L E).set k (a, .inl (cy j, n, .inr (.inr (.inr (.inr (va_up f i.toNatClampNeg v))))))) → va_S A H0 H1 locs1 → W p l e R s m args below meth c H1 locs1 cells slots Q (F0 m (pc + 1) ls rest) := by
    intro H1 locs1 hP1 hD1 hS1
    rw [pl_put hD ha hk'] at hP1 hD1
    refine kk _ H1 locs1 ⟨hP1, hD1, hS1⟩ (inv_setq hI he hr hok) ⟨fun b hb => va_up_ne _ _ hb, ?_, fun x hx => ?_⟩
    · simp [aq, va_up]
    · simp [aq, va_up, hx, he]
  cases v with
  | none => exact va_astqN hx hb hK hP hD hS k j hk hj (tr_in h1 h2) hdg fin
  | some y =>
    obtain ⟨hy, ts, hts'⟩ := hv y rfl
    obtain ⟨fs, hey, -⟩ := hI.1 y hy _ _ hts'
    obtain ⟨k2, hk2⟩ := pl_at (E := E) hy
    rw [hey] at hk2
    exact va_astq hx hb hK hP hD hS k j k2 ci hk hj hk2 hc (tr_in h1 h2) hdg fin
end MORE
theorem fi_cop {E E' : Ec} {a b k : Nat} (h : isCop E E' b) (hn : a ≠ b) : fi E' a k = fi E a k := by simp only [fi, fv, h a hn]
theorem fi_seq {E E' : Ec} {a b k i : Nat} {x : Option Nat} (h : isSeq E E' b i x) (hn : a ≠ b) : fi E' a k = fi E a k := by simp only [fi, fv, h.1 a hn]
/-- a law's cell among ours -/
theorem law_ob {L : List Nat} {τ : Nat → Ro} {v : Option Nat} (h : ∀ y : Nat, v = some y → y ∈ L ∧ (τ y).1 = 10) : ∀ y : Nat, v = some y → y ∈ L ∧ ∃ ts : List Ft, TB.1 (τ y) = some (1, ts) := fun y hy => by
  obtain ⟨h1, h2⟩ := h y hy
  refine ⟨h1, ?_⟩
  obtain ⟨n, hn⟩ : ∃ n : Nat, τ y = (10, n) := ⟨(τ y).2, by rw [← h2]⟩
  rw [hn]
  exact ⟨_, rfl⟩
theorem law_ok {L : List Nat} {τ : Nat → Ro} {v : Option Nat} (h : ∀ y : Nat, v = some y → y ∈ L ∧ (τ y).1 = 10) : okF L τ (3, 10, 0) (va_rf v) := by
  cases v with
  | none => exact Or.inl rfl
  | some y => exact Or.inr ⟨y, rfl, (h y rfl).1, (h y rfl).2⟩
theorem law_no {L : List Nat} {τ : Nat → Ro} {v : Option Nat} (h : okF L τ (3, 10, 0) (va_rf v)) : ∀ y : Nat, v = some y → y ∈ L ∧ (τ y).1 = 10 := by
  intro y hy
  subst hy
  rcases h with h | ⟨q, h, h1, h2⟩
  · cases h
  · cases h
    exact ⟨h1, h2⟩
/-- row w of the grid -/
theorem row_at {i : Int32} {w : Nat} {x : Int} (h : i.toInt = w) : (((1 : Nat), (100 : Int) + ((i.toNatClampNeg : Nat) : Int), x) : Ft) = (1, 100 + (w : Int), x) := by
  have hh : i.toNatClampNeg = w := by show i.toInt.toNat = w; omega
  rw [hh]
theorem row_tab {j o : Nat} (h : j ≤ 12) : ∃ w : Nat → Int × Int, TB.2.1 (100 + j, o) = some (0, 66, w) := by
  have : j = 0 ∨ j = 1 ∨ j = 2 ∨ j = 3 ∨ j = 4 ∨ j = 5 ∨ j = 6 ∨ j = 7 ∨ j = 8 ∨ j = 9 ∨ j = 10 ∨ j = 11 ∨ j = 12 := by omega
  rcases this with rfl | rfl | rfl | rfl | rfl | rfl | rfl | rfl | rfl | rfl | rfl | rfl | rfl <;> exact ⟨_, rfl⟩
section MORE2
variable {p : Program} {l : Launch} {e : Env} {R : Room} {s : State} {m : MethodId} {args : Array Value} {below : List Frame} {meth : Method} {c : Code} {H : Heap} {locs : List Loc} {cells slots : Nat} {Q : State → Prop}
variable {cc : ByteArray} {pc nL : Nat} {ls : Array Slot} {rest : List Value} {D : va_G} {A : Nat → Prop} {a a0 : Nat} {H0 : Heap} {Ts : List Cond} {own : String} {tb : Tb} {cy : Nat → ClassId} {L : List Nat} {τ : Nat → Ro} {E : Ec}
/-- a number of an array is read, whatever it is -/
theorem tr_ialdw (C : CallFix p m c cc nL s args Ts own) (hK : va_K D vwCl (tysL cy) s) (hW : Wd D A H0 L E H locs) (hI : Inv tb cy L τ E) (ha : a ∈ L) {r : Ro} (hτ : τ a = r) {n : Nat} (hr : ∃ w : Nat → Int × Int, tb.2.1 r = some (0, n, w)) {i : Int32} (h1 : 0 ≤ i.toInt) (h2 : i.toInt < n) (hdg : decode cc pc = .ok (.iaload, 1))
    (kk : ∀ x : Int32, ai E a i.toNatClampNeg = x → W p l e R s m args below meth c H locs cells slots Q (F0 m (pc + 1) ls (.int x :: rest))) : W p l e R s m args below meth c H locs cells slots Q (F0 m pc ls (.int i :: .ref a :: rest)) := by
  obtain ⟨w, hw⟩ := hr
  exact tr_ialdx C hK hW hI ha hτ hw h1 h2 hdg (fun x hx _ _ => kk x hx)
/-- the length of an array of numbers -/
theorem tr_alen (C : CallFix p m c cc nL s args Ts own) (hK : va_K D vwCl (tysL cy) s) (hW : Wd D A H0 L E H locs) (hI : Inv tb cy L τ E) (ha : a ∈ L) {r : Ro} (hτ : τ a = r) {n : Nat} {w : Nat → Int × Int} (hr : tb.2.1 r = some (0, n, w)) (hn : n < 2147483648) (hdg : decode cc pc = .ok (.arraylength, 1))
    (kk : ∀ x : Int32, x.toInt = n → W p l e R s m args below meth c H locs cells slots Q (F0 m (pc + 1) ls (.int x :: rest))) : W p l e R s m args below meth c H locs cells slots Q (F0 m pc ls (.ref a :: rest)) := by
  obtain ⟨hx, hb, hml, hown, hts⟩ := C
  obtain ⟨hP, hD, hS⟩ := hW
  subst hτ
  obtain ⟨f, he, hf⟩ := hI.2.1 a ha _ _ _ hr
  obtain ⟨j, hj⟩ := pl_at (E := E) ha
  rw [he] at hj
  exact va_alen hx hb hK hP j 0 hj rfl (v := nI n) rfl hdg (kk _ (nI_toInt (by omega)))
end MORE2
