/-! LAWS ARE MADE: their cells, and the copies of the reader's rows -/
def lawK (r : Ro) : Prop := r.1 = 10 ∨ r.1 = 120 ∨ r.1 = 121 ∨ r.1 = 122 ∨ r.1 = 123
/-- from a store to a later one with cells of laws more: x is under construction, cells of other roles than these stay -/
def GL (x : Nat) (wr : Ro → Bool) (L : List Nat) (τ : Nat → Ro) (E : Ec) (L' : List Nat) (τ' : Nat → Ro) (E' : Ec) : Prop := (∀ a ∈ L, a ∈ L') ∧ (∀ a ∈ L, a ≠ x → τ' a = τ a) ∧ (∀ a ∈ L, a ≠ x → wr (τ a) = false → E' a = E a) ∧ ∀ b ∈ L', b ∈ L ∨ lawK (τ' b)
theorem GL.refl {x : Nat} {wr : Ro → Bool} {L : List Nat} {τ : Nat → Ro} {E : Ec} : GL x wr L τ E L τ E := ⟨fun _ h => h, fun _ _ _ => rfl, fun _ _ _ _ => rfl, fun _ h => Or.inl h⟩
theorem GL.push {x q : Nat} {wr : Ro → Bool} {L L1 L2 : List Nat} {τ τ1 τ2 : Nat → Ro} {E E1 E2 : Ec} {r : Ro} (h : GL x wr L τ E L1 τ1 E1) (hp : Psh L1 τ1 E1 L2 τ2 E2 q r) (hr : lawK r) : GL x wr L τ E L2 τ2 E2 := by
  obtain ⟨a1, a2, a3, a4⟩ := h
  obtain ⟨h1, h2, h3, h4, h5, h6, h7⟩ := hp
  refine ⟨fun a ha => h1 a (a1 a ha), fun a ha hx => (h2 a (a1 a ha)).trans (a2 a ha hx), fun a ha hx hw => (h3 a (a1 a ha)).trans (a3 a ha hx hw), fun b hb => ?_⟩
  rcases h7 b hb with c | c
  · rcases a4 b c with d | d
    · exact Or.inl d
    · exact Or.inr (by rw [h2 b c]; exact d)
  · exact Or.inr (by rw [c, h5]; exact hr)
theorem GL.wr {x a : Nat} {wr : Ro → Bool} {L L1 : List Nat} {τ τ1 : Nat → Ro} {E E1 E2 : Ec} (h : GL x wr L τ E L1 τ1 E1) (hw : ∀ b, b ≠ a → E2 b = E1 b) (ha : a = x) : GL x wr L τ E L1 τ1 E2 :=
  ⟨h.1, h.2.1, fun b hb hx hr => (hw b (fun q => hx (q.trans ha))).trans (h.2.2.1 b hb hx hr), h.2.2.2⟩
theorem GL.role {x : Nat} {wr : Ro → Bool} {L L1 : List Nat} {τ τ1 : Nat → Ro} {E E1 : Ec} {r : Ro} (h : GL x wr L τ E L1 τ1 E1) (hx : x ∈ L) : GL x wr L τ E L1 (upT τ1 x r) E1 := by
  obtain ⟨a1, a2, a3, a4⟩ := h
  refine ⟨a1, fun a ha hn => (upT_ne hn).trans (a2 a ha hn), a3, fun b hb => ?_⟩
  by_cases c : b = x
  · exact Or.inl (c ▸ hx)
  · rw [upT_ne c]
    exact a4 b hb
def CtL1v (G : Sg) (l : Launch) (y : MethodName) (w : List Cond) (rm : Room) (D : va_G) (cy : Nat → ClassId) (L : List Nat) (τ : Nat → Ro) (E : Ec) (av : List Value) (x : Nat) (wr : Ro → Bool) (mc ms : Nat) (post : List Nat → (Nat → Ro) → Ec → Prop) : Prop :=
  ∀ sz : Nat, Met l y w rm (pre1 G D cy L E sz av) (va_Qv (S := List Nat × (Nat → Ro) × Ec) (fun Y => Inv TB cy Y.1 Y.2.1 Y.2.2 ∧ GL x wr L τ E Y.1 Y.2.1 Y.2.2 ∧ post Y.1 Y.2.1 Y.2.2) (fun Y => Bw D cy Y.1 (va_A (va_pl L E) sz) Y.2.2) (va_A (va_pl L E) sz)) mc ms (va_A (va_pl L E) sz)
def CtL1q (G : Sg) (l : Launch) (y : MethodName) (w : List Cond) (rm : Room) (D : va_G) (cy : Nat → ClassId) (L : List Nat) (τ : Nat → Ro) (E : Ec) (av : List Value) (x : Nat) (wr : Ro → Bool) (mc ms : Nat) (post : Option Nat → List Nat → (Nat → Ro) → Ec → Prop) : Prop :=
  ∀ sz : Nat, Met l y w rm (pre1 G D cy L E sz av) (va_Qq (S := List Nat × (Nat → Ro) × Ec) (fun r Y => Inv TB cy Y.1 Y.2.1 Y.2.2 ∧ GL x wr L τ E Y.1 Y.2.1 Y.2.2 ∧ post r Y.1 Y.2.1 Y.2.2) (fun Y => Bw D cy Y.1 (va_A (va_pl L E) sz) Y.2.2) (va_A (va_pl L E) sz)) mc ms (va_A (va_pl L E) sz)
def CtL1i (G : Sg) (l : Launch) (y : MethodName) (w : List Cond) (rm : Room) (D : va_G) (cy : Nat → ClassId) (L : List Nat) (τ : Nat → Ro) (E : Ec) (av : List Value) (x : Nat) (wr : Ro → Bool) (mc ms : Nat) (post : Int32 → List Nat → (Nat → Ro) → Ec → Prop) : Prop :=
  ∀ sz : Nat, Met l y w rm (pre1 G D cy L E sz av) (va_Qi (S := List Nat × (Nat → Ro) × Ec) (fun r Y => Inv TB cy Y.1 Y.2.1 Y.2.2 ∧ GL x wr L τ E Y.1 Y.2.1 Y.2.2 ∧ post r Y.1 Y.2.1 Y.2.2) (fun Y => Bw D cy Y.1 (va_A (va_pl L E) sz) Y.2.2) (va_A (va_pl L E) sz)) mc ms (va_A (va_pl L E) sz)
section LAWR
variable {p : Program} {l : Launch} {e : Env} {R : Room} {s : State} {m : MethodId} {args : Array Value} {below : List Frame} {meth : Method} {c : Code} {H : Heap} {locs : List Loc} {cells slots : Nat} {Q : State → Prop}
variable {cc : ByteArray} {pc nL : Nat} {ls : Array Slot} {rest st : List Value} {D : va_G} {A : Nat → Prop} {a a0 : Nat} {Ts : List Cond} {own : String} {cy : Nat → ClassId} {L : List Nat} {τ : Nat → Ro} {E : Ec} {G : Sg}
variable {y : MethodName} {w : List Cond} {rm : Room} {av : List Value}
/-- numbers are copied into an array, within its bounds -/
theorem tr_copyw (C : CallFix p m c cc nL s args Ts own) (hls : ls.size = nL) (hK : va_K D vwCl (tysL cy) s) (S : NowG D cy A s L τ E H locs) (ha0 : a0 ∈ L) {r0 : Ro} (hτ0 : τ a0 = r0) {n0 : Nat} {w0 : Nat → Int × Int} (hr0 : tInt r0 = some (0, n0, w0)) (ha : a ∈ L) {r : Ro} (hτ : τ a = r) {n1 : Nat} {w1 : Nat → Int × Int} (hr : tInt r = some (0, n1, w1)) (k : Nat) (hv : ∀ i : Nat, i < k → (w1 i).1 ≤ (ai E a0 i).toInt ∧ (ai E a0 i).toInt ≤ (w1 i).2)
    {index : Nat} (hlink : (Cond.methodLink own index arraycopyName).before args s = true) (hnat : (Cond.native arraycopyName).before args s = true) (hstat : (Cond.static arraycopyName).before args s = true) (hini : (Cond.initialized "java/lang/System").before args s = true)
    {sp dp n : Int32} (hk0 : k ≤ n0) (hk1 : k ≤ n1) (h1 : sp.toInt = 0) (h2 : dp.toInt = 0) (h3 : n.toInt = k) (hframes : 1 ≤ R.frames) (hlocals : (rest.map fun v => v.category).sum + (nativeFrameWords "java/lang/System" "arraycopy" 5 + 11) ≤ R.locals) (hdg : decode cc pc = .ok (.invokestatic index, 3))
    (kk : ∀ (E' : Ec) (H1 : Heap) (locs1 : List Loc), NowG D cy A s L τ E' H1 locs1 → (∀ b, b ≠ a → E' b = E b) → W p l e R s m args below meth c H1 locs1 cells slots Q (F0 m (pc + 3) ls rest)) : W p l e R s m args below meth c H locs cells slots Q (F0 m pc ls (.int n :: .int dp :: .ref a :: .int sp :: .ref a0 :: rest)) := by
  obtain ⟨hx, hb, hml, hown, hts⟩ := C
  obtain ⟨⟨hP, hD, hS⟩, hI⟩ := S
  subst hτ0
  subst hτ
  obtain ⟨f, he0, hf0⟩ := hI.2.1 a0 ha0 _ _ _ hr0
  obtain ⟨g, he, hg⟩ := hI.2.1 a ha _ _ _ hr
  obtain ⟨j0, hj0⟩ := pl_at (E := E) ha0
  obtain ⟨j, hj⟩ := pl_at (E := E) ha
  have hj' := hj
  have ef : ∀ i : Nat, ai E a0 i = f i := fun i => by simp [ai, he0]
  rw [he0] at hj0
  rw [he] at hj
  have c1 : sp.toNatClampNeg = 0 := by show sp.toInt.toNat = _; omega
  have c2 : dp.toNatClampNeg = 0 := by show dp.toInt.toNat = _; omega
  have c3 : n.toNatClampNeg = k := by show n.toInt.toNat = _; omega
  have z0 : (0 : Int32).toInt = 0 := rfl
  refine va_copyi hx hb (hml.trans hls.symm) hown hlink hnat hstat hini hK hP hD hS j0 j 0 0 hj0 hj rfl rfl rfl (fun q => by have := (fa_lt _ _).mp q; omega) (fun q => by have := (fa_lt _ _).mp q; omega) (fun q => by have := (fa_lt _ _).mp q; omega) (by omega) (by omega) (fun i _ => rfl) hframes hlocals hdg (fun H1 locs1 hP1 hD1 hS1 => ?_)
  rw [pl_put hD ha hj'] at hP1 hD1
  refine kk _ H1 locs1 ⟨⟨hP1, hD1, hS1⟩, inv_seta hI he hr (fun i hi2 => ?_)⟩ (fun b hb => va_up_ne _ _ hb)
  unfold va_cpy
  split
  · have := hv (sp.toNatClampNeg + (i - dp.toNatClampNeg)) (by omega)
    rw [ef] at this
    rw [show sp.toNatClampNeg + (i - dp.toNatClampNeg) = i from by omega] at this ⊢
    exact this
  · exact hg i hi2
/-- an array of numbers is cloned into a new cell -/
theorem tr_clone (C : CallFix p m c cc nL s args Ts own) (hls : ls.size = nL) (hK : va_K D vwCl (tysL cy) s) (hA : ∀ q, s.heap.size ≤ q → A q) (hZ : SW G A s s.heap) (S : NowG D cy A s L τ E H locs) (ha0 : a0 ∈ L) {r0 : Ro} (hτ0 : τ a0 = r0) {n0 : Nat} {w0 : Nat → Int × Int} (hr0 : tInt r0 = some (0, n0, w0)) (r : Ro) {w1 : Nat → Int × Int} (hr1 : tObj r = none) (hr2 : tInt r = some (0, n0, w1)) (hr3 : tRef r = none) (hu : uq r = true → ∀ b ∈ L, τ b ≠ r) (hv : ∀ i : Nat, i < n0 → (w1 i).1 ≤ (ai E a0 i).toInt ∧ (ai E a0 i).toInt ≤ (w1 i).2)
    {index : Nat} (hlink : (Cond.methodLink own index ⟨"[I", "clone", "()Ljava/lang/Object;"⟩).before args s = true) (hsame : (Cond.sameMethod "[I" "java/lang/Object" "clone" "()Ljava/lang/Object;").before args s = true) (hnat : (Cond.native ⟨"java/lang/Object", "clone", "()Ljava/lang/Object;"⟩).before args s = true) (hinst : (Cond.instanceMethod ⟨"java/lang/Object", "clone", "()Ljava/lang/Object;"⟩).before args s = true) (hsel : (Cond.selects "[I" ⟨"[I", "clone", "()Ljava/lang/Object;"⟩ ⟨"java/lang/Object", "clone", "()Ljava/lang/Object;"⟩).before args s = true)
    (hframes : 1 ≤ R.frames) (hlocals : (rest.map fun v => v.category).sum + 14 ≤ R.locals) (hcells : cells + 1 ≤ R.cells) (hslots : slots + n0 ≤ R.slots) (hdg : decode cc pc = .ok (.invokevirtual index, 3))
    (kk : ∀ (L' : List Nat) (τ' : Nat → Ro) (E' : Ec) (q : Nat) (H1 : Heap), NowG D cy A s L' τ' E' H1 locs → Psh L τ E L' τ' E' q r → W p l e R s m args below meth c H1 locs (cells + 1) (slots + n0) Q (F0 m (pc + 3) ls (.ref q :: rest))) : W p l e R s m args below meth c H locs cells slots Q (F0 m pc ls (.ref a0 :: rest)) := by
  obtain ⟨hx, hb, hml, hown, hts⟩ := C
  obtain ⟨⟨hP, hD, hS⟩, hI⟩ := S
  subst hτ0
  obtain ⟨f, he0, hf0⟩ := hI.2.1 a0 ha0 _ _ _ hr0
  obtain ⟨j0, hj0⟩ := pl_at (E := E) ha0
  have ef : ∀ i : Nat, ai E a0 i = f i := fun i => by simp [ai, he0]
  rw [he0] at hj0
  refine va_clone hx hb (hml.trans hls.symm) hown hlink hsame hnat hinst hsel hZ.2.2.2.2.2.2.2.2 hK hP hD hS hA j0 0 hj0 rfl (hK.2 0 _ rfl).2 (fun i v q => ?_) hframes hlocals hcells hslots hdg (fun q H1 hK2 hP1 hD1 hS1 => ?_)
  · obtain ⟨hi, hv2⟩ := Array.getElem?_eq_some_iff.mp q
    have hl : i < n0 := by
      have : (vp_cell (cy 0) (n0, .inl f)).slots.size = n0 := arrV_size _ _ _
      omega
    have hr : (vp_cell (cy 0) (n0, .inl f)).slots[i]? = some (.int (f i)) := arrV_read (cy 0) (fun j => .int (f j)) hl
    rw [hr] at q
    cases q
    rfl
  · have hq := q_fresh hD1
    refine kk _ (upT τ q r) _ q H1 ⟨wd_push hq hP1 hD1 hS1, inv_push hI hq hu (fun ci ts h => ?_) (fun j' n' b h => ?_) (fun j' n' t h => ?_)⟩ (psh_push hq)
    · exact nomatch (hr1.symm.trans h)
    · have := hr2.symm.trans h
      cases this
      exact ⟨f, va_up_self _ _ _, fun i hi => by rw [← ef i]; exact hv i hi⟩
    · exact nomatch (hr3.symm.trans h)
/-- a cast to the array's own class -/
theorem tr_castI (C : CallFix p m c cc nL s args Ts own) (hK : va_K D vwCl (tysL cy) s) (S : NowG D cy A s L τ E H locs) (ha : a ∈ L) {r : Ro} (hτ : τ a = r) {n : Nat} {w1 : Nat → Int × Int} (hr : tInt r = some (0, n, w1)) {index : Nat} (hlink : (Cond.classLink own index "[I").before args s = true) (hdg : decode cc pc = .ok (.checkcast index, 3))
    (kk : W p l e R s m args below meth c H locs cells slots Q (F0 m (pc + 3) ls (.ref a :: rest))) : W p l e R s m args below meth c H locs cells slots Q (F0 m pc ls (.ref a :: rest)) := by
  obtain ⟨hx, hb, hml, hown, hts⟩ := C
  obtain ⟨⟨hP, hD, hS⟩, hI⟩ := S
  subst hτ
  obtain ⟨f, he, -⟩ := hI.2.1 a ha _ _ _ hr
  obtain ⟨j, hj⟩ := pl_at (E := E) ha
  rw [he] at hj
  exact va_castA hx hb hown hlink hP j hj (hK.2 0 _ rfl).2 hdg kk
/-- a method's start, with the statics, where cells will be made -/
theorem staL {Qc : Array Value → State → Outcome → State → Prop} {sz maxL mc ms : Nat} {ret : Option FieldType} {w' : List Cond} {free : Addr → Prop} (hI : Inv TB cy L τ E) (hy : plainName y.cls = true) (hw : w = Cond.code y cc maxL ret :: w') (hl : (lg_sl av).length ≤ maxL)
    (body : ∀ (p : Program) (e : Env) (s : State) (m : MethodId) (args : Array Value) (below : List Frame) (meth : Method) (c : Code) (ls : Array Slot), s.heap.size = sz → meth.name = y.name → Amb p m meth c cc maxL s args w y.cls ret D cy (va_A (va_pl L E) sz) → SW G (va_A (va_pl L E) sz) s s.heap → NowG D cy (va_A (va_pl L E) sz) s L τ E s.heap [] → lv_has ls maxL (lv_args 0 av) → W p l e rm s m args below meth c s.heap [] 0 0 (MQ below Qc args s mc ms free) (F0 m 0 ls [])) :
    Met l y w rm (pre1 G D cy L E sz av) Qc mc ms free := by
  refine Met.ofW (cc := cc) (maxL := maxL) (ret := ret) hy hw ?_
  intro p e s m args below meth c s₁ B hml hv
  obtain ⟨rfl, hsz, ⟨hP, hK, hD0⟩, hN, hZ⟩ := hv
  have hts := atoms_spec (ws := w) B.pre
  have hown : s.vm.findClass y.cls = some m.cls := findClass_of_methodNamed B.named
  have hlv := lv_entry av (n := maxL) hl
  rw [lg_entry_eq]
  generalize (lg_sl av ++ List.replicate (maxL - (lg_sl av).length) Slot.unset).toArray = ls at hlv ⊢
  exact body p e s m _ below meth c ls hsz (name_of_methodNamed B.named B.method).1 ⟨⟨B.exec, B.bytes, hml, hown, hts⟩, B.returns, B.notSynchronized, hK, hN, fun q h => Or.inr (by omega)⟩ hZ ⟨⟨hP, hD0.self, va_S.rf⟩, hI⟩ hlv
theorem en_qL {L0 : List Nat} {τ0 : Nat → Ro} {E0 : Ec} {sz x : Nat} {wr : Ro → Bool} {rt : FieldType} (Z : Amb p m meth c cc nL s args Ts own (some rt) D cy (va_A (va_pl L0 E0) sz)) (hrt : (∃ n, rt = .object n) ∨ ∃ t, rt = .array t) (S : NowG D cy (va_A (va_pl L0 E0) sz) s L τ E H locs) (hG : GL x wr L0 τ0 E0 L τ E) {post : Option Nat → List Nat → (Nat → Ro) → Ec → Prop} {v : Option Nat} (hp : post v L τ E) (hdg : decode cc pc = .ok (.areturn, 1)) : W p l e R s m args below meth c H locs cells slots (MQ below (va_Qq (S := List Nat × (Nat → Ro) × Ec) (fun r Y => Inv TB cy Y.1 Y.2.1 Y.2.2 ∧ GL x wr L0 τ0 E0 Y.1 Y.2.1 Y.2.2 ∧ post r Y.1 Y.2.1 Y.2.2) (fun Y => Bw D cy Y.1 (va_A (va_pl L0 E0) sz) Y.2.2) (va_A (va_pl L0 E0) sz)) args s cells slots (va_A (va_pl L0 E0) sz)) (F0 m pc ls [va_rf v]) :=
  W.aret Z.1.1 Z.1.2.1 Z.2.1 hrt (by cases v with
    | none => exact Or.inl rfl
    | some y => exact Or.inr ⟨y, rfl⟩) (fun t ht hW => ⟨⟨v, (L, τ, E), rfl, ⟨S.2, hG, hp⟩, by rw [ht]; exact S.1.1, va_K.moved hW.alike Z.2.2.2.1, S.1.2.1⟩, S.1.2.2.F ht⟩) S.1.2.2.2.2 hdg Z.2.2.1
theorem en_vL {L0 : List Nat} {τ0 : Nat → Ro} {E0 : Ec} {sz x : Nat} {wr : Ro → Bool} (Z : Amb p m meth c cc nL s args Ts own none D cy (va_A (va_pl L0 E0) sz)) (S : NowG D cy (va_A (va_pl L0 E0) sz) s L τ E H locs) (hG : GL x wr L0 τ0 E0 L τ E) {post : List Nat → (Nat → Ro) → Ec → Prop} (hp : post L τ E) (hdg : decode cc pc = .ok (.return_, 1)) : W p l e R s m args below meth c H locs cells slots (MQ below (va_Qv (S := List Nat × (Nat → Ro) × Ec) (fun Y => Inv TB cy Y.1 Y.2.1 Y.2.2 ∧ GL x wr L0 τ0 E0 Y.1 Y.2.1 Y.2.2 ∧ post Y.1 Y.2.1 Y.2.2) (fun Y => Bw D cy Y.1 (va_A (va_pl L0 E0) sz) Y.2.2) (va_A (va_pl L0 E0) sz)) args s cells slots (va_A (va_pl L0 E0) sz)) (F0 m pc ls []) :=
  W.vret Z.1.1 Z.1.2.1 Z.2.1 (fun t ht hW => ⟨⟨(L, τ, E), rfl, ⟨S.2, hG, hp⟩, by rw [ht]; exact S.1.1, va_K.moved hW.alike Z.2.2.2.1, S.1.2.1⟩, S.1.2.2.F ht⟩) S.1.2.2.2.2 hdg Z.2.2.1
theorem en_iL {L0 : List Nat} {τ0 : Nat → Ro} {E0 : Ec} {sz x : Nat} {wr : Ro → Bool} (Z : Amb p m meth c cc nL s args Ts own (some .int) D cy (va_A (va_pl L0 E0) sz)) (S : NowG D cy (va_A (va_pl L0 E0) sz) s L τ E H locs) (hG : GL x wr L0 τ0 E0 L τ E) {post : Int32 → List Nat → (Nat → Ro) → Ec → Prop} {v : Int32} (hp : post v L τ E) (hdg : decode cc pc = .ok (.ireturn, 1)) : W p l e R s m args below meth c H locs cells slots (MQ below (va_Qi (S := List Nat × (Nat → Ro) × Ec) (fun r Y => Inv TB cy Y.1 Y.2.1 Y.2.2 ∧ GL x wr L0 τ0 E0 Y.1 Y.2.1 Y.2.2 ∧ post r Y.1 Y.2.1 Y.2.2) (fun Y => Bw D cy Y.1 (va_A (va_pl L0 E0) sz) Y.2.2) (va_A (va_pl L0 E0) sz)) args s cells slots (va_A (va_pl L0 E0) sz)) (F0 m pc ls [.int v]) :=
  W.iret Z.1.1 Z.1.2.1 Z.2.1 (fun t ht hW => ⟨⟨v, (L, τ, E), rfl, ⟨S.2, hG, hp⟩, by rw [ht]; exact S.1.1, va_K.moved hW.alike Z.2.2.2.1, S.1.2.1⟩, S.1.2.2.F ht⟩) S.1.2.2.2.2 hdg Z.2.2.1
/-- calls of methods that make cells of laws -/
theorem tc_Lq (C : CallFix p m c cc nL s args Ts own) (hK : va_K D vwCl (tysL cy) s) (hN : Nx s) (hA : ∀ q, s.heap.size ≤ q → A q) (hZ : SW G A s s.heap) (S : NowG D cy A s L τ E H locs) (ha : a ∈ L) {r : Ro} (hτ : τ a = r) {ci : Nat} {ts : List Ft} (hr : tObj r = some (ci, ts)) {q : vw_C} (hc : vwCl[ci]? = some q) {mc ms x : Nat} {wr : Ro → Bool} {post : Option Nat → List Nat → (Nat → Ro) → Ec → Prop} {As : List Value} (hM : CtL1q G l y w rm D cy L τ E (.ref a :: As) x wr mc ms post) {index n maxL : Nat} {bytes : ByteArray} {ret : Option FieldType} (cw : CallW R s args own q.1 index y bytes maxL ret w rm mc ms n) (hn : As.length = n) (hz : ls.size = nL) (hst : st = As.reverse ++ .ref a :: rest) (hro : (rest.map fun v => v.category).sum ≤ 8) (hdg : decode cc pc = .ok (.invokevirtual index, 3)) (hf : cells + mc ≤ R.cells ∧ slots + ms ≤ R.slots)
    (kk : ∀ (v : Option Nat) (L' : List Nat) (τ' : Nat → Ro) (E' : Ec) (H1 : Heap) (locs1 : List Loc), NowG D cy A s L' τ' E' H1 locs1 → GL x wr L τ E L' τ' E' → post v L' τ' E' → W p l e R s m args below meth c H1 locs1 (cells + mc) (slots + ms) Q (F0 m (pc + 3) ls (va_rf v :: rest))) : W p l e R s m args below meth c H locs cells slots Q (F0 m pc ls st) := by
  subst hst
  obtain ⟨hW, hI⟩ := S
  have hFc := fr_A hW hA
  refine va_callq (va_runV (As := As) (rest := rest) C (hM H.size) cw ⟨blind1, rv_at hK hW hI ha hτ hr hc, pre_at1 hK hN hA hZ hW⟩ rfl hn hz rfl (lv_room hro) hdg hf) hW.2.2 (fun q _ h => hFc q h) hFc (fun v Y t H1 locs1 ht hvm hp hB hz1 hk1 hS => ?_)
  obtain ⟨hP1, -, hD1⟩ := hB
  rw [ht] at hP1
  exact kk v Y.1 Y.2.1 Y.2.2 H1 locs1 ⟨⟨hP1, hD1.weaken (fun k q _ h => hFc _ h), hS⟩, hp.1⟩ hp.2.1 hp.2.2
theorem tc_Lsq (C : CallFix p m c cc nL s args Ts own) (hK : va_K D vwCl (tysL cy) s) (hN : Nx s) (hA : ∀ q, s.heap.size ≤ q → A q) (hZ : SW G A s s.heap) (S : NowG D cy A s L τ E H locs) {mc ms x : Nat} {wr : Ro → Bool} {post : Option Nat → List Nat → (Nat → Ro) → Ec → Prop} (hM : CtL1q G l y w rm D cy L τ E av x wr mc ms post) {index n maxL : Nat} {bytes : ByteArray} {ret : Option FieldType} (cw : CallB R s args own index y bytes maxL ret w rm mc ms n ∧ (Cond.static y).before args s = true) (hn : av.length = n) (hz : ls.size = nL) (hst : st = av.reverse ++ rest) (hro : (rest.map fun v => v.category).sum ≤ 8) (hdg : decode cc pc = .ok (.invokestatic index, 3)) (hf : cells + mc ≤ R.cells ∧ slots + ms ≤ R.slots)
    (kk : ∀ (v : Option Nat) (L' : List Nat) (τ' : Nat → Ro) (E' : Ec) (H1 : Heap) (locs1 : List Loc), NowG D cy A s L' τ' E' H1 locs1 → GL x wr L τ E L' τ' E' → post v L' τ' E' → W p l e R s m args below meth c H1 locs1 (cells + mc) (slots + ms) Q (F0 m (pc + 3) ls (va_rf v :: rest))) : W p l e R s m args below meth c H locs cells slots Q (F0 m pc ls st) := by
  subst hst
  obtain ⟨hW, hI⟩ := S
  have hFc := fr_A hW hA
  refine va_callq (va_runS (As := av) (rest := rest) C (hM H.size) cw ⟨blind1, pre_at1 hK hN hA hZ hW⟩ rfl hn hz rfl (lv_room hro) hdg hf) hW.2.2 (fun q _ h => hFc q h) hFc (fun v Y t H1 locs1 ht hvm hp hB hz1 hk1 hS => ?_)
  obtain ⟨hP1, -, hD1⟩ := hB
  rw [ht] at hP1
  exact kk v Y.1 Y.2.1 Y.2.2 H1 locs1 ⟨⟨hP1, hD1.weaken (fun k q _ h => hFc _ h), hS⟩, hp.1⟩ hp.2.1 hp.2.2
theorem tc_LI (C : CallFix p m c cc nL s args Ts own) (hK : va_K D vwCl (tysL cy) s) (hN : Nx s) (hA : ∀ q, s.heap.size ≤ q → A q) (hZ : SW G A s s.heap) (S : NowG D cy A s L τ E H locs) {mc ms : Nat} {wr : Ro → Bool} {post : List Nat → (Nat → Ro) → Ec → Prop} {As : List Value} (hM : CtL1v G l y w rm D cy L τ E (.ref a :: As) a wr mc ms post) {index n maxL : Nat} {bytes : ByteArray} (cw : CallB R s args own index y bytes maxL none w rm mc ms n ∧ y.name = "<init>" ∧ (Cond.instanceMethod y).before args s = true) (hn : As.length = n) (hz : ls.size = nL) (hst : st = As.reverse ++ .ref a :: rest) (hro : (rest.map fun v => v.category).sum ≤ 8) (hdg : decode cc pc = .ok (.invokespecial index, 3)) (hf : cells + mc ≤ R.cells ∧ slots + ms ≤ R.slots)
    (kk : ∀ (L' : List Nat) (τ' : Nat → Ro) (E' : Ec) (H1 : Heap) (locs1 : List Loc), NowG D cy A s L' τ' E' H1 locs1 → GL a wr L τ E L' τ' E' → post L' τ' E' → W p l e R s m args below meth c H1 locs1 (cells + mc) (slots + ms) Q (F0 m (pc + 3) ls rest)) : W p l e R s m args below meth c H locs cells slots Q (F0 m pc ls st) := by
  subst hst
  obtain ⟨hW, hI⟩ := S
  have hFc := fr_A hW hA
  refine va_callv (va_runI (As := As) (rest := rest) C (hM H.size) cw ⟨blind1, pre_at1 hK hN hA hZ hW⟩ rfl hn hz rfl (lv_room hro) hdg hf) hW.2.2 (fun q _ h => hFc q h) hFc (fun Y t H1 locs1 ht hvm hp hB hz1 hk1 hS => ?_)
  obtain ⟨hP1, -, hD1⟩ := hB
  rw [ht] at hP1
  exact kk Y.1 Y.2.1 Y.2.2 H1 locs1 ⟨⟨hP1, hD1.weaken (fun k q _ h => hFc _ h), hS⟩, hp.1⟩ hp.2.1 hp.2.2
end LAWR
