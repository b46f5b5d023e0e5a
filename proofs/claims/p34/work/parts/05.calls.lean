/-- the links from a nest mate -/
def nestL : List Cond := [.methodLinkNest RX9 32 yX8_init RX9, .methodLinkNest RX9 39 yX5_init RX9, .methodLinkNest RX9 46 yX7_init RX9, .methodLinkNest RX9 53 yX0_init RX9, .methodLinkNest RX4 70 yX9_within RX9, .methodLinkNest RX6 65 yX9_share RX9, .methodLinkNest RX7 27 yX8_init RX9]
def Nx (U : State) : Prop := ∀ w ∈ nestL, va_Nw w U
theorem Nx.warm {s U : State} (hW : s.WarmedH U.vm) (h : Nx s) : Nx U := by
  intro w hw
  have h1 := h w hw
  simp only [nestL, List.mem_cons, List.mem_nil_iff, or_false] at hw
  rcases hw with rfl | rfl | rfl | rfl | rfl | rfl | rfl <;> exact va_Nw.warmM hW h1
theorem Nx.same {s U : State} (hv : s.vm = U.vm) (h : Nx s) : Nx U := by
  intro w hw
  have h1 := h w hw
  simp only [nestL, List.mem_cons, List.mem_nil_iff, or_false] at hw
  rcases hw with rfl | rfl | rfl | rfl | rfl | rfl | rfl <;> exact va_Nw.same rfl hv h1
/-- the world at a method's ends -/
def Bw (D : va_G) (cy : Nat → ClassId) (L : List Nat) (A : Nat → Prop) (E : Ec) (t : State) : Prop := va_P D vwCl (va_pl L E) t.heap ∧ va_K D vwCl (tysL cy) t ∧ va_D A (va_pl L E)
/-- cells of other roles than these stay -/
def Fr (L : List Nat) (τ : Nat → Ro) (wr : Ro → Bool) (E E' : Ec) : Prop := ∀ a ∈ L, wr (τ a) = false → E' a = E a
theorem Fr.refl {L : List Nat} {τ : Nat → Ro} {wr : Ro → Bool} {E : Ec} : Fr L τ wr E E := fun _ _ _ => rfl
theorem Fr.trans {L : List Nat} {τ : Nat → Ro} {wr : Ro → Bool} {E E1 E2 : Ec} (h1 : Fr L τ wr E E1) (h2 : Fr L τ wr E1 E2) : Fr L τ wr E E2 := fun a ha hw => (h2 a ha hw).trans (h1 a ha hw)
theorem Fr.mono {L : List Nat} {τ : Nat → Ro} {w1 w2 : Ro → Bool} {E E1 : Ec} (h1 : Fr L τ w1 E E1) (h : ∀ r, w2 r = false → w1 r = false) : Fr L τ w2 E E1 := fun a ha hw => h1 a ha (h _ hw)
theorem Fr.put {L : List Nat} {τ : Nat → Ro} {wr : Ro → Bool} {E E1 E2 : Ec} {a k : Nat} {v : Value} (h1 : Fr L τ wr E E1) (h : isPut E1 E2 a k v) {r : Ro} (hτ : τ a = r) (hw : wr r = true) : Fr L τ wr E E2 := fun b hb hwb => by
  have : b ≠ a := fun q => by rw [q, hτ, hw] at hwb; cases hwb
  rw [h.1 b this]
  exact h1 b hb hwb
theorem Fr.set {L : List Nat} {τ : Nat → Ro} {wr : Ro → Bool} {E E1 E2 : Ec} {a k : Nat} {v : Int32} (h1 : Fr L τ wr E E1) (h : isSet E1 E2 a k v) {r : Ro} (hτ : τ a = r) (hw : wr r = true) : Fr L τ wr E E2 := fun b hb hwb => by
  have : b ≠ a := fun q => by rw [q, hτ, hw] at hwb; cases hwb
  rw [h.1 b this]
  exact h1 b hb hwb
theorem Fr.seq {L : List Nat} {τ : Nat → Ro} {wr : Ro → Bool} {E E1 E2 : Ec} {a k : Nat} {v : Option Nat} (h1 : Fr L τ wr E E1) (h : isSeq E1 E2 a k v) {r : Ro} (hτ : τ a = r) (hw : wr r = true) : Fr L τ wr E E2 := fun b hb hwb => by
  have : b ≠ a := fun q => by rw [q, hτ, hw] at hwb; cases hwb
  rw [h.1 b this]
  exact h1 b hb hwb
/-- a method's start: arguments, world, links -/
abbrev pre0 (D : va_G) (cy : Nat → ClassId) (L : List Nat) (E : Ec) (sz : Nat) (av : List Value) : Array Value → State → Prop := va_Pc av (fun U => U.heap.size = sz ∧ Bw D cy L (fun _ => True) E U ∧ Nx U)
theorem blind0 {D : va_G} {cy : Nat → ClassId} {L : List Nat} {E : Ec} {sz : Nat} {av : List Value} : FrameBlind (pre0 D cy L E sz av) := fun a U g mk q => by
  obtain ⟨q0, q1, ⟨qP, qK, qD⟩, qN⟩ := q
  exact ⟨q0, q1, ⟨qP, va_K.moved (u := U) (U := U.calling g mk a) (Vm.Alike.refl U.vm) qK, qD⟩, Nx.same (s := U) (U := U.calling g mk a) rfl qN⟩
/-- CONTRACTS of methods that make no cells: with a number, with nothing, with a reference -/
def CtI (l : Launch) (y : MethodName) (w : List Cond) (rm : Room) (D : va_G) (tb : Tb) (cy : Nat → ClassId) (L : List Nat) (τ : Nat → Ro) (E : Ec) (av : List Value) (wr : Ro → Bool) (post : Int32 → Ec → Prop) : Prop :=
  ∀ sz : Nat, Met l y w rm (pre0 D cy L E sz av) (va_Qi (fun r E' => Inv tb cy L τ E' ∧ Fr L τ wr E E' ∧ post r E') (Bw D cy L (va_A (va_pl L E) sz)) (va_A (va_pl L E) sz)) 0 0 (va_A (va_pl L E) sz)
def CtV (l : Launch) (y : MethodName) (w : List Cond) (rm : Room) (D : va_G) (tb : Tb) (cy : Nat → ClassId) (L : List Nat) (τ : Nat → Ro) (E : Ec) (av : List Value) (wr : Ro → Bool) (post : Ec → Prop) : Prop :=
  ∀ sz : Nat, Met l y w rm (pre0 D cy L E sz av) (va_Qv (fun E' => Inv tb cy L τ E' ∧ Fr L τ wr E E' ∧ post E') (Bw D cy L (va_A (va_pl L E) sz)) (va_A (va_pl L E) sz)) 0 0 (va_A (va_pl L E) sz)
def CtQ (l : Launch) (y : MethodName) (w : List Cond) (rm : Room) (D : va_G) (tb : Tb) (cy : Nat → ClassId) (L : List Nat) (τ : Nat → Ro) (E : Ec) (av : List Value) (wr : Ro → Bool) (post : Option Nat → Ec → Prop) : Prop :=
  ∀ sz : Nat, Met l y w rm (pre0 D cy L E sz av) (va_Qq (fun r E' => Inv tb cy L τ E' ∧ Fr L τ wr E E' ∧ post r E') (Bw D cy L (va_A (va_pl L E) sz)) (va_A (va_pl L E) sz)) 0 0 (va_A (va_pl L E) sz)
def CtL (l : Launch) (y : MethodName) (w : List Cond) (rm : Room) (D : va_G) (tb : Tb) (cy : Nat → ClassId) (L : List Nat) (τ : Nat → Ro) (E : Ec) (av : List Value) (wr : Ro → Bool) (post : Int64 → Ec → Prop) : Prop :=
  ∀ sz : Nat, Met l y w rm (pre0 D cy L E sz av) (va_Ql (fun r E' => Inv tb cy L τ E' ∧ Fr L τ wr E E' ∧ post r E') (Bw D cy L (va_A (va_pl L E) sz)) (va_A (va_pl L E) sz)) 0 0 (va_A (va_pl L E) sz)
section CALLS
variable {p : Program} {l : Launch} {e : Env} {R : Room} {s : State} {m : MethodId} {args : Array Value} {below : List Frame} {meth : Method} {c : Code} {H : Heap} {locs : List Loc} {cells slots : Nat} {Q : State → Prop}
variable {cc : ByteArray} {pc nL : Nat} {ls : Array Slot} {rest st : List Value} {D : va_G} {A : Nat → Prop} {a : Nat} {Ts : List Cond} {own : String} {tb : Tb} {cy : Nat → ClassId} {L : List Nat} {τ : Nat → Ro} {E : Ec}
variable {y : MethodName} {w : List Cond} {rm : Room} {av : List Value} {wr : Ro → Bool}
theorem fr_A (hW : Wd D A s.heap L E H locs) (hA : ∀ q, s.heap.size ≤ q → A q) : ∀ q, va_A (va_pl L E) H.size q → A q := by
  intro q h
  rcases h with ⟨k, e, h⟩ | h
  · exact hW.2.1.2 k _ h
  · exact hA q (Nat.le_trans hW.2.2.1 h)
theorem pre_at (hK : va_K D vwCl (tysL cy) s) (hN : Nx s) (hW : Wd D A s.heap L E H locs) : ∀ U : State, U.heap = H → s.WarmedH U.vm → pre0 D cy L E H.size av av.toArray U := fun U hU hW1 =>
  ⟨rfl, by rw [hU], ⟨by rw [hU]; exact hW.1, va_K.moved hW1.alike hK, hW.2.1.weaken (fun _ _ _ _ => trivial)⟩, Nx.warm hW1 hN⟩
/-- behind a call: the world -/
theorem wd_behind {H1 : Heap} {locs1 : List Loc} {t : State} {E' : Ec} (hW : Wd D A s.heap L E H locs) (hA : ∀ q, s.heap.size ≤ q → A q) (ht : t.heap = H1) (hB : Bw D cy L (va_A (va_pl L E) H.size) E' t) (hS : va_S A s.heap H1 locs1) : Wd D A s.heap L E' H1 locs1 := by
  obtain ⟨hP1, -, hD1⟩ := hB
  rw [ht] at hP1
  exact ⟨hP1, hD1.weaken (fun k q _ h => fr_A hW hA _ h), hS⟩
theorem rv_at (hK : va_K D vwCl (tysL cy) s) (hW : Wd D A s.heap L E H locs) (hI : Inv tb cy L τ E) (ha : a ∈ L) {r : Ro} (hτ : τ a = r) {ci : Nat} {ts : List Ft} (hr : tb.1 r = some (ci, ts)) {q : vw_C} (hc : vwCl[ci]? = some q) : ∃ cell : Cell, H[a]? = some cell ∧ cell.vm.isStatics = false ∧ s.vm.findClass q.1 = some cell.cls := by
  subst hτ
  obtain ⟨fs, he, -⟩ := hI.1 a ha ci ts hr
  obtain ⟨i, hi⟩ := pl_at (E := E) ha
  rw [he] at hi
  exact va_recv hK hW.1 hc hi
/-- a virtual call with a number for an answer -/
theorem tc_vi (C : CallFix p m c cc nL s args Ts own) (hK : va_K D vwCl (tysL cy) s) (hN : Nx s) (hA : ∀ q, s.heap.size ≤ q → A q) (hW : Wd D A s.heap L E H locs) (hI : Inv tb cy L τ E) (ha : a ∈ L) {r : Ro} (hτ : τ a = r) {ci : Nat} {ts : List Ft} (hr : tb.1 r = some (ci, ts)) {q : vw_C} (hc : vwCl[ci]? = some q)
    {post : Int32 → Ec → Prop} {As : List Value} (hM : CtI l y w rm D tb cy L τ E (.ref a :: As) wr post) {index n maxL : Nat} {bytes : ByteArray} {ret : Option FieldType} (cw : CallW R s args own q.1 index y bytes maxL ret w rm 0 0 n) (hn : As.length = n) (hz : ls.size = nL) (hst : st = As.reverse ++ .ref a :: rest) (hro : (rest.map fun v => v.category).sum ≤ 8) (hdg : decode cc pc = .ok (.invokevirtual index, 3)) (hf : cells ≤ R.cells ∧ slots ≤ R.slots)
    (kk : ∀ (x : Int32) (E' : Ec) (H1 : Heap) (locs1 : List Loc), Wd D A s.heap L E' H1 locs1 → Inv tb cy L τ E' → Fr L τ wr E E' → post x E' → W p l e R s m args below meth c H1 locs1 cells slots Q (F0 m (pc + 3) ls (.int x :: rest))) : W p l e R s m args below meth c H locs cells slots Q (F0 m pc ls st) := by
  subst hst
  have hFc := fr_A hW hA
  refine va_calli (va_runV (As := As) (rest := rest) C (hM H.size) cw ⟨blind0, rv_at hK hW hI ha hτ hr hc, pre_at hK hN hW⟩ rfl hn hz rfl (lv_room hro) hdg hf) hW.2.2 (fun q _ h => hFc q h) hFc (fun x E' t H1 locs1 ht hvm hp hB hz1 hk1 hS => ?_)
  exact kk x E' H1 locs1 (wd_behind hW hA ht hB hS) hp.1 hp.2.1 hp.2.2
theorem tc_vv (C : CallFix p m c cc nL s args Ts own) (hK : va_K D vwCl (tysL cy) s) (hN : Nx s) (hA : ∀ q, s.heap.size ≤ q → A q) (hW : Wd D A s.heap L E H locs) (hI : Inv tb cy L τ E) (ha : a ∈ L) {r : Ro} (hτ : τ a = r) {ci : Nat} {ts : List Ft} (hr : tb.1 r = some (ci, ts)) {q : vw_C} (hc : vwCl[ci]? = some q)
    {post : Ec → Prop} {As : List Value} (hM : CtV l y w rm D tb cy L τ E (.ref a :: As) wr post) {index n maxL : Nat} {bytes : ByteArray} {ret : Option FieldType} (cw : CallW R s args own q.1 index y bytes maxL ret w rm 0 0 n) (hn : As.length = n) (hz : ls.size = nL) (hst : st = As.reverse ++ .ref a :: rest) (hro : (rest.map fun v => v.category).sum ≤ 8) (hdg : decode cc pc = .ok (.invokevirtual index, 3)) (hf : cells ≤ R.cells ∧ slots ≤ R.slots)
    (kk : ∀ (E' : Ec) (H1 : Heap) (locs1 : List Loc), Wd D A s.heap L E' H1 locs1 → Inv tb cy L τ E' → Fr L τ wr E E' → post E' → W p l e R s m args below meth c H1 locs1 cells slots Q (F0 m (pc + 3) ls rest)) : W p l e R s m args below meth c H locs cells slots Q (F0 m pc ls st) := by
  subst hst
  have hFc := fr_A hW hA
  refine va_callv (va_runV (As := As) (rest := rest) C (hM H.size) cw ⟨blind0, rv_at hK hW hI ha hτ hr hc, pre_at hK hN hW⟩ rfl hn hz rfl (lv_room hro) hdg hf) hW.2.2 (fun q _ h => hFc q h) hFc (fun E' t H1 locs1 ht hvm hp hB hz1 hk1 hS => ?_)
  exact kk E' H1 locs1 (wd_behind hW hA ht hB hS) hp.1 hp.2.1 hp.2.2
/-- a static call, in the class itself or from a nest mate -/
theorem tc_si (C : CallFix p m c cc nL s args Ts own) (hK : va_K D vwCl (tysL cy) s) (hN : Nx s) (hA : ∀ q, s.heap.size ≤ q → A q) (hW : Wd D A s.heap L E H locs)
    {post : Int32 → Ec → Prop} (hM : CtI l y w rm D tb cy L τ E av wr post) {index n maxL : Nat} {bytes : ByteArray} {ret : Option FieldType} (cw : CallB R s args own index y bytes maxL ret w rm 0 0 n ∧ (Cond.static y).before args s = true) (hn : av.length = n) (hz : ls.size = nL) (hst : st = av.reverse ++ rest) (hro : (rest.map fun v => v.category).sum ≤ 8) (hdg : decode cc pc = .ok (.invokestatic index, 3)) (hf : cells ≤ R.cells ∧ slots ≤ R.slots)
    (kk : ∀ (x : Int32) (E' : Ec) (H1 : Heap) (locs1 : List Loc), Wd D A s.heap L E' H1 locs1 → Inv tb cy L τ E' → Fr L τ wr E E' → post x E' → W p l e R s m args below meth c H1 locs1 cells slots Q (F0 m (pc + 3) ls (.int x :: rest))) : W p l e R s m args below meth c H locs cells slots Q (F0 m pc ls st) := by
  subst hst
  have hFc := fr_A hW hA
  refine va_calli (va_runS (As := av) (rest := rest) C (hM H.size) cw ⟨blind0, pre_at hK hN hW⟩ rfl hn hz rfl (lv_room hro) hdg hf) hW.2.2 (fun q _ h => hFc q h) hFc (fun x E' t H1 locs1 ht hvm hp hB hz1 hk1 hS => ?_)
  exact kk x E' H1 locs1 (wd_behind hW hA ht hB hS) hp.1 hp.2.1 hp.2.2
theorem tc_sni (C : CallFix p m c cc nL s args Ts own) (hK : va_K D vwCl (tysL cy) s) (hN : Nx s) (hA : ∀ q, s.heap.size ≤ q → A q) (hW : Wd D A s.heap L E H locs)
    {post : Int32 → Ec → Prop} (hM : CtI l y w rm D tb cy L τ E av wr post) {index n maxL : Nat} {host : String} {bytes : ByteArray} {ret : Option FieldType} (cw : va_CN R s args own index y host bytes maxL ret w rm 0 0 n ∧ (Cond.static y).before args s = true ∧ True) (hn : av.length = n) (hz : ls.size = nL) (hst : st = av.reverse ++ rest) (hro : (rest.map fun v => v.category).sum ≤ 8) (hdg : decode cc pc = .ok (.invokestatic index, 3)) (hf : cells ≤ R.cells ∧ slots ≤ R.slots)
    (kk : ∀ (x : Int32) (E' : Ec) (H1 : Heap) (locs1 : List Loc), Wd D A s.heap L E' H1 locs1 → Inv tb cy L τ E' → Fr L τ wr E E' → post x E' → W p l e R s m args below meth c H1 locs1 cells slots Q (F0 m (pc + 3) ls (.int x :: rest))) : W p l e R s m args below meth c H locs cells slots Q (F0 m pc ls st) := by
  subst hst
  have hFc := fr_A hW hA
  refine va_calli (va_runSN (As := av) (rest := rest) C (hM H.size) cw ⟨blind0, pre_at hK hN hW⟩ rfl hn hz rfl (lv_room hro) hdg hf) hW.2.2 (fun q _ h => hFc q h) hFc (fun x E' t H1 locs1 ht hvm hp hB hz1 hk1 hS => ?_)
  exact kk x E' H1 locs1 (wd_behind hW hA ht hB hS) hp.1 hp.2.1 hp.2.2
/-- what is known all along a method's walk -/
abbrev Amb (p : Program) (m : MethodId) (meth : Method) (c : Code) (cc : ByteArray) (nL : Nat) (s : State) (args : Array Value) (Ts : List Cond) (own : String) (ret : Option FieldType) (D : va_G) (cy : Nat → ClassId) (A : Nat → Prop) : Prop :=
  CallFix p m c cc nL s args Ts own ∧ meth.sig.returnType = ret ∧ meth.locks = false ∧ va_K D vwCl (tysL cy) s ∧ Nx s ∧ ∀ q, s.heap.size ≤ q → A q
/-- what is known at one place of it -/
abbrev Now (D : va_G) (tb : Tb) (cy : Nat → ClassId) (A : Nat → Prop) (s : State) (L : List Nat) (τ : Nat → Ro) (E : Ec) (H : Heap) (locs : List Loc) : Prop := Wd D A s.heap L E H locs ∧ Inv tb cy L τ E
variable {ret : Option FieldType}
theorem en_i {E0 : Ec} {sz : Nat} (Z : Amb p m meth c cc nL s args Ts own (some .int) D cy (va_A (va_pl L E0) sz)) (S : Now D tb cy (va_A (va_pl L E0) sz) s L τ E H locs) (hF : Fr L τ wr E0 E) {post : Int32 → Ec → Prop} {x : Int32} (hp : post x E) (hdg : decode cc pc = .ok (.ireturn, 1)) : W p l e R s m args below meth c H locs cells slots (MQ below (va_Qi (fun r E' => Inv tb cy L τ E' ∧ Fr L τ wr E0 E' ∧ post r E') (Bw D cy L (va_A (va_pl L E0) sz)) (va_A (va_pl L E0) sz)) args s cells slots (va_A (va_pl L E0) sz)) (F0 m pc ls [.int x]) :=
  W.iret Z.1.1 Z.1.2.1 Z.2.1 (fun t ht hW => ⟨⟨x, E, rfl, ⟨S.2, hF, hp⟩, by rw [ht]; exact S.1.1, va_K.moved hW.alike Z.2.2.2.1, S.1.2.1⟩, S.1.2.2.F ht⟩) S.1.2.2.2.2 hdg Z.2.2.1
theorem en_z {E0 : Ec} {sz : Nat} (Z : Amb p m meth c cc nL s args Ts own (some .boolean) D cy (va_A (va_pl L E0) sz)) (S : Now D tb cy (va_A (va_pl L E0) sz) s L τ E H locs) (hF : Fr L τ wr E0 E) {post : Int32 → Ec → Prop} {x : Int32} (hn : x = 0 ∨ x = 1) (hp : post x E) (hdg : decode cc pc = .ok (.ireturn, 1)) : W p l e R s m args below meth c H locs cells slots (MQ below (va_Qi (fun r E' => Inv tb cy L τ E' ∧ Fr L τ wr E0 E' ∧ post r E') (Bw D cy L (va_A (va_pl L E0) sz)) (va_A (va_pl L E0) sz)) args s cells slots (va_A (va_pl L E0) sz)) (F0 m pc ls [.int x]) :=
  W.zret Z.1.1 Z.1.2.1 Z.2.1 (by rcases hn with rfl | rfl <;> decide) (fun t ht hW => ⟨⟨x, E, rfl, ⟨S.2, hF, hp⟩, by rw [ht]; exact S.1.1, va_K.moved hW.alike Z.2.2.2.1, S.1.2.1⟩, S.1.2.2.F ht⟩) S.1.2.2.2.2 hdg Z.2.2.1
theorem en_v {E0 : Ec} {sz : Nat} (Z : Amb p m meth c cc nL s args Ts own none D cy (va_A (va_pl L E0) sz)) (S : Now D tb cy (va_A (va_pl L E0) sz) s L τ E H locs) (hF : Fr L τ wr E0 E) {post : Ec → Prop} (hp : post E) (hdg : decode cc pc = .ok (.return_, 1)) : W p l e R s m args below meth c H locs cells slots (MQ below (va_Qv (fun E' => Inv tb cy L τ E' ∧ Fr L τ wr E0 E' ∧ post E') (Bw D cy L (va_A (va_pl L E0) sz)) (va_A (va_pl L E0) sz)) args s cells slots (va_A (va_pl L E0) sz)) (F0 m pc ls []) :=
  W.vret Z.1.1 Z.1.2.1 Z.2.1 (fun t ht hW => ⟨⟨E, rfl, ⟨S.2, hF, hp⟩, by rw [ht]; exact S.1.1, va_K.moved hW.alike Z.2.2.2.1, S.1.2.1⟩, S.1.2.2.F ht⟩) S.1.2.2.2.2 hdg Z.2.2.1
theorem en_q {E0 : Ec} {sz : Nat} {rt : FieldType} (Z : Amb p m meth c cc nL s args Ts own (some rt) D cy (va_A (va_pl L E0) sz)) (hrt : (∃ n, rt = .object n) ∨ ∃ t, rt = .array t) (S : Now D tb cy (va_A (va_pl L E0) sz) s L τ E H locs) (hF : Fr L τ wr E0 E) {post : Option Nat → Ec → Prop} {x : Option Nat} (hp : post x E) (hdg : decode cc pc = .ok (.areturn, 1)) : W p l e R s m args below meth c H locs cells slots (MQ below (va_Qq (fun r E' => Inv tb cy L τ E' ∧ Fr L τ wr E0 E' ∧ post r E') (Bw D cy L (va_A (va_pl L E0) sz)) (va_A (va_pl L E0) sz)) args s cells slots (va_A (va_pl L E0) sz)) (F0 m pc ls [va_rf x]) :=
  W.aret Z.1.1 Z.1.2.1 Z.2.1 hrt (by cases x with
    | none => exact Or.inl rfl
    | some y => exact Or.inr ⟨y, rfl⟩) (fun t ht hW => ⟨⟨x, E, rfl, ⟨S.2, hF, hp⟩, by rw [ht]; exact S.1.1, va_K.moved hW.alike Z.2.2.2.1, S.1.2.1⟩, S.1.2.2.F ht⟩) S.1.2.2.2.2 hdg Z.2.2.1
/-- a method's start -/
theorem sta {Qc : Array Value → State → Outcome → State → Prop} {sz maxL : Nat} {w' : List Cond} {free : Addr → Prop} (hI : Inv tb cy L τ E) (hy : plainName y.cls = true) (hw : w = Cond.code y cc maxL ret :: w') (hl : (lg_sl av).length ≤ maxL)
    (body : ∀ (p : Program) (e : Env) (s : State) (m : MethodId) (args : Array Value) (below : List Frame) (meth : Method) (c : Code) (ls : Array Slot), s.heap.size = sz → Amb p m meth c cc maxL s args w y.cls ret D cy (va_A (va_pl L E) sz) → Now D tb cy (va_A (va_pl L E) sz) s L τ E s.heap [] → lv_has ls maxL (lv_args 0 av) → W p l e rm s m args below meth c s.heap [] 0 0 (MQ below Qc args s 0 0 free) (F0 m 0 ls [])) :
    Met l y w rm (pre0 D cy L E sz av) Qc 0 0 free := by
  refine Met.ofW (cc := cc) (maxL := maxL) (ret := ret) hy hw ?_
  intro p e s m args below meth c s₁ B hml hv
  obtain ⟨rfl, hsz, ⟨hP, hK, hD0⟩, hN⟩ := hv
  have hts := atoms_spec (ws := w) B.pre
  have hown : s.vm.findClass y.cls = some m.cls := findClass_of_methodNamed B.named
  have hlv := lv_entry av (n := maxL) hl
  rw [lg_entry_eq]
  generalize (lg_sl av ++ List.replicate (maxL - (lg_sl av).length) Slot.unset).toArray = ls at hlv ⊢
  exact body p e s m _ below meth c ls hsz ⟨⟨B.exec, B.bytes, hml, hown, hts⟩, B.returns, B.notSynchronized, hK, hN, fun q h => Or.inr (by omega)⟩ ⟨⟨hP, hD0.self, va_S.rf⟩, hI⟩ hlv
end CALLS
