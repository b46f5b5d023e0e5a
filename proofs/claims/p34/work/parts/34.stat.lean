/-! WHAT STANDS IN STATICS: the sheet's rows, the names, the texts: (the sheet's array, the names' array, a name's object, a text's object, its bytes) -/
abbrev Sg : Type := Nat × Nat × (Nat → Nat) × (Nat → Nat) × (Nat → Nat)
def lenS : List Nat := [5, 5, 6, 4, 4, 5, 6, 4, 4, 3, 3]
def bytS : List (List Int32) := [[114, 105, 115, 101, 114], [103, 111, 105, 110, 103], [110, 97, 114, 114, 111, 119], [104, 101, 97, 100], [119, 105, 100, 101], [99, 111, 117, 110, 116], [110, 117, 109, 98, 101, 114], [107, 105, 110, 100], [115, 111, 109, 101], [97, 108, 108], [97, 110, 100]]
def rowS : List Int32 := [1, 3, 4, 6, 9, 10, 11, 0]
def SW (G : Sg) (A : Nat → Prop) (U : State) (H : Heap) : Prop :=
  (va_Z RX9 "SHEET_ROWS" "[I" (.ref G.1) A U H ∧ va_T .int G.1 4 (fun j => .int (([0, 1, 3, 4] : List Int32).getD j 0)) A U H) ∧
  (va_Z RX2 "ALL" "[LStairShop$Name;" (.ref G.2.1) A U H ∧ va_T (.object RX2) G.2.1 8 (fun j => .ref (G.2.2.1 j)) A U H) ∧
  (∀ i : Nat, i < 8 → va_OF RX2 "row" "I" (.int (rowS.getD i 0)) (G.2.2.1 i) A U H ∧ va_OF RX2 "word" "Ljava/lang/String;" (.ref (G.2.2.2.1 i)) (G.2.2.1 i) A U H) ∧
  vk_S 11 lenS bytS G.2.2.2.1 G.2.2.2.2 A U H ∧
  va_Z "java/lang/String" "COMPACT_STRINGS" "Z" (.int 1) A U H ∧ va_Zq "jdk/internal/util/Preconditions" "SIOOBE_FORMATTER" "Ljava/util/function/BiFunction;" A U H ∧
  (vk_R RX5 85 "some" (G.2.2.2.1 8) U ∧ vk_R RX5 90 "all" (G.2.2.2.1 9) U ∧ vk_R RX5 99 "and" (G.2.2.2.1 10) U) ∧ va_Nw (.fieldLinkNest RX5 145 RX2 "ALL" "[LStairShop$Name;" RX9) U ∧ va_Nw (.castable "[I" "java/lang/Cloneable") U
theorem SW.kept {G : Sg} {A : Nat → Prop} {U : State} {H H1 : Heap} (h : SW G A U H) (hq : ∀ a : Nat, a < H.size → ¬ A a → H1[a]? = H[a]?) : SW G A U H1 := by
  obtain ⟨⟨a1, a2⟩, ⟨b1, b2⟩, c, d, e, f, g⟩ := h
  exact ⟨⟨a1.kept hq, a2.kept hq⟩, ⟨b1.kept hq, b2.kept hq⟩, fun i hi => ⟨(c i hi).1.kept hq, (c i hi).2.kept hq⟩, d.kept hq, e.kept hq, f.kept hq, g⟩
theorem SW.narrow {G : Sg} {A B : Nat → Prop} {U : State} {H : Heap} (h : SW G A U H) (hq : ∀ a : Nat, B a → A a) : SW G B U H := by
  obtain ⟨⟨a1, a2⟩, ⟨b1, b2⟩, c, d, e, f, g⟩ := h
  exact ⟨⟨a1.narrow hq, a2.narrow hq⟩, ⟨b1.narrow hq, b2.narrow hq⟩, fun i hi => ⟨(c i hi).1.narrow hq, (c i hi).2.narrow hq⟩, d.narrow hq, e.narrow hq, f.narrow hq, g⟩
theorem SW.alike {G : Sg} {A : Nat → Prop} {u U : State} {H : Heap} (hvm : u.vm.Alike U.vm) (hk : ∀ (o t : String) (k a : Nat), vk_R o k t a u → vk_R o k t a U) (hn : va_Nw (.fieldLinkNest RX5 145 RX2 "ALL" "[LStairShop$Name;" RX9) u → va_Nw (.fieldLinkNest RX5 145 RX2 "ALL" "[LStairShop$Name;" RX9) U) (hc : va_Nw (.castable "[I" "java/lang/Cloneable") u → va_Nw (.castable "[I" "java/lang/Cloneable") U) (h : SW G A u H) : SW G A U H := by
  obtain ⟨⟨a1, a2⟩, ⟨b1, b2⟩, c, d, e, f, ⟨g1, g2, g3⟩, n, cl⟩ := h
  exact ⟨⟨a1.moved hvm, a2.moved hvm⟩, ⟨b1.moved hvm, b2.moved hvm⟩, fun i hi => ⟨(c i hi).1.moved hvm, (c i hi).2.moved hvm⟩, d.moved hvm, e.moved hvm, f.moved hvm, ⟨hk _ _ _ _ g1, hk _ _ _ _ g2, hk _ _ _ _ g3⟩, hn n, hc cl⟩
theorem SW.warm {G : Sg} {A : Nat → Prop} {s U : State} {H : Heap} (hW : s.WarmedH U.vm) (h : SW G A s H) : SW G A U H := h.alike hW.alike (fun _ _ _ _ q => q.warm hW) (fun q => va_Nw.warmF hW q) (fun q => va_Nw.warmC hW q)
theorem SW.same {G : Sg} {A : Nat → Prop} {u U : State} {H : Heap} (hv : U.vm = u.vm) (h : SW G A u H) : SW G A U H := h.alike (by rw [hv]; exact Vm.Alike.refl _) (fun _ _ _ _ q => q.same hv) (fun q => va_Nw.same rfl hv.symm q) (fun q => va_Nw.same rfl hv.symm q)
/-- a method's start, with the statics -/
abbrev pre1 (G : Sg) (D : va_G) (cy : Nat → ClassId) (L : List Nat) (E : Ec) (sz : Nat) (av : List Value) : Array Value → State → Prop := va_Pc av (fun U => U.heap.size = sz ∧ Bw D cy L (fun _ => True) E U ∧ Nx U ∧ SW G (va_A (va_pl L E) sz) U U.heap)
theorem blind1 {G : Sg} {D : va_G} {cy : Nat → ClassId} {L : List Nat} {E : Ec} {sz : Nat} {av : List Value} : FrameBlind (pre1 G D cy L E sz av) := fun a U g mk q => by
  obtain ⟨q0, q1, ⟨qP, qK, qD⟩, qN, qS⟩ := q
  exact ⟨q0, q1, ⟨qP, va_K.moved (u := U) (U := U.calling g mk a) (Vm.Alike.refl U.vm) qK, qD⟩, Nx.same (s := U) (U := U.calling g mk a) rfl qN, SW.same (u := U) (U := U.calling g mk a) rfl qS⟩
def CtI1 (G : Sg) (l : Launch) (y : MethodName) (w : List Cond) (rm : Room) (D : va_G) (tb : Tb) (cy : Nat → ClassId) (L : List Nat) (τ : Nat → Ro) (E : Ec) (av : List Value) (wr : Ro → Bool) (post : Int32 → Ec → Prop) : Prop :=
  ∀ sz : Nat, Met l y w rm (pre1 G D cy L E sz av) (va_Qi (fun r E' => Inv tb cy L τ E' ∧ Fr L τ wr E E' ∧ post r E') (Bw D cy L (va_A (va_pl L E) sz)) (va_A (va_pl L E) sz)) 0 0 (va_A (va_pl L E) sz)
def CtV1 (G : Sg) (l : Launch) (y : MethodName) (w : List Cond) (rm : Room) (D : va_G) (tb : Tb) (cy : Nat → ClassId) (L : List Nat) (τ : Nat → Ro) (E : Ec) (av : List Value) (wr : Ro → Bool) (post : Ec → Prop) : Prop :=
  ∀ sz : Nat, Met l y w rm (pre1 G D cy L E sz av) (va_Qv (fun E' => Inv tb cy L τ E' ∧ Fr L τ wr E E' ∧ post E') (Bw D cy L (va_A (va_pl L E) sz)) (va_A (va_pl L E) sz)) 0 0 (va_A (va_pl L E) sz)
def CtQ1 (G : Sg) (l : Launch) (y : MethodName) (w : List Cond) (rm : Room) (D : va_G) (tb : Tb) (cy : Nat → ClassId) (L : List Nat) (τ : Nat → Ro) (E : Ec) (av : List Value) (wr : Ro → Bool) (post : Option Nat → Ec → Prop) : Prop :=
  ∀ sz : Nat, Met l y w rm (pre1 G D cy L E sz av) (va_Qq (fun r E' => Inv tb cy L τ E' ∧ Fr L τ wr E E' ∧ post r E') (Bw D cy L (va_A (va_pl L E) sz)) (va_A (va_pl L E) sz)) 0 0 (va_A (va_pl L E) sz)
section STAT
variable {p : Program} {l : Launch} {e : Env} {R : Room} {s : State} {m : MethodId} {args : Array Value} {below : List Frame} {meth : Method} {c : Code} {H : Heap} {locs : List Loc} {cells slots : Nat} {Q : State → Prop}
variable {cc : ByteArray} {pc nL : Nat} {ls : Array Slot} {rest st : List Value} {D : va_G} {A : Nat → Prop} {a : Nat} {Ts : List Cond} {own : String} {tb : Tb} {cy : Nat → ClassId} {L : List Nat} {τ : Nat → Ro} {E : Ec} {G : Sg}
variable {y : MethodName} {w : List Cond} {rm : Room} {av : List Value} {wr : Ro → Bool}
theorem pre_at1 (hK : va_K D vwCl (tysL cy) s) (hN : Nx s) (hA : ∀ q, s.heap.size ≤ q → A q) (hZ : SW G A s s.heap) (hW : Wd D A s.heap L E H locs) : ∀ U : State, U.heap = H → s.WarmedH U.vm → pre1 G D cy L E H.size av av.toArray U := fun U hU hW1 =>
  ⟨rfl, by rw [hU], ⟨by rw [hU]; exact hW.1, va_K.moved hW1.alike hK, hW.2.1.weaken (fun _ _ _ _ => trivial)⟩, Nx.warm hW1 hN, by rw [hU]; exact ((hZ.kept hW.2.2.2.1).narrow (fr_A hW hA)).warm hW1⟩
theorem tc1_vi (C : CallFix p m c cc nL s args Ts own) (hK : va_K D vwCl (tysL cy) s) (hN : Nx s) (hA : ∀ q, s.heap.size ≤ q → A q) (hZ : SW G A s s.heap) (hW : Wd D A s.heap L E H locs) (hI : Inv tb cy L τ E) (ha : a ∈ L) {r : Ro} (hτ : τ a = r) {ci : Nat} {ts : List Ft} (hr : tb.1 r = some (ci, ts)) {q : vw_C} (hc : vwCl[ci]? = some q)
    {post : Int32 → Ec → Prop} {As : List Value} (hM : CtI1 G l y w rm D tb cy L τ E (.ref a :: As) wr post) {index n maxL : Nat} {bytes : ByteArray} {ret : Option FieldType} (cw : CallW R s args own q.1 index y bytes maxL ret w rm 0 0 n) (hn : As.length = n) (hz : ls.size = nL) (hst : st = As.reverse ++ .ref a :: rest) (hro : (rest.map fun v => v.category).sum ≤ 8) (hdg : decode cc pc = .ok (.invokevirtual index, 3)) (hf : cells ≤ R.cells ∧ slots ≤ R.slots)
    (kk : ∀ (x : Int32) (E' : Ec) (H1 : Heap) (locs1 : List Loc), Wd D A s.heap L E' H1 locs1 → Inv tb cy L τ E' → Fr L τ wr E E' → post x E' → W p l e R s m args below meth c H1 locs1 cells slots Q (F0 m (pc + 3) ls (.int x :: rest))) : W p l e R s m args below meth c H locs cells slots Q (F0 m pc ls st) := by
  subst hst
  have hFc := fr_A hW hA
  refine va_calli (va_runV (As := As) (rest := rest) C (hM H.size) cw ⟨blind1, rv_at hK hW hI ha hτ hr hc, pre_at1 hK hN hA hZ hW⟩ rfl hn hz rfl (lv_room hro) hdg hf) hW.2.2 (fun q _ h => hFc q h) hFc (fun x E' t H1 locs1 ht hvm hp hB hz1 hk1 hS => ?_)
  exact kk x E' H1 locs1 (wd_behind hW hA ht hB hS) hp.1 hp.2.1 hp.2.2
theorem tc1_vv (C : CallFix p m c cc nL s args Ts own) (hK : va_K D vwCl (tysL cy) s) (hN : Nx s) (hA : ∀ q, s.heap.size ≤ q → A q) (hZ : SW G A s s.heap) (hW : Wd D A s.heap L E H locs) (hI : Inv tb cy L τ E) (ha : a ∈ L) {r : Ro} (hτ : τ a = r) {ci : Nat} {ts : List Ft} (hr : tb.1 r = some (ci, ts)) {q : vw_C} (hc : vwCl[ci]? = some q)
    {post : Ec → Prop} {As : List Value} (hM : CtV1 G l y w rm D tb cy L τ E (.ref a :: As) wr post) {index n maxL : Nat} {bytes : ByteArray} {ret : Option FieldType} (cw : CallW R s args own q.1 index y bytes maxL ret w rm 0 0 n) (hn : As.length = n) (hz : ls.size = nL) (hst : st = As.reverse ++ .ref a :: rest) (hro : (rest.map fun v => v.category).sum ≤ 8) (hdg : decode cc pc = .ok (.invokevirtual index, 3)) (hf : cells ≤ R.cells ∧ slots ≤ R.slots)
    (kk : ∀ (E' : Ec) (H1 : Heap) (locs1 : List Loc), Wd D A s.heap L E' H1 locs1 → Inv tb cy L τ E' → Fr L τ wr E E' → post E' → W p l e R s m args below meth c H1 locs1 cells slots Q (F0 m (pc + 3) ls rest)) : W p l e R s m args below meth c H locs cells slots Q (F0 m pc ls st) := by
  subst hst
  have hFc := fr_A hW hA
  refine va_callv (va_runV (As := As) (rest := rest) C (hM H.size) cw ⟨blind1, rv_at hK hW hI ha hτ hr hc, pre_at1 hK hN hA hZ hW⟩ rfl hn hz rfl (lv_room hro) hdg hf) hW.2.2 (fun q _ h => hFc q h) hFc (fun E' t H1 locs1 ht hvm hp hB hz1 hk1 hS => ?_)
  exact kk E' H1 locs1 (wd_behind hW hA ht hB hS) hp.1 hp.2.1 hp.2.2
theorem tc1_vq (C : CallFix p m c cc nL s args Ts own) (hK : va_K D vwCl (tysL cy) s) (hN : Nx s) (hA : ∀ q, s.heap.size ≤ q → A q) (hZ : SW G A s s.heap) (hW : Wd D A s.heap L E H locs) (hI : Inv tb cy L τ E) (ha : a ∈ L) {r : Ro} (hτ : τ a = r) {ci : Nat} {ts : List Ft} (hr : tb.1 r = some (ci, ts)) {q : vw_C} (hc : vwCl[ci]? = some q)
    {post : Option Nat → Ec → Prop} {As : List Value} (hM : CtQ1 G l y w rm D tb cy L τ E (.ref a :: As) wr post) {index n maxL : Nat} {bytes : ByteArray} {ret : Option FieldType} (cw : CallW R s args own q.1 index y bytes maxL ret w rm 0 0 n) (hn : As.length = n) (hz : ls.size = nL) (hst : st = As.reverse ++ .ref a :: rest) (hro : (rest.map fun v => v.category).sum ≤ 8) (hdg : decode cc pc = .ok (.invokevirtual index, 3)) (hf : cells ≤ R.cells ∧ slots ≤ R.slots)
    (kk : ∀ (x : Option Nat) (E' : Ec) (H1 : Heap) (locs1 : List Loc), Wd D A s.heap L E' H1 locs1 → Inv tb cy L τ E' → Fr L τ wr E E' → post x E' → W p l e R s m args below meth c H1 locs1 cells slots Q (F0 m (pc + 3) ls (va_rf x :: rest))) : W p l e R s m args below meth c H locs cells slots Q (F0 m pc ls st) := by
  subst hst
  have hFc := fr_A hW hA
  refine va_callq (va_runV (As := As) (rest := rest) C (hM H.size) cw ⟨blind1, rv_at hK hW hI ha hτ hr hc, pre_at1 hK hN hA hZ hW⟩ rfl hn hz rfl (lv_room hro) hdg hf) hW.2.2 (fun q _ h => hFc q h) hFc (fun x E' t H1 locs1 ht hvm hp hB hz1 hk1 hS => ?_)
  exact kk x E' H1 locs1 (wd_behind hW hA ht hB hS) hp.1 hp.2.1 hp.2.2
/-- a call on a text -/
theorem tcS_vi (C : CallFix p m c cc nL s args Ts own) (hK : va_K D vwCl (tysL cy) s) (hN : Nx s) (hA : ∀ q, s.heap.size ≤ q → A q) (hZ : SW G A s s.heap) (hW : Wd D A s.heap L E H locs) {i : Nat} (hi : i < 11)
    {post : Int32 → Ec → Prop} {As : List Value} (hM : CtI1 G l y w rm D tb cy L τ E (.ref (G.2.2.2.1 i) :: As) wr post) {index n maxL : Nat} {bytes : ByteArray} {ret : Option FieldType} (cw : CallW R s args own "java/lang/String" index y bytes maxL ret w rm 0 0 n) (hn : As.length = n) (hz : ls.size = nL) (hst : st = As.reverse ++ .ref (G.2.2.2.1 i) :: rest) (hro : (rest.map fun v => v.category).sum ≤ 8) (hdg : decode cc pc = .ok (.invokevirtual index, 3)) (hf : cells ≤ R.cells ∧ slots ≤ R.slots)
    (kk : ∀ (x : Int32) (E' : Ec) (H1 : Heap) (locs1 : List Loc), Wd D A s.heap L E' H1 locs1 → Inv tb cy L τ E' → Fr L τ wr E E' → post x E' → W p l e R s m args below meth c H1 locs1 cells slots Q (F0 m (pc + 3) ls (.int x :: rest))) : W p l e R s m args below meth c H locs cells slots Q (F0 m pc ls st) := by
  subst hst
  have hFc := fr_A hW hA
  refine va_calli (va_runV (As := As) (rest := rest) C (hM H.size) cw ⟨blind1, vk_recv hZ.2.2.2.1 hi hW.2.2, pre_at1 hK hN hA hZ hW⟩ rfl hn hz rfl (lv_room hro) hdg hf) hW.2.2 (fun q _ h => hFc q h) hFc (fun x E' t H1 locs1 ht hvm hp hB hz1 hk1 hS => ?_)
  exact kk x E' H1 locs1 (wd_behind hW hA ht hB hS) hp.1 hp.2.1 hp.2.2
theorem tc1_si (C : CallFix p m c cc nL s args Ts own) (hK : va_K D vwCl (tysL cy) s) (hN : Nx s) (hA : ∀ q, s.heap.size ≤ q → A q) (hZ : SW G A s s.heap) (hW : Wd D A s.heap L E H locs)
    {post : Int32 → Ec → Prop} (hM : CtI1 G l y w rm D tb cy L τ E av wr post) {index n maxL : Nat} {bytes : ByteArray} {ret : Option FieldType} (cw : CallB R s args own index y bytes maxL ret w rm 0 0 n ∧ (Cond.static y).before args s = true) (hn : av.length = n) (hz : ls.size = nL) (hst : st = av.reverse ++ rest) (hro : (rest.map fun v => v.category).sum ≤ 8) (hdg : decode cc pc = .ok (.invokestatic index, 3)) (hf : cells ≤ R.cells ∧ slots ≤ R.slots)
    (kk : ∀ (x : Int32) (E' : Ec) (H1 : Heap) (locs1 : List Loc), Wd D A s.heap L E' H1 locs1 → Inv tb cy L τ E' → Fr L τ wr E E' → post x E' → W p l e R s m args below meth c H1 locs1 cells slots Q (F0 m (pc + 3) ls (.int x :: rest))) : W p l e R s m args below meth c H locs cells slots Q (F0 m pc ls st) := by
  subst hst
  have hFc := fr_A hW hA
  refine va_calli (va_runS (As := av) (rest := rest) C (hM H.size) cw ⟨blind1, pre_at1 hK hN hA hZ hW⟩ rfl hn hz rfl (lv_room hro) hdg hf) hW.2.2 (fun q _ h => hFc q h) hFc (fun x E' t H1 locs1 ht hvm hp hB hz1 hk1 hS => ?_)
  exact kk x E' H1 locs1 (wd_behind hW hA ht hB hS) hp.1 hp.2.1 hp.2.2
theorem tc1_sv (C : CallFix p m c cc nL s args Ts own) (hK : va_K D vwCl (tysL cy) s) (hN : Nx s) (hA : ∀ q, s.heap.size ≤ q → A q) (hZ : SW G A s s.heap) (hW : Wd D A s.heap L E H locs)
    {post : Ec → Prop} (hM : CtV1 G l y w rm D tb cy L τ E av wr post) {index n maxL : Nat} {bytes : ByteArray} {ret : Option FieldType} (cw : CallB R s args own index y bytes maxL ret w rm 0 0 n ∧ (Cond.static y).before args s = true) (hn : av.length = n) (hz : ls.size = nL) (hst : st = av.reverse ++ rest) (hro : (rest.map fun v => v.category).sum ≤ 8) (hdg : decode cc pc = .ok (.invokestatic index, 3)) (hf : cells ≤ R.cells ∧ slots ≤ R.slots)
    (kk : ∀ (E' : Ec) (H1 : Heap) (locs1 : List Loc), Wd D A s.heap L E' H1 locs1 → Inv tb cy L τ E' → Fr L τ wr E E' → post E' → W p l e R s m args below meth c H1 locs1 cells slots Q (F0 m (pc + 3) ls rest)) : W p l e R s m args below meth c H locs cells slots Q (F0 m pc ls st) := by
  subst hst
  have hFc := fr_A hW hA
  refine va_callv (va_runS (As := av) (rest := rest) C (hM H.size) cw ⟨blind1, pre_at1 hK hN hA hZ hW⟩ rfl hn hz rfl (lv_room hro) hdg hf) hW.2.2 (fun q _ h => hFc q h) hFc (fun E' t H1 locs1 ht hvm hp hB hz1 hk1 hS => ?_)
  exact kk E' H1 locs1 (wd_behind hW hA ht hB hS) hp.1 hp.2.1 hp.2.2
/-- a static call without an answer -/
theorem tc_sv (C : CallFix p m c cc nL s args Ts own) (hK : va_K D vwCl (tysL cy) s) (hN : Nx s) (hA : ∀ q, s.heap.size ≤ q → A q) (hW : Wd D A s.heap L E H locs)
    {post : Ec → Prop} (hM : CtV l y w rm D tb cy L τ E av wr post) {index n maxL : Nat} {bytes : ByteArray} {ret : Option FieldType} (cw : CallB R s args own index y bytes maxL ret w rm 0 0 n ∧ (Cond.static y).before args s = true) (hn : av.length = n) (hz : ls.size = nL) (hst : st = av.reverse ++ rest) (hro : (rest.map fun v => v.category).sum ≤ 8) (hdg : decode cc pc = .ok (.invokestatic index, 3)) (hf : cells ≤ R.cells ∧ slots ≤ R.slots)
    (kk : ∀ (E' : Ec) (H1 : Heap) (locs1 : List Loc), Wd D A s.heap L E' H1 locs1 → Inv tb cy L τ E' → Fr L τ wr E E' → post E' → W p l e R s m args below meth c H1 locs1 cells slots Q (F0 m (pc + 3) ls rest)) : W p l e R s m args below meth c H locs cells slots Q (F0 m pc ls st) := by
  subst hst
  have hFc := fr_A hW hA
  refine va_callv (va_runS (As := av) (rest := rest) C (hM H.size) cw ⟨blind0, pre_at hK hN hW⟩ rfl hn hz rfl (lv_room hro) hdg hf) hW.2.2 (fun q _ h => hFc q h) hFc (fun E' t H1 locs1 ht hvm hp hB hz1 hk1 hS => ?_)
  exact kk E' H1 locs1 (wd_behind hW hA ht hB hS) hp.1 hp.2.1 hp.2.2
/-- a method's start, with the statics -/
theorem sta1 {Qc : Array Value → State → Outcome → State → Prop} {sz maxL : Nat} {ret : Option FieldType} {w' : List Cond} {free : Addr → Prop} (hI : Inv tb cy L τ E) (hy : plainName y.cls = true) (hw : w = Cond.code y cc maxL ret :: w') (hl : (lg_sl av).length ≤ maxL)
    (body : ∀ (p : Program) (e : Env) (s : State) (m : MethodId) (args : Array Value) (below : List Frame) (meth : Method) (c : Code) (ls : Array Slot), s.heap.size = sz → Amb p m meth c cc maxL s args w y.cls ret D cy (va_A (va_pl L E) sz) → SW G (va_A (va_pl L E) sz) s s.heap → Now D tb cy (va_A (va_pl L E) sz) s L τ E s.heap [] → lv_has ls maxL (lv_args 0 av) → W p l e rm s m args below meth c s.heap [] 0 0 (MQ below Qc args s 0 0 free) (F0 m 0 ls [])) :
    Met l y w rm (pre1 G D cy L E sz av) Qc 0 0 free := by
  refine Met.ofW (cc := cc) (maxL := maxL) (ret := ret) hy hw ?_
  intro p e s m args below meth c s₁ B hml hv
  obtain ⟨rfl, hsz, ⟨hP, hK, hD0⟩, hN, hZ⟩ := hv
  have hts := atoms_spec (ws := w) B.pre
  have hown : s.vm.findClass y.cls = some m.cls := findClass_of_methodNamed B.named
  have hlv := lv_entry av (n := maxL) hl
  rw [lg_entry_eq]
  generalize (lg_sl av ++ List.replicate (maxL - (lg_sl av).length) Slot.unset).toArray = ls at hlv ⊢
  exact body p e s m _ below meth c ls hsz ⟨⟨B.exec, B.bytes, hml, hown, hts⟩, B.returns, B.notSynchronized, hK, hN, fun q h => Or.inr (by omega)⟩ hZ ⟨⟨hP, hD0.self, va_S.rf⟩, hI⟩ hlv
end STAT
