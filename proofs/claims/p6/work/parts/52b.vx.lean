/-! A THROW OF ONE'S OWN WITH A TEXT, traces off, where the thrown class's own constructor names its superclass's at another place (ix) of its pool -/
def vx_atX (own : String) (ic : Nat) (X : String) (ix : Nat) (rx : ByteArray) (names : List String) : List Cond := (Jvm.Bundle.ownAtomsX own ic X ix rx names).filter vx_no
section VXX
variable {p : Program} {l : Launch} {e : Env} {R : Room} {s : State} {m₀ : MethodId} {args : Array Value} {below : List Frame} {meth : Method} {c : Code} {V : State} {locs : List Loc} {cells slots : Nat}
set_option maxHeartbeats 4000000 in
theorem vx_ctorX (X : Stand p l e R s m₀ args below meth c V locs cells slots) (hexec : p.tables.exec = Jvm.exec) (htr : e.platform.stackTraces = false) {own cls : String} {names : List String} {ic ix : Nat} {rx : ByteArray}
    (x0 : decode rx 0 = .ok (.aload_n 0, 1)) (x1 : decode rx 1 = .ok (.aload_n 1, 1)) (x2 : decode rx 2 = .ok (.invokespecial ix, 3)) (x5 : decode rx 5 = .ok (.return_, 1))
    (hown : s.vm.findClass own = some m₀.cls) (hcls : Jvm.Bundle.fit cls = true) (hnames : ∀ n ∈ names, Jvm.Bundle.fit n = true) (h : ∀ w ∈ Jvm.Bundle.ownAtomsX own ic cls ix rx names, w.before args s = true)
    (hlocs : ∀ x ∈ locs, ∀ cell, s.heap[x.base]? = some cell → cell.vm.isStatics = false) {a : Addr} {cX : ClassId} {kX : Class} (hfX : s.vm.findClass cls = some cX) (hkX : s.vm.classes[cX]? = some kX) (hcell : V.heap[a]? = some (freshCell cX kX)) (hnew : s.heap.size ≤ a)
    {msg : Value} (hmsg : msg.isRef = true) {g : JFrame} (hg : g.method = m₀) (hsize : g.locals.size = c.maxLocals) (hlk : g.locked = none) (hent : g.entered = []) {rest : List Value} (hst : g.stack = msg :: .ref a :: .ref a :: rest)
    (hd6 : decode c.code g.pc = .ok (.invokespecial ic, 3)) (hd9 : decode c.code (g.pc + 3) = .ok (.athrow, 1)) (hout : ∀ x ∈ c.exceptionTable.toList, covers x (g.pc + 3) = false)
    (hRf : names.length + 3 < R.frames) (hRl : 2 * g.monitorRoom + ((Value.ref a :: rest).map fun v => v.category).sum + (13 * (names.length + 1) + 42) ≤ R.locals) (hlocks : meth.locks = false) :
    ∃ U : State, Steps p.tables e below (V.setTop g) U ∧ U.status = .running ∧ Ended U below (.threw a) ∧ s.WarmedH U.vm ∧ s.sameButNew ({ U with vm := s.vm } : State) locs cells slots ∧ ∃ ce, U.heap[a]? = some ce ∧ ce.vm = .none ∧ s.vm.findClass cls = some ce.cls := by
  have pl1 : e.platform.magicAccessors = ({} : Platform).magicAccessors := by rw [X.admits.platform]
  obtain ⟨T, Z0, L, -, Y⟩ := ThrowableC.of_atoms (args := args) (pl := e.platform) (by rw [X.admits.platform]) (by rw [X.admits.platform]) pl1 (fun x hx => h x (by simp [Jvm.Bundle.ownAtomsX, hx]))
  obtain ⟨Z, M, LZ, LM, nZ⟩ := Init0T.ofS_atoms (args := args) pl1 L Y (fun x hx => h x (by simp [Jvm.Bundle.ownAtomsX, hx]))
  obtain ⟨P1, Ps, len, L1, LP, mP, k1, k2⟩ := Jvm.Bundle.chainSX (args := args) pl1 nZ x0 x1 x2 x5 names cls hcls hnames (fun x hx => h x (by simp [Jvm.Bundle.ownAtomsX, hx]))
  have fP : s.vm.findClass cls = some P1.m.cls := findClass_of_methodNamed mP
  cases Option.some.inj (hfX.symm.trans fP)
  obtain ⟨c1, k', fc, hk, ord, -, -, -⟩ := Cond.instantiable_spec (h (.instantiable cls 6) (by simp [Jvm.Bundle.ownAtomsX]))
  cases Option.some.inj (fc.symm.trans fP)
  cases Option.some.inj (hkX.symm.trans hk)
  have sel : ∀ (y : MethodName) (t : MethodId), s.methodNamed? y = some t → (y.cls ≠ "java/lang/invoke/MethodHandle" ∧ y.cls ≠ "java/lang/invoke/VarHandle") → (Cond.selects cls y y).before args s = true → selectMethod e.platform s.vm P1.m.cls t = .method t := fun y t ht hy hw => by
    obtain ⟨c2, r2, m2, q1, q2, q3, q4, -⟩ := Cond.selects_spec hw
    cases Option.some.inj (q1.symm.trans fP)
    cases Option.some.inj (q2.symm.trans (State.methodFound?_of_named ht hy))
    cases Option.some.inj (q3.symm.trans ht)
    rw [Launch.admits_selectMethod X.admits]
    exact q4
  have s0 := sel Jvm.Bundle.tFill0 T.fill0 Y.fill0 (by decide) (h _ (by simp [Jvm.Bundle.ownAtomsX]))
  have s1 := sel Jvm.Bundle.tFill T.fill Y.fill (by decide) (h _ (by simp [Jvm.Bundle.ownAtomsX]))
  obtain ⟨cS, hcS, isS⟩ := Y.statics
  obtain ⟨u0, hu0⟩ := Cond.staticRefV Y.unassigned L.unassignedStatic L.statics hcS isS (h (.isRef (.static Jvm.Bundle.tN "UNASSIGNED_STACK" Jvm.Bundle.steD)) (by simp [Jvm.Bundle.ownAtomsX]))
  obtain ⟨sn, hsn⟩ := Cond.staticRefV Y.sentinel L.sentinelStatic L.statics hcS isS (h (.isRef (.static Jvm.Bundle.tN "SUPPRESSED_SENTINEL" Jvm.Bundle.listD)) (by simp [Jvm.Bundle.ownAtomsX]))
  obtain ⟨ci, ib, fB, b1, b2, b3, b4, -, nB, tB, ffB⟩ := Cond.ownField (t := .object "java/lang/Object") Y.found L.cls (by decide +kernel) (h (.fieldLink Jvm.Bundle.tN 198 Jvm.Bundle.tN "backtrace" "Ljava/lang/Object;") (by simp [Jvm.Bundle.ownAtomsX])) (h (.lays Jvm.Bundle.tN Jvm.Bundle.tN "backtrace" "Ljava/lang/Object;") (by simp [Jvm.Bundle.ownAtomsX])) e.platform pl1
  obtain ⟨cV, hcV, eV, -, keep⟩ := X.same.2.2.2.2.2 T.aS cS hcS
  have far : ∀ i, (⟨T.aS, i⟩ : Loc) ∉ locs := fun i hm => by
    have := hlocs _ hm cS hcS
    rw [isS] at this
    cases this
  have known : cV.vm ≠ .unknown := fun hu => by
    rw [eV] at hu
    rw [show cS.vm = .unknown from hu] at isS
    cases isS
  have ne : T.aS ≠ a := Nat.ne_of_lt (Nat.lt_of_lt_of_le (Array.getElem?_eq_some_iff.mp hcS).1 hnew)
  obtain ⟨iM, ffM⟩ := Y.msg
  obtain ⟨tC, dC, eC, nC⟩ := Cond.laysAt fP hk Y.cause (h (.lays cls Jvm.Bundle.tN "cause" "Ljava/lang/Throwable;") (by simp [Jvm.Bundle.ownAtomsX]))
  obtain ⟨tS, dS, eS, nS⟩ := Cond.laysAt fP hk Y.stack (h (.lays cls Jvm.Bundle.tN "stackTrace" Jvm.Bundle.steD) (by simp [Jvm.Bundle.ownAtomsX]))
  obtain ⟨tP, dP, eP, nP⟩ := Cond.laysAt fP hk Y.supp (h (.lays cls Jvm.Bundle.tN "suppressedExceptions" Jvm.Bundle.listD) (by simp [Jvm.Bundle.ownAtomsX]))
  obtain ⟨tM, -, -, -⟩ := Cond.laysAt fP hk ffM (h (.lays cls Jvm.Bundle.tN "detailMessage" "Ljava/lang/String;") (by simp [Jvm.Bundle.ownAtomsX]))
  obtain ⟨tb, db, eb, nb⟩ := Cond.laysAt fP hk ffB (h (.lays cls Jvm.Bundle.tN "backtrace" "Ljava/lang/Object;") (by simp [Jvm.Bundle.ownAtomsX]))
  have aC := Cond.laysApart eb eC nb nC (by rw [nB, Y.causeName]; decide)
  have aS := Cond.laysApart eb eS nb nS (by rw [nB, Y.stackName]; decide)
  have aP := Cond.laysApart eb eP nb nP (by rw [nB, Y.suppName]; decide)
  have skip : SkipFacts T e.platform s (fun u => u) u0 ((preparedCellV T.toThrowableT (freshCell P1.m.cls kX) a u0 sn).withEntry V.cur) := by
    refine ⟨{ ci198 := ci, i198 := ib, fBack := fB }, ⟨b1, b2, b3, b4⟩, ?_, fun _ _ => rfl⟩
    have z := fresh_default (c := P1.m.cls) tb
    rw [tB] at z
    simpa [preparedCellV, Cell.setSlot, Cell.withEntry, Array.getElem?_setIfInBounds, aC, aS, aP, aC.symm, aS.symm, aP.symm, defaultValue] using z
  obtain ⟨t9, _, _, _, vm1, n9, -, -, -, -, -, -, -, w1, st1⟩ := Steps.initColdS (tb := p.tables) (e := e) (below := below) (s := s) (U := V) X.here hexec X.warmed pl1 hown (t := Jvm.Bundle.initS cls) rfl rfl (Jvm.Bundle.fit_spec hcls).2 (h (.methodLink own ic (Jvm.Bundle.initS cls)) (by simp [Jvm.Bundle.ownAtomsX])) (h (.instanceMethod (Jvm.Bundle.initS cls)) (by cases names <;> simp [Jvm.Bundle.ownAtomsX, Jvm.Bundle.chainSAtomsX, Jvm.Bundle.passSAtoms])) (bytes := rx) (maxL := 2) (h (.code (Jvm.Bundle.initS cls) rx 2 none) (by cases names <;> simp [Jvm.Bundle.ownAtomsX, Jvm.Bundle.chainSAtomsX, Jvm.Bundle.passSAtoms])) (f := g) hg (a := a) (msg := msg) (rest := .ref a :: rest) hst hd6
  cases Option.some.inj (n9.symm.trans mP)
  obtain ⟨vm2, X2, st2⟩ := (X.noted w1).ctorMessageOffV hexec (g := { g with stack := .ref a :: rest }) hg hsize T L Z LZ M LM (P1 :: Ps) (fun P hP => (List.mem_cons.mp hP).elim (fun q => q ▸ L1) (LP P)) ⟨k1, k2⟩ (u0 := u0) (sen := sn) (self := a) hmsg (cell := freshCell P1.m.cls kX) (cellS := cV) hcell (fun _ => by simp) (by simp) rfl rfl s0 s1 hcV ne known (by rw [keep _ (far _)]; exact hu0) (by rw [keep _ (far _)]; exact hsn) (Takes.of_laid hk ord tC (by rw [Y.causeType]; rfl)) (Takes.of_laid hk ord tS (by rw [Y.stackType]; exact fits_refV_array _ u0)) (Takes.of_laid hk ord tP (by rw [Y.suppType]; exact fits_refV_object _ sn)) (Takes.of_laid hk ord tM (by rw [Y.msgType]; exact fits_refV_object _ ⟨msg, hmsg⟩)) Y.objLocals skip htr [] hd6 (by simp only [List.length_cons, len]; omega) (by simp only [List.length_cons, len]; exact hRl)
  obtain ⟨go, run, ended, wU, same⟩ := X2.athrowLeaves hexec (g := { g with stack := .ref a :: rest, pc := g.pc + 3 }) hg hlk hent hout (a := a) (rest := rest) rfl hd9
  have lt : a < ((V.setVm vm1).setVm vm2).heap.size := (Array.getElem?_eq_some_iff.mp hcell).1
  refine ⟨_, st1 _ (fun acts => ?_), run, ended, wU, same.weaken (fun y hy hl => ?_) (Nat.le_refl _) (Nat.le_refl _), _, heapAt_setCell_self (s := (V.setVm vm1).setVm vm2) (plainBareV T.toThrowableT (freshCell P1.m.cls kX) a u0 sn msg) lt, rfl, fP⟩
  · rw [doInvoke_state]
    exact st2 _ go
  · refine (List.mem_append.mp hy).elim id (fun h1 => ?_)
    have hb : y.base = a := by
      simp only [List.mem_cons, List.not_mem_nil, or_false] at h1
      rcases h1 with h1 | h1 | h1 | h1 | h1 <;> rw [h1]
    rw [hb] at hl
    exact absurd hl (Nat.not_lt.mpr hnew)
end VXX
section VXB
variable {p : Program} {l : Launch} {e : Env} {R : Room} {s : State} {m : MethodId} {args : Array Value} {below : List Frame} {meth : Method} {c : Code} {H : Heap} {locs : List Loc} {cells slots : Nat} {Q : State → Prop}
variable {mc ms : Nat} {free : Addr → Prop} {A0 A1 : Nat → Prop} {H0 : Heap} {a : Array Value} {ls : Array Slot} {st0 rest : List Value}
variable {Qc : Array Value → State → Outcome → State → Prop} {XC : String → State → State → Prop}
/-- 'throw new E("text")', the text by a wide index -/
theorem vx_throwSWX {cc : ByteArray} {pc : Nat} (hexec : p.tables.exec = Jvm.exec) (hb : c.code = cc) (hl : l.stackTraces = false) {own cls text : String} {names : List String} {ik is ic mc ms sa ix : Nat} {rx : ByteArray} {A : Nat → Prop} (x0 : decode rx 0 = .ok (.aload_n 0, 1)) (x1 : decode rx 1 = .ok (.aload_n 1, 1)) (x2 : decode rx 2 = .ok (.invokespecial ix, 3)) (x5 : decode rx 5 = .ok (.return_, 1))
    (hown : s.vm.findClass own = some m.cls) (hcls : Jvm.Bundle.fit cls = true) (hnames : ∀ n ∈ names, Jvm.Bundle.fit n = true)
    (hk : (Cond.classLink own ik cls).before args s = true) (hini : (Cond.initialized cls).before args s = true) (hstr : vk_R own is text sa s) (hat : ∀ w ∈ vx_atX own ic cls ix rx names, w.before args s = true)
    (hgood : ∀ w ∈ Cond.classLink own ik cls :: Cond.initialized cls :: vx_atX own ic cls ix rx names, vx_ot w = true)
    (hU : vx_Zq Jvm.Bundle.tN "UNASSIGNED_STACK" Jvm.Bundle.steD A s s.heap) (hN : vx_Zq Jvm.Bundle.tN "SUPPRESSED_SENTINEL" Jvm.Bundle.listD A s s.heap) (hS : va_S A s.heap H locs) (hsize : ls.size = c.maxLocals)
    (d0 : decode cc pc = .ok (.new ik, 3)) (d3 : decode cc (pc + 3) = .ok (.dup, 1)) (d4 : decode cc (pc + 4) = .ok (.ldc_w is, 3)) (d7 : decode cc (pc + 7) = .ok (.invokespecial ic, 3)) (d10 : decode cc (pc + 10) = .ok (.athrow, 1))
    (hout : ∀ x ∈ c.exceptionTable.toList, covers x (pc + 10) = false)
    (hRframes : names.length + 3 < R.frames) (hRlocals : (rest.map fun v => v.category).sum + (13 * (names.length + 1) + 43) ≤ R.locals) (hRcells : cells + 1 ≤ R.cells) (hRslots : slots + 6 ≤ R.slots) (hlocks : meth.locks = false)
    (hx : ∀ t : State, s.vm.Alike t.vm → H.size ≤ t.heap.size → (∀ q : Nat, q < H.size → t.heap[q]? = H[q]?) → XC cls s t)
    (hf : ∀ z ∈ locs, free z.base) (hc : cells + 1 ≤ mc) (hs : slots + 6 ≤ ms) :
    W p l e R s m args below meth c H locs cells slots (vx_MQ below Qc XC args s mc ms free) (F0 m pc ls rest) := by
  intro T hT X
  have htr : e.platform.stackTraces = false := (show e.platform.stackTraces = l.stackTraces by rw [X.admits.platform]).trans hl
  have Y := vx_rebase X (R' := { frames := R.frames, locals := R.locals, cells := 1, slots := 6 }) (Nat.le_refl _) (Nat.le_refl _) hRcells hRslots
  obtain ⟨s', hA⟩ : ∃ z, z = (T.setVm s.vm).setFrames (.invoking m args :: below) := ⟨_, rfl⟩
  rw [← hA] at Y
  have hvm : s'.vm = s.vm := by rw [hA]; rfl
  have hhp : s'.heap = H := by rw [hA]; exact hT
  have hW0 : s.WarmedH s'.vm := by rw [hvm]; exact State.WarmedH.refl s
  have hat' : ∀ w ∈ vx_atX own ic cls ix rx names, w.before args s' = true := fun w hw => vx_ot_at hW0 hvm.symm (hgood w (List.mem_cons_of_mem _ (List.mem_cons_of_mem _ hw))) (hat w hw)
  have hk' : (Cond.classLink own ik cls).before args s' = true := vx_ot_at hW0 hvm.symm (hgood _ List.mem_cons_self) hk
  have hini' : (Cond.initialized cls).before args s' = true := vx_ot_at hW0 hvm.symm (hgood _ (List.mem_cons_of_mem _ List.mem_cons_self)) hini
  have hU' : vx_Zq Jvm.Bundle.tN "UNASSIGNED_STACK" Jvm.Bundle.steD A s' s'.heap := by rw [hhp]; exact vx_Zq.moved hW0.alike (hU.kept hS.2.1)
  have hN' : vx_Zq Jvm.Bundle.tN "SUPPRESSED_SENTINEL" Jvm.Bundle.listD A s' s'.heap := by rw [hhp]; exact vx_Zq.moved hW0.alike (hN.kept hS.2.1)
  have h : ∀ w ∈ Jvm.Bundle.ownAtomsX own ic cls ix rx names, w.before args s' = true := vx_own hat' (vx_isRefq hU'.1) (vx_isRefq hN'.1) hU'.2.word hN'.2.word
  have hown' : s'.vm.findClass own = some m.cls := by rw [hvm]; exact hown
  have hins : (Cond.instantiable cls 6).before args s' = true := h _ (by simp [Jvm.Bundle.ownAtomsX])
  obtain ⟨vm₁, cX, kX, hfX, hkX, -, -, X₁, st1⟩ := Y.newCold hexec (own := own) (C := cls) (index := ik) (n := 6) hown' hk' hins hini'
    (g := F0 m pc ls rest) rfl (by rw [hb]; exact d0) (Nat.le_refl _) (Nat.le_refl _)
  generalize hT1 : (T.setVm vm₁).pushCell { cls := cX, slots := kX.instanceTypes.map defaultValue, vm := .none } = T1 at X₁ st1
  have hcat : (Value.ref T.heap.size).category = 1 := rfl
  have hcellA : T1.heap[T.heap.size]? = some (freshCell cX kX) := by rw [← hT1]; exact State.heap_pushCell_size _ _
  have d3' : decode c.code (pc + 3) = .ok (.dup, 1) := by rw [hb]; exact d3
  have d4' : decode c.code (pc + 4) = .ok (.ldc_w is, 3) := by rw [hb]; exact d4
  have hstr' : vk_R own is text sa s' := vk_R.warm hW0 hstr
  obtain ⟨U, hsteps, hrun, hend, hW, hsame, ce, hce, hO1, hO2⟩ := vx_ctorX X₁ hexec htr (own := own) (cls := cls) (names := names) (ic := ic) x0 x1 x2 x5 hown' hcls hnames h (fun x hx => nomatch hx) hfX hkX hcellA (by rw [hhp, hT]; exact Nat.le_refl _) (msg := .ref sa) rfl
    (g := { method := m, pc := pc + 7, locals := ls, stack := .ref sa :: .ref T.heap.size :: .ref T.heap.size :: rest, locked := none }) rfl hsize rfl rfl (rest := rest) rfl
    (by rw [hb]; exact d7) (by rw [hb]; exact d10) hout hRframes (by simp only [List.map_cons, List.sum_cons, hcat]; omega) hlocks
  obtain ⟨f1, f2⟩ := vx_frame hsame
  rw [hhp] at f1 f2
  have hWs : s.WarmedH U.vm := State.WarmedH.trans hW0 hW
  have hcl : s.vm.findClass cls = some ce.cls := by
    have h9 := hO2
    rw [hvm] at h9
    exact h9
  have hall : s.sameButNew ({ U with vm := s.vm } : State) locs mc ms := by
    subst hA
    obtain ⟨e1, e2⟩ := hsame
    rw [State.setFrames_setFrames] at e1
    have h2 : (T.setVm s.vm).sameButNew ({ U with vm := s.vm } : State) [] (0 + 1) (0 + 6) := ⟨e1, e2⟩
    have h3 := X.same.trans h2
    rw [List.append_nil] at h3
    exact h3.mono hc hs
  refine ⟨U, ?_, .threw T.heap.size, hrun, hend, Or.inr ⟨T.heap.size, rfl, cls, ce, locs, hx U hWs.alike f1 (fun q hq => f2 q hq (fun z hz => nomatch hz)), hce, hO1, hcl, hWs, hall, hf⟩⟩
  refine st1 _ ?_
  show Steps p.tables e below (T1.setTop { method := m, pc := pc + 3, locals := ls, stack := .ref T.heap.size :: rest, locked := none }) _
  jvm_step X₁.here [X₁.here.top, hexec, d3', Value.category]
  exact X₁.ldcStringW hexec (own := own) (text := text) (index := is) (a := sa) hown' hstr'.1 hstr'.2
    (g := { method := m, pc := pc + 4, locals := ls, stack := .ref T.heap.size :: .ref T.heap.size :: rest, locked := none }) rfl d4' _ hsteps
end VXB
