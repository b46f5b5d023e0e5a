/-! 'new int[N][M]': the kit's row for multianewarray rests on a shelf that rounds don't have, so it is walked here anew, for rows of ints -/
def mzI (cB : ClassId) (M : Nat) : Cell := { cls := cB, slots := Array.replicate M (.int 0), vm := .none }
def mzO (cA : ClassId) (N h : Nat) : Nat → Cell
  | 0 => { cls := cA, slots := Array.replicate N .null, vm := .none }
  | i + 1 => (mzO cA N h i).setSlot i (.ref (h + 1 + i))
/-- the heap when i rows stand -/
def mzF (s : State) (cA cB : ClassId) (N M : Nat) : Nat → State
  | 0 => s.pushCell (mzO cA N s.heap.size 0)
  | i + 1 => ((mzF s cA cB N M i).pushCell (mzI cB M)).setCell s.heap.size (mzO cA N s.heap.size (i + 1))
theorem mzO_at (cA : ClassId) (N h : Nat) : ∀ i : Nat, (mzO cA N h i).cls = cA ∧ (mzO cA N h i).vm = .none ∧ (mzO cA N h i).slots.size = N := by
  intro i
  induction i with
  | zero => exact ⟨rfl, rfl, by simp [mzO]⟩
  | succ i ih =>
    obtain ⟨a, b, d⟩ := ih
    refine ⟨?_, ?_, ?_⟩ <;> simp [mzO, Cell.setSlot, a, b, d]
theorem mzF_at (s : State) (cA cB : ClassId) (N M : Nat) : ∀ i : Nat, (mzF s cA cB N M i).heap.size = s.heap.size + 1 + i ∧ (mzF s cA cB N M i).heap[s.heap.size]? = some (mzO cA N s.heap.size i) ∧ (mzF s cA cB N M i).vm = s.vm ∧ (mzF s cA cB N M i).slotsUsed = s.slotsUsed + N + i * M := by
  intro i
  induction i with
  | zero => exact ⟨by simp [mzF], by simp [mzF], rfl, by simp [mzF, mzO]⟩
  | succ i ih =>
    obtain ⟨a, b, d, u⟩ := ih
    have hlt : s.heap.size < (mzF s cA cB N M i).heap.size := by omega
    have hb : ((mzF s cA cB N M i).pushCell (mzI cB M)).heap[s.heap.size]? = some (mzO cA N s.heap.size i) := by
      rw [State.heap_pushCell_of_lt (h := hlt)]
      exact b
    refine ⟨?_, State.heap_setCell_self hb, by simp [mzF, d], ?_⟩
    · simp [mzF, State.setCell, a]
      omega
    · simp [mzF, u, mzI, Nat.succ_mul]
      omega
theorem mzF_top (s : State) (f : JFrame) (cA cB : ClassId) (N M : Nat) : ∀ i : Nat, mzF (s.setTop f) cA cB N M i = (mzF s cA cB N M i).setTop f := by
  intro i
  induction i with
  | zero => rfl
  | succ i ih => simp only [mzF, ih, State.heap_setTop, State.pushCell_setTop, State.setCell_setTop]
theorem mzF_old (s : State) (cA cB : ClassId) (N M : Nat) {a : Addr} (ha : a < s.heap.size) : ∀ i : Nat, (mzF s cA cB N M i).heap[a]? = s.heap[a]? := by
  intro i
  induction i with
  | zero => exact State.heap_pushCell_of_lt _ _ ha
  | succ i ih =>
    have f1 := (mzF_at s cA cB N M i).1
    have hlt : a < (mzF s cA cB N M i).heap.size := Nat.lt_of_lt_of_le ha (by rw [f1]; omega)
    show (((mzF s cA cB N M i).pushCell (mzI cB M)).setCell s.heap.size _).heap[a]? = _
    rw [State.heap_setCell_other (Nat.ne_of_gt ha), State.heap_pushCell_of_lt (h := hlt)]
    exact ih
theorem mzF_row (s : State) (cA cB : ClassId) (N M : Nat) : ∀ i j : Nat, j < i → (mzF s cA cB N M i).heap[s.heap.size + 1 + j]? = some (mzI cB M) := by
  intro i
  induction i with
  | zero => intro j h; exact absurd h (Nat.not_lt_zero _)
  | succ i ih =>
    intro j h
    have f1 := (mzF_at s cA cB N M i).1
    show (((mzF s cA cB N M i).pushCell (mzI cB M)).setCell s.heap.size _).heap[s.heap.size + 1 + j]? = _
    rw [State.heap_setCell_other (show s.heap.size ≠ s.heap.size + 1 + j by omega)]
    by_cases hj : j < i
    · have hlt : s.heap.size + 1 + j < (mzF s cA cB N M i).heap.size := by rw [f1]; omega
      rw [State.heap_pushCell_of_lt (h := hlt)]
      exact ih j hj
    · have e : j = i := by omega
      subst e
      rw [← f1]
      exact State.heap_pushCell_size _ _
section MZW
variable {E : CtlPost} {e : Env} {d : Bool} {acts : List Action} {s : State}
theorem mz_new {c comp : ClassId} {k : Class} {type : FieldType} {len : Nat} {v0 : Value} (hk : s.vm.classes[c]? = some k) (hkind : k.kind = .array comp type) (hlimit : ¬ len > e.platform.arrayLengthLimit) (hheap : ¬ len * componentBytes type > e.platform.maxHeapBytes) (hfit : fits type v0 = true) (hdef : v0.isDefault = true) {Q : Addr → Pre} (h1 : s.heap.size < e.platform.maxCells) (h2 : s.slotsUsed + len ≤ e.platform.maxSlots) (hq : Q s.heap.size d acts (s.pushCell { cls := c, slots := Array.replicate len v0, vm := .none })) : wp (Jvm.newArray c len v0) Q E e d acts s := by
  have hall : ∀ (i : Nat) (v : Value), (Array.replicate len v0)[i]? = some v → s.fitsSlot c .none i v = true := by
    intro i v hv
    rw [Array.getElem?_replicate] at hv
    split at hv
    · cases hv
      simp [State.fitsSlot, State.slotType?, hk, hkind, hfit]
    · cases hv
  have hda : allocActs (Array.replicate len v0) s.heap.size acts = acts := by
    have h : ((Array.replicate len v0).all (·.isDefault)) = true := by
      rw [Array.all_replicate]
      split <;> simp [hdef]
    unfold allocActs
    rw [if_pos h]
  simp only [Jvm.newArray, Jvm.arrayFits, wp_bind', W.ask, W.ite, hlimit, if_false, wp_pure', W.theClass, hk, hkind, hheap, W.alloc, W.stop, Option.some.injEq, exists_eq_left', Array.size_replicate, hda]
  rw [if_neg (by omega)]
  exact ⟨h1, h2, hall, hq⟩
theorem mz_one {cB cc : ClassId} {kB : Class} {m : Int32} (hkB : s.vm.classes[cB]? = some kB) (hkindB : kB.kind = .array cc .int) (hm : ¬ m < 0) (hl : ¬ m.toNatClampNeg > e.platform.arrayLengthLimit) (hh : ¬ m.toNatClampNeg * 4 > e.platform.maxHeapBytes) (h1 : s.heap.size < e.platform.maxCells) (h2 : s.slotsUsed + m.toNatClampNeg ≤ e.platform.maxSlots) {Q : Addr → Pre} (hq : Q s.heap.size d acts (s.pushCell (mzI cB m.toNatClampNeg))) : wp (multianewarray.make cB [m]) Q E e d acts s := by
  rw [multianewarray.make]
  simp only [wp_bind', W.ite, hm, if_false, wp_pure', W.theClass, hkB, hkindB, Option.some.injEq, exists_eq_left']
  exact mz_new hkB hkindB hl hh rfl rfl h1 h2 hq
theorem mz_two {cA cB cc : ClassId} {kA kB : Class} {n m : Int32} (hkA : s.vm.classes[cA]? = some kA) (hkindA : kA.kind = .array cB (.array .int)) (hkB : s.vm.classes[cB]? = some kB) (hkindB : kB.kind = .array cc .int) (hn : ¬ n < 0) (hm : ¬ m < 0) (hl1 : ¬ n.toNatClampNeg > e.platform.arrayLengthLimit) (hh1 : ¬ n.toNatClampNeg * 4 > e.platform.maxHeapBytes) (hl2 : ¬ m.toNatClampNeg > e.platform.arrayLengthLimit) (hh2 : ¬ m.toNatClampNeg * 4 > e.platform.maxHeapBytes)
    (hc : s.heap.size + 1 + n.toNatClampNeg ≤ e.platform.maxCells) (hs : s.slotsUsed + n.toNatClampNeg + n.toNatClampNeg * m.toNatClampNeg ≤ e.platform.maxSlots) {Q : Addr → Pre} (hq : ∀ d' acts', Q s.heap.size d' acts' (mzF s cA cB n.toNatClampNeg m.toNatClampNeg n.toNatClampNeg)) : wp (multianewarray.make cA [n, m]) Q E e d acts s := by
  generalize hN : n.toNatClampNeg = N at hl1 hh1 hc hs hq
  have hfind : ([m].find? (· < 0)) = none := by simp [hm]
  rw [multianewarray.make]
  simp only [wp_bind', W.ite, hn, if_false, wp_pure', W.theClass, hkA, hkindA, Option.some.injEq, exists_eq_left', hN]
  refine mz_new hkA hkindA hl1 hh1 rfl rfl (by omega) (by have := Nat.zero_le (N * m.toNatClampNeg); omega) ?_
  simp only [hfind]
  rw [ite_self, wp_bind', Std.Legacy.Range.forIn_eq_forIn_range']
  have hsz : ([:N] : Std.Legacy.Range).size = N := by simp [Std.Legacy.Range.size]
  rw [hsz]
  show wp (forIn (List.range' 0 N 1) PUnit.unit _) _ E e d acts _
  refine wp_forIn_inv (fun rest s' => ∃ i, i ≤ N ∧ rest = List.range' i (N - i) ∧ s' = mzF s cA cB N m.toNatClampNeg i) _ _ ⟨0, Nat.zero_le _, rfl, rfl⟩ ?_ ?_
  · rintro x rest s' d' acts' Q' ⟨i, hi, hl, rfl⟩ hnext
    have hlt : i < N := by
      by_cases h : i < N
      · exact h
      · rw [show N - i = 0 from by omega] at hl
        simp at hl
    rw [show N - i = (N - (i + 1)) + 1 from by omega, List.range'_succ] at hl
    obtain ⟨rfl, hrest⟩ := List.cons.inj hl
    obtain ⟨f1, f2, f3, f4⟩ := mzF_at s cA cB N m.toNatClampNeg x
    obtain ⟨o1, o2, o3⟩ := mzO_at cA N s.heap.size x
    have hmul : x * m.toNatClampNeg + m.toNatClampNeg ≤ N * m.toNatClampNeg := by
      have := Nat.mul_le_mul_right m.toNatClampNeg (show x + 1 ≤ N from hlt)
      rw [Nat.succ_mul] at this
      exact this
    simp only [wp_bind']
    refine mz_one (by rw [f3]; exact hkB) hkindB hm hl2 hh2 (by rw [f1]; omega) (by rw [f4]; omega) ?_
    have hlt0 : s.heap.size < (mzF s cA cB N m.toNatClampNeg x).heap.size := by rw [f1]; omega
    simp only [wp_bind', W.writeLoc, wp_pure']
    refine ⟨mzO cA N s.heap.size x, by rw [State.heap_pushCell_of_lt (h := hlt0)]; exact f2, by rw [o2]; simp, by rw [o3]; exact hlt, ?_, hnext _ _ _ ⟨x + 1, hlt, hrest, ?_⟩⟩
    · rw [o1, o2]
      simp [State.fitsSlot, State.slotType?, f3, hkA, hkindA, fits]
    · rw [f1]
      rfl
  · rintro s' d' acts' ⟨i, hi, hl, rfl⟩
    have hiN : i = N := by
      by_cases h : i < N
      · rw [show N - i = (N - (i + 1)) + 1 from by omega, List.range'_succ] at hl
        cases hl
      · omega
    subst hiN
    simp only [wp_pure']
    exact hq _ _
end MZW
section MZS
variable {p : Program} {l : Launch} {e : Env} {R : Room} {s : State} {m : MethodId} {args : Array Value} {below : List Frame} {meth : Method} {c : Code} {T : State} {locs : List Loc} {cells slots : Nat}
theorem mz_stand (X : Stand p l e R s m args below meth c T locs cells slots) (cA cB : ClassId) (N M : Nat) : ∀ i : Nat, Stand p l e R s m args below meth c (mzF T cA cB N M i) (locs ++ (List.range i).map fun j => ⟨T.heap.size, j⟩) (cells + 1 + i) (slots + N + i * M) := by
  intro i
  induction i with
  | zero =>
    have h := X.pushed (mzO cA N T.heap.size 0)
    rw [(mzO_at cA N T.heap.size 0).2.2] at h
    simpa [mzF] using h
  | succ i Xi =>
    obtain ⟨f1, f2, f3, f4⟩ := mzF_at T cA cB N M i
    have hlt0 : T.heap.size < (mzF T cA cB N M i).heap.size := by rw [f1]; omega
    have hcell : ((mzF T cA cB N M i).pushCell (mzI cB M)).heap[T.heap.size]? = some (mzO cA N T.heap.size i) := by
      rw [State.heap_pushCell_of_lt (h := hlt0)]
      exact f2
    have h := (Xi.pushed (mzI cB M)).stored hcell i (.ref (T.heap.size + 1 + i))
    have e1 : (mzI cB M).slots.size = M := by simp [mzI]
    rw [e1] at h
    have e2 : (locs ++ (List.range (i + 1)).map fun j => (⟨T.heap.size, j⟩ : Loc)) = (locs ++ (List.range i).map fun j => (⟨T.heap.size, j⟩ : Loc)) ++ [⟨T.heap.size, i⟩] := by simp [List.range_succ, List.append_assoc]
    have e3 : slots + N + (i + 1) * M = slots + N + i * M + M := by rw [Nat.succ_mul]; omega
    rw [e2, e3]
    exact h
theorem mz_step (X : Stand p l e R s m args below meth c T locs cells slots) (hexec : p.tables.exec = Jvm.exec) {own : String} {index : Nat} (hown : s.vm.findClass own = some m.cls) (hclink : (Cond.classLink own index ("[" ++ (FieldType.array .int).toString)).before args s = true) (hover : (Cond.arrayOver (.array .int)).before args s = true) (harr : (Cond.arrayClass .int).before args s = true)
    {g : JFrame} (hg : g.method = m) (hdg : decode c.code g.pc = .ok (.multianewarray index 2, 4)) {n k : Int32} {rest : List Value} (hstack : g.stack = .int k :: .int n :: rest) (hn : ¬ n < 0) (hk : ¬ k < 0) (hb1 : n.toNatClampNeg * 4 ≤ 536870912) (hb2 : k.toNatClampNeg * 4 ≤ 536870912) (hcells : cells + (1 + n.toNatClampNeg) ≤ R.cells) (hslots : slots + (n.toNatClampNeg + n.toNatClampNeg * k.toNatClampNeg) ≤ R.slots) :
    ∃ (vm₁ : Vm) (cA cB : ClassId), s.WarmedH vm₁ ∧ s.vm.findClass ("[" ++ (FieldType.array .int).toString) = some cA ∧ s.vm.findClass (FieldType.array .int).toString = some cB ∧
      Stand p l e R s m args below meth c (mzF (T.setVm vm₁) cA cB n.toNatClampNeg k.toNatClampNeg n.toNatClampNeg) (locs ++ (List.range n.toNatClampNeg).map fun j => ⟨T.heap.size, j⟩) (cells + 1 + n.toNatClampNeg) (slots + n.toNatClampNeg + n.toNatClampNeg * k.toNatClampNeg) ∧
      ∀ target, Steps p.tables e below ((mzF (T.setVm vm₁) cA cB n.toNatClampNeg k.toNatClampNeg n.toNatClampNeg).setTop { g with pc := g.pc + 4, stack := .ref T.heap.size :: rest }) target → Steps p.tables e below (T.setTop g) target := by
  subst hg
  have hpl : e.platform.magicAccessors = ({} : Platform).magicAccessors := by rw [X.admits.platform]
  obtain ⟨cB, cA, kA, hcomp, -, hkA, hkindA, hnameA⟩ := aoI_spec hover
  obtain ⟨cB', kB, cc, hcB', hkB, hkindB⟩ := Cond.arrayClass_spec harr
  have eB : cB' = cB := Option.some.inj (hcB'.symm.trans hcomp)
  subst eB
  obtain ⟨c0, hfc0, hcl⟩ := Cond.classLink_spec hown hclink e.platform hpl
  cases hnameA.symm.trans hfc0
  obtain ⟨hg₁, hwarm₁, hready₁⟩ := State.classEntry (e := e) X.warmed hcl
  generalize T.vm.noted g.method.cls index (.cls cA) = vm₁ at hg₁ hwarm₁ hready₁
  have hal : s.vm.Alike vm₁ := hwarm₁.alike
  obtain ⟨kA₁, hkA₁, heA⟩ := hal.2.2 _ _ hkA
  obtain ⟨kB₁, hkB₁, heB⟩ := hal.2.2 _ _ hkB
  have hkindA₁ : kA₁.kind = .array cB' (.array .int) := by rw [heA]; exact hkindA
  have hkindB₁ : kB₁.kind = .array cc .int := by rw [heB]; exact hkindB
  have X₁ := X.noted hwarm₁
  obtain ⟨hr1, hr2⟩ := X.roomAbove hcells hslots
  refine ⟨vm₁, cA, cB', hwarm₁, hnameA, hcomp, mz_stand X₁ cA cB' _ _ _, fun target hrest => ?_⟩
  have hl1 : ¬ n.toNatClampNeg > e.platform.arrayLengthLimit := by rw [Launch.admits_arrayLengthLimit X.admits]; omega
  have hh1 : ¬ n.toNatClampNeg * 4 > e.platform.maxHeapBytes := by rw [Launch.admits_maxHeapBytes X.admits]; omega
  have hl2 : ¬ k.toNatClampNeg > e.platform.arrayLengthLimit := by rw [Launch.admits_arrayLengthLimit X.admits]; omega
  have hh2 : ¬ k.toNatClampNeg * 4 > e.platform.maxHeapBytes := by rw [Launch.admits_maxHeapBytes X.admits]; omega
  jvm_step X.here [hexec, hdg]
  simp only [multianewarray.sem, wp_bind', W.resolveClassAt_links (State.method?_setTop g X.here.top) hg₁]
  rw [W.popN, if_neg (by decide)]
  refine ⟨g, State.topJava?_setTop' (s := T.setVm vm₁) g X.here.top, [.int n, .int k], rest, rfl, hstack, ?_⟩
  simp only [List.mapM_cons, List.mapM_nil, wp_bind', wp_pure']
  refine mz_two hkA₁ hkindA₁ hkB₁ hkindB₁ hn hk hl1 hh1 hl2 hh2 (by show T.heap.size + 1 + _ ≤ _; omega) (by show T.slotsUsed + _ + _ ≤ _; omega) (fun d' acts' => ?_)
  have XF := mz_stand X₁ cA cB' n.toNatClampNeg k.toNatClampNeg n.toNatClampNeg
  have eS : ((T.setTop g).setVm vm₁).setTop { g with stack := rest } = (T.setVm vm₁).setTop { g with stack := rest } := by
    show ((T.setVm vm₁).setTop g).setTop _ = _
    rw [State.setTop_setTop]
  rw [eS, mzF_top]
  simp only [wp_bind', W.mark, W.pushRef, State.topJava?_setTop' _ XF.here.top, Option.some.injEq, exists_eq_left', State.setTop_setTop, State.heap_setTop]
  intro acts
  simp [jvm, XF.here.top]
  exact hrest
end MZS
