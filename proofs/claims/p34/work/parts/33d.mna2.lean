section MZR
variable {p : Program} {l : Launch} {e : Env} {R : Room} {s : State} {m : MethodId} {args : Array Value} {below : List Frame} {meth : Method} {c : Code} {H : Heap} {locs : List Loc} {cells slots : Nat} {Q : State → Prop}
variable {cc : ByteArray} {pc nL : Nat} {ls : Array Slot} {rest : List Value} {D : va_G} {A : Nat → Prop} {Ts : List Cond} {own : String} {cy : Nat → ClassId} {L : List Nat} {τ : Nat → Ro} {E : Ec}
theorem mzO_arr (cA : ClassId) (N h : Nat) : ∀ i : Nat, mzO cA N h i = arrV cA N (fun j => va_rf (if j < i then some (h + 1 + j) else none)) := by
  intro i
  induction i with
  | zero =>
    show ({ cls := cA, slots := Array.replicate N .null, vm := .none } : Cell) = _
    rw [arrV_new]
    refine congrArg (arrV cA N) (funext fun j => ?_)
    simp [va_rf]
  | succ i ih =>
    show (mzO cA N h i).setSlot i (.ref (h + 1 + i)) = _
    rw [ih, arrV_store]
    refine congrArg (arrV cA N) (funext fun j => ?_)
    by_cases e : j = i
    · subst e
      simp [updV, va_rf]
    · by_cases hj : j < i
      · simp [updV, e, hj, Nat.lt_succ_of_lt hj]
      · simp [updV, e, hj, show ¬ j < i + 1 by omega]
/-- the rows' addresses, roles, contents: i of them stand -/
def mzL (L : List Nat) (h : Nat) : Nat → List Nat
  | 0 => L
  | i + 1 => mzL L h i ++ [h + 1 + i]
def mzT (τ : Nat → Ro) (h o : Nat) : Nat → Nat → Ro
  | 0 => τ
  | i + 1 => upT (mzT τ h o i) (h + 1 + i) (100 + i, o)
def mzE (E : Ec) (h M : Nat) (cB : ClassId) : Nat → Ec
  | 0 => E
  | i + 1 => va_up (mzE E h M cB i) (h + 1 + i) (.inl (cB, M, .inl (fun _ => 0)))
theorem mzL_mem {L : List Nat} {h i a : Nat} (ha : a ∈ mzL L h i) : a ∈ L ∨ (h + 1 ≤ a ∧ a < h + 1 + i) := by
  induction i with
  | zero => exact Or.inl ha
  | succ i ih =>
    rcases List.mem_append.mp ha with q | q
    · rcases ih q with r | r
      · exact Or.inl r
      · exact Or.inr ⟨r.1, by omega⟩
    · have : a = h + 1 + i := by simpa using q
      exact Or.inr ⟨by omega, by omega⟩
theorem mz_psh {L : List Nat} {τ : Nat → Ro} {E : Ec} {h M o : Nat} {cB : ClassId} (hlt : ∀ a ∈ L, a < h) : ∀ i : Nat, (∀ a ∈ L, a ∈ mzL L h i) ∧ (∀ a ∈ L, mzT τ h o i a = τ a) ∧ (∀ a ∈ L, mzE E h M cB i a = E a) ∧ ∀ j : Nat, j < i → h + 1 + j ∈ mzL L h i ∧ mzT τ h o i (h + 1 + j) = (100 + j, o) := by
  intro i
  induction i with
  | zero => exact ⟨fun _ h => h, fun _ _ => rfl, fun _ _ => rfl, fun j hj => absurd hj (Nat.not_lt_zero _)⟩
  | succ i ih =>
    obtain ⟨a1, a2, a3, a4⟩ := ih
    refine ⟨fun a ha => List.mem_append_left _ (a1 a ha), fun a ha => (upT_ne (by have := hlt a ha; omega)).trans (a2 a ha), fun a ha => (va_up_ne _ _ (by have := hlt a ha; omega)).trans (a3 a ha), fun j hj => ?_⟩
    by_cases c : j = i
    · subst c
      exact ⟨List.mem_append_right _ (by simp), upT_self _ _ _⟩
    · obtain ⟨b1, b2⟩ := a4 j (by omega)
      exact ⟨List.mem_append_left _ b1, (upT_ne (by omega)).trans b2⟩
theorem row_zero {j o : Nat} (h : j ≤ 12) : ∃ w : Nat → Int × Int, tInt (100 + j, o) = some (0, 66, w) ∧ ∀ i : Nat, (w i).1 ≤ 0 ∧ 0 ≤ (w i).2 := by
  have : j = 0 ∨ j = 1 ∨ j = 2 ∨ j = 3 ∨ j = 4 ∨ j = 5 ∨ j = 6 ∨ j = 7 ∨ j = 8 ∨ j = 9 ∨ j = 10 ∨ j = 11 ∨ j = 12 := by omega
  rcases this with rfl | rfl | rfl | rfl | rfl | rfl | rfl | rfl | rfl | rfl | rfl | rfl | rfl <;> first | exact ⟨_, rfl, fun i => ⟨(by decide : (0 : Int) ≤ 0), (by decide : (0 : Int) ≤ 3)⟩⟩ | exact ⟨_, rfl, fun i => ⟨(by decide : (-2147483648 : Int) ≤ 0), (by decide : (0 : Int) ≤ 2147483647)⟩⟩
theorem row_none {j o : Nat} (h : j ≤ 12) : tObj (100 + j, o) = none ∧ tRef (100 + j, o) = none := by
  have : j = 0 ∨ j = 1 ∨ j = 2 ∨ j = 3 ∨ j = 4 ∨ j = 5 ∨ j = 6 ∨ j = 7 ∨ j = 8 ∨ j = 9 ∨ j = 10 ∨ j = 11 ∨ j = 12 := by omega
  rcases this with rfl | rfl | rfl | rfl | rfl | rfl | rfl | rfl | rfl | rfl | rfl | rfl | rfl <;> exact ⟨rfl, rfl⟩
theorem mz_inv {L : List Nat} {τ : Nat → Ro} {E : Ec} {h o : Nat} (hI : Inv TB cy L τ E) (hlt : ∀ a ∈ L, a < h) (hab : ∀ b ∈ L, ∀ j : Nat, j ≤ 12 → τ b ≠ (100 + j, o)) : ∀ i : Nat, i ≤ 13 → Inv TB cy (mzL L h i) (mzT τ h o i) (mzE E h 66 (cy 0) i) := by
  intro i
  induction i with
  | zero => exact fun _ => hI
  | succ i ih =>
    intro hi
    obtain ⟨w, hw, hz⟩ := row_zero (j := i) (o := o) (by omega)
    obtain ⟨n1, n2⟩ := row_none (j := i) (o := o) (by omega)
    obtain ⟨a1, a2, a3, a4⟩ := mz_psh (τ := τ) (E := E) (M := 66) (o := o) (cB := cy 0) hlt i
    refine inv_push (ih (by omega)) (fun q => ?_) (fun _ b hb e => ?_) (fun ci ts q => ?_) (fun j n b q => ?_) (fun j n t q => ?_)
    · rcases mzL_mem q with r | r
      · have := hlt _ r
        omega
      · omega
    · rcases mzL_mem hb with r | r
      · rw [a2 b r] at e
        exact hab b r i (by omega) e
      · have e2 := (a4 (b - (h + 1)) (by omega)).2
        rw [show h + 1 + (b - (h + 1)) = b from by omega, e] at e2
        have := congrArg Prod.fst e2
        simp at this
        omega
    · exact nomatch (n1.symm.trans q)
    · have := hw.symm.trans q
      cases this
      exact ⟨_, va_up_self _ _ _, fun i _ => hz i⟩
    · exact nomatch (n2.symm.trans q)
/-- new int[13][66]: the grid and its rows -/
theorem tr_mna (C : CallFix p m c cc nL s args Ts own) (hK : va_K D vwCl (tysL cy) s) (hA : ∀ q, s.heap.size ≤ q → A q) (hO : Ao s) (S : NowG D cy A s L τ E H locs) {index : Nat} (hclink : (Cond.classLink own index "[[I").before args s = true) (harr : (Cond.arrayClass .int).before args s = true) {n k : Int32} (hn : n.toInt = 13) (hk : k.toInt = 66) (o : Nat) (hab : ∀ b ∈ L, ∀ j : Nat, j ≤ 12 → τ b ≠ (100 + j, o)) (hab2 : ∀ b ∈ L, τ b ≠ (30, o)) (hcells : cells + 14 ≤ R.cells) (hslots : slots + 871 ≤ R.slots) (hdg : decode cc pc = .ok (.multianewarray index 2, 4))
    (kk : ∀ (L' : List Nat) (τ' : Nat → Ro) (E' : Ec) (q : Nat) (H1 : Heap), NowG D cy A s L' τ' E' H1 locs → (∀ a ∈ L, a ∈ L') → (∀ a ∈ L, τ' a = τ a) → (∀ a ∈ L, E' a = E a) → q ∈ L' → τ' q = (30, o) → q ∉ L → (∀ b ∈ L', b ∈ L ∨ τ' b = (30, o) ∨ ∃ j : Nat, j ≤ 12 ∧ τ' b = (100 + j, o)) → W p l e R s m args below meth c H1 locs (cells + 14) (slots + 871) Q (F0 m (pc + 4) ls (.ref q :: rest))) : W p l e R s m args below meth c H locs cells slots Q (F0 m pc ls (.int k :: .int n :: rest)) := by
  obtain ⟨hx, hb, hml, hown, hts⟩ := C
  obtain ⟨⟨hP, hD, hS⟩, hI⟩ := S
  have eN : n.toNatClampNeg = 13 := by show n.toInt.toNat = 13; omega
  have eM : k.toNatClampNeg = 66 := by show k.toInt.toNat = 66; omega
  intro T hT X
  obtain ⟨vm₁, cA, cB, hw1, fA, fC, X1, step⟩ := mz_step X hx hown hclink hO.2.2 harr (g := F0 m pc ls (.int k :: .int n :: rest)) rfl (by rw [hb]; exact hdg) rfl (fun q => by have := nu_lt0 q; omega) (fun q => by have := nu_lt0 q; omega) (by rw [eN]; decide) (by rw [eM]; decide) (by rw [eN]; exact hcells) (by rw [eN, eM]; exact hslots)
  rw [eN, eM] at X1 step
  have X2 := X1.dropFresh (fun x hx => by
    obtain ⟨j, -, rfl⟩ := List.mem_map.mp hx
    exact X.heapGrown)
  have hTh : (T.setVm vm₁).heap = H := hT
  generalize hF : mzF (T.setVm vm₁) cA cB 13 66 13 = F at X2 step
  have h1 := (mzF_at (T.setVm vm₁) cA cB 13 66 13).1
  have h2 := (mzF_at (T.setVm vm₁) cA cB 13 66 13).2.1
  rw [hF, hTh] at h1 h2
  have hold : ∀ x : Nat, x < H.size → F.heap[x]? = H[x]? := fun x hx => by
    have := mzF_old (T.setVm vm₁) cA cB 13 66 (a := x) (by rw [hTh]; exact hx) 13
    rw [hF, hTh] at this
    exact this
  have hrow : ∀ j : Nat, j < 13 → F.heap[H.size + 1 + j]? = some (mzI cB 66) := fun j hj => by
    have := mzF_row (T.setVm vm₁) cA cB 13 66 13 j hj
    rw [hF, hTh] at this
    exact this
  have kB : cB = cy 0 := by
    have := (hK.2 0 _ rfl).2
    exact Option.some.inj (fC.symm.trans this)
  have kA : cA = cy 5 := by
    have := (hK.2 5 _ rfl).2
    exact Option.some.inj (fA.symm.trans this)
  subst kB
  subst kA
  have hlt : ∀ a ∈ L, a < H.size := fun a ha => by
    obtain ⟨k9, hk9⟩ := pl_at (E := E) ha
    exact (hP k9 _ hk9).lt
  obtain ⟨a1, a2, a3, a4⟩ := mz_psh (τ := τ) (E := E) (M := 66) (o := o) (cB := cy 0) hlt 13
  have hIr := mz_inv (o := o) hI hlt hab 13 (Nat.le_refl _)
  have hq : H.size ∉ mzL L H.size 13 := fun z => by
    rcases mzL_mem z with r | r
    · have := hlt _ r
      omega
    · omega
  have hout : (mzO (cy 5) 13 H.size 13) = vp_cell (cy 5) (13, .inr (.inr (.inr (.inr (fun i => if i < 13 then some (H.size + 1 + i) else none))))) := by
    rw [vp_cell_q]
    exact mzO_arr (cy 5) 13 H.size 13
  rw [hout] at h2
  have hIf : Inv TB cy (mzL L H.size 13 ++ [H.size]) (upT (mzT τ H.size o 13) H.size (30, o)) (va_up (mzE E H.size 66 (cy 0) 13) H.size (.inl (cy 5, 13, .inr (.inr (.inr (.inr (fun i => if i < 13 then some (H.size + 1 + i) else none))))))) := by
    refine inv_push hIr hq (fun _ b hb e => ?_) (fun ci ts q => nomatch q) (fun j n b q => nomatch q) (fun j n t q => ?_)
    · rcases mzL_mem hb with r | r
      · rw [a2 b r] at e
        exact hab2 b r e
      · have e2 := (a4 (b - (H.size + 1)) (by omega)).2
        rw [show H.size + 1 + (b - (H.size + 1)) = b from by omega, e] at e2
        have := congrArg Prod.fst e2
        simp at this
        omega
    · have q : some ((5 : Nat), (13 : Nat), (fun (i : Nat) => ((1, 100 + (i : Int), (o : Int)) : Ft))) = some (j, n, t) := q
      cases q
      refine ⟨_, va_up_self _ _ _, fun i hi => ?_⟩
      obtain ⟨b1, b2⟩ := a4 i hi
      refine ⟨H.size + 1 + i, by simp [va_rf, hi], List.mem_append_left _ b1, (upT_ne (by omega)).trans (b2.trans ?_)⟩
      exact Prod.ext (by show 100 + i = (100 + (i : Int)).toNat; omega) (by show o = ((o : Int)).toNat; omega)
  have cell : ∀ a, a ∈ mzL L H.size 13 ++ [H.size] → va_at D vwCl (a, va_up (mzE E H.size 66 (cy 0) 13) H.size (.inl (cy 5, 13, .inr (.inr (.inr (.inr (fun i => if i < 13 then some (H.size + 1 + i) else none)))))) a) F.heap := by
    intro a ha
    rcases List.mem_append.mp ha with r | r
    · have hne : a ≠ H.size := fun z => hq (by rw [z] at r; exact r)
      rw [va_up_ne _ _ hne]
      rcases mzL_mem r with r | r
      · rw [a3 a r]
        obtain ⟨k9, hk9⟩ := pl_at (E := E) r
        have := hP k9 _ hk9
        exact va_at_kept this (hold a (hlt a r))
      · have e : mzE E H.size 66 (cy 0) 13 a = .inl (cy 0, 66, .inl (fun _ => 0)) := by
          have gen : ∀ i : Nat, a < H.size + 1 + i → mzE E H.size 66 (cy 0) i a = .inl (cy 0, 66, .inl (fun _ => 0)) := by
            intro i
            induction i with
            | zero => intro z; omega
            | succ i ih =>
              intro z
              by_cases c : a = H.size + 1 + i
              · subst c
                exact va_up_self _ _ _
              · exact (va_up_ne _ _ c).trans (ih (by omega))
          exact gen 13 (by omega)
        rw [e]
        show F.heap[a]? = some (vp_cell _ _)
        have := hrow (a - (H.size + 1)) (by omega)
        rw [show H.size + 1 + (a - (H.size + 1)) = a from by omega] at this
        rw [this]
        exact congrArg some (mzI_cell _ _)
    · have : a = H.size := by simpa using r
      subst this
      rw [va_up_self]
      exact h2
  have hnd : (mzL L H.size 13 ++ [H.size]).Nodup := by
    have n0 : L.Nodup := nodup_of hD
    have n1 : ∀ i : Nat, (mzL L H.size i).Nodup := by
      intro i
      induction i with
      | zero => exact n0
      | succ i ih =>
        refine List.nodup_append.mpr ⟨ih, by simp, fun a ha b hb e => ?_⟩
        have hb : b = H.size + 1 + i := by simpa using hb
        rcases mzL_mem ha with r | r
        · have := hlt _ r
          omega
        · omega
    refine List.nodup_append.mpr ⟨n1 13, by simp, fun a ha b hb e => ?_⟩
    have hb : b = H.size := by simpa using hb
    have hah : a = H.size := e.trans hb
    rw [hah] at ha
    exact hq ha
  have hAl : ∀ a ∈ mzL L H.size 13 ++ [H.size], A a := by
    intro a ha
    rcases List.mem_append.mp ha with r | r
    · rcases mzL_mem r with r | r
      · obtain ⟨k9, hk9⟩ := pl_at (E := E) r
        exact hD.2 k9 _ hk9
      · exact hA a (by have := hS.1; omega)
    · have : a = H.size := by simpa using r
      subst this
      exact hA _ hS.1
  obtain ⟨t, b1, b2⟩ := kk _ _ _ H.size F.heap ⟨⟨pl_P cell, pl_D hnd hAl, by rw [h1]; have := hS.1; omega, fun x q1 q2 => (hold x (Nat.lt_of_lt_of_le q1 hS.1)).trans (hS.2.1 x q1 q2), hS.2.2⟩, hIf⟩ (fun a ha => List.mem_append_left _ (a1 a ha)) (fun a ha => (upT_ne (by have := hlt a ha; omega)).trans (a2 a ha)) (fun a ha => (va_up_ne _ _ (by have := hlt a ha; omega)).trans (a3 a ha)) (by simp) (upT_self _ _ _) (fun z => by have := hlt _ z; omega) (fun b hb => by
    rcases List.mem_append.mp hb with r | r
    · rcases mzL_mem r with r | r
      · exact Or.inl r
      · refine Or.inr (Or.inr ⟨b - (H.size + 1), by omega, ?_⟩)
        have e2 := (a4 (b - (H.size + 1)) (by omega)).2
        rw [show H.size + 1 + (b - (H.size + 1)) = b from by omega] at e2
        exact (upT_ne (by omega)).trans e2
    · have : b = H.size := by simpa using r
      subst this
      exact Or.inr (Or.inl (upT_self _ _ _))) F rfl X2
  refine ⟨t, step t ?_, b2⟩
  have e9 : T.heap.size = H.size := by rw [hT]
  rw [e9]
  exact b1
end MZR
