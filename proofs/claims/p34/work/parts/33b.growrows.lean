/-- what is known at one place of a method that makes cells -/
abbrev NowG (D : va_G) (cy : Nat → ClassId) (A : Nat → Prop) (s : State) (L : List Nat) (τ : Nat → Ro) (E : Ec) (H : Heap) (locs : List Loc) : Prop := Wd D A s.heap L E H locs ∧ Inv TB cy L τ E
/-- CONTRACTS of methods that make cells -/
def CtG (l : Launch) (y : MethodName) (w : List Cond) (rm : Room) (D : va_G) (cy : Nat → ClassId) (L : List Nat) (τ : Nat → Ro) (E : Ec) (av : List Value) (x : Nat) (made : List Ro) (mc ms : Nat) (post : List Nat → (Nat → Ro) → Ec → Prop) : Prop :=
  ∀ sz : Nat, Met l y w rm (preG D cy L E sz av) (va_Qv (S := List Nat × (Nat → Ro) × Ec) (fun Y => Inv TB cy Y.1 Y.2.1 Y.2.2 ∧ Gr x made L τ E Y.1 Y.2.1 Y.2.2 ∧ post Y.1 Y.2.1 Y.2.2) (fun Y => Bw D cy Y.1 (va_A (va_pl L E) sz) Y.2.2) (va_A (va_pl L E) sz)) mc ms (va_A (va_pl L E) sz)
section GROW
variable {p : Program} {l : Launch} {e : Env} {R : Room} {s : State} {m : MethodId} {args : Array Value} {below : List Frame} {meth : Method} {c : Code} {H : Heap} {locs : List Loc} {cells slots : Nat} {Q : State → Prop}
variable {cc : ByteArray} {pc nL : Nat} {ls : Array Slot} {rest st : List Value} {D : va_G} {A : Nat → Prop} {a : Nat} {H0 : Heap} {Ts : List Cond} {own : String} {cy : Nat → ClassId} {L : List Nat} {τ : Nat → Ro} {E : Ec}
theorem wd_fresh (hW : Wd D A H0 L E H locs) {q : Nat} (hq : H.size ≤ q) : q ∉ L := fun h => by
  obtain ⟨k, hk⟩ := pl_at (E := E) h
  have := (hW.1 k _ hk).lt
  omega
theorem wd_push {locs1 : List Loc} {H1 : Heap} {q : Nat} {ee : va_E} (hq : q ∉ L) (hP : va_P D vwCl (va_pl L E ++ [(q, ee)]) H1) (hD : va_D A (va_pl L E ++ [(q, ee)])) (hS : va_S A H0 H1 locs1) : Wd D A H0 (L ++ [q]) (va_up E q ee) H1 locs1 := by
  rw [va_pl_push hq] at hP hD
  exact ⟨hP, hD, hS⟩
/-- new addresses are new -/
theorem q_fresh {ee : va_E} {q : Nat} (hD : va_D A (va_pl L E ++ [(q, ee)])) : q ∉ L := fun h => by
  obtain ⟨k, hk⟩ := pl_at (E := E) h
  have hl : k < (va_pl L E).length := (List.getElem?_eq_some_iff.mp hk).1
  have := hD.1 k (va_pl L E).length (q, E q) (q, ee) (by rw [List.getElem?_append_left hl]; exact hk) (by rw [List.getElem?_append_right (Nat.le_refl _)]; simp) rfl
  omega
/-- new: a cell under construction, of a role that no table knows -/
theorem tr_new (C : CallFix p m c cc nL s args Ts own) (hK : va_K D vwCl (tysL cy) s) (hA : ∀ q, s.heap.size ≤ q → A q) (S : NowG D cy A s L τ E H locs) {C1 : String} {T : u_T} {N ci index : Nat} (hin : ∀ w ∈ u_ws C1 T N, w ∈ Ts) (ty : Nat → FieldType) (hty : ∀ k, k < N → parseFieldDescriptor (T k).2.2.1 = some (ty k)) (hcl : (Cond.classLink own index C1).before args s = true) (hinst : (Cond.instantiable C1 N).before args s = true) (hini : (Cond.initialized C1).before args s = true) (hc : vwCl[ci]? = some (C1, T, N)) {fs : List Value} (hfs : ∀ j, j < N → defaultValue (ty j) = vp_V fs j) (r : Ro) (hr1 : tObj r = none) (hr2 : tInt r = none) (hr3 : tRef r = none) (hu : ∀ b ∈ L, τ b ≠ r) (hcells : cells + 1 ≤ R.cells) (hslots : slots + N ≤ R.slots) (hdg : decode cc pc = .ok (.new index, 3))
    (kk : ∀ (L' : List Nat) (τ' : Nat → Ro) (E' : Ec) (q : Nat) (H1 : Heap), NowG D cy A s L' τ' E' H1 locs → Psh L τ E L' τ' E' q r → E' q = .inr (ci, fs) → W p l e R s m args below meth c H1 locs (cells + 1) (slots + N) Q (F0 m (pc + 3) ls (.ref q :: rest))) : W p l e R s m args below meth c H locs cells slots Q (F0 m pc ls rest) := by
  obtain ⟨hx, hb, hml, hown, hts⟩ := C
  obtain ⟨⟨hP, hD, hS⟩, hI⟩ := S
  refine va_new hx hb hts hin ty hty hown hcl hinst hini hK hP hD hS hA hc hfs hcells hslots hdg (fun q H1 hP1 hD1 hS1 => ?_)
  have hq := q_fresh hD1
  refine kk _ (upT τ q r) _ q H1 ⟨wd_push hq hP1 hD1 hS1, inv_push hI hq (fun _ => hu) (fun ci ts h => ?_) (fun j n b h => ?_) (fun j n t h => ?_)⟩ (psh_push hq) (va_up_self _ _ _)
  · exact nomatch (hr1.symm.trans h)
  · exact nomatch (hr2.symm.trans h)
  · exact nomatch (hr3.symm.trans h)
theorem cy_of {k : Nat} {ty : FieldType} {cA : ClassId} (hK : va_K D vwCl (tysL cy) s) (hk : (tysL cy)[k]? = some (cy k, ty)) (hK2 : va_K D vwCl (tysL cy ++ [(cA, ty)]) s) : cA = cy k := by
  have h1 := (hK.2 k _ hk).2
  have h2 := (hK2.2 (tysL cy).length (cA, ty) (by simp)).2
  cases ty with
  | object C =>
    obtain ⟨_, _, _, _, _, f1⟩ := h1
    obtain ⟨_, _, _, _, _, f2⟩ := h2
    exact Option.some.inj (f2.symm.trans f1)
  | _ => exact Option.some.inj (h2.symm.trans h1)
/-- newarray of numbers, its role told by the tables -/
theorem tr_newi (C : CallFix p m c cc nL s args Ts own) (hK : va_K D vwCl (tysL cy) s) (hA : ∀ q, s.heap.size ≤ q → A q) (S : NowG D cy A s L τ E H locs) {atype : ArrayType} (harr : (Cond.arrayClass (newarray.typeOf atype)).before args s = true) {ty : FieldType} (hty : newarray.typeOf atype = ty) (j : Nat) (hj : (tysL cy)[j]? = some (cy j, ty)) {n : Int32} (N : Nat) (hn : n.toInt = N) (hcell : ∀ cA : ClassId, vp_cell cA (N, .inl (fun _ => 0)) = arrV cA N (fun _ => defaultValue ty)) (hbytes : N * componentBytes ty ≤ 536870912) (r : Ro) {w : Nat → Int × Int} (hr1 : tObj r = none) (hr2 : tInt r = some (j, N, w)) (hr3 : tRef r = none) (hz : ∀ i : Nat, (w i).1 ≤ 0 ∧ 0 ≤ (w i).2) (hu : uq r = true → ∀ b ∈ L, τ b ≠ r) (hcells : cells + 1 ≤ R.cells) (hslots : slots + N ≤ R.slots) (hdg : decode cc pc = .ok (.newarray atype, 2))
    (kk : ∀ (L' : List Nat) (τ' : Nat → Ro) (E' : Ec) (q : Nat) (H1 : Heap), NowG D cy A s L' τ' E' H1 locs → Psh L τ E L' τ' E' q r → W p l e R s m args below meth c H1 locs (cells + 1) (slots + N) Q (F0 m (pc + 2) ls (.ref q :: rest))) : W p l e R s m args below meth c H locs cells slots Q (F0 m pc ls (.int n :: rest)) := by
  obtain ⟨hx, hb, hml, hown, hts⟩ := C
  obtain ⟨⟨hP, hD, hS⟩, hI⟩ := S
  refine va_newa hx hb harr hty hK hP hD hS hA hcell (fun q => by have := nu_lt0 q; omega) (by show n.toInt.toNat = N; omega) hbytes hcells hslots hdg (fun q cA H1 hK2 hP1 hD1 hS1 => ?_)
  have hq := q_fresh hD1
  have hc := cy_of hK hj hK2
  subst hc
  refine kk _ (upT τ q r) _ q H1 ⟨wd_push hq hP1 hD1 hS1, inv_push hI hq hu (fun ci ts h => ?_) (fun j' n' b h => ?_) (fun j' n' t h => ?_)⟩ (psh_push hq)
  · exact nomatch (hr1.symm.trans h)
  · have := hr2.symm.trans h
    cases this
    exact ⟨_, va_up_self _ _ _, fun i _ => hz i⟩
  · exact nomatch (hr3.symm.trans h)
/-- anewarray, its role told by the tables or raw -/
theorem tr_newq (C : CallFix p m c cc nL s args Ts own) (hK : va_K D vwCl (tysL cy) s) (hA : ∀ q, s.heap.size ≤ q → A q) (S : NowG D cy A s L τ E H locs) {C1 : String} {index : Nat} (hclink : (Cond.classLink own index C1).before args s = true) (hover : va_AO C1 s) (j : Nat) (hj : (tysL cy)[j]? = some (cy j, .object C1)) {n : Int32} (N : Nat) (hn : n.toInt = N) (hbytes : N * 4 ≤ 536870912) (r : Ro) (hr1 : tObj r = none) (hr2 : tInt r = none) (hr3 : ∀ (j' n' : Nat) (t : Nat → Ft), tRef r = some (j', n', t) → j' = j ∧ n' = N ∧ ∀ i : Nat, (t i).1 = 3) (hu : uq r = true → ∀ b ∈ L, τ b ≠ r) (hcells : cells + 1 ≤ R.cells) (hslots : slots + N ≤ R.slots) (hdg : decode cc pc = .ok (.anewarray index, 3))
    (kk : ∀ (L' : List Nat) (τ' : Nat → Ro) (E' : Ec) (q : Nat) (H1 : Heap), NowG D cy A s L' τ' E' H1 locs → Psh L τ E L' τ' E' q r → E' q = .inl (cy j, N, .inr (.inr (.inr (.inr (fun _ => none))))) → W p l e R s m args below meth c H1 locs (cells + 1) (slots + N) Q (F0 m (pc + 3) ls (.ref q :: rest))) : W p l e R s m args below meth c H locs cells slots Q (F0 m pc ls (.int n :: rest)) := by
  obtain ⟨hx, hb, hml, hown, hts⟩ := C
  obtain ⟨⟨hP, hD, hS⟩, hI⟩ := S
  refine va_newq hx hb hown hclink hover hK hP hD hS hA (fun q => by have := nu_lt0 q; omega) (by show n.toInt.toNat = N; omega) hbytes hcells hslots hdg (fun q cA H1 hK2 hP1 hD1 hS1 => ?_)
  have hq := q_fresh hD1
  have hc := cy_of hK hj hK2
  subst hc
  refine kk _ (upT τ q r) _ q H1 ⟨wd_push hq hP1 hD1 hS1, inv_push hI hq hu (fun ci ts h => ?_) (fun j' n' b h => ?_) (fun j' n' t h => ?_)⟩ (psh_push hq) (va_up_self _ _ _)
  · exact nomatch (hr1.symm.trans h)
  · exact nomatch (hr2.symm.trans h)
  · obtain ⟨rfl, rfl, ht⟩ := hr3 j' n' t h
    refine ⟨_, va_up_self _ _ _, fun i _ => ?_⟩
    have h3 := ht i
    revert h3
    generalize t i = tt
    obtain ⟨k, x, y⟩ := tt
    intro h3
    have h3 : k = 3 := h3
    subst h3
    exact Or.inl rfl
/-- a write into a cell that no table knows -/
theorem inv_raw {tb : Tb} {cy : Nat → ClassId} {L : List Nat} {τ : Nat → Ro} {E : Ec} (hI : Inv tb cy L τ E) {a : Nat} {ee : va_E} (h1 : tb.1 (τ a) = none) (h2 : tb.2.1 (τ a) = none) (h3 : tb.2.2 (τ a) = none) : Inv tb cy L τ (va_up E a ee) := by
  refine ⟨fun b hb ci ts h => okO_up (hI.1 b hb ci ts h) (fun q => ?_), fun b hb j n w h => okA_up (hI.2.1 b hb j n w h) (fun q => ?_), fun b hb j n t h => okQ_up (hI.2.2.1 b hb j n t h) (fun q => ?_), hI.2.2.2⟩
  · subst q; exact nomatch (h1.symm.trans h)
  · subst q; exact nomatch (h2.symm.trans h)
  · subst q; exact nomatch (h3.symm.trans h)
/-- a field of a cell under construction is written -/
theorem tr_putR (C : CallFix p m c cc nL s args Ts own) (hK : va_K D vwCl (tysL cy) s) (S : NowG D cy A s L τ E H locs) (ha : a ∈ L) {r : Ro} (hτ : τ a = r) (hr1 : tObj r = none) (hr2 : tInt r = none) (hr3 : tRef r = none) {ci N : Nat} {fs : List Value} (he : E a = .inr (ci, fs)) {cn : String} {T : u_T} (hc : vwCl[ci]? = some (cn, T, N)) (hin : ∀ w ∈ u_ws cn T N, w ∈ Ts) {ty0 : Nat → FieldType} (hty : ∀ k, k < N → parseFieldDescriptor (T k).2.2.1 = some (ty0 k)) (hnm : ∀ a, a < N → ∀ b, b < N → a ≠ b → (T a).2.1 ≠ (T b).2.1) (k : Nat) (hk : k < N) (hl : k < fs.length) (hfin : (T k).2.2.2 = false ∨ (meth.name = "<init>" ∧ (T k).2.2.2 = true ∧ (T k).1 = own)) {index : Nat} (hlink : (Cond.fieldLink own index (T k).1 (T k).2.1 (T k).2.2.1).before args s = true) (hdg : decode cc pc = .ok (.putfield index, 3)) {v : Value} (hn : narrow (ty0 k) v = v) (hfit : fits (ty0 k) v = true)
    (kk : ∀ (E' : Ec) (H1 : Heap) (locs1 : List Loc), NowG D cy A s L τ E' H1 locs1 → (∀ b, b ≠ a → E' b = E b) → E' a = .inr (ci, fs.set k v) → W p l e R s m args below meth c H1 locs1 cells slots Q (F0 m (pc + 3) ls rest)) : W p l e R s m args below meth c H locs cells slots Q (F0 m pc ls (v :: .ref a :: rest)) := by
  obtain ⟨hx, hb, hml, hown, hts⟩ := C
  obtain ⟨⟨hP, hD, hS⟩, hI⟩ := S
  subst hτ
  obtain ⟨i, hi⟩ := pl_at (E := E) ha
  have hi' := hi
  rw [he] at hi
  have fin : ∀ (H1 : Heap) (locs1 : List Loc), va_P D vwCl ((va_pl L E).set i (a, .inr (ci, fs.set k v))) H1 → va_D A ((va_pl L E).set i (a, .inr (ci, fs.set k v))) → va_S A s.heap H1 locs1 → W p l e R s m args below meth c H1 locs1 cells slots Q (F0 m (pc + 3) ls rest) := by
    intro H1 locs1 hP1 hD1 hS1
    rw [pl_put hD ha hi'] at hP1 hD1
    exact kk _ H1 locs1 ⟨⟨hP1, hD1, hS1⟩, inv_raw hI hr1 hr2 hr3⟩ (fun b hb => va_up_ne _ _ hb) (va_up_self _ _ _)
  rcases hfin with hf | ⟨h0, hf, hd⟩
  · exact va_put (D := D) hx hb hts hin ty0 hty hnm hown hK hP hD hS i hi hc k hk hlink (fun _ h => h) hf (hty k hk) hn hfit hl hdg fin
  · exact va_putF (D := D) hx hb hts hin ty0 hty hnm hown hK hP hD hS i hi hc k hk hlink (fun _ h => h) hf h0 hd (hty k hk) hn hfit hl hdg fin
/-- a field of a cell under construction is read -/
theorem tr_getR (C : CallFix p m c cc nL s args Ts own) (hK : va_K D vwCl (tysL cy) s) (S : NowG D cy A s L τ E H locs) (ha : a ∈ L) {ci N : Nat} {fs : List Value} (he : E a = .inr (ci, fs)) {cn : String} {T : u_T} (hc : vwCl[ci]? = some (cn, T, N)) (hin : ∀ w ∈ u_ws cn T N, w ∈ Ts) (k : Nat) (hk : k < N) {v : Value} (hv : fs[k]? = some v) {index : Nat} (hlink : (Cond.fieldLink own index (T k).1 (T k).2.1 (T k).2.2.1).before args s = true) (hdg : decode cc pc = .ok (.getfield index, 3))
    (kk : W p l e R s m args below meth c H locs cells slots Q (F0 m (pc + 3) ls (v :: rest))) : W p l e R s m args below meth c H locs cells slots Q (F0 m pc ls (.ref a :: rest)) := by
  obtain ⟨hx, hb, hml, hown, hts⟩ := C
  obtain ⟨⟨hP, hD, hS⟩, hI⟩ := S
  obtain ⟨i, hi⟩ := pl_at (E := E) ha
  rw [he] at hi
  exact va_get (D := D) hx hb hts hin hown hK hP i hi hc k hk hlink (fun _ h => h) hv hdg kk
/-- Object's constructor -/
theorem tr_obj (C : CallFix p m c cc nL s args Ts own) (hz : ls.size = nL) {idx : Nat} (hlink : (Cond.methodLink own idx objectInit).before args s = true) (hinst : (Cond.instanceMethod objectInit).before args s = true) (hcode : (Cond.code objectInit ⟨#[0xb1]⟩ 1 none).before args s = true) (hd : decode cc pc = .ok (.invokespecial idx, 3)) (hframes : 1 ≤ R.frames) (hlocals : 12 ≤ R.locals)
    (kk : W p l e R s m args below meth c H locs cells slots Q (F0 m (pc + 3) ls [])) : W p l e R s m args below meth c H locs cells slots Q (F0 m pc ls [.ref a]) := by
  obtain ⟨hx, hb, hml, hown, hts⟩ := C
  exact W.objInit hx hb hown hlink hinst hcode (g := F0 m pc ls [.ref a]) rfl (hz.trans hml.symm) rfl hd hframes (by simpa using hlocals) kk
variable {y : MethodName} {w : List Cond} {rm : Room} {av : List Value}
/-- a constructor is called -/
theorem tc_I (C : CallFix p m c cc nL s args Ts own) (hK : va_K D vwCl (tysL cy) s) (hN : Nx s) (hA : ∀ q, s.heap.size ≤ q → A q) (hO : Ao s) (S : NowG D cy A s L τ E H locs) {mc ms : Nat} {made : List Ro} {post : List Nat → (Nat → Ro) → Ec → Prop} {As : List Value} (hM : CtG l y w rm D cy L τ E (.ref a :: As) a made mc ms post) {index n maxL : Nat} {bytes : ByteArray} (cw : CallB R s args own index y bytes maxL none w rm mc ms n ∧ y.name = "<init>" ∧ (Cond.instanceMethod y).before args s = true) (hn : As.length = n) (hz : ls.size = nL) (hst : st = As.reverse ++ .ref a :: rest) (hro : (rest.map fun v => v.category).sum ≤ 8) (hdg : decode cc pc = .ok (.invokespecial index, 3)) (hf : cells + mc ≤ R.cells ∧ slots + ms ≤ R.slots)
    (kk : ∀ (L' : List Nat) (τ' : Nat → Ro) (E' : Ec) (H1 : Heap) (locs1 : List Loc), NowG D cy A s L' τ' E' H1 locs1 → Gr a made L τ E L' τ' E' → post L' τ' E' → W p l e R s m args below meth c H1 locs1 (cells + mc) (slots + ms) Q (F0 m (pc + 3) ls rest)) : W p l e R s m args below meth c H locs cells slots Q (F0 m pc ls st) := by
  subst hst
  obtain ⟨hW, hI⟩ := S
  have hFc := fr_A hW hA
  refine va_callv (va_runI (As := As) (rest := rest) C (hM H.size) cw ⟨blindG, preG_at hK hN hO hW⟩ rfl hn hz rfl (lv_room hro) hdg hf) hW.2.2 (fun q _ h => hFc q h) hFc (fun Y t H1 locs1 ht hvm hp hB hz1 hk1 hS => ?_)
  obtain ⟨hP1, -, hD1⟩ := hB
  rw [ht] at hP1
  exact kk Y.1 Y.2.1 Y.2.2 H1 locs1 ⟨⟨hP1, hD1.weaken (fun k q _ h => hFc _ h), hS⟩, hp.1⟩ hp.2.1 hp.2.2
theorem tc_IN (C : CallFix p m c cc nL s args Ts own) (hK : va_K D vwCl (tysL cy) s) (hN : Nx s) (hA : ∀ q, s.heap.size ≤ q → A q) (hO : Ao s) (S : NowG D cy A s L τ E H locs) {mc ms : Nat} {made : List Ro} {post : List Nat → (Nat → Ro) → Ec → Prop} {As : List Value} (hM : CtG l y w rm D cy L τ E (.ref a :: As) a made mc ms post) {index n maxL : Nat} {host : String} {bytes : ByteArray} (cw : va_CN R s args own index y host bytes maxL none w rm mc ms n ∧ y.name = "<init>" ∧ (Cond.instanceMethod y).before args s = true) (hn : As.length = n) (hz : ls.size = nL) (hst : st = As.reverse ++ .ref a :: rest) (hro : (rest.map fun v => v.category).sum ≤ 8) (hdg : decode cc pc = .ok (.invokespecial index, 3)) (hf : cells + mc ≤ R.cells ∧ slots + ms ≤ R.slots)
    (kk : ∀ (L' : List Nat) (τ' : Nat → Ro) (E' : Ec) (H1 : Heap) (locs1 : List Loc), NowG D cy A s L' τ' E' H1 locs1 → Gr a made L τ E L' τ' E' → post L' τ' E' → W p l e R s m args below meth c H1 locs1 (cells + mc) (slots + ms) Q (F0 m (pc + 3) ls rest)) : W p l e R s m args below meth c H locs cells slots Q (F0 m pc ls st) := by
  subst hst
  obtain ⟨hW, hI⟩ := S
  have hFc := fr_A hW hA
  refine va_callv (va_runIN (As := As) (rest := rest) C (hM H.size) cw ⟨blindG, preG_at hK hN hO hW⟩ rfl hn hz rfl (lv_room hro) hdg hf) hW.2.2 (fun q _ h => hFc q h) hFc (fun Y t H1 locs1 ht hvm hp hB hz1 hk1 hS => ?_)
  obtain ⟨hP1, -, hD1⟩ := hB
  rw [ht] at hP1
  exact kk Y.1 Y.2.1 Y.2.2 H1 locs1 ⟨⟨hP1, hD1.weaken (fun k q _ h => hFc _ h), hS⟩, hp.1⟩ hp.2.1 hp.2.2
/-- a method's start, where cells will be made -/
theorem staG {Qc : Array Value → State → Outcome → State → Prop} {sz maxL mc ms : Nat} {ret : Option FieldType} {w' : List Cond} {free : Addr → Prop} (hI : Inv TB cy L τ E) (hy : plainName y.cls = true) (hw : w = Cond.code y cc maxL ret :: w') (hl : (lg_sl av).length ≤ maxL)
    (body : ∀ (p : Program) (e : Env) (s : State) (m : MethodId) (args : Array Value) (below : List Frame) (meth : Method) (c : Code) (ls : Array Slot), s.heap.size = sz → meth.name = y.name → Amb p m meth c cc maxL s args w y.cls ret D cy (va_A (va_pl L E) sz) → Ao s → NowG D cy (va_A (va_pl L E) sz) s L τ E s.heap [] → lv_has ls maxL (lv_args 0 av) → W p l e rm s m args below meth c s.heap [] 0 0 (MQ below Qc args s mc ms free) (F0 m 0 ls [])) :
    Met l y w rm (preG D cy L E sz av) Qc mc ms free := by
  refine Met.ofW (cc := cc) (maxL := maxL) (ret := ret) hy hw ?_
  intro p e s m args below meth c s₁ B hml hv
  obtain ⟨rfl, hsz, ⟨hP, hK, hD0⟩, hN, hO⟩ := hv
  have hts := atoms_spec (ws := w) B.pre
  have hown : s.vm.findClass y.cls = some m.cls := findClass_of_methodNamed B.named
  have hlv := lv_entry av (n := maxL) hl
  rw [lg_entry_eq]
  generalize (lg_sl av ++ List.replicate (maxL - (lg_sl av).length) Slot.unset).toArray = ls at hlv ⊢
  exact body p e s m _ below meth c ls hsz (name_of_methodNamed B.named B.method).1 ⟨⟨B.exec, B.bytes, hml, hown, hts⟩, B.returns, B.notSynchronized, hK, hN, fun q h => Or.inr (by omega)⟩ hO ⟨⟨hP, hD0.self, va_S.rf⟩, hI⟩ hlv
/-- a constructor's end -/
theorem en_vG {L0 : List Nat} {τ0 : Nat → Ro} {E0 : Ec} {sz x : Nat} {made : List Ro} (Z : Amb p m meth c cc nL s args Ts own none D cy (va_A (va_pl L0 E0) sz)) (S : NowG D cy (va_A (va_pl L0 E0) sz) s L τ E H locs) (hG : Gr x made L0 τ0 E0 L τ E) {post : List Nat → (Nat → Ro) → Ec → Prop} (hp : post L τ E) (hdg : decode cc pc = .ok (.return_, 1)) : W p l e R s m args below meth c H locs cells slots (MQ below (va_Qv (S := List Nat × (Nat → Ro) × Ec) (fun Y => Inv TB cy Y.1 Y.2.1 Y.2.2 ∧ Gr x made L0 τ0 E0 Y.1 Y.2.1 Y.2.2 ∧ post Y.1 Y.2.1 Y.2.2) (fun Y => Bw D cy Y.1 (va_A (va_pl L0 E0) sz) Y.2.2) (va_A (va_pl L0 E0) sz)) args s cells slots (va_A (va_pl L0 E0) sz)) (F0 m pc ls []) :=
  W.vret Z.1.1 Z.1.2.1 Z.2.1 (fun t ht hW => ⟨⟨(L, τ, E), rfl, ⟨S.2, hG, hp⟩, by rw [ht]; exact S.1.1, va_K.moved hW.alike Z.2.2.2.1, S.1.2.1⟩, S.1.2.2.F ht⟩) S.1.2.2.2.2 hdg Z.2.2.1
end GROW
