section ROWS
variable {p : Program} {l : Launch} {e : Env} {R : Room} {s : State} {m : MethodId} {args : Array Value} {below : List Frame} {meth : Method} {c : Code} {H : Heap} {locs : List Loc} {cells slots : Nat} {Q : State → Prop}
variable {cc : ByteArray} {pc nL : Nat} {ls : Array Slot} {rest : List Value} {D : va_G} {A : Nat → Prop} {a : Nat} {H0 : Heap} {Ts : List Cond} {own : String} {tb : Tb} {cy : Nat → ClassId} {L : List Nat} {τ : Nat → Ro} {E : Ec}
/-- a field is read: what it holds fits -/
theorem tr_get (C : CallFix p m c cc nL s args Ts own) (hK : va_K D vwCl (tysL cy) s) (hW : Wd D A H0 L E H locs) (hI : Inv tb cy L τ E) (ha : a ∈ L) {r : Ro} (hτ : τ a = r) {ci N : Nat} {ts : List Ft} (hr : tb.1 r = some (ci, ts)) {cn : String} {T : u_T} (hc : vwCl[ci]? = some (cn, T, N)) (hin : ∀ w ∈ u_ws cn T N, w ∈ Ts) (k : Nat) (hk : k < N) {t : Ft} (ht : ts[k]? = some t) {index : Nat} (hlink : (Cond.fieldLink own index (T k).1 (T k).2.1 (T k).2.2.1).before args s = true) (hdg : decode cc pc = .ok (.getfield index, 3))
    (kk : ∀ v : Value, fv E a k = v → okF L τ t v → W p l e R s m args below meth c H locs cells slots Q (F0 m (pc + 3) ls (v :: rest))) : W p l e R s m args below meth c H locs cells slots Q (F0 m pc ls (.ref a :: rest)) := by
  obtain ⟨hx, hb, hml, hown, hts⟩ := C
  obtain ⟨hP, hD, hS⟩ := hW
  subst hτ
  obtain ⟨fs, he, hl, hf⟩ := hI.1 a ha ci ts hr
  obtain ⟨i, hi⟩ := pl_at (E := E) ha
  rw [he] at hi
  have hkl : k < fs.length := by rw [hl]; exact (List.getElem?_eq_some_iff.mp ht).1
  have hv : fs[k]? = some fs[k] := List.getElem?_eq_getElem hkl
  refine va_get (D := D) hx hb hts hin hown hK hP i hi hc k hk hlink (fun _ h => h) hv hdg ?_
  exact kk _ (by simp [fv, he, hv]) (hf k t _ ht hv)
/-- a number's field -/
theorem tr_geti (C : CallFix p m c cc nL s args Ts own) (hK : va_K D vwCl (tysL cy) s) (hW : Wd D A H0 L E H locs) (hI : Inv tb cy L τ E) (ha : a ∈ L) {r : Ro} (hτ : τ a = r) {ci N : Nat} {ts : List Ft} (hr : tb.1 r = some (ci, ts)) {cn : String} {T : u_T} (hc : vwCl[ci]? = some (cn, T, N)) (hin : ∀ w ∈ u_ws cn T N, w ∈ Ts) (k : Nat) (hk : k < N) {lo hi : Int} (ht : ts[k]? = some (0, lo, hi)) {index : Nat} (hlink : (Cond.fieldLink own index (T k).1 (T k).2.1 (T k).2.2.1).before args s = true) (hdg : decode cc pc = .ok (.getfield index, 3))
    (kk : ∀ x : Int32, fi E a k = x → lo ≤ x.toInt → x.toInt ≤ hi → W p l e R s m args below meth c H locs cells slots Q (F0 m (pc + 3) ls (.int x :: rest))) : W p l e R s m args below meth c H locs cells slots Q (F0 m pc ls (.ref a :: rest)) := by
  refine tr_get C hK hW hI ha hτ hr hc hin k hk ht hlink hdg (fun v hv hf => ?_)
  obtain ⟨x, rfl, h1, h2⟩ := hf
  exact kk x (by simp [fi, hv]) h1 h2
/-- a reference's field -/
theorem tr_getr (C : CallFix p m c cc nL s args Ts own) (hK : va_K D vwCl (tysL cy) s) (hW : Wd D A H0 L E H locs) (hI : Inv tb cy L τ E) (ha : a ∈ L) {r : Ro} (hτ : τ a = r) {ci N : Nat} {ts : List Ft} (hr : tb.1 r = some (ci, ts)) {cn : String} {T : u_T} (hc : vwCl[ci]? = some (cn, T, N)) (hin : ∀ w ∈ u_ws cn T N, w ∈ Ts) (k : Nat) (hk : k < N) {ra rb : Int} (ht : ts[k]? = some (1, ra, rb)) {index : Nat} (hlink : (Cond.fieldLink own index (T k).1 (T k).2.1 (T k).2.2.1).before args s = true) (hdg : decode cc pc = .ok (.getfield index, 3))
    (kk : ∀ q : Nat, fq E a k = some q → q ∈ L → τ q = (ra.toNat, rb.toNat) → W p l e R s m args below meth c H locs cells slots Q (F0 m (pc + 3) ls (.ref q :: rest))) : W p l e R s m args below meth c H locs cells slots Q (F0 m pc ls (.ref a :: rest)) := by
  refine tr_get C hK hW hI ha hτ hr hc hin k hk ht hlink hdg (fun v hv hf => ?_)
  obtain ⟨x, rfl, h1, h2⟩ := hf
  exact kk x (by simp [fq, hv]) h1 h2
/-- a field is written with a fitting value -/
theorem tr_put (C : CallFix p m c cc nL s args Ts own) (hK : va_K D vwCl (tysL cy) s) (hW : Wd D A H0 L E H locs) (hI : Inv tb cy L τ E) (ha : a ∈ L) {r : Ro} (hτ : τ a = r) {ci N : Nat} {ts : List Ft} (hr : tb.1 r = some (ci, ts)) {cn : String} {T : u_T} (hc : vwCl[ci]? = some (cn, T, N)) (hin : ∀ w ∈ u_ws cn T N, w ∈ Ts) {ty0 : Nat → FieldType} (hty : ∀ k, k < N → parseFieldDescriptor (T k).2.2.1 = some (ty0 k)) (hnm : ∀ a, a < N → ∀ b, b < N → a ≠ b → (T a).2.1 ≠ (T b).2.1) (k : Nat) (hk : k < N) {t : Ft} (ht : ts[k]? = some t) (hfin : (T k).2.2.2 = false) {index : Nat} (hlink : (Cond.fieldLink own index (T k).1 (T k).2.1 (T k).2.2.1).before args s = true) (hdg : decode cc pc = .ok (.putfield index, 3)) {v : Value} (hv : okF L τ t v) (hn : narrow (ty0 k) v = v) (hfit : fits (ty0 k) v = true)
    (kk : ∀ (E' : Ec) (H1 : Heap) (locs1 : List Loc), Wd D A H0 L E' H1 locs1 → Inv tb cy L τ E' → isPut E E' a k v → W p l e R s m args below meth c H1 locs1 cells slots Q (F0 m (pc + 3) ls rest)) : W p l e R s m args below meth c H locs cells slots Q (F0 m pc ls (v :: .ref a :: rest)) := by
  obtain ⟨hx, hb, hml, hown, hts⟩ := C
  obtain ⟨hP, hD, hS⟩ := hW
  subst hτ
  obtain ⟨fs, he, hl, hf⟩ := hI.1 a ha ci ts hr
  obtain ⟨i, hi⟩ := pl_at (E := E) ha
  have hi' := hi
  rw [he] at hi
  have hkl : k < fs.length := by rw [hl]; exact (List.getElem?_eq_some_iff.mp ht).1
  refine va_put (D := D) hx hb hts hin ty0 hty hnm hown hK hP hD hS i hi hc k hk hlink (fun _ h => h) hfin (hty k hk) hn hfit hkl hdg (fun H1 locs1 hP1 hD1 hS1 => ?_)
  rw [pl_put hD ha hi'] at hP1 hD1
  exact kk _ H1 locs1 ⟨hP1, hD1, hS1⟩ (inv_put hI he hr ht hv) (isPut_up he hkl)
/-- a number is written -/
theorem tr_puti (C : CallFix p m c cc nL s args Ts own) (hK : va_K D vwCl (tysL cy) s) (hW : Wd D A H0 L E H locs) (hI : Inv tb cy L τ E) (ha : a ∈ L) {r : Ro} (hτ : τ a = r) {ci N : Nat} {ts : List Ft} (hr : tb.1 r = some (ci, ts)) {cn : String} {T : u_T} (hc : vwCl[ci]? = some (cn, T, N)) (hin : ∀ w ∈ u_ws cn T N, w ∈ Ts) {ty0 : Nat → FieldType} (hty : ∀ k, k < N → parseFieldDescriptor (T k).2.2.1 = some (ty0 k)) (hnm : ∀ a, a < N → ∀ b, b < N → a ≠ b → (T a).2.1 ≠ (T b).2.1) (k : Nat) (hk : k < N) {lo hi : Int} (ht : ts[k]? = some (0, lo, hi)) (hfin : (T k).2.2.2 = false) (hti : ty0 k = .int) {index : Nat} (hlink : (Cond.fieldLink own index (T k).1 (T k).2.1 (T k).2.2.1).before args s = true) (hdg : decode cc pc = .ok (.putfield index, 3)) {x : Int32} (h1 : lo ≤ x.toInt) (h2 : x.toInt ≤ hi)
    (kk : ∀ (E' : Ec) (H1 : Heap) (locs1 : List Loc), Wd D A H0 L E' H1 locs1 → Inv tb cy L τ E' → isPut E E' a k (.int x) → W p l e R s m args below meth c H1 locs1 cells slots Q (F0 m (pc + 3) ls rest)) : W p l e R s m args below meth c H locs cells slots Q (F0 m pc ls (.int x :: .ref a :: rest)) :=
  tr_put C hK hW hI ha hτ hr hc hin hty hnm k hk ht hfin hlink hdg ⟨x, rfl, h1, h2⟩ (by rw [hti]; rfl) (by rw [hti]; rfl) kk
theorem tr_in {i : Int32} {n : Nat} (h1 : 0 ≤ i.toInt) (h2 : i.toInt < n) : vp_in i n := vp_in_iff.mpr ⟨h1, h2⟩
theorem tr_cl {i : Int32} {n : Nat} (h1 : 0 ≤ i.toInt) (h2 : i.toInt < n) : i.toNatClampNeg < n := by
  show i.toInt.toNat < n
  omega
/-- a number of an array is read, of bounds that the place tells -/
theorem tr_ialdx (C : CallFix p m c cc nL s args Ts own) (hK : va_K D vwCl (tysL cy) s) (hW : Wd D A H0 L E H locs) (hI : Inv tb cy L τ E) (ha : a ∈ L) {r : Ro} (hτ : τ a = r) {n : Nat} {w : Nat → Int × Int} (hr : tb.2.1 r = some (0, n, w)) {i : Int32} (h1 : 0 ≤ i.toInt) (h2 : i.toInt < n) (hdg : decode cc pc = .ok (.iaload, 1))
    (kk : ∀ x : Int32, ai E a i.toNatClampNeg = x → (w i.toNatClampNeg).1 ≤ x.toInt → x.toInt ≤ (w i.toNatClampNeg).2 → W p l e R s m args below meth c H locs cells slots Q (F0 m (pc + 1) ls (.int x :: rest))) : W p l e R s m args below meth c H locs cells slots Q (F0 m pc ls (.int i :: .ref a :: rest)) := by
  obtain ⟨hx, hb, hml, hown, hts⟩ := C
  obtain ⟨hP, hD, hS⟩ := hW
  subst hτ
  obtain ⟨f, he, hf⟩ := hI.2.1 a ha _ _ _ hr
  obtain ⟨j, hj⟩ := pl_at (E := E) ha
  rw [he] at hj
  refine va_iald hx hb hK hP j 0 hj rfl (tr_in h1 h2) hdg ?_
  have := hf _ (tr_cl h1 h2)
  exact kk _ (by simp [ai, he]) this.1 this.2
/-- .. of bounds that are the same everywhere -/
theorem tr_iald (C : CallFix p m c cc nL s args Ts own) (hK : va_K D vwCl (tysL cy) s) (hW : Wd D A H0 L E H locs) (hI : Inv tb cy L τ E) (ha : a ∈ L) {r : Ro} (hτ : τ a = r) {n : Nat} {lo hi : Int} (hr : tb.2.1 r = some (0, n, fun _ => (lo, hi))) {i : Int32} (h1 : 0 ≤ i.toInt) (h2 : i.toInt < n) (hdg : decode cc pc = .ok (.iaload, 1))
    (kk : ∀ x : Int32, ai E a i.toNatClampNeg = x → lo ≤ x.toInt → x.toInt ≤ hi → W p l e R s m args below meth c H locs cells slots Q (F0 m (pc + 1) ls (.int x :: rest))) : W p l e R s m args below meth c H locs cells slots Q (F0 m pc ls (.int i :: .ref a :: rest)) :=
  tr_ialdx C hK hW hI ha hτ hr h1 h2 hdg kk
/-- a number of an array is written -/
theorem tr_iastx (C : CallFix p m c cc nL s args Ts own) (hK : va_K D vwCl (tysL cy) s) (hW : Wd D A H0 L E H locs) (hI : Inv tb cy L τ E) (ha : a ∈ L) {r : Ro} (hτ : τ a = r) {n : Nat} {w : Nat → Int × Int} (hr : tb.2.1 r = some (0, n, w)) {i x : Int32} (h1 : 0 ≤ i.toInt) (h2 : i.toInt < n) (g1 : (w i.toNatClampNeg).1 ≤ x.toInt) (g2 : x.toInt ≤ (w i.toNatClampNeg).2) (hdg : decode cc pc = .ok (.iastore, 1))
    (kk : ∀ (E' : Ec) (H1 : Heap) (locs1 : List Loc), Wd D A H0 L E' H1 locs1 → Inv tb cy L τ E' → isSet E E' a i.toNatClampNeg x → W p l e R s m args below meth c H1 locs1 cells slots Q (F0 m (pc + 1) ls rest)) : W p l e R s m args below meth c H locs cells slots Q (F0 m pc ls (.int x :: .int i :: .ref a :: rest)) := by
  obtain ⟨hx, hb, hml, hown, hts⟩ := C
  obtain ⟨hP, hD, hS⟩ := hW
  subst hτ
  obtain ⟨f, he, hf⟩ := hI.2.1 a ha _ _ _ hr
  obtain ⟨j, hj⟩ := pl_at (E := E) ha
  have hj' := hj
  rw [he] at hj
  refine va_iast hx hb hK hP hD hS j 0 hj rfl (tr_in h1 h2) hdg (fun H1 locs1 hP1 hD1 hS1 => ?_)
  rw [pl_put hD ha hj'] at hP1 hD1
  refine kk _ H1 locs1 ⟨hP1, hD1, hS1⟩ (inv_seti hI he hr g1 g2) ⟨fun b hb => va_up_ne _ _ hb, ?_, fun k hk => ?_⟩
  · simp [ai, va_up, upd]
  · simp [ai, va_up, upd, hk, he]
theorem tr_iast (C : CallFix p m c cc nL s args Ts own) (hK : va_K D vwCl (tysL cy) s) (hW : Wd D A H0 L E H locs) (hI : Inv tb cy L τ E) (ha : a ∈ L) {r : Ro} (hτ : τ a = r) {n : Nat} {lo hi : Int} (hr : tb.2.1 r = some (0, n, fun _ => (lo, hi))) {i x : Int32} (h1 : 0 ≤ i.toInt) (h2 : i.toInt < n) (g1 : lo ≤ x.toInt) (g2 : x.toInt ≤ hi) (hdg : decode cc pc = .ok (.iastore, 1))
    (kk : ∀ (E' : Ec) (H1 : Heap) (locs1 : List Loc), Wd D A H0 L E' H1 locs1 → Inv tb cy L τ E' → isSet E E' a i.toNatClampNeg x → W p l e R s m args below meth c H1 locs1 cells slots Q (F0 m (pc + 1) ls rest)) : W p l e R s m args below meth c H locs cells slots Q (F0 m pc ls (.int x :: .int i :: .ref a :: rest)) :=
  tr_iastx C hK hW hI ha hτ hr h1 h2 g1 g2 hdg kk
/-- a reference of an array is read, of any role or null -/
theorem tr_aald (C : CallFix p m c cc nL s args Ts own) (hK : va_K D vwCl (tysL cy) s) (hW : Wd D A H0 L E H locs) (hI : Inv tb cy L τ E) (ha : a ∈ L) {r : Ro} (hτ : τ a = r) {j n : Nat} {t : Nat → Ft} (hr : tb.2.2 r = some (j, n, t)) {ty : FieldType} (hj : (tysL cy)[j]? = some (cy j, ty)) (hty : ty.isReference = true) {i : Int32} (h1 : 0 ≤ i.toInt) (h2 : i.toInt < n) (hdg : decode cc pc = .ok (.aaload, 1))
    (kk : ∀ q : Option Nat, aq E a i.toNatClampNeg = q → okF L τ (t i.toNatClampNeg) (va_rf q) → W p l e R s m args below meth c H locs cells slots Q (F0 m (pc + 1) ls (va_rf q :: rest))) : W p l e R s m args below meth c H locs cells slots Q (F0 m pc ls (.int i :: .ref a :: rest)) := by
  obtain ⟨hx, hb, hml, hown, hts⟩ := C
  obtain ⟨hP, hD, hS⟩ := hW
  subst hτ
  obtain ⟨f, he, hf⟩ := hI.2.2.1 a ha _ _ _ hr
  obtain ⟨k, hk⟩ := pl_at (E := E) ha
  rw [he] at hk
  have hlt := tr_cl h1 h2
  have hin := tr_in h1 h2
  refine W.aald (v := va_rf (f i.toNatClampNeg)) (ty := ty) hx hb (hP k _ hk) ((hK.2 j _ hj).1 n (fun j => va_rf (f j))) hty (fun q => by cases q) (by show ¬ (i < 0 ∨ (arrV _ _ _).slots.size ≤ _); rw [arrV_size]; exact hin) (by show (arrV _ _ _).slots[_]? = _; rw [arrV_read _ _ hlt]) rfl rfl hdg ?_
  exact kk _ (by simp [aq, he]) (hf _ hlt)
/-- .. of one role, never null -/
theorem tr_aaldr (C : CallFix p m c cc nL s args Ts own) (hK : va_K D vwCl (tysL cy) s) (hW : Wd D A H0 L E H locs) (hI : Inv tb cy L τ E) (ha : a ∈ L) {r : Ro} (hτ : τ a = r) {i : Int32} {j n : Nat} {t : Nat → Ft} {ra rb : Int} (hr : tb.2.2 r = some (j, n, t)) (ht : t i.toNatClampNeg = (1, ra, rb)) {ty : FieldType} (hj : (tysL cy)[j]? = some (cy j, ty)) (hty : ty.isReference = true) (h1 : 0 ≤ i.toInt) (h2 : i.toInt < n) (hdg : decode cc pc = .ok (.aaload, 1))
    (kk : ∀ q : Nat, aq E a i.toNatClampNeg = some q → q ∈ L → τ q = (ra.toNat, rb.toNat) → W p l e R s m args below meth c H locs cells slots Q (F0 m (pc + 1) ls (.ref q :: rest))) : W p l e R s m args below meth c H locs cells slots Q (F0 m pc ls (.int i :: .ref a :: rest)) := by
  refine tr_aald C hK hW hI ha hτ hr hj hty h1 h2 hdg (fun q hq hf => ?_)
  rw [ht] at hf
  obtain ⟨x, hx, h3, h4⟩ := hf
  cases q with
  | none => cases hx
  | some y =>
    cases hx
    exact kk _ hq h3 h4
end ROWS
