section BYTES
variable {p : Program} {l : Launch} {e : Env} {R : Room} {s : State} {m : MethodId} {args : Array Value} {below : List Frame} {meth : Method} {c : Code} {H : Heap} {locs : List Loc} {cells slots : Nat} {Q : State → Prop}
variable {cc : ByteArray} {pc nL : Nat} {ls : Array Slot} {rest st : List Value} {D : va_G} {A : Nat → Prop} {a : Nat} {H0 : Heap} {Ts : List Cond} {own : String} {tb : Tb} {cy : Nat → ClassId} {L : List Nat} {τ : Nat → Ro} {E : Ec}
variable {y : MethodName} {w : List Cond} {rm : Room} {av : List Value} {wr : Ro → Bool}
/-- a byte, a truth value of an array is read -/
theorem tr_bald (C : CallFix p m c cc nL s args Ts own) (hK : va_K D vwCl (tysL cy) s) (hW : Wd D A H0 L E H locs) (hI : Inv tb cy L τ E) (ha : a ∈ L) {r : Ro} (hτ : τ a = r) {n : Nat} {lo hi : Int} (hr : tb.2.1 r = some (1, n, fun _ => (lo, hi))) {i : Int32} (h1 : 0 ≤ i.toInt) (h2 : i.toInt < n) (hdg : decode cc pc = .ok (.baload, 1))
    (kk : ∀ x : Int32, ai E a i.toNatClampNeg = x → lo ≤ x.toInt → x.toInt ≤ hi → W p l e R s m args below meth c H locs cells slots Q (F0 m (pc + 1) ls (.int x :: rest))) : W p l e R s m args below meth c H locs cells slots Q (F0 m pc ls (.int i :: .ref a :: rest)) := by
  obtain ⟨hx, hb, hml, hown, hts⟩ := C
  obtain ⟨hP, hD, hS⟩ := hW
  subst hτ
  obtain ⟨f, he, hf⟩ := hI.2.1 a ha _ _ _ hr
  obtain ⟨j, hj⟩ := pl_at (E := E) ha
  rw [he] at hj
  refine va_bald hx hb hK hP j 1 hj rfl (tr_in h1 h2) hdg ?_
  have := hf _ (tr_cl h1 h2)
  exact kk _ (by simp [ai, he]) this.1 this.2
theorem tr_zald (C : CallFix p m c cc nL s args Ts own) (hK : va_K D vwCl (tysL cy) s) (hW : Wd D A H0 L E H locs) (hI : Inv tb cy L τ E) (ha : a ∈ L) {r : Ro} (hτ : τ a = r) {n : Nat} {lo hi : Int} (hr : tb.2.1 r = some (2, n, fun _ => (lo, hi))) {i : Int32} (h1 : 0 ≤ i.toInt) (h2 : i.toInt < n) (hdg : decode cc pc = .ok (.baload, 1))
    (kk : ∀ x : Int32, ai E a i.toNatClampNeg = x → lo ≤ x.toInt → x.toInt ≤ hi → W p l e R s m args below meth c H locs cells slots Q (F0 m (pc + 1) ls (.int x :: rest))) : W p l e R s m args below meth c H locs cells slots Q (F0 m pc ls (.int i :: .ref a :: rest)) := by
  obtain ⟨hx, hb, hml, hown, hts⟩ := C
  obtain ⟨hP, hD, hS⟩ := hW
  subst hτ
  obtain ⟨f, he, hf⟩ := hI.2.1 a ha _ _ _ hr
  obtain ⟨j, hj⟩ := pl_at (E := E) ha
  rw [he] at hj
  refine va_zald hx hb hK hP j 2 hj rfl (tr_in h1 h2) hdg ?_
  have := hf _ (tr_cl h1 h2)
  exact kk _ (by simp [ai, he]) this.1 this.2
theorem nar_byte (x : Int32) : -128 ≤ (vp_nar .byte x).toInt ∧ (vp_nar .byte x).toInt ≤ 127 := by
  rw [vp_nar_byte, Int8.toInt_toInt32]
  have h1 := Int8.le_toInt x.toInt8
  have h2 := Int8.toInt_lt x.toInt8
  omega
/-- a byte is written, cut to its eight bits -/
theorem tr_bast (C : CallFix p m c cc nL s args Ts own) (hK : va_K D vwCl (tysL cy) s) (hW : Wd D A H0 L E H locs) (hI : Inv tb cy L τ E) (ha : a ∈ L) {r : Ro} (hτ : τ a = r) {n : Nat} (hr : tb.2.1 r = some (1, n, fun _ => (-128, 127))) {i x : Int32} (h1 : 0 ≤ i.toInt) (h2 : i.toInt < n) (hdg : decode cc pc = .ok (.bastore, 1))
    (kk : ∀ (E' : Ec) (H1 : Heap) (locs1 : List Loc), Wd D A H0 L E' H1 locs1 → Inv tb cy L τ E' → isSet E E' a i.toNatClampNeg (vp_nar .byte x) → W p l e R s m args below meth c H1 locs1 cells slots Q (F0 m (pc + 1) ls rest)) : W p l e R s m args below meth c H locs cells slots Q (F0 m pc ls (.int x :: .int i :: .ref a :: rest)) := by
  obtain ⟨hx, hb, hml, hown, hts⟩ := C
  obtain ⟨hP, hD, hS⟩ := hW
  subst hτ
  obtain ⟨f, he, hf⟩ := hI.2.1 a ha _ _ _ hr
  obtain ⟨j, hj⟩ := pl_at (E := E) ha
  have hj' := hj
  rw [he] at hj
  refine va_bast hx hb hK hP hD hS j 1 hj rfl (tr_in h1 h2) hdg (fun H1 locs1 hP1 hD1 hS1 => ?_)
  rw [pl_put hD ha hj'] at hP1 hD1
  refine kk _ H1 locs1 ⟨hP1, hD1, hS1⟩ (inv_seti hI he hr (nar_byte x).1 (nar_byte x).2) ⟨fun b hb => va_up_ne _ _ hb, ?_, fun k hk => ?_⟩
  · simp [ai, va_up, upd]
  · simp [ai, va_up, upd, hk, he]
theorem nar_bool {x : Int32} (h : x = 0 ∨ x = 1) : vp_nar .boolean x = x := by rcases h with rfl | rfl <;> decide +kernel
theorem tr_zast (C : CallFix p m c cc nL s args Ts own) (hK : va_K D vwCl (tysL cy) s) (hW : Wd D A H0 L E H locs) (hI : Inv tb cy L τ E) (ha : a ∈ L) {r : Ro} (hτ : τ a = r) {n : Nat} (hr : tb.2.1 r = some (2, n, fun _ => (0, 1))) {i x : Int32} (h1 : 0 ≤ i.toInt) (h2 : i.toInt < n) (g1 : 0 ≤ x.toInt) (g2 : x.toInt ≤ 1) (hdg : decode cc pc = .ok (.bastore, 1))
    (kk : ∀ (E' : Ec) (H1 : Heap) (locs1 : List Loc), Wd D A H0 L E' H1 locs1 → Inv tb cy L τ E' → isSet E E' a i.toNatClampNeg x → W p l e R s m args below meth c H1 locs1 cells slots Q (F0 m (pc + 1) ls rest)) : W p l e R s m args below meth c H locs cells slots Q (F0 m pc ls (.int x :: .int i :: .ref a :: rest)) := by
  obtain ⟨hx, hb, hml, hown, hts⟩ := C
  obtain ⟨hP, hD, hS⟩ := hW
  subst hτ
  obtain ⟨f, he, hf⟩ := hI.2.1 a ha _ _ _ hr
  obtain ⟨j, hj⟩ := pl_at (E := E) ha
  have hj' := hj
  rw [he] at hj
  have hz := nar_bool (zo x (by omega))
  refine va_zast hx hb hK hP hD hS j 2 hj rfl (tr_in h1 h2) hdg (fun H1 locs1 hP1 hD1 hS1 => ?_)
  rw [hz, pl_put hD ha hj'] at hP1 hD1
  refine kk _ H1 locs1 ⟨hP1, hD1, hS1⟩ (inv_seti hI he hr g1 g2) ⟨fun b hb => va_up_ne _ _ hb, ?_, fun k hk => ?_⟩
  · simp [ai, va_up, upd]
  · simp [ai, va_up, upd, hk, he]
/-- calls and ends with a long -/
theorem tc_vl (C : CallFix p m c cc nL s args Ts own) (hK : va_K D vwCl (tysL cy) s) (hN : Nx s) (hA : ∀ q, s.heap.size ≤ q → A q) (hW : Wd D A s.heap L E H locs) (hI : Inv tb cy L τ E) (ha : a ∈ L) {r : Ro} (hτ : τ a = r) {ci : Nat} {ts : List Ft} (hr : tb.1 r = some (ci, ts)) {q : vw_C} (hc : vwCl[ci]? = some q)
    {post : Int64 → Ec → Prop} {As : List Value} (hM : CtL l y w rm D tb cy L τ E (.ref a :: As) wr post) {index n maxL : Nat} {bytes : ByteArray} {ret : Option FieldType} (cw : CallW R s args own q.1 index y bytes maxL ret w rm 0 0 n) (hn : As.length = n) (hz : ls.size = nL) (hst : st = As.reverse ++ .ref a :: rest) (hro : (rest.map fun v => v.category).sum ≤ 8) (hdg : decode cc pc = .ok (.invokevirtual index, 3)) (hf : cells ≤ R.cells ∧ slots ≤ R.slots)
    (kk : ∀ (x : Int64) (E' : Ec) (H1 : Heap) (locs1 : List Loc), Wd D A s.heap L E' H1 locs1 → Inv tb cy L τ E' → Fr L τ wr E E' → post x E' → W p l e R s m args below meth c H1 locs1 cells slots Q (F0 m (pc + 3) ls (.long x :: rest))) : W p l e R s m args below meth c H locs cells slots Q (F0 m pc ls st) := by
  subst hst
  have hFc := fr_A hW hA
  refine va_calll (va_runV (As := As) (rest := rest) C (hM H.size) cw ⟨blind0, rv_at hK hW hI ha hτ hr hc, pre_at hK hN hW⟩ rfl hn hz rfl (lv_room hro) hdg hf) hW.2.2 (fun q _ h => hFc q h) hFc (fun x E' t H1 locs1 ht hvm hp hB hz1 hk1 hS => ?_)
  exact kk x E' H1 locs1 (wd_behind hW hA ht hB hS) hp.1 hp.2.1 hp.2.2
theorem en_l {E0 : Ec} {sz : Nat} (Z : Amb p m meth c cc nL s args Ts own (some .long) D cy (va_A (va_pl L E0) sz)) (S : Now D tb cy (va_A (va_pl L E0) sz) s L τ E H locs) (hF : Fr L τ wr E0 E) {post : Int64 → Ec → Prop} {x : Int64} (hp : post x E) (hdg : decode cc pc = .ok (.lreturn, 1)) : W p l e R s m args below meth c H locs cells slots (MQ below (va_Ql (fun r E' => Inv tb cy L τ E' ∧ Fr L τ wr E0 E' ∧ post r E') (Bw D cy L (va_A (va_pl L E0) sz)) (va_A (va_pl L E0) sz)) args s cells slots (va_A (va_pl L E0) sz)) (F0 m pc ls [.long x]) :=
  W.lret Z.1.1 Z.1.2.1 Z.2.1 (fun t ht hW => ⟨⟨x, E, rfl, ⟨S.2, hF, hp⟩, by rw [ht]; exact S.1.1, va_K.moved hW.alike Z.2.2.2.1, S.1.2.1⟩, S.1.2.2.F ht⟩) S.1.2.2.2.2 hdg Z.2.2.1
end BYTES
theorem pb_eq {i j : Int32} (hi : 0 ≤ i.toInt) (hj : 0 ≤ j.toInt) (h : i.toInt % 53 = j.toInt % 53) : pastB i.toNatClampNeg = pastB j.toNatClampNeg := by
  show nowB (i.toInt.toNat % 53) = nowB (j.toInt.toNat % 53)
  congr 1
  omega
theorem pn_eq {i k : Int32} (hi : 0 ≤ i.toInt) (hk : 0 ≤ k.toInt) (h : i.toInt % 53 = k.toInt) : pastB i.toNatClampNeg = nowB k.toNatClampNeg := by
  show nowB (i.toInt.toNat % 53) = nowB k.toInt.toNat
  congr 1
  omega
/-- places of an array that a frame, or a write elsewhere, leaves -/
theorem ai_fr {L : List Nat} {τ : Nat → Ro} {wr : Ro → Bool} {E E' : Ec} {a k : Nat} (h : Fr L τ wr E E') (ha : a ∈ L) (hw : wr (τ a) = false) : ai E' a k = ai E a k := by simp only [ai, h a ha hw]
theorem ai_put {E E' : Ec} {a b k j : Nat} {v : Value} (h : isPut E E' b j v) (hn : a ≠ b) : ai E' a k = ai E a k := by simp only [ai, h.1 a hn]
theorem ai_set {E E' : Ec} {a b k i : Nat} {x : Int32} (h : isSet E E' b i x) (hn : a ≠ b) : ai E' a k = ai E a k := by simp only [ai, h.1 a hn]
theorem ai_at {E : Ec} {a n : Nat} {i x : Int32} (h : ai E a i.toNatClampNeg = x) (hi : i.toInt = n) : ai E a n = x := by rw [← h, tr_cn hi]
/-- what a field refers to -/
theorem ref_of {tb : Tb} {cy : Nat → ClassId} {L : List Nat} {τ : Nat → Ro} {E : Ec} {a ci k : Nat} {r : Ro} {ts : List Ft} {ra rb : Int} (hI : Inv tb cy L τ E) (ha : a ∈ L) (hτ : τ a = r) (hr : tb.1 r = some (ci, ts)) (ht : ts[k]? = some (1, ra, rb)) : ∃ q : Nat, q ∈ L ∧ τ q = (ra.toNat, rb.toNat) := by
  subst hτ
  obtain ⟨fs, he, hl, hf⟩ := hI.1 a ha ci ts hr
  have hkl : k < fs.length := by rw [hl]; exact (List.getElem?_eq_some_iff.mp ht).1
  obtain ⟨q, -, h1, h2⟩ := hf k _ _ ht (List.getElem?_eq_getElem hkl)
  exact ⟨q, h1, h2⟩
/-- a number's field is in its range -/
theorem fi_rng {tb : Tb} {cy : Nat → ClassId} {L : List Nat} {τ : Nat → Ro} {E : Ec} {a ci k : Nat} {r : Ro} {ts : List Ft} {lo hi : Int} (hI : Inv tb cy L τ E) (ha : a ∈ L) (hτ : τ a = r) (hr : tb.1 r = some (ci, ts)) (ht : ts[k]? = some (0, lo, hi)) : lo ≤ (fi E a k).toInt ∧ (fi E a k).toInt ≤ hi := by
  subst hτ
  obtain ⟨fs, he, hl, hf⟩ := hI.1 a ha ci ts hr
  have hkl : k < fs.length := by rw [hl]; exact (List.getElem?_eq_some_iff.mp ht).1
  obtain ⟨x, hx, h1, h2⟩ := hf k _ _ ht (List.getElem?_eq_getElem hkl)
  have : fi E a k = x := by simp [fi, fv, he, List.getElem?_eq_getElem hkl, hx]
  rw [this]
  exact ⟨h1, h2⟩
theorem nu_and255 {x y z : Int32} (h : z = x &&& y) (hy : y.toInt = 255) : 0 ≤ z.toInt ∧ z.toInt ≤ 255 := by
  have : y = 255 := fa_k 255 hy
  subst this
  have := vp_in_iff.mp (pk_andIn x (m := 255) 8 (by decide +kernel) (by decide))
  rw [h]
  omega
theorem fw_sub {a b : List Nat} {k : Nat} (h : ∀ x ∈ a, x ∈ b) (hk : k ∉ b) : k ∉ a := fun q => hk (h k q)
theorem fw_ne {b : List Nat} {k j : Nat} (h : j ∈ b) (hk : k ∉ b) : k ≠ j := fun q => hk (q ▸ h)
