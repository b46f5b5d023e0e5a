section CALLQ
variable {p : Program} {l : Launch} {e : Env} {R : Room} {s : State} {m : MethodId} {args : Array Value} {below : List Frame} {meth : Method} {c : Code} {H : Heap} {locs : List Loc} {cells slots : Nat} {Q : State → Prop}
variable {cc : ByteArray} {pc nL : Nat} {ls : Array Slot} {rest st : List Value} {D : va_G} {A : Nat → Prop} {a : Nat} {Ts : List Cond} {own : String} {tb : Tb} {cy : Nat → ClassId} {L : List Nat} {τ : Nat → Ro} {E : Ec}
variable {y : MethodName} {w : List Cond} {rm : Room} {av : List Value} {wr : Ro → Bool}
/-- a virtual call with a reference or null for an answer -/
theorem tc_vq (C : CallFix p m c cc nL s args Ts own) (hK : va_K D vwCl (tysL cy) s) (hN : Nx s) (hA : ∀ q, s.heap.size ≤ q → A q) (hW : Wd D A s.heap L E H locs) (hI : Inv tb cy L τ E) (ha : a ∈ L) {r : Ro} (hτ : τ a = r) {ci : Nat} {ts : List Ft} (hr : tb.1 r = some (ci, ts)) {q : vw_C} (hc : vwCl[ci]? = some q)
    {post : Option Nat → Ec → Prop} {As : List Value} (hM : CtQ l y w rm D tb cy L τ E (.ref a :: As) wr post) {index n maxL : Nat} {bytes : ByteArray} {ret : Option FieldType} (cw : CallW R s args own q.1 index y bytes maxL ret w rm 0 0 n) (hn : As.length = n) (hz : ls.size = nL) (hst : st = As.reverse ++ .ref a :: rest) (hro : (rest.map fun v => v.category).sum ≤ 8) (hdg : decode cc pc = .ok (.invokevirtual index, 3)) (hf : cells ≤ R.cells ∧ slots ≤ R.slots)
    (kk : ∀ (x : Option Nat) (E' : Ec) (H1 : Heap) (locs1 : List Loc), Wd D A s.heap L E' H1 locs1 → Inv tb cy L τ E' → Fr L τ wr E E' → post x E' → W p l e R s m args below meth c H1 locs1 cells slots Q (F0 m (pc + 3) ls (va_rf x :: rest))) : W p l e R s m args below meth c H locs cells slots Q (F0 m pc ls st) := by
  subst hst
  have hFc := fr_A hW hA
  refine va_callq (va_runV (As := As) (rest := rest) C (hM H.size) cw ⟨blind0, rv_at hK hW hI ha hτ hr hc, pre_at hK hN hW⟩ rfl hn hz rfl (lv_room hro) hdg hf) hW.2.2 (fun q _ h => hFc q h) hFc (fun x E' t H1 locs1 ht hvm hp hB hz1 hk1 hS => ?_)
  exact kk x E' H1 locs1 (wd_behind hW hA ht hB hS) hp.1 hp.2.1 hp.2.2
end CALLQ
section ALENW
variable {p : Program} {l : Launch} {e : Env} {R : Room} {s : State} {m : MethodId} {args : Array Value} {below : List Frame} {meth : Method} {c : Code} {H : Heap} {locs : List Loc} {cells slots : Nat} {Q : State → Prop}
variable {cc : ByteArray} {pc nL : Nat} {ls : Array Slot} {rest : List Value} {D : va_G} {A : Nat → Prop} {a : Nat} {H0 : Heap} {Ts : List Cond} {own : String} {tb : Tb} {cy : Nat → ClassId} {L : List Nat} {τ : Nat → Ro} {E : Ec}
theorem tr_alenw (C : CallFix p m c cc nL s args Ts own) (hK : va_K D vwCl (tysL cy) s) (hW : Wd D A H0 L E H locs) (hI : Inv tb cy L τ E) (ha : a ∈ L) {r : Ro} (hτ : τ a = r) {n : Nat} {w : Nat → Int × Int} (hr : tb.2.1 r = some (0, n, w)) (hdg : decode cc pc = .ok (.arraylength, 1))
    (kk : ∀ x : Int32, W p l e R s m args below meth c H locs cells slots Q (F0 m (pc + 1) ls (.int x :: rest))) : W p l e R s m args below meth c H locs cells slots Q (F0 m pc ls (.ref a :: rest)) := by
  obtain ⟨hx, hb, hml, hown, hts⟩ := C
  obtain ⟨hP, hD, hS⟩ := hW
  subst hτ
  obtain ⟨f, he, hf⟩ := hI.2.1 a ha _ _ _ hr
  obtain ⟨j, hj⟩ := pl_at (E := E) ha
  rw [he] at hj
  exact va_alen hx hb hK hP j 0 hj rfl (v := nI n) rfl hdg (kk _)
end ALENW
/-- the bounds of the reference's row, by groups -/
theorem nb_4 {i : Nat} (h : i = 4) : nowB i = (0, 3) := by subst h; rfl
theorem nb_5 {i : Nat} (h : 5 ≤ i ∧ i ≤ 7) : nowB i = (0, 20) := by
  have : i = 5 ∨ i = 6 ∨ i = 7 := by omega
  rcases this with rfl | rfl | rfl <;> rfl
theorem nb_19 {i : Nat} (h : i = 19) : nowB i = (0, 8) := by subst h; rfl
theorem nb_44 {i : Nat} (h : i = 44) : nowB i = (0, 8) := by subst h; rfl
theorem nb_45 {i : Nat} (h : 45 ≤ i ∧ i ≤ 52) : nowB i = (0, 49) := by
  have : i = 45 ∨ i = 46 ∨ i = 47 ∨ i = 48 ∨ i = 49 ∨ i = 50 ∨ i = 51 ∨ i = 52 := by omega
  rcases this with rfl | rfl | rfl | rfl | rfl | rfl | rfl | rfl <;> rfl
theorem nb_o {i : Nat} (h : i < 4 ∨ (8 ≤ i ∧ i ≤ 18) ∨ (20 ≤ i ∧ i ≤ 43)) : nowB i = (-2147483648, 2147483647) := by
  have h1 : ¬ i = 4 := by omega
  have h2 : ¬ (5 ≤ i ∧ i ≤ 7) := by omega
  have h3 : ¬ i = 19 := by omega
  have h4 : ¬ i = 44 := by omega
  have h5 : ¬ (45 ≤ i ∧ i ≤ 52) := by omega
  simp only [nowB, h1, h3, h4, if_false, Bool.and_eq_true, Nat.ble_eq, h2, h5]
theorem nb_low (i : Nat) : (nowB i).1 ≤ 0 ∧ 0 ≤ (nowB i).2 := by
  unfold nowB
  repeat' split
  all_goals exact ⟨by decide, by decide⟩
/-- a number of the row is read, within the bounds of its group -/
theorem tr_cn {i : Int32} {n : Nat} (h : i.toInt = n) : i.toNatClampNeg = n := by show i.toInt.toNat = n; omega
