/-! numbers by their toInt (the first rows: out of laws/NUMBERS and laws/COUNTS) -/
theorem fa_lt (a b : Int32) : a < b ↔ a.toInt < b.toInt := Int32.lt_iff_toInt_lt
theorem fa_le (a b : Int32) : a ≤ b ↔ a.toInt ≤ b.toInt := Int32.le_iff_toInt_le
theorem fa_eq (a b : Int32) : a = b ↔ a.toInt = b.toInt := Int32.toInt_inj.symm
theorem fa_lt64 (a b : Int64) : a < b ↔ a.toInt < b.toInt := Int64.lt_iff_toInt_lt
theorem fa_le64 (a b : Int64) : a ≤ b ↔ a.toInt ≤ b.toInt := Int64.le_iff_toInt_le
theorem fa_eq64 (a b : Int64) : a = b ↔ a.toInt = b.toInt := Int64.toInt_inj.symm
theorem fb_rng (x : Int32) : -2147483648 ≤ x.toInt ∧ x.toInt < 2147483648 := by
  have h1 := Int32.le_toInt x
  have h2 := Int32.toInt_lt x
  omega
theorem fb_bmod {z : Int} (h1 : -2147483648 ≤ z) (h2 : z < 2147483648) : z.bmod (2 ^ 32) = z := by
  rw [Int.bmod_eq_of_le (by omega) (by omega)]
theorem fb_addI {x y : Int32} (h1 : -2147483648 ≤ x.toInt + y.toInt) (h2 : x.toInt + y.toInt < 2147483648) : (x + y).toInt = x.toInt + y.toInt := by
  rw [Int32.toInt_add, fb_bmod h1 h2]
theorem fb_subI {x y : Int32} (h1 : -2147483648 ≤ x.toInt - y.toInt) (h2 : x.toInt - y.toInt < 2147483648) : (x - y).toInt = x.toInt - y.toInt := by
  rw [Int32.toInt_sub, fb_bmod h1 h2]
theorem fb_mulI {x y : Int32} (h1 : -2147483648 ≤ x.toInt * y.toInt) (h2 : x.toInt * y.toInt < 2147483648) : (x * y).toInt = x.toInt * y.toInt := by
  rw [Int32.toInt_mul, fb_bmod h1 h2]
/-- named sums, differences, products -/
theorem nu_add {x y z : Int32} (h : z = x + y) (h1 : -2147483648 ≤ x.toInt + y.toInt) (h2 : x.toInt + y.toInt < 2147483648) : z.toInt = x.toInt + y.toInt := by rw [h]; exact fb_addI h1 h2
theorem nu_sub {x y z : Int32} (h : z = x - y) (h1 : -2147483648 ≤ x.toInt - y.toInt) (h2 : x.toInt - y.toInt < 2147483648) : z.toInt = x.toInt - y.toInt := by rw [h]; exact fb_subI h1 h2
theorem nu_mulc {x y z : Int32} (c : Int) (h : z = x * y) (hy : y.toInt = c) (h1 : -2147483648 ≤ x.toInt * c) (h2 : x.toInt * c < 2147483648) : z.toInt = x.toInt * c := by rw [h, ← hy]; exact fb_mulI (by rw [hy]; exact h1) (by rw [hy]; exact h2)
theorem nu_mulc' {x y z : Int32} (c : Int) (h : z = x * y) (hx : x.toInt = c) (h1 : -2147483648 ≤ c * y.toInt) (h2 : c * y.toInt < 2147483648) : z.toInt = c * y.toInt := by rw [h, ← hx]; exact fb_mulI (by rw [hx]; exact h1) (by rw [hx]; exact h2)
theorem nu_divc {x y z : Int32} (c : Int) (h : z = x / y) (hy : y.toInt = c) (hx : 0 ≤ x.toInt) (hc : 0 < c) : z.toInt = x.toInt / c := by
  have := fb_rng x
  have h3 : x.toInt.tdiv c = x.toInt / c := Int.tdiv_eq_ediv_of_nonneg hx
  have h4 : x.toInt / c ≤ x.toInt := Int.ediv_le_self _ hx
  have h5 : 0 ≤ x.toInt / c := Int.ediv_nonneg hx (by omega)
  rw [h, Int32.toInt_div, hy, h3, fb_bmod (by omega) (by omega)]
theorem nu_remc {x y z : Int32} (c : Int) (h : z = x - x / y * y) (hy : y.toInt = c) (hx : 0 ≤ x.toInt) (hc : 0 < c) : z.toInt = x.toInt % c := by
  have h0 := fb_rng x
  have h1 : (x / y).toInt = x.toInt / c := nu_divc c rfl hy hx hc
  have h4 : 0 ≤ x.toInt / c := Int.ediv_nonneg hx (by omega)
  have h5 : x.toInt / c * c ≤ x.toInt := Int.ediv_mul_le _ (by omega)
  have h6 : 0 ≤ x.toInt / c * c := Int.mul_nonneg h4 (by omega)
  have h2 : (x / y * y).toInt = x.toInt / c * c := by
    rw [fb_mulI (by rw [h1, hy]; omega) (by rw [h1, hy]; omega), h1, hy]
  rw [h, fb_subI (by rw [h2]; omega) (by rw [h2]; omega), h2, Int.emod_def, Int.mul_comm c]
theorem nu_eq0 {x : Int32} (h : x = 0) : x.toInt = 0 := by rw [h]; rfl
theorem nu_ne0 {x : Int32} (h : ¬ x = 0) : x.toInt ≠ 0 := fun q => h ((fa_eq x 0).mpr q)
theorem nu_lt0 {x : Int32} (h : x < 0) : x.toInt < 0 := (fa_lt x 0).mp h
theorem nu_nlt0 {x : Int32} (h : ¬ x < 0) : 0 ≤ x.toInt := by
  have : ¬ x.toInt < (0 : Int32).toInt := fun q => h ((fa_lt x 0).mpr q)
  have e : (0 : Int32).toInt = 0 := rfl
  omega
theorem nu_le0 {x : Int32} (h : x ≤ 0) : x.toInt ≤ 0 := (fa_le x 0).mp h
theorem nu_nle0 {x : Int32} (h : ¬ x ≤ 0) : 0 < x.toInt := by
  have : ¬ x.toInt ≤ (0 : Int32).toInt := fun q => h ((fa_le x 0).mpr q)
  have e : (0 : Int32).toInt = 0 := rfl
  omega
theorem nu_lt {x y : Int32} (h : x < y) : x.toInt < y.toInt := (fa_lt x y).mp h
theorem nu_nlt {x y : Int32} (h : ¬ x < y) : y.toInt ≤ x.toInt := Int.not_lt.mp (fun q => h ((fa_lt x y).mpr q))
theorem nu_le {x y : Int32} (h : x ≤ y) : x.toInt ≤ y.toInt := (fa_le x y).mp h
theorem nu_nle {x y : Int32} (h : ¬ x ≤ y) : y.toInt < x.toInt := Int.not_le.mp (fun q => h ((fa_le x y).mpr q))
theorem nu_eq {x y : Int32} (h : x = y) : x.toInt = y.toInt := by rw [h]
theorem nu_ne {x y : Int32} (h : ¬ x = y) : x.toInt ≠ y.toInt := fun q => h ((fa_eq x y).mpr q)
theorem nu_min {x y z : Int32} (h : z = if y < x then y else x) : z.toInt = min x.toInt y.toInt := by
  rw [h]
  split
  · rename_i q
    have := nu_lt q
    omega
  · rename_i q
    have := nu_nlt q
    omega
theorem nu_max {x y z : Int32} (h : z = if x < y then y else x) : z.toInt = max x.toInt y.toInt := by
  rw [h]
  split
  · rename_i q
    have := nu_lt q
    omega
  · rename_i q
    have := nu_nlt q
    omega
/-- fields and places that a write, or a frame, leaves -/
theorem fi_put {E E' : Ec} {a b k j : Nat} {v : Value} (h : isPut E E' b j v) (hn : a ≠ b ∨ k ≠ j) : fi E' a k = fi E a k := by
  have : fv E' a k = fv E a k := by
    rcases hn with q | q
    · simp only [fv, h.1 a q]
    · by_cases hab : a = b
      · subst hab
        exact h.2.2 k q
      · simp only [fv, h.1 a hab]
  simp only [fi, this]
theorem fi_at {E E' : Ec} {a k : Nat} {x : Int32} (h : isPut E E' a k (.int x)) : fi E' a k = x := by simp only [fi, h.2.1]
theorem fi_set {E E' : Ec} {a b k i : Nat} {x : Int32} (h : isSet E E' b i x) (hn : a ≠ b) : fi E' a k = fi E a k := by simp only [fi, fv, h.1 a hn]
theorem fi_fr {L : List Nat} {τ : Nat → Ro} {wr : Ro → Bool} {E E' : Ec} {a k : Nat} (h : Fr L τ wr E E') (ha : a ∈ L) (hw : wr (τ a) = false) : fi E' a k = fi E a k := by simp only [fi, fv, h a ha hw]
theorem ne_ro {τ : Nat → Ro} {a b : Nat} {r r' : Ro} (h1 : τ a = r) (h2 : τ b = r') (hn : r ≠ r') : a ≠ b := fun q => hn (by rw [← h1, q, h2])
/-- the roles of a list -/
def inW (ws : List Ro) : Ro → Bool := fun r => ws.any (fun q => q.1 == r.1 && q.2 == r.2)
theorem inW_mono {a b : List Ro} (h : a.all (fun q => b.any (fun x => x.1 == q.1 && x.2 == q.2)) = true) : ∀ r, inW b r = false → inW a r = false := by
  intro r hr
  cases hq : inW a r with
  | false => rfl
  | true =>
    obtain ⟨q, hqa, hq2⟩ := List.any_eq_true.mp hq
    obtain ⟨x, hx, hx2⟩ := List.any_eq_true.mp (List.all_eq_true.mp h q hqa)
    have : inW b r = true := List.any_eq_true.mpr ⟨x, hx, by
      simp only [Bool.and_eq_true, beq_iff_eq] at hq2 hx2 ⊢
      exact ⟨hx2.1.trans hq2.1, hx2.2.trans hq2.2⟩⟩
    rw [this] at hr
    cases hr
theorem zo (x : Int32) (h : x.toInt = 0 ∨ x.toInt = 1) : x = 0 ∨ x = 1 := by
  rcases h with h | h
  · exact Or.inl ((fa_eq x 0).mpr h)
  · exact Or.inr ((fa_eq x 1).mpr h)
section PUTZ
variable {p : Program} {l : Launch} {e : Env} {R : Room} {s : State} {m : MethodId} {args : Array Value} {below : List Frame} {meth : Method} {c : Code} {H : Heap} {locs : List Loc} {cells slots : Nat} {Q : State → Prop}
variable {cc : ByteArray} {pc nL : Nat} {ls : Array Slot} {rest : List Value} {D : va_G} {A : Nat → Prop} {a : Nat} {H0 : Heap} {Ts : List Cond} {own : String} {tb : Tb} {cy : Nat → ClassId} {L : List Nat} {τ : Nat → Ro} {E : Ec}
/-- a truth value is written -/
theorem tr_putz (C : CallFix p m c cc nL s args Ts own) (hK : va_K D vwCl (tysL cy) s) (hW : Wd D A H0 L E H locs) (hI : Inv tb cy L τ E) (ha : a ∈ L) {r : Ro} (hτ : τ a = r) {ci N : Nat} {ts : List Ft} (hr : tb.1 r = some (ci, ts)) {cn : String} {T : u_T} (hc : vwCl[ci]? = some (cn, T, N)) (hin : ∀ w ∈ u_ws cn T N, w ∈ Ts) {ty0 : Nat → FieldType} (hty : ∀ k, k < N → parseFieldDescriptor (T k).2.2.1 = some (ty0 k)) (hnm : ∀ a, a < N → ∀ b, b < N → a ≠ b → (T a).2.1 ≠ (T b).2.1) (k : Nat) (hk : k < N) (ht : ts[k]? = some (0, 0, 1)) (hfin : (T k).2.2.2 = false) (hti : ty0 k = .boolean) {index : Nat} (hlink : (Cond.fieldLink own index (T k).1 (T k).2.1 (T k).2.2.1).before args s = true) (hdg : decode cc pc = .ok (.putfield index, 3)) {x : Int32} (h1 : 0 ≤ x.toInt) (h2 : x.toInt ≤ 1)
    (kk : ∀ (E' : Ec) (H1 : Heap) (locs1 : List Loc), Wd D A H0 L E' H1 locs1 → Inv tb cy L τ E' → isPut E E' a k (.int x) → W p l e R s m args below meth c H1 locs1 cells slots Q (F0 m (pc + 3) ls rest)) : W p l e R s m args below meth c H locs cells slots Q (F0 m pc ls (.int x :: .ref a :: rest)) := by
  have hx := zo x (by omega)
  exact tr_put C hK hW hI ha hτ hr hc hin hty hnm k hk ht hfin hlink hdg ⟨x, rfl, h1, h2⟩ (by rw [hti]; rcases hx with rfl | rfl <;> decide) (by rw [hti]; rcases hx with rfl | rfl <;> decide) kk
end PUTZ
theorem fa_k {c : Int32} (j : Int32) (h : c.toInt = j.toInt) : c = j := (fa_eq c j).mpr h
/-- one shifted: a power of two -/
theorem nu_sh1 {x c z : Int32} (h : z = x <<< (c &&& 31)) (hx : x.toInt = 1) (h0 : 0 ≤ c.toInt) (h1 : c.toInt ≤ 12) : 1 ≤ z.toInt ∧ z.toInt ≤ 4096 ∧ (c.toInt ≤ 11 → z.toInt ≤ 2048) := by
  have ex : x = 1 := fa_k 1 hx
  have hc : c = 0 ∨ c = 1 ∨ c = 2 ∨ c = 3 ∨ c = 4 ∨ c = 5 ∨ c = 6 ∨ c = 7 ∨ c = 8 ∨ c = 9 ∨ c = 10 ∨ c = 11 ∨ c = 12 := by
    have : c.toInt = 0 ∨ c.toInt = 1 ∨ c.toInt = 2 ∨ c.toInt = 3 ∨ c.toInt = 4 ∨ c.toInt = 5 ∨ c.toInt = 6 ∨ c.toInt = 7 ∨ c.toInt = 8 ∨ c.toInt = 9 ∨ c.toInt = 10 ∨ c.toInt = 11 ∨ c.toInt = 12 := by omega
    rcases this with q | q | q | q | q | q | q | q | q | q | q | q | q <;> simp [fa_eq, q]
  subst ex
  subst h
  rcases hc with rfl | rfl | rfl | rfl | rfl | rfl | rfl | rfl | rfl | rfl | rfl | rfl | rfl <;> decide +kernel
theorem nu_nat {x : Int32} (h : 0 ≤ x.toInt) : ∃ n : Nat, (n : Int) = x.toInt ∧ n < 2147483648 ∧ x = nI n := by
  have := fb_rng x
  refine ⟨x.toInt.toNat, by omega, by omega, (fa_eq _ _).mpr ?_⟩
  rw [nI_toInt (by omega)]
  omega
/-- small numbers crossed: small -/
theorem nu_xor {x y z : Int32} (h : z = x ^^^ y) (h0 : 0 ≤ x.toInt) (h1 : x.toInt ≤ 4095) (g0 : 0 ≤ y.toInt) (g1 : y.toInt ≤ 4095) : 0 ≤ z.toInt ∧ z.toInt ≤ 4095 := by
  obtain ⟨a, a1, a2, rfl⟩ := nu_nat h0
  obtain ⟨b, b1, b2, rfl⟩ := nu_nat g0
  have e : nI a ^^^ nI b = nI (a ^^^ b) := by
    apply Int32.toBitVec_inj.mp
    simp [nI, Int32.toBitVec_ofNat, BitVec.ofNat_xor]
  have hl : a ^^^ b < 2 ^ 12 := Nat.xor_lt_two_pow (by omega) (by omega)
  rw [h, e, nI_toInt (by omega)]
  omega
