theorem inW_row {j o : Nat} {ns : List Ro} (h : j ≤ 12) (ha : ([(100, o), (101, o), (102, o), (103, o), (104, o), (105, o), (106, o), (107, o), (108, o), (109, o), (110, o), (111, o), (112, o)] : List Ro).all (fun r => inW ns r) = true) : inW ns (100 + j, o) = true := by
  have : j = 0 ∨ j = 1 ∨ j = 2 ∨ j = 3 ∨ j = 4 ∨ j = 5 ∨ j = 6 ∨ j = 7 ∨ j = 8 ∨ j = 9 ∨ j = 10 ∨ j = 11 ∨ j = 12 := by omega
  have key := List.all_eq_true.mp ha
  rcases this with rfl | rfl | rfl | rfl | rfl | rfl | rfl | rfl | rfl | rfl | rfl | rfl | rfl <;> exact key _ (by simp)
theorem row_out {j o o' : Nat} (h : j ≤ 12) : inW [(5, o')] (100 + j, o) = false := by
  cases hq : inW [(5, o')] (100 + j, o) with
  | false => rfl
  | true =>
    obtain ⟨x, hx, hy⟩ := List.any_eq_true.mp hq
    have hx : x = (5, o') := by simpa using hx
    subst hx
    simp at hy
    omega
theorem Gr.fr {x : Nat} {made : List Ro} {L L1 : List Nat} {τ τ1 : Nat → Ro} {E E1 E2 : Ec} {ws : List Ro} (h : Gr x made L τ E L1 τ1 E1) (hF : Fr L1 τ1 (inW ws) E1 E2) (hn : ∀ a ∈ L, inW ws (τ a) = false) : Gr x made L τ E L1 τ1 E2 := by
  obtain ⟨a1, a2, a3, a4⟩ := h
  exact ⟨a1, a2, fun a ha hx => (hF a (a1 a ha) (by rw [a2 a ha hx]; exact hn a ha)).trans (a3 a ha hx), a4⟩
theorem inW_swap {a b c d e f g h i : Ro} {s : Ro} (hs : inW [a, b, c, d, e, f, g, h, i, (229, 0)] s = true) (hn : s ≠ (229, 0)) : inW [a, b, c, d, e, f, g, h, i, (29, 0)] s = true := by
  obtain ⟨x, hx, hy⟩ := List.any_eq_true.mp hs
  simp only [Bool.and_eq_true, beq_iff_eq] at hy
  have hxs : x = s := Prod.ext hy.1 hy.2
  subst hxs
  refine List.any_eq_true.mpr ⟨x, ?_, by simp⟩
  simp only [List.mem_cons, List.mem_nil_iff, or_false] at hx ⊢
  rcases hx with q | q | q | q | q | q | q | q | q | q
  · exact Or.inl q
  · exact Or.inr (Or.inl q)
  · exact Or.inr (Or.inr (Or.inl q))
  · exact Or.inr (Or.inr (Or.inr (Or.inl q)))
  · exact Or.inr (Or.inr (Or.inr (Or.inr (Or.inl q))))
  · exact Or.inr (Or.inr (Or.inr (Or.inr (Or.inr (Or.inl q)))))
  · exact Or.inr (Or.inr (Or.inr (Or.inr (Or.inr (Or.inr (Or.inl q))))))
  · exact Or.inr (Or.inr (Or.inr (Or.inr (Or.inr (Or.inr (Or.inr (Or.inl q)))))))
  · exact Or.inr (Or.inr (Or.inr (Or.inr (Or.inr (Or.inr (Or.inr (Or.inr (Or.inl q))))))))
  · exact absurd q hn
theorem Gr.mono {x : Nat} {made made' : List Ro} {L L' : List Nat} {τ τ' : Nat → Ro} {E E' : Ec} (h : Gr x made L τ E L' τ' E') (hm : made.all (fun q => made'.any (fun x => x.1 == q.1 && x.2 == q.2)) = true) : Gr x made' L τ E L' τ' E' := ⟨h.1, h.2.1, h.2.2.1, fun b hb => (h.2.2.2 b hb).imp id (fun q => by
  cases hz : inW made' (τ' b) with
  | true => rfl
  | false =>
    have := inW_mono hm _ hz
    rw [this] at q
    cases q)⟩
section AASTR
variable {p : Program} {l : Launch} {e : Env} {R : Room} {s : State} {m : MethodId} {args : Array Value} {below : List Frame} {meth : Method} {c : Code} {H : Heap} {locs : List Loc} {cells slots : Nat} {Q : State → Prop}
variable {cc : ByteArray} {pc nL : Nat} {ls : Array Slot} {rest : List Value} {D : va_G} {A : Nat → Prop} {a : Nat} {Ts : List Cond} {own : String} {cy : Nat → ClassId} {L : List Nat} {τ : Nat → Ro} {E : Ec}
/-- a reference is written into an array that no table knows -/
theorem tr_aastR (C : CallFix p m c cc nL s args Ts own) (hK : va_K D vwCl (tysL cy) s) (S : NowG D cy A s L τ E H locs) (ha : a ∈ L) {r : Ro} (hτ : τ a = r) (hr1 : tObj r = none) (hr2 : tInt r = none) (hr3 : tRef r = none) {n : Nat} {f : Nat → Option Nat} {j : Nat} (he : E a = .inl (cy j, n, .inr (.inr (.inr (.inr f))))) {q : vw_C} {ci : Nat} (hc : vwCl[ci]? = some q) (jj : Nat) (hj : (tysL cy)[jj]? = some (cy j, .object q.1)) {y : Nat} (hy : y ∈ L) (hty : ∃ ts : List Ft, tObj (τ y) = some (ci, ts)) {i : Int32} (h1 : 0 ≤ i.toInt) (h2 : i.toInt < n) (hdg : decode cc pc = .ok (.aastore, 1))
    (kk : ∀ (E' : Ec) (H1 : Heap) (locs1 : List Loc), NowG D cy A s L τ E' H1 locs1 → (∀ b, b ≠ a → E' b = E b) → E' a = .inl (cy j, n, .inr (.inr (.inr (.inr (va_up f i.toNatClampNeg (some y)))))) → W p l e R s m args below meth c H1 locs1 cells slots Q (F0 m (pc + 1) ls rest)) : W p l e R s m args below meth c H locs cells slots Q (F0 m pc ls (.ref y :: .int i :: .ref a :: rest)) := by
  obtain ⟨hx, hb, hml, hown, hts⟩ := C
  obtain ⟨⟨hP, hD, hS⟩, hI⟩ := S
  subst hτ
  obtain ⟨k, hk⟩ := pl_at (E := E) ha
  have hk' := hk
  rw [he] at hk
  obtain ⟨ts, hts'⟩ := hty
  obtain ⟨fs, hey, -⟩ := hI.1 y hy _ _ hts'
  obtain ⟨k2, hk2⟩ := pl_at (E := E) hy
  rw [hey] at hk2
  refine va_astq hx hb hK hP hD hS k jj k2 ci hk hj hk2 hc (tr_in h1 h2) hdg (fun H1 locs1 hP1 hD1 hS1 => ?_)
  rw [pl_put hD ha hk'] at hP1 hD1
  exact kk _ H1 locs1 ⟨⟨hP1, hD1, hS1⟩, inv_raw hI hr1 hr2 hr3⟩ (fun b hb => va_up_ne _ _ hb) (va_up_self _ _ _)
end AASTR
