section ZERO
variable {p : Program} {l : Launch} {e : Env} {R : Room} {s : State} {m : MethodId} {args : Array Value} {below : List Frame} {meth : Method} {c : Code} {H : Heap} {locs : List Loc} {cells slots : Nat} {Q : State → Prop}
variable {cc : ByteArray} {pc nL : Nat} {ls : Array Slot} {rest st : List Value} {D : va_G} {A : Nat → Prop} {a : Nat} {H0 : Heap} {Ts : List Cond} {own : String} {cy : Nat → ClassId} {L : List Nat} {τ : Nat → Ro} {E : Ec}
/-- .. and it is all zero -/
theorem tr_newi0 (C : CallFix p m c cc nL s args Ts own) (hK : va_K D vwCl (tysL cy) s) (hA : ∀ q, s.heap.size ≤ q → A q) (S : NowG D cy A s L τ E H locs) {atype : ArrayType} (harr : (Cond.arrayClass (newarray.typeOf atype)).before args s = true) {ty : FieldType} (hty : newarray.typeOf atype = ty) (j : Nat) (hj : (tysL cy)[j]? = some (cy j, ty)) {n : Int32} (N : Nat) (hn : n.toInt = N) (hcell : ∀ cA : ClassId, vp_cell cA (N, .inl (fun _ => 0)) = arrV cA N (fun _ => defaultValue ty)) (hbytes : N * componentBytes ty ≤ 536870912) (r : Ro) {w : Nat → Int × Int} (hr1 : tObj r = none) (hr2 : tInt r = some (j, N, w)) (hr3 : tRef r = none) (hz : ∀ i : Nat, (w i).1 ≤ 0 ∧ 0 ≤ (w i).2) (hu : uq r = true → ∀ b ∈ L, τ b ≠ r) (hcells : cells + 1 ≤ R.cells) (hslots : slots + N ≤ R.slots) (hdg : decode cc pc = .ok (.newarray atype, 2))
    (kk : ∀ (L' : List Nat) (τ' : Nat → Ro) (E' : Ec) (q : Nat) (H1 : Heap), NowG D cy A s L' τ' E' H1 locs → Psh L τ E L' τ' E' q r → E' q = .inl (cy j, N, .inl (fun _ => 0)) → W p l e R s m args below meth c H1 locs (cells + 1) (slots + N) Q (F0 m (pc + 2) ls (.ref q :: rest))) : W p l e R s m args below meth c H locs cells slots Q (F0 m pc ls (.int n :: rest)) := by
  obtain ⟨hx, hb, hml, hown, hts⟩ := C
  obtain ⟨⟨hP, hD, hS⟩, hI⟩ := S
  refine va_newa hx hb harr hty hK hP hD hS hA hcell (fun q => by have := nu_lt0 q; omega) (by show n.toInt.toNat = N; omega) hbytes hcells hslots hdg (fun q cA H1 hK2 hP1 hD1 hS1 => ?_)
  have hq := q_fresh hD1
  have hc := cy_of hK hj hK2
  subst hc
  refine kk _ (upT τ q r) _ q H1 ⟨wd_push hq hP1 hD1 hS1, inv_push hI hq hu (fun ci ts h => ?_) (fun j' n' b h => ?_) (fun j' n' t h => ?_)⟩ (psh_push hq) (va_up_self _ _ _)
  · exact nomatch (hr1.symm.trans h)
  · have := hr2.symm.trans h
    cases this
    exact ⟨_, va_up_self _ _ _, fun i _ => hz i⟩
  · exact nomatch (hr3.symm.trans h)
end ZERO
