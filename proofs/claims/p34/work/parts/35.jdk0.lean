theorem rowS_rng {i : Nat} (h : i < 8) : 0 ≤ (rowS.getD i 0).toInt ∧ (rowS.getD i 0).toInt ≤ 12 := by
  have : i = 0 ∨ i = 1 ∨ i = 2 ∨ i = 3 ∨ i = 4 ∨ i = 5 ∨ i = 6 ∨ i = 7 := by omega
  rcases this with rfl | rfl | rfl | rfl | rfl | rfl | rfl | rfl <;> decide +kernel
theorem sheetS_rng {i : Nat} (h : i < 4) : 0 ≤ ((([0, 1, 3, 4] : List Int32).getD i 0)).toInt ∧ ((([0, 1, 3, 4] : List Int32).getD i 0)).toInt ≤ 4 := by
  have : i = 0 ∨ i = 1 ∨ i = 2 ∨ i = 3 := by omega
  rcases this with rfl | rfl | rfl | rfl <;> decide +kernel
theorem lenS_le {i : Nat} (h : i < 11) : lenS.getD i 0 ≤ 6 := by
  have : i = 0 ∨ i = 1 ∨ i = 2 ∨ i = 3 ∨ i = 4 ∨ i = 5 ∨ i = 6 ∨ i = 7 ∨ i = 8 ∨ i = 9 ∨ i = 10 := by omega
  rcases this with rfl | rfl | rfl | rfl | rfl | rfl | rfl | rfl | rfl | rfl | rfl <;> decide
theorem lenS_int {i : Nat} (h : i < 11) : (Int32.ofNat (lenS.getD i 0)).toInt = ((lenS.getD i 0 : Nat) : Int) ∧ 0 ≤ (Int32.ofNat (lenS.getD i 0)).toInt ∧ (Int32.ofNat (lenS.getD i 0)).toInt ≤ 6 := by
  have h6 := lenS_le h
  have e : (Int32.ofNat (lenS.getD i 0)).toInt = ((lenS.getD i 0 : Nat) : Int) := nI_toInt (by omega)
  exact ⟨e, by omega, by omega⟩
theorem sh0 {x c z : Int32} (h : z = x >>> (c &&& 31)) (hc : c.toInt = 0) : z.toInt = x.toInt := by
  have : c = 0 := fa_k 0 hc
  subst this
  rw [h, show ((0 : Int32) &&& 31) = 0 from by decide +kernel, Int32.shiftRight_zero]
theorem chr_ok {b c v1 v2 : Int32} (h2 : v2 = (v1.toUInt32 % 65536).toInt32) (h1 : v1 = b &&& c) (hc : c.toInt = 255) : narrow .char (.int v2) = .int v2 := by
  have e : c = 255 := fa_k 255 hc
  subst e
  rw [h2, h1, sc_c2]
  exact sc_nar b
section ENT
variable {p : Program} {l : Launch} {e : Env} {R : Room} {s : State} {m : MethodId} {args : Array Value} {below : List Frame} {meth : Method} {c : Code} {H : Heap} {locs : List Loc} {cells slots : Nat}
variable {cc : ByteArray} {pc nL : Nat} {ls : Array Slot} {D : va_G} {Ts : List Cond} {own : String} {tb : Tb} {cy : Nat → ClassId} {L : List Nat} {τ : Nat → Ro} {E : Ec} {wr : Ro → Bool}
theorem en_t {E0 : Ec} {sz : Nat} {ty : FieldType} (Z : Amb p m meth c cc nL s args Ts own (some ty) D cy (va_A (va_pl L E0) sz)) (S : Now D tb cy (va_A (va_pl L E0) sz) s L τ E H locs) (hF : Fr L τ wr E0 E) {post : Int32 → Ec → Prop} {x : Int32} (hn : narrow ty (.int x) = .int x) (hp : post x E) (hdg : decode cc pc = .ok (.ireturn, 1)) : W p l e R s m args below meth c H locs cells slots (MQ below (va_Qi (fun r E' => Inv tb cy L τ E' ∧ Fr L τ wr E0 E' ∧ post r E') (Bw D cy L (va_A (va_pl L E0) sz)) (va_A (va_pl L E0) sz)) args s cells slots (va_A (va_pl L E0) sz)) (F0 m pc ls [.int x]) :=
  W.zret Z.1.1 Z.1.2.1 Z.2.1 hn (fun t ht hW => ⟨⟨x, E, rfl, ⟨S.2, hF, hp⟩, by rw [ht]; exact S.1.1, va_K.moved hW.alike Z.2.2.2.1, S.1.2.1⟩, S.1.2.2.F ht⟩) S.1.2.2.2.2 hdg Z.2.2.1
end ENT
