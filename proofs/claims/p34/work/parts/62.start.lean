/-! THE LAW'S START: the classes -/
theorem st_prim {args : Array Value} {s : State} {ty : FieldType} (h : (Cond.arrayClass ty).before args s = true) : ∃ cA : ClassId, ArrOfT s cA ty ∧ s.vm.findClass ("[" ++ ty.toString) = some cA := by
  obtain ⟨cA, kA, comp, h1, h2, h3⟩ := Cond.arrayClass_spec h
  exact ⟨cA, fun n z => ⟨fun k h => (by cases h), kA, h2, comp, h3⟩, h1⟩
theorem st_obj {args : Array Value} {s : State} {C : String} (h : (Cond.arrayOver (.object C)).before args s = true) : ∃ cA : ClassId, ArrOfT s cA (.object C) ∧ va_RA s cA (.object C) := by
  obtain ⟨comp, cA, kA, h1, h2, h3, h4, h5⟩ := Cond.arrayOver_spec h
  exact ⟨cA, fun n z => ⟨fun k h => (by cases h), kA, h3, comp, h4⟩, kA, comp, h3, h4, h1, h5⟩
theorem st_arr {args : Array Value} {s : State} (h : (Cond.arrayOver (.array .int)).before args s = true) : ∃ cA : ClassId, ArrOfT s cA (.array .int) ∧ va_RA s cA (.array .int) := by
  obtain ⟨comp, cA, kA, h1, h2, h3, h4, h5⟩ := aoI_spec h
  exact ⟨cA, fun n z => ⟨fun k h => (by cases h), kA, h3, comp, h4⟩, h5⟩
theorem st_in0 : ∀ w ∈ u_ws RX0 TX0 3, w ∈ lw_tbl := by decide +kernel
theorem st_in1 : ∀ w ∈ u_ws RX1 TX1 6, w ∈ lw_tbl := by decide +kernel
theorem st_in3 : ∀ w ∈ u_ws RX3 TX3 3, w ∈ lw_tbl := by decide +kernel
theorem st_in4 : ∀ w ∈ u_ws RX4 TX4 16, w ∈ lw_tbl := by decide +kernel
theorem st_in5 : ∀ w ∈ u_ws RX5 TX5 14, w ∈ lw_tbl := by decide +kernel
theorem st_in6 : ∀ w ∈ u_ws RX6 TX6 5, w ∈ lw_tbl := by decide +kernel
theorem st_in7 : ∀ w ∈ u_ws RX7 TX7 11, w ∈ lw_tbl := by decide +kernel
theorem st_in8 : ∀ w ∈ u_ws RX8 TX8 4, w ∈ lw_tbl := by decide +kernel
theorem st_in9 : ∀ w ∈ u_ws RX9 TX9 11, w ∈ lw_tbl := by decide +kernel
theorem st_in10 : ∀ w ∈ u_ws RX10 TX10 48, w ∈ lw_tbl := by decide +kernel
set_option maxRecDepth 100000 in
theorem st_K {args : Array Value} {s : State} (hts : ∀ w ∈ lw_tbl, w.before args s = true) (hao1 : (Cond.arrayOver (.object RX1)).before args s = true) (hao4 : (Cond.arrayOver (.object RX4)).before args s = true) (haoI : (Cond.arrayOver (.array .int)).before args s = true) : ∃ (D : va_G) (cy : Nat → ClassId) (cL : ClassId), va_K D vwCl (tysL cy) s ∧ va_K D vwCl [(cL, .long)] s := by
  obtain ⟨c0, i0, h0⟩ := u_known (C := RX0) (T := TX0) (N := 3) (n := 3) hts st_in0 (hts (.instantiable RX0 3) (by decide +kernel))
  obtain ⟨c1, i1, h1⟩ := u_known (C := RX1) (T := TX1) (N := 6) (n := 6) hts st_in1 (hts (.instantiable RX1 6) (by decide +kernel))
  obtain ⟨c2, i2, h2⟩ := u_known (C := RX3) (T := TX3) (N := 3) (n := 3) hts st_in3 (hts (.instantiable RX3 3) (by decide +kernel))
  obtain ⟨c3, i3, h3⟩ := u_known (C := RX4) (T := TX4) (N := 16) (n := 16) hts st_in4 (hts (.instantiable RX4 16) (by decide +kernel))
  obtain ⟨c4, i4, h4⟩ := u_known (C := RX5) (T := TX5) (N := 14) (n := 14) hts st_in5 (hts (.instantiable RX5 14) (by decide +kernel))
  obtain ⟨c5, i5, h5⟩ := u_known (C := RX6) (T := TX6) (N := 5) (n := 5) hts st_in6 (hts (.instantiable RX6 5) (by decide +kernel))
  obtain ⟨c6, i6, h6⟩ := u_known (C := RX7) (T := TX7) (N := 11) (n := 11) hts st_in7 (hts (.instantiable RX7 11) (by decide +kernel))
  obtain ⟨c7, i7, h7⟩ := u_known (C := RX8) (T := TX8) (N := 4) (n := 4) hts st_in8 (hts (.instantiable RX8 4) (by decide +kernel))
  obtain ⟨c8, i8, h8⟩ := u_known (C := RX9) (T := TX9) (N := 11) (n := 11) hts st_in9 (hts (.instantiable RX9 11) (by decide +kernel))
  obtain ⟨c9, i9, h9⟩ := u_known (C := RX10) (T := TX10) (N := 48) (n := 48) hts st_in10 (hts (.instantiable RX10 48) (by decide +kernel))
  obtain ⟨t0, g0, r0⟩ := st_prim (hts (.arrayClass .int) (by decide +kernel))
  obtain ⟨t1, g1, r1⟩ := st_prim (hts (.arrayClass .byte) (by decide +kernel))
  obtain ⟨t2, g2, r2⟩ := st_prim (hts (.arrayClass .boolean) (by decide +kernel))
  obtain ⟨cL, gL, rL⟩ := st_prim (hts (.arrayClass .long) (by decide +kernel))
  obtain ⟨t3, g3, r3⟩ := st_obj hao1
  obtain ⟨t4, g4, r4⟩ := st_obj hao4
  obtain ⟨t5, g5, r5⟩ := st_arr haoI
  have hcl : ∀ (c : Nat) (q : vw_C), vwCl[c]? = some q → u_Kn s q.1 q.2.1 q.2.2 ((fun k : Nat => match k with | 0 => c0 | 1 => c1 | 2 => c2 | 3 => c3 | 4 => c4 | 5 => c5 | 6 => c6 | 7 => c7 | 8 => c8 | 9 => c9 | _ => c0) c) ((fun k : Nat => match k with | 0 => i0 | 1 => i1 | 2 => i2 | 3 => i3 | 4 => i4 | 5 => i5 | 6 => i6 | 7 => i7 | 8 => i8 | 9 => i9 | _ => i0) c) := by
    intro c q h
    match c, h with
    | 0, h => cases h; exact h0
    | 1, h => cases h; exact h1
    | 2, h => cases h; exact h2
    | 3, h => cases h; exact h3
    | 4, h => cases h; exact h4
    | 5, h => cases h; exact h5
    | 6, h => cases h; exact h6
    | 7, h => cases h; exact h7
    | 8, h => cases h; exact h8
    | 9, h => cases h; exact h9
    | n + 10, h => exact nomatch h
  refine ⟨(_, _), (fun k : Nat => match k with | 0 => t0 | 1 => t1 | 2 => t2 | 3 => t3 | 4 => t4 | 5 => t5 | _ => t0), cL, ⟨hcl, ?_⟩, ⟨hcl, ?_⟩⟩
  · intro k q h
    match k, h with
    | 0, h => cases h; exact ⟨g0, r0⟩
    | 1, h => cases h; exact ⟨g1, r1⟩
    | 2, h => cases h; exact ⟨g2, r2⟩
    | 3, h => cases h; exact ⟨g3, r3⟩
    | 4, h => cases h; exact ⟨g4, r4⟩
    | 5, h => cases h; exact ⟨g5, r5⟩
    | n + 6, h => exact nomatch h
  · intro k q h
    match k, h with
    | 0, h => cases h; exact ⟨gL, rL⟩
    | n + 1, h => exact nomatch h
