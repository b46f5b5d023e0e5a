/-! THE LAW'S START: what stands in statics -/
theorem st_Nx {b : Nat} {s : State} (hts : ∀ w ∈ lw_tbl, w.before #[Value.ref b] s = true) : Nx s := fun w hw => by
  have hm : ∀ w ∈ nestL, w ∈ lw_tbl ∧ w.onTables = true := by decide +kernel
  exact va_Nw.of (hm w hw).2 (hts w (hm w hw).1)
theorem st_TX {b : Nat} {s : State} (hts : ∀ w ∈ lw_tbl, w.before #[Value.ref b] s = true) (hgv : (Jvm.Cond.and given_1 narrow_1).before #[Value.ref b] s = true) : ∃ (tx : String) (sa : Nat), TX tx sa (fun q => s.heap.size ≤ q) s s.heap := by
  have hg := flat_of_before _ hgv
  have hA : ∀ a : Nat, a < s.heap.size → ¬ (fun q => s.heap.size ≤ q) a := fun a h => Nat.not_le.mpr h
  have h1 := vx_Zqof (C := Jvm.Bundle.tN) (n := "UNASSIGNED_STACK") (d := Jvm.Bundle.steD) (hts _ (by decide +kernel)) (hts _ (by decide +kernel)) (hg _ (by decide +kernel)) hA
  have h2 := vx_Zqof (C := Jvm.Bundle.tN) (n := "SUPPRESSED_SENTINEL") (d := Jvm.Bundle.listD) (hts _ (by decide +kernel)) (hts _ (by decide +kernel)) (hg _ (by decide +kernel)) hA
  obtain ⟨sa, c1, cell1, k1, q1, -⟩ := Cond.exactly_spec (hg (.exactly (.string RX9 279) "java/lang/String") (by decide +kernel))
  exact ⟨"no such number on the sheet", sa, h1, h2, vk_R.of (hts (.stringRef RX9 279 "no such number on the sheet") (by decide +kernel)) q1, va_Nw.of rfl (hts _ (by decide +kernel)), va_Nw.of rfl (hts _ (by decide +kernel)), va_Nw.of rfl (hts _ (by decide +kernel)), va_Nw.of rfl (hts _ (by decide +kernel))⟩
