theorem sw_6l : ∀ i j, i < 11 → j < 11 → rkS i < rkS j → Cond.not (Cond.eq (tmS i) (tmS j)) ∈ fgn := fun i j hi hj hij => by
  match i, hi, hij with
  | 0, _, h => exact sw_6_0 j hj h
  | 1, _, h => exact sw_6_1 j hj h
  | 2, _, h => exact sw_6_2 j hj h
  | 3, _, h => exact sw_6_3 j hj h
  | 4, _, h => exact sw_6_4 j hj h
  | 5, _, h => exact sw_6_5 j hj h
  | 6, _, h => exact sw_6_6 j hj h
  | 7, _, h => exact sw_6_7 j hj h
  | 8, _, h => exact sw_6_8 j hj h
  | 9, _, h => exact sw_6_9 j hj h
  | 10, _, h => exact sw_6_10 j hj h
  | n + 11, h, _ => omega
theorem sw_6 : ∀ i, i < 11 → ∀ j, j < 11 → i ≠ j → Cond.not (Cond.eq (tmS i) (tmS j)) ∈ fgn ∨ Cond.not (Cond.eq (tmS j) (tmS i)) ∈ fgn := fun i hi j hj hij => (Nat.lt_or_gt_of_ne (show rkS i ≠ rkS j by unfold rkS; omega)).imp (sw_6l i j hi hj) (sw_6l j i hj hi)
theorem st_SW {b : Nat} {s : State} (hts : ∀ w ∈ lw_tbl, w.before #[Value.ref b] s = true) (hgv : (Jvm.Cond.and given_1 narrow_1).before #[Value.ref b] s = true) : ∃ G : Sg, SW G (fun q => s.heap.size ≤ q) s s.heap := by
  have hg := flat_of_before _ hgv
  have hA : ∀ a : Nat, a < s.heap.size → ¬ (fun q => s.heap.size ≤ q) a := fun a h => Nat.not_le.mpr h
  obtain ⟨aK, aV, hS, eS⟩ := vk_Sof (N := 11) (tm := tmS) (len := lenS) (byt := bytS) (by decide) (fun i hi => hg _ (sw_1 i hi)) (fun i hi => hg _ (sw_2 i hi)) (fun i hi => hg _ (sw_3 i hi)) (fun i hi => hg _ (sw_4 i hi)) (fun i hi j hj => hg _ (sw_5 i hi j hj)) (fun i j hi hj hij => (sw_6 i hi j hj hij).imp (hg _) (hg _)) hA
  have h0 : ∀ i : Nat, ∃ t : Nat, i < 8 → (tmN i).eval #[Value.ref b] s none [] s = some (.ref t) := fun i => by
    by_cases hi : i < 8
    · obtain ⟨a, _, _, _, q1, -⟩ := Cond.exactly_spec (hg _ (sw_7 i hi))
      exact ⟨a, fun _ => q1⟩
    · exact ⟨0, fun h => absurd h hi⟩
  obtain ⟨nA, eN⟩ := Classical.axiomOfChoice h0
  obtain ⟨g1, e1, T1⟩ := va_Tof (tm := .static RX9 "SHEET_ROWS" "[I") (ty := .int) (N := 4) (f := fun j => .int (([0, 1, 3, 4] : List Int32).getD j 0)) (by decide) (hg _ (by decide +kernel)) (va_eqt (hg (.eq (.length (.static RX9 "SHEET_ROWS" "[I")) (.int 4)) (by decide +kernel))) (fun j hj => va_eqt (hg _ (sw_11 j hj))) hA
  obtain ⟨g2, e2, T2⟩ := va_Tof (tm := .static RX2 "ALL" "[LStairShop$Name;") (ty := .object RX2) (N := 8) (f := fun j => .ref (nA j)) (by decide) (hg _ (by decide +kernel)) (va_eqt (hg (.eq (.length (.static RX2 "ALL" "[LStairShop$Name;")) (.int 8)) (by decide +kernel))) (fun j hj => va_eqv (hg _ (sw_10 j hj)) (eN j hj)) hA
  refine ⟨(g1, g2, nA, aK, aV), ⟨va_Zof (hts _ (by decide +kernel)) (hts _ (by decide +kernel)) e1 hA, T1⟩, ⟨va_Zof (hts _ (by decide +kernel)) (hts _ (by decide +kernel)) e2 hA, T2⟩, fun i hi => ⟨vk_OFof (eN i hi) (va_eqt (hg _ (sw_8 i hi))) hA, vk_OFof (eN i hi) (va_eqv (hg _ (sw_9 i hi)) (eS i (by omega))) hA⟩, hS, va_Zof (hts _ (by decide +kernel)) (hts _ (by decide +kernel)) (va_eqt (hg (.eq (.static "java/lang/String" "COMPACT_STRINGS" "Z") (.int 1)) (by decide +kernel))) hA, va_Zqof (hts _ (by decide +kernel)) (hts _ (by decide +kernel)) (hg _ (by decide +kernel)) hA, ⟨vk_R.of (hts (.stringRef RX5 85 "some") (by decide +kernel)) (eS 8 (by decide)), vk_R.of (hts (.stringRef RX5 90 "all") (by decide +kernel)) (eS 9 (by decide)), vk_R.of (hts (.stringRef RX5 99 "and") (by decide +kernel)) (eS 10 (by decide))⟩, va_Nw.of rfl (hts _ (by decide +kernel)), va_Nw.of rfl (hts _ (by decide +kernel))⟩
