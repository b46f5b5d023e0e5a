theorem dL_law_607 : decode cL_law 607 = .ok (.aload_n 1, 1) := by decide +kernel
theorem dL_law_608 : decode cL_law 608 = .ok (.aload_n 0, 1) := by decide +kernel
theorem dL_law_609 : decode cL_law 609 = .ok (.iload 4, 2) := by decide +kernel
theorem dL_law_611 : decode cL_law 611 = .ok (.iconst 1, 1) := by decide +kernel
theorem dL_law_612 : decode cL_law 612 = .ok (.iadd, 1) := by decide +kernel
theorem dL_law_613 : decode cL_law 613 = .ok (.iaload, 1) := by decide +kernel
theorem dL_law_614 : decode cL_law 614 = .ok (.invokevirtual 71, 3) := by decide +kernel
theorem dL_law_617 : decode cL_law 617 = .ok (.pop, 1) := by decide +kernel
theorem dL_law_618 : decode cL_law 618 = .ok (.aload_n 2, 1) := by decide +kernel
theorem dL_law_619 : decode cL_law 619 = .ok (.aload_n 0, 1) := by decide +kernel
theorem dL_law_620 : decode cL_law 620 = .ok (.iload 4, 2) := by decide +kernel
theorem dL_law_622 : decode cL_law 622 = .ok (.iconst 1, 1) := by decide +kernel
theorem dL_law_623 : decode cL_law 623 = .ok (.iadd, 1) := by decide +kernel
theorem dL_law_624 : decode cL_law 624 = .ok (.iaload, 1) := by decide +kernel
theorem dL_law_625 : decode cL_law 625 = .ok (.invokevirtual 74, 3) := by decide +kernel
theorem dL_law_628 : decode cL_law 628 = .ok (.pop, 1) := by decide +kernel
theorem dL_law_629 : decode cL_law 629 = .ok (.goto 471, 3) := by decide +kernel
set_option maxHeartbeats 4000000 in
set_option maxRecDepth 100000 in
theorem cs_11 {p : Program} {l : Launch} {e : Env} {s : State} {m : MethodId} {below : List Frame} {meth : Method} {c : Code} {D : va_G} {cy : Nat → ClassId} {A : Nat → Prop} {G : Sg} {tx : String} {sa : Nat} {cL : ClassId} {b Ln : Nat} {xs : Nat → Int32} {Q : State → Prop} {ls : Array Slot} (X : LC p l s m meth c D cy A G tx sa cL b Ln xs) {L : List Nat} {τ : Nat → Ro} {E : Ec} {H : Heap} {locs : List Loc} {cells slots : Nat} (S : NowG D cy A s L τ E H locs) {x mm ao : Nat} (J : LI cL L τ E x mm ao) (Jt : TI L τ E mm) {i : Int32} (hi0 : 0 ≤ i.toInt) (hi6 : i.toInt + 6 ≤ Ln) (hl : lv_has ls 7 [(4, .int i), (0, .ref b), (1, .ref x), (2, .ref mm), (3, .ref ao)]) (hc : cells + 5 ≤ 601024) (hs : slots + 262 ≤ 7293034)
    (kk : ∀ (L' : List Nat) (τ' : Nat → Ro) (E' : Ec) (H' : Heap) (locs' : List Loc) (ls' : Array Slot), NowG D cy A s L' τ' E' H' locs' → LI cL L' τ' E' x mm ao → TI L' τ' E' mm → lv_has ls' 7 [(4, .int i), (0, .ref b), (1, .ref x), (2, .ref mm), (3, .ref ao)] → W p l e room_1 s m #[Value.ref b] below meth c H' locs' (cells + 5) (slots + 262) Q (F0 m 1100 ls' [])) : W p l e room_1 s m #[Value.ref b] below meth c H locs cells slots Q (F0 m 607 ls []) := by
  obtain ⟨C, hK, hN, hA, SZ, TZ, hKL, hX, hbl, hbA, hlt, hLn⟩ := X
  have hx := C.1
  have hb := C.2.1
  have hts := C.2.2.2.2
  have hc0 : cells ≤ room_1.cells := (show cells ≤ 601024 by omega)
  have hs0 : slots ≤ room_1.slots := (show slots ≤ 7293034 by omega)
  have hc5 : cells + 5 ≤ room_1.cells := (show cells + 5 ≤ 601024 by omega)
  have hs5 : slots + 262 ≤ room_1.slots := (show slots + 262 ≤ 7293034 by omega)
  refine lv_aload_n hx hb dL_law_607 rfl (lv_at hl 2 rfl) ?_
  refine lv_aload_n hx hb dL_law_608 rfl (lv_at hl 1 rfl) ?_
  refine lv_iload hx hb dL_law_609 (lv_at hl 0 rfl) ?_
  obtain ⟨v1, ev1, tv1⟩ : ∃ v : Int32, Int32.ofInt (1) = v ∧ v.toInt = 1 := ⟨_, rfl, by decide +kernel⟩
  refine lv_iconst hx hb dL_law_611 ev1 ?_
  refine lv_iadd hx hb dL_law_612 ?_
  refine lv_topi (fun v2 ev2 => ?_)
  have tv2 := nu_add ev2 (by omega) (by omega)
  refine va_sld hx hb hX hbl hbA S.1.2.2 (tr_in (by omega) (by omega)) dL_law_613 ?_
  refine lv_topi (fun v3 ev3 => ?_)
  obtain ⟨qr, hqr, tqr⟩ := ref_of (k := 4) S.2 J.1.1 J.1.2 rfl rfl
  have tqr : τ qr = (7, 0) := tqr
  obtain ⟨qt, hqt, tqt⟩ := ref_of (k := 0) S.2 hqr tqr rfl rfl
  have tqt : τ qt = (32, 0) := tqt
  obtain ⟨qv, hqv, tqv⟩ := ref_of (k := 18) S.2 J.2.1.1 J.2.1.2 rfl rfl
  have tqv : τ qv = (72, 0) := tqv
  have jt := Jt.1 qr hqr tqr qt hqt tqt qv hqv tqv
  have h20_ : 0 ≤ (fi E mm 20).toInt := (fi_rng (k := 20) S.2 J.2.1.1 J.2.1.2 rfl rfl).1
  refine tc_Lvi C hK hN hA SZ S J.1.1 J.1.2 rfl rfl (k_X9_law_vw l D cy S.2 J.1.1 J.1.2 v3 hqr tqr hqt tqt J.2.2.2.2.2) (cwV 1 hts gL_law_X9_law rfl rfl rfl (by decide +kernel) ⟨Nat.le_of_ble_eq_true rfl, Nat.le_of_ble_eq_true rfl⟩) rfl hl.1 rfl (Nat.le_of_ble_eq_true rfl) dL_law_614 ⟨hc5, hs5⟩ (fun r4 L4 T4 E4 H4 k4 S4 g4 p4 => ?_)
  have J4 : LI cL L4 T4 E4 x mm ao := LI.grow J g4 p4.1 rfl rfl rfl rfl rfl rfl rfl rfl
  have m20 := fi_cell (k := 20) (g4.2.2.1 mm J.2.1.1 (ne_ro J.2.1.2 J.1.2 (by decide)) (by rw [J.2.1.2]; rfl))
  have m5 := fi_cell (k := 5) (g4.2.2.1 mm J.2.1.1 (ne_ro J.2.1.2 J.1.2 (by decide)) (by rw [J.2.1.2]; rfl))
  have jv := ai_cell (g4.2.2.1 qv hqv (ne_ro tqv J.1.2 (by decide)) (by rw [tqv]; rfl))
  have P4 : _ ∨ _ := p4.2.2
  have tqr : T4 qr = (7, 0) := (g4.2.1 qr hqr (ne_ro tqr J.1.2 (by decide))).trans tqr
  have hqr : qr ∈ L4 := g4.1 _ hqr
  have tqt : T4 qt = (32, 0) := (g4.2.1 qt hqt (ne_ro tqt J.1.2 (by decide))).trans tqt
  have hqt : qt ∈ L4 := g4.1 _ hqt
  have tqv : T4 qv = (72, 0) := (g4.2.1 qv hqv (ne_ro tqv J.1.2 (by decide))).trans tqv
  have hqv : qv ∈ L4 := g4.1 _ hqv
  refine lv_pop hx hb dL_law_617 rfl ?_
  refine lv_aload_n hx hb dL_law_618 rfl (lv_at hl 3 rfl) ?_
  refine lv_aload_n hx hb dL_law_619 rfl (lv_at hl 1 rfl) ?_
  refine lv_iload hx hb dL_law_620 (lv_at hl 0 rfl) ?_
  obtain ⟨v5, ev5, tv5⟩ : ∃ v : Int32, Int32.ofInt (1) = v ∧ v.toInt = 1 := ⟨_, rfl, by decide +kernel⟩
  refine lv_iconst hx hb dL_law_622 ev5 ?_
  refine lv_iadd hx hb dL_law_623 ?_
  refine lv_topi (fun v6 ev6 => ?_)
  have tv6 := nu_add ev6 (by omega) (by omega)
  refine va_sld hx hb hX hbl hbA S4.1.2.2 (tr_in (by omega) (by omega)) dL_law_624 ?_
  refine lv_topi (fun v7 ev7 => ?_)
  refine tc_vi C hK hN hA S4.1 S4.2 J4.2.1.1 J4.2.1.2 rfl rfl (k_X10_law_vw l D cy S4.2 J4.2.1.1 J4.2.1.2 v7 hqv tqv J4.2.2.2.1 J4.2.2.2.2.1) (cwV 1 hts gL_law_X10_law rfl rfl rfl (by decide +kernel) ⟨Nat.le_of_ble_eq_true rfl, Nat.le_of_ble_eq_true rfl⟩) rfl hl.1 rfl (Nat.le_of_ble_eq_true rfl) dL_law_625 ⟨hc5, hs5⟩ (fun r8 E8 H8 k8 W8 I8 F8 p8 => ?_)
  have S8 : NowG D cy A s L4 T4 E8 H8 k8 := ⟨W8, I8⟩
  have J8 : LI cL L4 T4 E8 x mm ao := LI.ref J4 F8 p8.2.2.1 p8.2.2.2 rfl
  have P8 := p8.1
  have et_0 : v3 = v7 := by rw [ev3, ev7, (fa_eq _ _).mpr (show v2.toInt = v6.toInt by omega)]
  rw [← et_0] at P8
  have b1 := fi_cell (k := 1) (F8 qr hqr (by rw [tqr]; rfl))
  have b4 := fi_cell (k := 4) (F8 qr hqr (by rw [tqr]; rfl))
  have b5 := fi_cell (k := 5) (F8 qr hqr (by rw [tqr]; rfl))
  have b9 := fi_cell (k := 9) (F8 x J4.1.1 (by rw [J4.1.2]; rfl))
  have jq := ai_cell (F8 qt hqt (by rw [tqt]; rfl))
  have jn := TT.law jt m20 m5 jv b1 b4 jq (P4.imp (fun h => ⟨h.1, h.2.1, h.2.2.1, h.2.2.2.1⟩) (fun h => ⟨h.1, h.2.1, h.2.2.1, h.2.2.2.1⟩)) (P8.imp (fun h => ⟨h.1, h.2.1, h.2.2.1, h.2.2.2.1⟩) (fun h => ⟨h.1, h.2.1, h.2.2.1, h.2.2.2.1⟩))
  have jn2 := TW.law jt m20 jv b5 b9 P4 P8
  have Jt8 : TI L4 T4 E8 mm := TI.both S8.2 J4.1.1 J4.1.2 hqr tqr hqt tqt hqv tqv jn jn2
  refine lv_pop hx hb dL_law_628 rfl ?_
  refine lv_goto (tgt := 1100) hx hb dL_law_629 (by decide) ?_
  exact kk L4 T4 E8 H8 k8 ls S8 J8 Jt8 hl
