theorem dL_law_534 : decode cL_law 534 = .ok (.aload_n 1, 1) := by decide +kernel
theorem dL_law_535 : decode cL_law 535 = .ok (.aload_n 0, 1) := by decide +kernel
theorem dL_law_536 : decode cL_law 536 = .ok (.iload 4, 2) := by decide +kernel
theorem dL_law_538 : decode cL_law 538 = .ok (.iconst 1, 1) := by decide +kernel
theorem dL_law_539 : decode cL_law 539 = .ok (.iadd, 1) := by decide +kernel
theorem dL_law_540 : decode cL_law 540 = .ok (.iaload, 1) := by decide +kernel
theorem dL_law_541 : decode cL_law 541 = .ok (.aload_n 0, 1) := by decide +kernel
theorem dL_law_542 : decode cL_law 542 = .ok (.iload 4, 2) := by decide +kernel
theorem dL_law_544 : decode cL_law 544 = .ok (.iconst 2, 1) := by decide +kernel
theorem dL_law_545 : decode cL_law 545 = .ok (.iadd, 1) := by decide +kernel
theorem dL_law_546 : decode cL_law 546 = .ok (.iaload, 1) := by decide +kernel
theorem dL_law_547 : decode cL_law 547 = .ok (.aload_n 0, 1) := by decide +kernel
theorem dL_law_548 : decode cL_law 548 = .ok (.iload 4, 2) := by decide +kernel
theorem dL_law_550 : decode cL_law 550 = .ok (.iconst 3, 1) := by decide +kernel
theorem dL_law_551 : decode cL_law 551 = .ok (.iadd, 1) := by decide +kernel
theorem dL_law_552 : decode cL_law 552 = .ok (.iaload, 1) := by decide +kernel
theorem dL_law_553 : decode cL_law 553 = .ok (.aload_n 0, 1) := by decide +kernel
theorem dL_law_554 : decode cL_law 554 = .ok (.iload 4, 2) := by decide +kernel
theorem dL_law_556 : decode cL_law 556 = .ok (.iconst 4, 1) := by decide +kernel
theorem dL_law_557 : decode cL_law 557 = .ok (.iadd, 1) := by decide +kernel
theorem dL_law_558 : decode cL_law 558 = .ok (.iaload, 1) := by decide +kernel
theorem dL_law_559 : decode cL_law 559 = .ok (.aload_n 0, 1) := by decide +kernel
theorem dL_law_560 : decode cL_law 560 = .ok (.iload 4, 2) := by decide +kernel
theorem dL_law_562 : decode cL_law 562 = .ok (.iconst 5, 1) := by decide +kernel
theorem dL_law_563 : decode cL_law 563 = .ok (.iadd, 1) := by decide +kernel
theorem dL_law_564 : decode cL_law 564 = .ok (.iaload, 1) := by decide +kernel
theorem dL_law_565 : decode cL_law 565 = .ok (.invokevirtual 66, 3) := by decide +kernel
theorem dL_law_568 : decode cL_law 568 = .ok (.pop, 1) := by decide +kernel
theorem dL_law_569 : decode cL_law 569 = .ok (.aload_n 2, 1) := by decide +kernel
theorem dL_law_570 : decode cL_law 570 = .ok (.aload_n 0, 1) := by decide +kernel
theorem dL_law_571 : decode cL_law 571 = .ok (.iload 4, 2) := by decide +kernel
theorem dL_law_573 : decode cL_law 573 = .ok (.iconst 1, 1) := by decide +kernel
theorem dL_law_574 : decode cL_law 574 = .ok (.iadd, 1) := by decide +kernel
theorem dL_law_575 : decode cL_law 575 = .ok (.iaload, 1) := by decide +kernel
theorem dL_law_576 : decode cL_law 576 = .ok (.aload_n 0, 1) := by decide +kernel
theorem dL_law_577 : decode cL_law 577 = .ok (.iload 4, 2) := by decide +kernel
theorem dL_law_579 : decode cL_law 579 = .ok (.iconst 2, 1) := by decide +kernel
theorem dL_law_580 : decode cL_law 580 = .ok (.iadd, 1) := by decide +kernel
theorem dL_law_581 : decode cL_law 581 = .ok (.iaload, 1) := by decide +kernel
theorem dL_law_582 : decode cL_law 582 = .ok (.aload_n 0, 1) := by decide +kernel
theorem dL_law_583 : decode cL_law 583 = .ok (.iload 4, 2) := by decide +kernel
theorem dL_law_585 : decode cL_law 585 = .ok (.iconst 3, 1) := by decide +kernel
theorem dL_law_586 : decode cL_law 586 = .ok (.iadd, 1) := by decide +kernel
theorem dL_law_587 : decode cL_law 587 = .ok (.iaload, 1) := by decide +kernel
theorem dL_law_588 : decode cL_law 588 = .ok (.aload_n 0, 1) := by decide +kernel
theorem dL_law_589 : decode cL_law 589 = .ok (.iload 4, 2) := by decide +kernel
theorem dL_law_591 : decode cL_law 591 = .ok (.iconst 4, 1) := by decide +kernel
theorem dL_law_592 : decode cL_law 592 = .ok (.iadd, 1) := by decide +kernel
theorem dL_law_593 : decode cL_law 593 = .ok (.iaload, 1) := by decide +kernel
theorem dL_law_594 : decode cL_law 594 = .ok (.aload_n 0, 1) := by decide +kernel
theorem dL_law_595 : decode cL_law 595 = .ok (.iload 4, 2) := by decide +kernel
theorem dL_law_597 : decode cL_law 597 = .ok (.iconst 5, 1) := by decide +kernel
theorem dL_law_598 : decode cL_law 598 = .ok (.iadd, 1) := by decide +kernel
theorem dL_law_599 : decode cL_law 599 = .ok (.iaload, 1) := by decide +kernel
theorem dL_law_600 : decode cL_law 600 = .ok (.invokevirtual 70, 3) := by decide +kernel
theorem dL_law_603 : decode cL_law 603 = .ok (.pop, 1) := by decide +kernel
theorem dL_law_604 : decode cL_law 604 = .ok (.goto 496, 3) := by decide +kernel
set_option maxRecDepth 100000 in
theorem ggL_law_X9_feed : GoodIn wsL_law wsX9_feed := goodIn_r _ [418, 32, 419, 420, 421, 422, 31, 423, 102, 424, 425, 426, 427, 101, 998, 999, 1000, 1001, 1002, 1003, 1004, 1005, 1006, 1007, 1008, 1085, 1086, 1087, 1088, 1089, 1090, 1091, 1092, 1093, 1094, 1095, 1096, 1097, 1098] rfl (by decide +kernel)
set_option maxRecDepth 100000 in
theorem gL_law_X9_feed : GoodIn wsL_law (wsV RL 66 RX9 yX9_feed wsX9_feed) := goodIn_app (goodIn_of _ (by decide +kernel)) ggL_law_X9_feed
set_option maxRecDepth 100000 in
theorem ggL_law_X10_feed : GoodIn wsL_law wsX10_feed := goodIn_r _ [431, 216, 432, 157, 1009, 1010, 1011, 1012, 1013, 1014, 1015, 1016, 1017, 1018, 1019, 1020, 1021, 1022, 1023, 1024, 1025, 1026, 1027, 1028, 1029, 1030, 1031, 1032, 1033, 1034, 1035, 1036, 1037, 1038, 1039, 1040, 1041, 1042, 1043, 1044, 1045, 1046, 1047, 1048, 1049, 1050, 1051, 1052, 1053, 1054, 1055, 1056] rfl (by decide +kernel)
set_option maxRecDepth 100000 in
theorem gL_law_X10_feed : GoodIn wsL_law (wsV RL 70 RX10 yX10_feed wsX10_feed) := goodIn_app (goodIn_of _ (by decide +kernel)) ggL_law_X10_feed
set_option maxHeartbeats 4000000 in
set_option maxRecDepth 100000 in
theorem cs_10 {p : Program} {l : Launch} {e : Env} {s : State} {m : MethodId} {below : List Frame} {meth : Method} {c : Code} {D : va_G} {cy : Nat → ClassId} {A : Nat → Prop} {G : Sg} {tx : String} {sa : Nat} {cL : ClassId} {b Ln : Nat} {xs : Nat → Int32} {Q : State → Prop} {ls : Array Slot} (X : LC p l s m meth c D cy A G tx sa cL b Ln xs) {L : List Nat} {τ : Nat → Ro} {E : Ec} {H : Heap} {locs : List Loc} {cells slots : Nat} (S : NowG D cy A s L τ E H locs) {x mm ao : Nat} (J : LI cL L τ E x mm ao) (Jt : TI L τ E mm) {i : Int32} (hi0 : 0 ≤ i.toInt) (hi6 : i.toInt + 6 ≤ Ln) (hl : lv_has ls 7 [(4, .int i), (0, .ref b), (1, .ref x), (2, .ref mm), (3, .ref ao)]) (hc : cells + 5 ≤ 601024) (hs : slots + 262 ≤ 7293034)
    (kk : ∀ (L' : List Nat) (τ' : Nat → Ro) (E' : Ec) (H' : Heap) (locs' : List Loc) (ls' : Array Slot), NowG D cy A s L' τ' E' H' locs' → LI cL L' τ' E' x mm ao → TI L' τ' E' mm → lv_has ls' 7 [(4, .int i), (0, .ref b), (1, .ref x), (2, .ref mm), (3, .ref ao)] → W p l e room_1 s m #[Value.ref b] below meth c H' locs' (cells + 5) (slots + 262) Q (F0 m 1100 ls' [])) : W p l e room_1 s m #[Value.ref b] below meth c H locs cells slots Q (F0 m 534 ls []) := by
  obtain ⟨C, hK, hN, hA, SZ, TZ, hKL, hX, hbl, hbA, hlt, hLn⟩ := X
  have hx := C.1
  have hb := C.2.1
  have hts := C.2.2.2.2
  have hc0 : cells ≤ room_1.cells := (show cells ≤ 601024 by omega)
  have hs0 : slots ≤ room_1.slots := (show slots ≤ 7293034 by omega)
  have hc5 : cells + 5 ≤ room_1.cells := (show cells + 5 ≤ 601024 by omega)
  have hs5 : slots + 262 ≤ room_1.slots := (show slots + 262 ≤ 7293034 by omega)
  refine lv_aload_n hx hb dL_law_534 rfl (lv_at hl 2 rfl) ?_
  refine lv_aload_n hx hb dL_law_535 rfl (lv_at hl 1 rfl) ?_
  refine lv_iload hx hb dL_law_536 (lv_at hl 0 rfl) ?_
  obtain ⟨v1, ev1, tv1⟩ : ∃ v : Int32, Int32.ofInt (1) = v ∧ v.toInt = 1 := ⟨_, rfl, by decide +kernel⟩
  refine lv_iconst hx hb dL_law_538 ev1 ?_
  refine lv_iadd hx hb dL_law_539 ?_
  refine lv_topi (fun v2 ev2 => ?_)
  have tv2 := nu_add ev2 (by omega) (by omega)
  refine va_sld hx hb hX hbl hbA S.1.2.2 (tr_in (by omega) (by omega)) dL_law_540 ?_
  refine lv_topi (fun v3 ev3 => ?_)
  refine lv_aload_n hx hb dL_law_541 rfl (lv_at hl 1 rfl) ?_
  refine lv_iload hx hb dL_law_542 (lv_at hl 0 rfl) ?_
  obtain ⟨v4, ev4, tv4⟩ : ∃ v : Int32, Int32.ofInt (2) = v ∧ v.toInt = 2 := ⟨_, rfl, by decide +kernel⟩
  refine lv_iconst hx hb dL_law_544 ev4 ?_
  refine lv_iadd hx hb dL_law_545 ?_
  refine lv_topi (fun v5 ev5 => ?_)
  have tv5 := nu_add ev5 (by omega) (by omega)
  refine va_sld hx hb hX hbl hbA S.1.2.2 (tr_in (by omega) (by omega)) dL_law_546 ?_
  refine lv_topi (fun v6 ev6 => ?_)
  refine lv_aload_n hx hb dL_law_547 rfl (lv_at hl 1 rfl) ?_
  refine lv_iload hx hb dL_law_548 (lv_at hl 0 rfl) ?_
  obtain ⟨v7, ev7, tv7⟩ : ∃ v : Int32, Int32.ofInt (3) = v ∧ v.toInt = 3 := ⟨_, rfl, by decide +kernel⟩
  refine lv_iconst hx hb dL_law_550 ev7 ?_
  refine lv_iadd hx hb dL_law_551 ?_
  refine lv_topi (fun v8 ev8 => ?_)
  have tv8 := nu_add ev8 (by omega) (by omega)
  refine va_sld hx hb hX hbl hbA S.1.2.2 (tr_in (by omega) (by omega)) dL_law_552 ?_
  refine lv_topi (fun v9 ev9 => ?_)
  refine lv_aload_n hx hb dL_law_553 rfl (lv_at hl 1 rfl) ?_
  refine lv_iload hx hb dL_law_554 (lv_at hl 0 rfl) ?_
  obtain ⟨v10, ev10, tv10⟩ : ∃ v : Int32, Int32.ofInt (4) = v ∧ v.toInt = 4 := ⟨_, rfl, by decide +kernel⟩
  refine lv_iconst hx hb dL_law_556 ev10 ?_
  refine lv_iadd hx hb dL_law_557 ?_
  refine lv_topi (fun v11 ev11 => ?_)
  have tv11 := nu_add ev11 (by omega) (by omega)
  refine va_sld hx hb hX hbl hbA S.1.2.2 (tr_in (by omega) (by omega)) dL_law_558 ?_
  refine lv_topi (fun v12 ev12 => ?_)
  refine lv_aload_n hx hb dL_law_559 rfl (lv_at hl 1 rfl) ?_
  refine lv_iload hx hb dL_law_560 (lv_at hl 0 rfl) ?_
  obtain ⟨v13, ev13, tv13⟩ : ∃ v : Int32, Int32.ofInt (5) = v ∧ v.toInt = 5 := ⟨_, rfl, by decide +kernel⟩
  refine lv_iconst hx hb dL_law_562 ev13 ?_
  refine lv_iadd hx hb dL_law_563 ?_
  refine lv_topi (fun v14 ev14 => ?_)
  have tv14 := nu_add ev14 (by omega) (by omega)
  refine va_sld hx hb hX hbl hbA S.1.2.2 (tr_in (by omega) (by omega)) dL_law_564 ?_
  refine lv_topi (fun v15 ev15 => ?_)
  obtain ⟨qr, hqr, tqr⟩ := ref_of (k := 4) S.2 J.1.1 J.1.2 rfl rfl
  have tqr : τ qr = (7, 0) := tqr
  obtain ⟨qt, hqt, tqt⟩ := ref_of (k := 0) S.2 hqr tqr rfl rfl
  have tqt : τ qt = (32, 0) := tqt
  obtain ⟨qv, hqv, tqv⟩ := ref_of (k := 18) S.2 J.2.1.1 J.2.1.2 rfl rfl
  have tqv : τ qv = (72, 0) := tqv
  have jt := Jt.1 qr hqr tqr qt hqt tqt qv hqv tqv
  have h20_ : 0 ≤ (fi E mm 20).toInt := (fi_rng (k := 20) S.2 J.2.1.1 J.2.1.2 rfl rfl).1
  refine tc_vi C hK hN hA S.1 S.2 J.1.1 J.1.2 rfl rfl (k_X9_feed_vr l D cy S.2 J.1.1 J.1.2 v3 v6 v9 v12 v15 hqr tqr hqt tqt) (cwV 5 hts gL_law_X9_feed rfl rfl rfl (by decide +kernel) ⟨Nat.le_of_ble_eq_true rfl, Nat.le_of_ble_eq_true rfl⟩) rfl hl.1 rfl (Nat.le_of_ble_eq_true rfl) dL_law_565 ⟨hc0, hs0⟩ (fun r16 E16 H16 k16 W16 I16 F16 p16 => ?_)
  have S16 : NowG D cy A s L τ E16 H16 k16 := ⟨W16, I16⟩
  have J16 : LI cL L τ E16 x mm ao := LI.cls J S.2 I16 F16 rfl rfl rfl rfl rfl rfl rfl rfl
  have P16 := p16.1
  have p4_ := (p16.2).1
  have p5q := (p16.2).2
  have m20 := fi_cell (k := 20) (F16 mm J.2.1.1 (by rw [J.2.1.2]; rfl))
  have m5 := fi_cell (k := 5) (F16 mm J.2.1.1 (by rw [J.2.1.2]; rfl))
  have m3 := fi_cell (k := 3) (F16 mm J.2.1.1 (by rw [J.2.1.2]; rfl))
  have m6 := fi_cell (k := 6) (F16 mm J.2.1.1 (by rw [J.2.1.2]; rfl))
  have jv := ai_cell (F16 qv hqv (by rw [tqv]; rfl))
  have x9_ := fi_cell (k := 9) (F16 x J.1.1 (by rw [J.1.2]; rfl))
  have jw := Jt.2 x J.1.1 J.1.2 qr hqr tqr
  refine lv_pop hx hb dL_law_568 rfl ?_
  refine lv_aload_n hx hb dL_law_569 rfl (lv_at hl 3 rfl) ?_
  refine lv_aload_n hx hb dL_law_570 rfl (lv_at hl 1 rfl) ?_
  refine lv_iload hx hb dL_law_571 (lv_at hl 0 rfl) ?_
  obtain ⟨v17, ev17, tv17⟩ : ∃ v : Int32, Int32.ofInt (1) = v ∧ v.toInt = 1 := ⟨_, rfl, by decide +kernel⟩
  refine lv_iconst hx hb dL_law_573 ev17 ?_
  refine lv_iadd hx hb dL_law_574 ?_
  refine lv_topi (fun v18 ev18 => ?_)
  have tv18 := nu_add ev18 (by omega) (by omega)
  refine va_sld hx hb hX hbl hbA S16.1.2.2 (tr_in (by omega) (by omega)) dL_law_575 ?_
  refine lv_topi (fun v19 ev19 => ?_)
  refine lv_aload_n hx hb dL_law_576 rfl (lv_at hl 1 rfl) ?_
  refine lv_iload hx hb dL_law_577 (lv_at hl 0 rfl) ?_
  obtain ⟨v20, ev20, tv20⟩ : ∃ v : Int32, Int32.ofInt (2) = v ∧ v.toInt = 2 := ⟨_, rfl, by decide +kernel⟩
  refine lv_iconst hx hb dL_law_579 ev20 ?_
  refine lv_iadd hx hb dL_law_580 ?_
  refine lv_topi (fun v21 ev21 => ?_)
  have tv21 := nu_add ev21 (by omega) (by omega)
  refine va_sld hx hb hX hbl hbA S16.1.2.2 (tr_in (by omega) (by omega)) dL_law_581 ?_
  refine lv_topi (fun v22 ev22 => ?_)
  refine lv_aload_n hx hb dL_law_582 rfl (lv_at hl 1 rfl) ?_
  refine lv_iload hx hb dL_law_583 (lv_at hl 0 rfl) ?_
  obtain ⟨v23, ev23, tv23⟩ : ∃ v : Int32, Int32.ofInt (3) = v ∧ v.toInt = 3 := ⟨_, rfl, by decide +kernel⟩
  refine lv_iconst hx hb dL_law_585 ev23 ?_
  refine lv_iadd hx hb dL_law_586 ?_
  refine lv_topi (fun v24 ev24 => ?_)
  have tv24 := nu_add ev24 (by omega) (by omega)
  refine va_sld hx hb hX hbl hbA S16.1.2.2 (tr_in (by omega) (by omega)) dL_law_587 ?_
  refine lv_topi (fun v25 ev25 => ?_)
  refine lv_aload_n hx hb dL_law_588 rfl (lv_at hl 1 rfl) ?_
  refine lv_iload hx hb dL_law_589 (lv_at hl 0 rfl) ?_
  obtain ⟨v26, ev26, tv26⟩ : ∃ v : Int32, Int32.ofInt (4) = v ∧ v.toInt = 4 := ⟨_, rfl, by decide +kernel⟩
  refine lv_iconst hx hb dL_law_591 ev26 ?_
  refine lv_iadd hx hb dL_law_592 ?_
  refine lv_topi (fun v27 ev27 => ?_)
  have tv27 := nu_add ev27 (by omega) (by omega)
  refine va_sld hx hb hX hbl hbA S16.1.2.2 (tr_in (by omega) (by omega)) dL_law_593 ?_
  refine lv_topi (fun v28 ev28 => ?_)
  refine lv_aload_n hx hb dL_law_594 rfl (lv_at hl 1 rfl) ?_
  refine lv_iload hx hb dL_law_595 (lv_at hl 0 rfl) ?_
  obtain ⟨v29, ev29, tv29⟩ : ∃ v : Int32, Int32.ofInt (5) = v ∧ v.toInt = 5 := ⟨_, rfl, by decide +kernel⟩
  refine lv_iconst hx hb dL_law_597 ev29 ?_
  refine lv_iadd hx hb dL_law_598 ?_
  refine lv_topi (fun v30 ev30 => ?_)
  have tv30 := nu_add ev30 (by omega) (by omega)
  refine va_sld hx hb hX hbl hbA S16.1.2.2 (tr_in (by omega) (by omega)) dL_law_599 ?_
  refine lv_topi (fun v31 ev31 => ?_)
  refine tc_vi C hK hN hA S16.1 S16.2 J16.2.1.1 J16.2.1.2 rfl rfl (k_X10_feed_vr l D cy S16.2 J16.2.1.1 J16.2.1.2 v19 v22 v25 v28 v31 hqv tqv) (cwV 5 hts gL_law_X10_feed rfl rfl rfl (by decide +kernel) ⟨Nat.le_of_ble_eq_true rfl, Nat.le_of_ble_eq_true rfl⟩) rfl hl.1 rfl (Nat.le_of_ble_eq_true rfl) dL_law_600 ⟨hc0, hs0⟩ (fun r32 E32 H32 k32 W32 I32 F32 p32 => ?_)
  have S32 : NowG D cy A s L τ E32 H32 k32 := ⟨W32, I32⟩
  have J32 : LI cL L τ E32 x mm ao := LI.ref J16 F32 (J16.2.2.2.1.fw S16.2 I32 J16.2.1.1 J16.2.1.2 F32 rfl rfl (p32.2 2 (by decide))) (SlotOK.fr F32 rfl rfl rfl rfl J16.2.2.2.2.1) rfl
  have P32 := p32.1
  have et_0 : v3 = v19 := by rw [ev3, ev19, (fa_eq _ _).mpr (show v2.toInt = v18.toInt by omega)]
  have et_1 : v6 = v22 := by rw [ev6, ev22, (fa_eq _ _).mpr (show v5.toInt = v21.toInt by omega)]
  have et_2 : v9 = v25 := by rw [ev9, ev25, (fa_eq _ _).mpr (show v8.toInt = v24.toInt by omega)]
  have et_3 : v12 = v28 := by rw [ev12, ev28, (fa_eq _ _).mpr (show v11.toInt = v27.toInt by omega)]
  have et_4 : v15 = v31 := by rw [ev15, ev31, (fa_eq _ _).mpr (show v14.toInt = v30.toInt by omega)]
  rw [← et_0, ← et_1, ← et_2, ← et_3, ← et_4] at P32
  have b1 := fi_cell (k := 1) (F32 qr hqr (by rw [tqr]; rfl))
  have b4 := fi_cell (k := 4) (F32 qr hqr (by rw [tqr]; rfl))
  have b5 := fi_cell (k := 5) (F32 qr hqr (by rw [tqr]; rfl))
  have b9 := fi_cell (k := 9) (F32 x J16.1.1 (by rw [J16.1.2]; rfl))
  have jq := ai_cell (F32 qt hqt (by rw [tqt]; rfl))
  have p5_ := p32.2 5 (by decide)
  have jn := (TT.feed jt m20 m5 jv b1 b4 jq p4_ p5_ P16 P32 h20_).2
  have jn2 : TW E32 mm x qr := jw.same (b9.trans x9_) (b5.trans p5q) ((p32.2 3 (by decide)).trans m3) ((p32.2 6 (by decide)).trans m6)
  have Jt32 : TI L τ E32 mm := TI.both S32.2 J16.1.1 J16.1.2 hqr tqr hqt tqt hqv tqv jn jn2
  refine lv_pop hx hb dL_law_603 rfl ?_
  refine lv_goto (tgt := 1100) hx hb dL_law_604 (by decide) ?_
  refine W.widen (k := cells + 5) (n := slots + 262) (by omega) (by omega) ?_
  exact kk L τ E32 H32 k32 ls S32 J32 Jt32 hl
