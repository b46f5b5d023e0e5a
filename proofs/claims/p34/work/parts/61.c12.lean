theorem dL_law_632 : decode cL_law 632 = .ok (.aload_n 1, 1) := by decide +kernel
theorem dL_law_633 : decode cL_law 633 = .ok (.invokevirtual 75, 3) := by decide +kernel
theorem dL_law_636 : decode cL_law 636 = .ok (.pop, 1) := by decide +kernel
theorem dL_law_637 : decode cL_law 637 = .ok (.aload_n 2, 1) := by decide +kernel
theorem dL_law_638 : decode cL_law 638 = .ok (.invokevirtual 78, 3) := by decide +kernel
theorem dL_law_641 : decode cL_law 641 = .ok (.pop, 1) := by decide +kernel
theorem dL_law_642 : decode cL_law 642 = .ok (.goto 458, 3) := by decide +kernel
set_option maxRecDepth 100000 in
theorem ggL_law_X9_fault : GoodIn wsL_law wsX9_fault := goodIn_r _ [657, 32, 658, 998, 999, 1000, 1001, 1002, 1003, 1004, 1005, 1006, 1007, 1008, 1085, 1086, 1087, 1088, 1089, 1090, 1091, 1092, 1093, 1094, 1095, 1096, 1097, 1098] rfl (by decide +kernel)
set_option maxRecDepth 100000 in
theorem gL_law_X9_fault : GoodIn wsL_law (wsV RL 75 RX9 yX9_fault wsX9_fault) := goodIn_app (goodIn_of _ (by decide +kernel)) ggL_law_X9_fault
set_option maxRecDepth 100000 in
theorem ggL_law_X10_fault : GoodIn wsL_law wsX10_fault := goodIn_r _ [662, 216, 594, 1009, 1010, 1011, 1012, 1013, 1014, 1015, 1016, 1017, 1018, 1019, 1020, 1021, 1022, 1023, 1024, 1025, 1026, 1027, 1028, 1029, 1030, 1031, 1032, 1033, 1034, 1035, 1036, 1037, 1038, 1039, 1040, 1041, 1042, 1043, 1044, 1045, 1046, 1047, 1048, 1049, 1050, 1051, 1052, 1053, 1054, 1055, 1056] rfl (by decide +kernel)
set_option maxRecDepth 100000 in
theorem gL_law_X10_fault : GoodIn wsL_law (wsV RL 78 RX10 yX10_fault wsX10_fault) := goodIn_app (goodIn_of _ (by decide +kernel)) ggL_law_X10_fault
set_option maxHeartbeats 4000000 in
set_option maxRecDepth 100000 in
theorem cs_12 {p : Program} {l : Launch} {e : Env} {s : State} {m : MethodId} {below : List Frame} {meth : Method} {c : Code} {D : va_G} {cy : Nat → ClassId} {A : Nat → Prop} {G : Sg} {tx : String} {sa : Nat} {cL : ClassId} {b Ln : Nat} {xs : Nat → Int32} {Q : State → Prop} {ls : Array Slot} (X : LC p l s m meth c D cy A G tx sa cL b Ln xs) {L : List Nat} {τ : Nat → Ro} {E : Ec} {H : Heap} {locs : List Loc} {cells slots : Nat} (S : NowG D cy A s L τ E H locs) {x mm ao : Nat} (J : LI cL L τ E x mm ao) (Jt : TI L τ E mm) {i : Int32} (hi0 : 0 ≤ i.toInt) (hi6 : i.toInt + 6 ≤ Ln) (hl : lv_has ls 7 [(4, .int i), (0, .ref b), (1, .ref x), (2, .ref mm), (3, .ref ao)]) (hc : cells + 5 ≤ 601024) (hs : slots + 262 ≤ 7293034)
    (kk : ∀ (L' : List Nat) (τ' : Nat → Ro) (E' : Ec) (H' : Heap) (locs' : List Loc) (ls' : Array Slot), NowG D cy A s L' τ' E' H' locs' → LI cL L' τ' E' x mm ao → TI L' τ' E' mm → lv_has ls' 7 [(4, .int i), (0, .ref b), (1, .ref x), (2, .ref mm), (3, .ref ao)] → W p l e room_1 s m #[Value.ref b] below meth c H' locs' (cells + 5) (slots + 262) Q (F0 m 1100 ls' [])) : W p l e room_1 s m #[Value.ref b] below meth c H locs cells slots Q (F0 m 632 ls []) := by
  obtain ⟨C, hK, hN, hA, SZ, TZ, hKL, hX, hbl, hbA, hlt, hLn⟩ := X
  have hx := C.1
  have hb := C.2.1
  have hts := C.2.2.2.2
  have hc0 : cells ≤ room_1.cells := (show cells ≤ 601024 by omega)
  have hs0 : slots ≤ room_1.slots := (show slots ≤ 7293034 by omega)
  have hc5 : cells + 5 ≤ room_1.cells := (show cells + 5 ≤ 601024 by omega)
  have hs5 : slots + 262 ≤ room_1.slots := (show slots + 262 ≤ 7293034 by omega)
  refine lv_aload_n hx hb dL_law_632 rfl (lv_at hl 2 rfl) ?_
  obtain ⟨qr, hqr, tqr⟩ := ref_of (k := 4) S.2 J.1.1 J.1.2 rfl rfl
  have tqr : τ qr = (7, 0) := tqr
  obtain ⟨qt, hqt, tqt⟩ := ref_of (k := 0) S.2 hqr tqr rfl rfl
  have tqt : τ qt = (32, 0) := tqt
  obtain ⟨qv, hqv, tqv⟩ := ref_of (k := 18) S.2 J.2.1.1 J.2.1.2 rfl rfl
  have tqv : τ qv = (72, 0) := tqv
  have jt := Jt.1 qr hqr tqr qt hqt tqt qv hqv tqv
  have h20_ : 0 ≤ (fi E mm 20).toInt := (fi_rng (k := 20) S.2 J.2.1.1 J.2.1.2 rfl rfl).1
  refine tc_vi C hK hN hA S.1 S.2 J.1.1 J.1.2 rfl rfl (k_X9_fault l D cy S.2 J.1.1 J.1.2 ) (cwV 0 hts gL_law_X9_fault rfl rfl rfl (by decide +kernel) ⟨Nat.le_of_ble_eq_true rfl, Nat.le_of_ble_eq_true rfl⟩) rfl hl.1 rfl (Nat.le_of_ble_eq_true rfl) dL_law_633 ⟨hc0, hs0⟩ (fun r1 E1 H1 k1 W1 I1 F1 p1 => ?_)
  have S1 : NowG D cy A s L τ E1 H1 k1 := ⟨W1, I1⟩
  have J1 : LI cL L τ E1 x mm ao := LI.cls J S.2 I1 F1 rfl rfl rfl rfl rfl rfl rfl rfl
  have Jt1 : TI L τ E1 mm := TI.cL Jt S.2 J.1.1 J.1.2 J.2.1.1 J.2.1.2 F1 rfl rfl rfl rfl (fi_cell (k := 9) (F1 x J.1.1 (by rw [J.1.2]; rfl)))
  refine lv_pop hx hb dL_law_636 rfl ?_
  refine lv_aload_n hx hb dL_law_637 rfl (lv_at hl 3 rfl) ?_
  refine tc_vi C hK hN hA S1.1 S1.2 J1.2.1.1 J1.2.1.2 rfl rfl (k_X10_fault l D cy S1.2 J1.2.1.1 J1.2.1.2 ) (cwV 0 hts gL_law_X10_fault rfl rfl rfl (by decide +kernel) ⟨Nat.le_of_ble_eq_true rfl, Nat.le_of_ble_eq_true rfl⟩) rfl hl.1 rfl (Nat.le_of_ble_eq_true rfl) dL_law_638 ⟨hc0, hs0⟩ (fun r2 E2 H2 k2 W2 I2 F2 p2 => ?_)
  have S2 : NowG D cy A s L τ E2 H2 k2 := ⟨W2, I2⟩
  have J2 : LI cL L τ E2 x mm ao := LI.ref J1 F2 (J1.2.2.2.1.fw S1.2 I2 J1.2.1.1 J1.2.1.2 F2 rfl rfl (p2 2 (by decide))) (SlotOK.fr F2 rfl rfl rfl rfl J1.2.2.2.2.1) rfl
  have Jt2 : TI L τ E2 mm := TI.rL Jt1 F2 rfl rfl rfl rfl (p2 20 (by decide)) (p2 5 (by decide)) (p2 3 (by decide)) (p2 6 (by decide))
  refine lv_pop hx hb dL_law_641 rfl ?_
  refine lv_goto (tgt := 1100) hx hb dL_law_642 (by decide) ?_
  refine W.widen (k := cells + 5) (n := slots + 262) (by omega) (by omega) ?_
  exact kk L τ E2 H2 k2 ls S2 J2 Jt2 hl
