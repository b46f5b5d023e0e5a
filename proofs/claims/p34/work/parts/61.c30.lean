theorem dL_law_1061 : decode cL_law 1061 = .ok (.aload_n 1, 1) := by decide +kernel
theorem dL_law_1062 : decode cL_law 1062 = .ok (.invokevirtual 150, 3) := by decide +kernel
theorem dL_law_1065 : decode cL_law 1065 = .ok (.pop, 1) := by decide +kernel
theorem dL_law_1066 : decode cL_law 1066 = .ok (.aload_n 2, 1) := by decide +kernel
theorem dL_law_1067 : decode cL_law 1067 = .ok (.invokevirtual 153, 3) := by decide +kernel
theorem dL_law_1070 : decode cL_law 1070 = .ok (.pop, 1) := by decide +kernel
theorem dL_law_1071 : decode cL_law 1071 = .ok (.goto 29, 3) := by decide +kernel
set_option maxRecDepth 100000 in
theorem ggL_law_X9_undo : GoodIn wsL_law wsX9_undo := goodIn_r _ [972, 20, 16, 45, 973, 974, 975, 19, 976, 74, 73, 72, 204, 205, 206, 15, 207, 50, 51, 52, 53, 54, 55, 56, 57, 58, 208, 209, 210, 211, 59, 60, 61, 62, 63, 64, 66, 998, 999, 1000, 1001, 1002, 1003, 1004, 1005, 1006, 1007, 1008, 1073, 1074, 1075, 1057, 1058, 1059, 1060, 1061, 1062, 1063, 1064, 1065, 1066, 1067, 1068, 1069, 1070, 1071, 1072] rfl (by decide +kernel)
set_option maxRecDepth 100000 in
theorem gL_law_X9_undo : GoodIn wsL_law (wsV RL 150 RX9 yX9_undo wsX9_undo) := goodIn_app (goodIn_of _ (by decide +kernel)) ggL_law_X9_undo
set_option maxRecDepth 100000 in
theorem ggL_law_X10_undo : GoodIn wsL_law wsX10_undo := goodIn_r _ [980, 216, 230, 144, 145, 1009, 1010, 1011, 1012, 1013, 1014, 1015, 1016, 1017, 1018, 1019, 1020, 1021, 1022, 1023, 1024, 1025, 1026, 1027, 1028, 1029, 1030, 1031, 1032, 1033, 1034, 1035, 1036, 1037, 1038, 1039, 1040, 1041, 1042, 1043, 1044, 1045, 1046, 1047, 1048, 1049, 1050, 1051, 1052, 1053, 1054, 1055, 1056] rfl (by decide +kernel)
set_option maxRecDepth 100000 in
theorem gL_law_X10_undo : GoodIn wsL_law (wsV RL 153 RX10 yX10_undo wsX10_undo) := goodIn_app (goodIn_of _ (by decide +kernel)) ggL_law_X10_undo
set_option maxHeartbeats 4000000 in
set_option maxRecDepth 100000 in
theorem cs_30 {p : Program} {l : Launch} {e : Env} {s : State} {m : MethodId} {below : List Frame} {meth : Method} {c : Code} {D : va_G} {cy : Nat → ClassId} {A : Nat → Prop} {G : Sg} {tx : String} {sa : Nat} {cL : ClassId} {b Ln : Nat} {xs : Nat → Int32} {Q : State → Prop} {ls : Array Slot} (X : LC p l s m meth c D cy A G tx sa cL b Ln xs) {L : List Nat} {τ : Nat → Ro} {E : Ec} {H : Heap} {locs : List Loc} {cells slots : Nat} (S : NowG D cy A s L τ E H locs) {x mm ao : Nat} (J : LI cL L τ E x mm ao) (Jt : TI L τ E mm) {i : Int32} (hi0 : 0 ≤ i.toInt) (hi6 : i.toInt + 6 ≤ Ln) (hl : lv_has ls 7 [(4, .int i), (0, .ref b), (1, .ref x), (2, .ref mm), (3, .ref ao)]) (hc : cells + 5 ≤ 601024) (hs : slots + 262 ≤ 7293034)
    (kk : ∀ (L' : List Nat) (τ' : Nat → Ro) (E' : Ec) (H' : Heap) (locs' : List Loc) (ls' : Array Slot), NowG D cy A s L' τ' E' H' locs' → LI cL L' τ' E' x mm ao → TI L' τ' E' mm → lv_has ls' 7 [(4, .int i), (0, .ref b), (1, .ref x), (2, .ref mm), (3, .ref ao)] → W p l e room_1 s m #[Value.ref b] below meth c H' locs' (cells + 5) (slots + 262) Q (F0 m 1100 ls' [])) : W p l e room_1 s m #[Value.ref b] below meth c H locs cells slots Q (F0 m 1061 ls []) := by
  obtain ⟨C, hK, hN, hA, SZ, TZ, hKL, hX, hbl, hbA, hlt, hLn⟩ := X
  have hx := C.1
  have hb := C.2.1
  have hts := C.2.2.2.2
  have hc0 : cells ≤ room_1.cells := (show cells ≤ 601024 by omega)
  have hs0 : slots ≤ room_1.slots := (show slots ≤ 7293034 by omega)
  have hc5 : cells + 5 ≤ room_1.cells := (show cells + 5 ≤ 601024 by omega)
  have hs5 : slots + 262 ≤ room_1.slots := (show slots + 262 ≤ 7293034 by omega)
  refine lv_aload_n hx hb dL_law_1061 rfl (lv_at hl 2 rfl) ?_
  refine tc_vi C hK hN hA S.1 S.2 J.1.1 J.1.2 rfl rfl (k_X9_undo_vw l D cy S.2 J.1.1 J.1.2 ) (cwV 0 hts gL_law_X9_undo rfl rfl rfl (by decide +kernel) ⟨Nat.le_of_ble_eq_true rfl, Nat.le_of_ble_eq_true rfl⟩) rfl hl.1 rfl (Nat.le_of_ble_eq_true rfl) dL_law_1062 ⟨hc0, hs0⟩ (fun r1 E1 H1 k1 W1 I1 F1 p1 => ?_)
  have S1 : NowG D cy A s L τ E1 H1 k1 := ⟨W1, I1⟩
  have J1 : LI cL L τ E1 x mm ao := LI.cls J S.2 I1 F1 rfl rfl rfl rfl rfl rfl rfl rfl
  have Jt1 : TI L τ E1 mm := TI.cL Jt S.2 J.1.1 J.1.2 J.2.1.1 J.2.1.2 F1 rfl rfl rfl rfl (p1.2.2 9 (by decide))
  refine lv_pop hx hb dL_law_1065 rfl ?_
  refine lv_aload_n hx hb dL_law_1066 rfl (lv_at hl 3 rfl) ?_
  refine tc_vi C hK hN hA S1.1 S1.2 J1.2.1.1 J1.2.1.2 rfl rfl (k_X10_undo l D cy S1.2 J1.2.1.1 J1.2.1.2  J1.2.2.2.1) (cwV 0 hts gL_law_X10_undo rfl rfl rfl (by decide +kernel) ⟨Nat.le_of_ble_eq_true rfl, Nat.le_of_ble_eq_true rfl⟩) rfl hl.1 rfl (Nat.le_of_ble_eq_true rfl) dL_law_1067 ⟨hc0, hs0⟩ (fun r2 E2 H2 k2 W2 I2 F2 p2 => ?_)
  have S2 : NowG D cy A s L τ E2 H2 k2 := ⟨W2, I2⟩
  have J2 : LI cL L τ E2 x mm ao := LI.ref J1 F2 p2.2.2.2 (SlotOK.fr F2 rfl rfl rfl rfl J1.2.2.2.2.1) rfl
  have Jt2 : TI L τ E2 mm := TI.rL Jt1 F2 rfl rfl rfl rfl (p2.2.2.1 20 (by decide)) (p2.2.2.1 5 (by decide)) (p2.2.2.1 3 (by decide)) (p2.2.2.1 6 (by decide))
  refine lv_pop hx hb dL_law_1070 rfl ?_
  refine lv_goto (tgt := 1100) hx hb dL_law_1071 (by decide) ?_
  refine W.widen (k := cells + 5) (n := slots + 262) (by omega) (by omega) ?_
  exact kk L τ E2 H2 k2 ls S2 J2 Jt2 hl
