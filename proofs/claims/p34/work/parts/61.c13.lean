theorem dL_law_645 : decode cL_law 645 = .ok (.aload_n 1, 1) := by decide +kernel
theorem dL_law_646 : decode cL_law 646 = .ok (.invokevirtual 79, 3) := by decide +kernel
theorem dL_law_649 : decode cL_law 649 = .ok (.pop, 1) := by decide +kernel
theorem dL_law_650 : decode cL_law 650 = .ok (.aload_n 2, 1) := by decide +kernel
theorem dL_law_651 : decode cL_law 651 = .ok (.invokevirtual 83, 3) := by decide +kernel
theorem dL_law_654 : decode cL_law 654 = .ok (.pop, 1) := by decide +kernel
theorem dL_law_655 : decode cL_law 655 = .ok (.goto 445, 3) := by decide +kernel
set_option maxRecDepth 100000 in
theorem ggL_law_X9_repeal : GoodIn wsL_law wsX9_repeal := goodIn_r _ [666, 16, 282, 437, 184, 185, 186, 2, 187, 44, 188, 189, 190, 191, 192, 193, 194, 195, 20, 45, 196, 197, 198, 19, 199, 72, 73, 74, 200, 201, 202, 203, 204, 205, 206, 15, 207, 50, 51, 52, 53, 54, 55, 56, 57, 58, 208, 209, 210, 211, 59, 60, 61, 62, 63, 64, 66, 998, 999, 1000, 1001, 1002, 1003, 1004, 1005, 1006, 1007, 1008, 1057, 1058, 1059, 1060, 1061, 1062, 1063, 1064, 1065, 1066, 1067, 1068, 1069, 1070, 1071, 1072, 1073, 1074, 1075] rfl (by decide +kernel)
set_option maxRecDepth 100000 in
theorem gL_law_X9_repeal : GoodIn wsL_law (wsV RL 79 RX9 yX9_repeal wsX9_repeal) := goodIn_app (goodIn_of _ (by decide +kernel)) ggL_law_X9_repeal
set_option maxRecDepth 100000 in
theorem ggL_law_X10_repeal : GoodIn wsL_law wsX10_repeal := goodIn_r _ [670, 216, 144, 221, 222, 223, 5, 224, 225, 146, 226, 227, 228, 229, 230, 145, 231, 232, 233, 234, 1009, 1010, 1011, 1012, 1013, 1014, 1015, 1016, 1017, 1018, 1019, 1020, 1021, 1022, 1023, 1024, 1025, 1026, 1027, 1028, 1029, 1030, 1031, 1032, 1033, 1034, 1035, 1036, 1037, 1038, 1039, 1040, 1041, 1042, 1043, 1044, 1045, 1046, 1047, 1048, 1049, 1050, 1051, 1052, 1053, 1054, 1055, 1056] rfl (by decide +kernel)
set_option maxRecDepth 100000 in
theorem gL_law_X10_repeal : GoodIn wsL_law (wsV RL 83 RX10 yX10_repeal wsX10_repeal) := goodIn_app (goodIn_of _ (by decide +kernel)) ggL_law_X10_repeal
set_option maxHeartbeats 4000000 in
set_option maxRecDepth 100000 in
theorem cs_13 {p : Program} {l : Launch} {e : Env} {s : State} {m : MethodId} {below : List Frame} {meth : Method} {c : Code} {D : va_G} {cy : Nat → ClassId} {A : Nat → Prop} {G : Sg} {tx : String} {sa : Nat} {cL : ClassId} {b Ln : Nat} {xs : Nat → Int32} {Q : State → Prop} {ls : Array Slot} (X : LC p l s m meth c D cy A G tx sa cL b Ln xs) {L : List Nat} {τ : Nat → Ro} {E : Ec} {H : Heap} {locs : List Loc} {cells slots : Nat} (S : NowG D cy A s L τ E H locs) {x mm ao : Nat} (J : LI cL L τ E x mm ao) (Jt : TI L τ E mm) {i : Int32} (hi0 : 0 ≤ i.toInt) (hi6 : i.toInt + 6 ≤ Ln) (hl : lv_has ls 7 [(4, .int i), (0, .ref b), (1, .ref x), (2, .ref mm), (3, .ref ao)]) (hc : cells + 5 ≤ 601024) (hs : slots + 262 ≤ 7293034)
    (kk : ∀ (L' : List Nat) (τ' : Nat → Ro) (E' : Ec) (H' : Heap) (locs' : List Loc) (ls' : Array Slot), NowG D cy A s L' τ' E' H' locs' → LI cL L' τ' E' x mm ao → TI L' τ' E' mm → lv_has ls' 7 [(4, .int i), (0, .ref b), (1, .ref x), (2, .ref mm), (3, .ref ao)] → W p l e room_1 s m #[Value.ref b] below meth c H' locs' (cells + 5) (slots + 262) Q (F0 m 1100 ls' [])) : W p l e room_1 s m #[Value.ref b] below meth c H locs cells slots Q (F0 m 645 ls []) := by
  obtain ⟨C, hK, hN, hA, SZ, TZ, hKL, hX, hbl, hbA, hlt, hLn⟩ := X
  have hx := C.1
  have hb := C.2.1
  have hts := C.2.2.2.2
  have hc0 : cells ≤ room_1.cells := (show cells ≤ 601024 by omega)
  have hs0 : slots ≤ room_1.slots := (show slots ≤ 7293034 by omega)
  have hc5 : cells + 5 ≤ room_1.cells := (show cells + 5 ≤ 601024 by omega)
  have hs5 : slots + 262 ≤ room_1.slots := (show slots + 262 ≤ 7293034 by omega)
  refine lv_aload_n hx hb dL_law_645 rfl (lv_at hl 2 rfl) ?_
  refine tc_vi C hK hN hA S.1 S.2 J.1.1 J.1.2 rfl rfl (k_X9_repeal_vw l D cy S.2 J.1.1 J.1.2 ) (cwV 0 hts gL_law_X9_repeal rfl rfl rfl (by decide +kernel) ⟨Nat.le_of_ble_eq_true rfl, Nat.le_of_ble_eq_true rfl⟩) rfl hl.1 rfl (Nat.le_of_ble_eq_true rfl) dL_law_646 ⟨hc0, hs0⟩ (fun r1 E1 H1 k1 W1 I1 F1 p1 => ?_)
  have S1 : NowG D cy A s L τ E1 H1 k1 := ⟨W1, I1⟩
  have J1 : LI cL L τ E1 x mm ao := LI.cls J S.2 I1 F1 rfl rfl rfl rfl rfl rfl rfl rfl
  have n9 := p1.1
  have TH1 : TH L τ E1 mm := Jt.1.cls J.2.1.1 J.2.1.2 F1 rfl rfl rfl rfl
  refine lv_pop hx hb dL_law_649 rfl ?_
  refine lv_aload_n hx hb dL_law_650 rfl (lv_at hl 3 rfl) ?_
  refine tc_vi C hK hN hA S1.1 S1.2 J1.2.1.1 J1.2.1.2 rfl rfl (k_X10_repeal_vw l D cy S1.2 J1.2.1.1 J1.2.1.2  J1.2.2.2.1) (cwV 0 hts gL_law_X10_repeal rfl rfl rfl (by decide +kernel) ⟨Nat.le_of_ble_eq_true rfl, Nat.le_of_ble_eq_true rfl⟩) rfl hl.1 rfl (Nat.le_of_ble_eq_true rfl) dL_law_651 ⟨hc0, hs0⟩ (fun r2 E2 H2 k2 W2 I2 F2 p2 => ?_)
  have S2 : NowG D cy A s L τ E2 H2 k2 := ⟨W2, I2⟩
  have J2 : LI cL L τ E2 x mm ao := LI.ref J1 F2 p2.2.2.2.2 (SlotOK.fr F2 rfl rfl rfl rfl J1.2.2.2.2.1) rfl
  have n3 := p2.1
  have Jt2 : TI L τ E2 mm := TI.rS TH1 S1.2 J1.1.1 J1.1.2 F2 rfl rfl rfl rfl (p2.2.2.2.1 20 (by decide)) (p2.2.2.2.1 5 (by decide)) n9 n3
  refine lv_pop hx hb dL_law_654 rfl ?_
  refine lv_goto (tgt := 1100) hx hb dL_law_655 (by decide) ?_
  refine W.widen (k := cells + 5) (n := slots + 262) (by omega) (by omega) ?_
  exact kk L τ E2 H2 k2 ls S2 J2 Jt2 hl
