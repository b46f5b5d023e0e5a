theorem dL_law_1048 : decode cL_law 1048 = .ok (.aload_n 1, 1) := by decide +kernel
theorem dL_law_1049 : decode cL_law 1049 = .ok (.invokevirtual 146, 3) := by decide +kernel
theorem dL_law_1052 : decode cL_law 1052 = .ok (.pop, 1) := by decide +kernel
theorem dL_law_1053 : decode cL_law 1053 = .ok (.aload_n 2, 1) := by decide +kernel
theorem dL_law_1054 : decode cL_law 1054 = .ok (.invokevirtual 149, 3) := by decide +kernel
theorem dL_law_1057 : decode cL_law 1057 = .ok (.pop, 1) := by decide +kernel
theorem dL_law_1058 : decode cL_law 1058 = .ok (.goto 42, 3) := by decide +kernel
set_option maxRecDepth 100000 in
theorem ggL_law_X9_check : GoodIn wsL_law wsX9_check := goodIn_r _ [964, 43, 44, 281, 42, 395, 396, 397, 2, 398, 287, 288, 289, 290, 45, 24, 16, 291, 292, 293, 23, 294, 82, 84, 85, 83, 295, 81, 296, 253, 254, 15, 255, 54, 58, 297, 298, 299, 300, 60, 301, 302, 303, 304, 305, 306, 307, 308, 309, 310, 311, 312, 313, 314, 315, 316, 317, 318, 319, 320, 321, 322, 323, 324, 325, 326, 327, 328, 329, 330, 331, 332, 333, 334, 202, 335, 336, 337, 201, 203, 338, 924, 925, 926, 927, 374, 928, 998, 999, 1000, 1001, 1002, 1003, 1004, 1005, 1006, 1007, 1008, 1076, 1077, 1078, 1079, 1080, 1057, 1058, 1059, 1060, 1061, 1062, 1063, 1064, 1065, 1066, 1067, 1068, 1069, 1070, 1071, 1072] rfl (by decide +kernel)
set_option maxRecDepth 100000 in
theorem gL_law_X9_check : GoodIn wsL_law (wsV RL 146 RX9 yX9_check wsX9_check) := goodIn_app (goodIn_of _ (by decide +kernel)) ggL_law_X9_check
set_option maxRecDepth 100000 in
theorem ggL_law_X10_check : GoodIn wsL_law wsX10_check := goodIn_r _ [968, 216, 933, 348, 172, 403, 404, 405, 5, 406, 225, 146, 231, 232, 233, 234, 350, 351, 352, 353, 147, 144, 354, 355, 356, 357, 149, 150, 153, 151, 154, 358, 359, 360, 361, 362, 363, 364, 365, 148, 152, 155, 156, 934, 935, 936, 937, 1009, 1010, 1011, 1012, 1013, 1014, 1015, 1016, 1017, 1018, 1019, 1020, 1021, 1022, 1023, 1024, 1025, 1026, 1027, 1028, 1029, 1030, 1031, 1032, 1033, 1034, 1035, 1036, 1037, 1038, 1039, 1040, 1041, 1042, 1043, 1044, 1045, 1046, 1047, 1048, 1049, 1050, 1051, 1052, 1053, 1054, 1055, 1056] rfl (by decide +kernel)
set_option maxRecDepth 100000 in
theorem gL_law_X10_check : GoodIn wsL_law (wsV RL 149 RX10 yX10_check wsX10_check) := goodIn_app (goodIn_of _ (by decide +kernel)) ggL_law_X10_check
set_option maxHeartbeats 4000000 in
set_option maxRecDepth 100000 in
theorem cs_29 {p : Program} {l : Launch} {e : Env} {s : State} {m : MethodId} {below : List Frame} {meth : Method} {c : Code} {D : va_G} {cy : Nat → ClassId} {A : Nat → Prop} {G : Sg} {tx : String} {sa : Nat} {cL : ClassId} {b Ln : Nat} {xs : Nat → Int32} {Q : State → Prop} {ls : Array Slot} (X : LC p l s m meth c D cy A G tx sa cL b Ln xs) {L : List Nat} {τ : Nat → Ro} {E : Ec} {H : Heap} {locs : List Loc} {cells slots : Nat} (S : NowG D cy A s L τ E H locs) {x mm ao : Nat} (J : LI cL L τ E x mm ao) (Jt : TI L τ E mm) {i : Int32} (hi0 : 0 ≤ i.toInt) (hi6 : i.toInt + 6 ≤ Ln) (hl : lv_has ls 7 [(4, .int i), (0, .ref b), (1, .ref x), (2, .ref mm), (3, .ref ao)]) (hc : cells + 5 ≤ 601024) (hs : slots + 262 ≤ 7293034)
    (kk : ∀ (L' : List Nat) (τ' : Nat → Ro) (E' : Ec) (H' : Heap) (locs' : List Loc) (ls' : Array Slot), NowG D cy A s L' τ' E' H' locs' → LI cL L' τ' E' x mm ao → TI L' τ' E' mm → lv_has ls' 7 [(4, .int i), (0, .ref b), (1, .ref x), (2, .ref mm), (3, .ref ao)] → W p l e room_1 s m #[Value.ref b] below meth c H' locs' (cells + 5) (slots + 262) Q (F0 m 1100 ls' [])) : W p l e room_1 s m #[Value.ref b] below meth c H locs cells slots Q (F0 m 1048 ls []) := by
  obtain ⟨C, hK, hN, hA, SZ, TZ, hKL, hX, hbl, hbA, hlt, hLn⟩ := X
  have hx := C.1
  have hb := C.2.1
  have hts := C.2.2.2.2
  have hc0 : cells ≤ room_1.cells := (show cells ≤ 601024 by omega)
  have hs0 : slots ≤ room_1.slots := (show slots ≤ 7293034 by omega)
  have hc5 : cells + 5 ≤ room_1.cells := (show cells + 5 ≤ 601024 by omega)
  have hs5 : slots + 262 ≤ room_1.slots := (show slots + 262 ≤ 7293034 by omega)
  refine lv_aload_n hx hb dL_law_1048 rfl (lv_at hl 2 rfl) ?_
  refine tc1_vi C hK hN hA SZ S.1 S.2 J.1.1 J.1.2 rfl rfl (k_X9_check_vw l D cy S.2 J.1.1 J.1.2 ) (cwV 0 hts gL_law_X9_check rfl rfl rfl (by decide +kernel) ⟨Nat.le_of_ble_eq_true rfl, Nat.le_of_ble_eq_true rfl⟩) rfl hl.1 rfl (Nat.le_of_ble_eq_true rfl) dL_law_1049 ⟨hc0, hs0⟩ (fun r1 E1 H1 k1 W1 I1 F1 p1 => ?_)
  have S1 : NowG D cy A s L τ E1 H1 k1 := ⟨W1, I1⟩
  have J1 : LI cL L τ E1 x mm ao := LI.cls J S.2 I1 F1 rfl rfl rfl rfl rfl rfl rfl rfl
  have n9 := p1
  have TH1 : TH L τ E1 mm := Jt.1.cls J.2.1.1 J.2.1.2 F1 rfl rfl rfl rfl
  refine lv_pop hx hb dL_law_1052 rfl ?_
  refine lv_aload_n hx hb dL_law_1053 rfl (lv_at hl 3 rfl) ?_
  refine tc_vi C hK hN hA S1.1 S1.2 J1.2.1.1 J1.2.1.2 rfl rfl (k_X10_check_vw l D cy S1.2 J1.2.1.1 J1.2.1.2 ) (cwV 0 hts gL_law_X10_check rfl rfl rfl (by decide +kernel) ⟨Nat.le_of_ble_eq_true rfl, Nat.le_of_ble_eq_true rfl⟩) rfl hl.1 rfl (Nat.le_of_ble_eq_true rfl) dL_law_1054 ⟨hc0, hs0⟩ (fun r2 E2 H2 k2 W2 I2 F2 p2 => ?_)
  have S2 : NowG D cy A s L τ E2 H2 k2 := ⟨W2, I2⟩
  have J2 : LI cL L τ E2 x mm ao := LI.ref J1 F2 (J1.2.2.2.1.fw S1.2 I2 J1.2.1.1 J1.2.1.2 F2 rfl rfl (p2.2 2 (by decide))) (SlotOK.fr F2 rfl rfl rfl rfl J1.2.2.2.2.1) rfl
  have n3 := p2.1
  have Jt2 : TI L τ E2 mm := TI.rS TH1 S1.2 J1.1.1 J1.1.2 F2 rfl rfl rfl rfl (p2.2 20 (by decide)) (p2.2 5 (by decide)) n9 n3
  refine lv_pop hx hb dL_law_1057 rfl ?_
  refine lv_goto (tgt := 1100) hx hb dL_law_1058 (by decide) ?_
  refine W.widen (k := cells + 5) (n := slots + 262) (by omega) (by omega) ?_
  exact kk L τ E2 H2 k2 ls S2 J2 Jt2 hl
