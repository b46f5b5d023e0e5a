theorem dL_law_385 : decode cL_law 385 = .ok (.aload_n 1, 1) := by decide +kernel
theorem dL_law_386 : decode cL_law 386 = .ok (.aload_n 0, 1) := by decide +kernel
theorem dL_law_387 : decode cL_law 387 = .ok (.iload 4, 2) := by decide +kernel
theorem dL_law_389 : decode cL_law 389 = .ok (.iconst 1, 1) := by decide +kernel
theorem dL_law_390 : decode cL_law 390 = .ok (.iadd, 1) := by decide +kernel
theorem dL_law_391 : decode cL_law 391 = .ok (.iaload, 1) := by decide +kernel
theorem dL_law_392 : decode cL_law 392 = .ok (.invokevirtual 43, 3) := by decide +kernel
theorem dL_law_395 : decode cL_law 395 = .ok (.pop, 1) := by decide +kernel
theorem dL_law_396 : decode cL_law 396 = .ok (.aload_n 2, 1) := by decide +kernel
theorem dL_law_397 : decode cL_law 397 = .ok (.aload_n 0, 1) := by decide +kernel
theorem dL_law_398 : decode cL_law 398 = .ok (.iload 4, 2) := by decide +kernel
theorem dL_law_400 : decode cL_law 400 = .ok (.iconst 1, 1) := by decide +kernel
theorem dL_law_401 : decode cL_law 401 = .ok (.iadd, 1) := by decide +kernel
theorem dL_law_402 : decode cL_law 402 = .ok (.iaload, 1) := by decide +kernel
theorem dL_law_403 : decode cL_law 403 = .ok (.invokevirtual 46, 3) := by decide +kernel
theorem dL_law_406 : decode cL_law 406 = .ok (.pop, 1) := by decide +kernel
theorem dL_law_407 : decode cL_law 407 = .ok (.goto 693, 3) := by decide +kernel
set_option maxRecDepth 100000 in
theorem ggL_law_X9_size : GoodIn wsL_law wsX9_size := goodIn_r _ [280, 16, 177, 178, 179, 180, 239, 281, 282, 283, 284, 20, 285, 40, 286, 287, 288, 289, 2, 290, 45, 24, 291, 292, 293, 23, 294, 82, 84, 85, 83, 295, 81, 296, 253, 254, 15, 255, 54, 58, 297, 298, 299, 300, 60, 301, 302, 303, 304, 305, 306, 307, 308, 309, 310, 311, 312, 313, 314, 315, 316, 317, 318, 319, 320, 321, 322, 323, 324, 325, 326, 327, 328, 329, 330, 331, 332, 333, 334, 202, 335, 336, 337, 201, 203, 338, 339, 340, 341, 342, 343, 998, 999, 1000, 1001, 1002, 1003, 1004, 1005, 1006, 1007, 1008, 1057, 1058, 1059, 1060, 1061, 1062, 1063, 1064, 1065, 1066, 1067, 1068, 1069, 1070, 1071, 1072, 1076, 1077, 1078, 1079, 1080, 1073, 1074, 1075, 1110, 1111, 1112] rfl (by decide +kernel)
set_option maxRecDepth 100000 in
theorem gL_law_X9_size : GoodIn wsL_law (wsV RL 43 RX9 yX9_size wsX9_size) := goodIn_app (goodIn_of _ (by decide +kernel)) ggL_law_X9_size
set_option maxRecDepth 100000 in
theorem ggL_law_X10_size : GoodIn wsL_law wsX10_size := goodIn_r _ [347, 216, 144, 348, 151, 230, 349, 350, 351, 352, 5, 353, 147, 354, 355, 356, 357, 149, 150, 153, 154, 358, 359, 360, 361, 362, 363, 364, 365, 148, 152, 155, 156, 366, 367, 368, 369, 1009, 1010, 1011, 1012, 1013, 1014, 1015, 1016, 1017, 1018, 1019, 1020, 1021, 1022, 1023, 1024, 1025, 1026, 1027, 1028, 1029, 1030, 1031, 1032, 1033, 1034, 1035, 1036, 1037, 1038, 1039, 1040, 1041, 1042, 1043, 1044, 1045, 1046, 1047, 1048, 1049, 1050, 1051, 1052, 1053, 1054, 1055, 1056] rfl (by decide +kernel)
set_option maxRecDepth 100000 in
theorem gL_law_X10_size : GoodIn wsL_law (wsV RL 46 RX10 yX10_size wsX10_size) := goodIn_app (goodIn_of _ (by decide +kernel)) ggL_law_X10_size
set_option maxHeartbeats 4000000 in
set_option maxRecDepth 100000 in
theorem cs_5 {p : Program} {l : Launch} {e : Env} {s : State} {m : MethodId} {below : List Frame} {meth : Method} {c : Code} {D : va_G} {cy : Nat → ClassId} {A : Nat → Prop} {G : Sg} {tx : String} {sa : Nat} {cL : ClassId} {b Ln : Nat} {xs : Nat → Int32} {Q : State → Prop} {ls : Array Slot} (X : LC p l s m meth c D cy A G tx sa cL b Ln xs) {L : List Nat} {τ : Nat → Ro} {E : Ec} {H : Heap} {locs : List Loc} {cells slots : Nat} (S : NowG D cy A s L τ E H locs) {x mm ao : Nat} (J : LI cL L τ E x mm ao) (Jt : TI L τ E mm) {i : Int32} (hi0 : 0 ≤ i.toInt) (hi6 : i.toInt + 6 ≤ Ln) (hl : lv_has ls 7 [(4, .int i), (0, .ref b), (1, .ref x), (2, .ref mm), (3, .ref ao)]) (hc : cells + 5 ≤ 601024) (hs : slots + 262 ≤ 7293034)
    (kk : ∀ (L' : List Nat) (τ' : Nat → Ro) (E' : Ec) (H' : Heap) (locs' : List Loc) (ls' : Array Slot), NowG D cy A s L' τ' E' H' locs' → LI cL L' τ' E' x mm ao → TI L' τ' E' mm → lv_has ls' 7 [(4, .int i), (0, .ref b), (1, .ref x), (2, .ref mm), (3, .ref ao)] → W p l e room_1 s m #[Value.ref b] below meth c H' locs' (cells + 5) (slots + 262) Q (F0 m 1100 ls' [])) : W p l e room_1 s m #[Value.ref b] below meth c H locs cells slots Q (F0 m 385 ls []) := by
  obtain ⟨C, hK, hN, hA, SZ, TZ, hKL, hX, hbl, hbA, hlt, hLn⟩ := X
  have hx := C.1
  have hb := C.2.1
  have hts := C.2.2.2.2
  have hc0 : cells ≤ room_1.cells := (show cells ≤ 601024 by omega)
  have hs0 : slots ≤ room_1.slots := (show slots ≤ 7293034 by omega)
  have hc5 : cells + 5 ≤ room_1.cells := (show cells + 5 ≤ 601024 by omega)
  have hs5 : slots + 262 ≤ room_1.slots := (show slots + 262 ≤ 7293034 by omega)
  refine lv_aload_n hx hb dL_law_385 rfl (lv_at hl 2 rfl) ?_
  refine lv_aload_n hx hb dL_law_386 rfl (lv_at hl 1 rfl) ?_
  refine lv_iload hx hb dL_law_387 (lv_at hl 0 rfl) ?_
  obtain ⟨v1, ev1, tv1⟩ : ∃ v : Int32, Int32.ofInt (1) = v ∧ v.toInt = 1 := ⟨_, rfl, by decide +kernel⟩
  refine lv_iconst hx hb dL_law_389 ev1 ?_
  refine lv_iadd hx hb dL_law_390 ?_
  refine lv_topi (fun v2 ev2 => ?_)
  have tv2 := nu_add ev2 (by omega) (by omega)
  refine va_sld hx hb hX hbl hbA S.1.2.2 (tr_in (by omega) (by omega)) dL_law_391 ?_
  refine lv_topi (fun v3 ev3 => ?_)
  refine tc_vi C hK hN hA S.1 S.2 J.1.1 J.1.2 rfl rfl (k_X9_size_vw l D cy S.2 J.1.1 J.1.2 v3) (cwV 1 hts gL_law_X9_size rfl rfl rfl (by decide +kernel) ⟨Nat.le_of_ble_eq_true rfl, Nat.le_of_ble_eq_true rfl⟩) rfl hl.1 rfl (Nat.le_of_ble_eq_true rfl) dL_law_392 ⟨hc0, hs0⟩ (fun r4 E4 H4 k4 W4 I4 F4 p4 => ?_)
  have S4 : NowG D cy A s L τ E4 H4 k4 := ⟨W4, I4⟩
  have J4 : LI cL L τ E4 x mm ao := LI.cls J S.2 I4 F4 rfl rfl rfl rfl rfl rfl rfl rfl
  have Jt4 : TI L τ E4 mm := TI.cL Jt S.2 J.1.1 J.1.2 J.2.1.1 J.2.1.2 F4 rfl rfl rfl rfl (p4 9 (by decide))
  refine lv_pop hx hb dL_law_395 rfl ?_
  refine lv_aload_n hx hb dL_law_396 rfl (lv_at hl 3 rfl) ?_
  refine lv_aload_n hx hb dL_law_397 rfl (lv_at hl 1 rfl) ?_
  refine lv_iload hx hb dL_law_398 (lv_at hl 0 rfl) ?_
  obtain ⟨v5, ev5, tv5⟩ : ∃ v : Int32, Int32.ofInt (1) = v ∧ v.toInt = 1 := ⟨_, rfl, by decide +kernel⟩
  refine lv_iconst hx hb dL_law_400 ev5 ?_
  refine lv_iadd hx hb dL_law_401 ?_
  refine lv_topi (fun v6 ev6 => ?_)
  have tv6 := nu_add ev6 (by omega) (by omega)
  refine va_sld hx hb hX hbl hbA S4.1.2.2 (tr_in (by omega) (by omega)) dL_law_402 ?_
  refine lv_topi (fun v7 ev7 => ?_)
  refine tc_vi C hK hN hA S4.1 S4.2 J4.2.1.1 J4.2.1.2 rfl rfl (k_X10_size l D cy S4.2 J4.2.1.1 J4.2.1.2 v7) (cwV 1 hts gL_law_X10_size rfl rfl rfl (by decide +kernel) ⟨Nat.le_of_ble_eq_true rfl, Nat.le_of_ble_eq_true rfl⟩) rfl hl.1 rfl (Nat.le_of_ble_eq_true rfl) dL_law_403 ⟨hc0, hs0⟩ (fun r8 E8 H8 k8 W8 I8 F8 p8 => ?_)
  have S8 : NowG D cy A s L τ E8 H8 k8 := ⟨W8, I8⟩
  have J8 : LI cL L τ E8 x mm ao := LI.ref J4 F8 (J4.2.2.2.1.fw S4.2 I8 J4.2.1.1 J4.2.1.2 F8 rfl rfl (p8 2 (by decide))) (SlotOK.fr F8 rfl rfl rfl rfl J4.2.2.2.2.1) rfl
  have Jt8 : TI L τ E8 mm := TI.rL Jt4 F8 rfl rfl rfl rfl (p8 20 (by decide)) (p8 5 (by decide)) (p8 3 (by decide)) (p8 6 (by decide))
  refine lv_pop hx hb dL_law_406 rfl ?_
  refine lv_goto (tgt := 1100) hx hb dL_law_407 (by decide) ?_
  refine W.widen (k := cells + 5) (n := slots + 262) (by omega) (by omega) ?_
  exact kk L τ E8 H8 k8 ls S8 J8 Jt8 hl
