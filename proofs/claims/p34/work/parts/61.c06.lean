theorem dL_law_410 : decode cL_law 410 = .ok (.aload_n 1, 1) := by decide +kernel
theorem dL_law_411 : decode cL_law 411 = .ok (.aload_n 0, 1) := by decide +kernel
theorem dL_law_412 : decode cL_law 412 = .ok (.iload 4, 2) := by decide +kernel
theorem dL_law_414 : decode cL_law 414 = .ok (.iconst 1, 1) := by decide +kernel
theorem dL_law_415 : decode cL_law 415 = .ok (.iadd, 1) := by decide +kernel
theorem dL_law_416 : decode cL_law 416 = .ok (.iaload, 1) := by decide +kernel
theorem dL_law_417 : decode cL_law 417 = .ok (.aload_n 0, 1) := by decide +kernel
theorem dL_law_418 : decode cL_law 418 = .ok (.iload 4, 2) := by decide +kernel
theorem dL_law_420 : decode cL_law 420 = .ok (.iconst 2, 1) := by decide +kernel
theorem dL_law_421 : decode cL_law 421 = .ok (.iadd, 1) := by decide +kernel
theorem dL_law_422 : decode cL_law 422 = .ok (.iaload, 1) := by decide +kernel
theorem dL_law_423 : decode cL_law 423 = .ok (.invokevirtual 47, 3) := by decide +kernel
theorem dL_law_426 : decode cL_law 426 = .ok (.pop, 1) := by decide +kernel
theorem dL_law_427 : decode cL_law 427 = .ok (.aload_n 2, 1) := by decide +kernel
theorem dL_law_428 : decode cL_law 428 = .ok (.aload_n 0, 1) := by decide +kernel
theorem dL_law_429 : decode cL_law 429 = .ok (.iload 4, 2) := by decide +kernel
theorem dL_law_431 : decode cL_law 431 = .ok (.iconst 1, 1) := by decide +kernel
theorem dL_law_432 : decode cL_law 432 = .ok (.iadd, 1) := by decide +kernel
theorem dL_law_433 : decode cL_law 433 = .ok (.iaload, 1) := by decide +kernel
theorem dL_law_434 : decode cL_law 434 = .ok (.aload_n 0, 1) := by decide +kernel
theorem dL_law_435 : decode cL_law 435 = .ok (.iload 4, 2) := by decide +kernel
theorem dL_law_437 : decode cL_law 437 = .ok (.iconst 2, 1) := by decide +kernel
theorem dL_law_438 : decode cL_law 438 = .ok (.iadd, 1) := by decide +kernel
theorem dL_law_439 : decode cL_law 439 = .ok (.iaload, 1) := by decide +kernel
theorem dL_law_440 : decode cL_law 440 = .ok (.invokevirtual 51, 3) := by decide +kernel
theorem dL_law_443 : decode cL_law 443 = .ok (.pop, 1) := by decide +kernel
theorem dL_law_444 : decode cL_law 444 = .ok (.goto 656, 3) := by decide +kernel
set_option maxRecDepth 100000 in
theorem ggL_law_X9_tread : GoodIn wsL_law wsX9_tread := goodIn_r _ [373, 281, 374, 287, 288, 289, 2, 290, 45, 24, 16, 291, 292, 293, 23, 294, 82, 84, 85, 83, 295, 81, 296, 253, 254, 15, 255, 54, 58, 297, 298, 299, 300, 60, 301, 302, 303, 304, 305, 306, 307, 308, 309, 310, 311, 312, 313, 314, 315, 316, 317, 318, 319, 320, 321, 322, 323, 324, 325, 326, 327, 328, 329, 330, 331, 332, 333, 334, 202, 335, 336, 337, 201, 203, 338, 181, 182, 183, 1076, 1077, 1078, 1079, 1080, 998, 999, 1000, 1001, 1002, 1003, 1004, 1005, 1006, 1007, 1008, 1057, 1058, 1059, 1060, 1061, 1062, 1063, 1064, 1065, 1066, 1067, 1068, 1069, 1070, 1071, 1072] rfl (by decide +kernel)
set_option maxRecDepth 100000 in
theorem gL_law_X9_tread : GoodIn wsL_law (wsV RL 47 RX9 yX9_tread wsX9_tread) := goodIn_app (goodIn_of _ (by decide +kernel)) ggL_law_X9_tread
set_option maxRecDepth 100000 in
theorem ggL_law_X10_tread : GoodIn wsL_law wsX10_tread := goodIn_r _ [378, 216, 348, 148, 149, 150, 151, 152, 153, 154, 155, 156, 350, 351, 352, 5, 353, 147, 144, 354, 355, 356, 357, 358, 359, 360, 361, 362, 363, 364, 365, 217, 218, 219, 220, 1009, 1010, 1011, 1012, 1013, 1014, 1015, 1016, 1017, 1018, 1019, 1020, 1021, 1022, 1023, 1024, 1025, 1026, 1027, 1028, 1029, 1030, 1031, 1032, 1033, 1034, 1035, 1036, 1037, 1038, 1039, 1040, 1041, 1042, 1043, 1044, 1045, 1046, 1047, 1048, 1049, 1050, 1051, 1052, 1053, 1054, 1055, 1056] rfl (by decide +kernel)
set_option maxRecDepth 100000 in
theorem gL_law_X10_tread : GoodIn wsL_law (wsV RL 51 RX10 yX10_tread wsX10_tread) := goodIn_app (goodIn_of _ (by decide +kernel)) ggL_law_X10_tread
set_option maxHeartbeats 4000000 in
set_option maxRecDepth 100000 in
theorem cs_6 {p : Program} {l : Launch} {e : Env} {s : State} {m : MethodId} {below : List Frame} {meth : Method} {c : Code} {D : va_G} {cy : Nat → ClassId} {A : Nat → Prop} {G : Sg} {tx : String} {sa : Nat} {cL : ClassId} {b Ln : Nat} {xs : Nat → Int32} {Q : State → Prop} {ls : Array Slot} (X : LC p l s m meth c D cy A G tx sa cL b Ln xs) {L : List Nat} {τ : Nat → Ro} {E : Ec} {H : Heap} {locs : List Loc} {cells slots : Nat} (S : NowG D cy A s L τ E H locs) {x mm ao : Nat} (J : LI cL L τ E x mm ao) (Jt : TI L τ E mm) {i : Int32} (hi0 : 0 ≤ i.toInt) (hi6 : i.toInt + 6 ≤ Ln) (hl : lv_has ls 7 [(4, .int i), (0, .ref b), (1, .ref x), (2, .ref mm), (3, .ref ao)]) (hc : cells + 5 ≤ 601024) (hs : slots + 262 ≤ 7293034)
    (kk : ∀ (L' : List Nat) (τ' : Nat → Ro) (E' : Ec) (H' : Heap) (locs' : List Loc) (ls' : Array Slot), NowG D cy A s L' τ' E' H' locs' → LI cL L' τ' E' x mm ao → TI L' τ' E' mm → lv_has ls' 7 [(4, .int i), (0, .ref b), (1, .ref x), (2, .ref mm), (3, .ref ao)] → W p l e room_1 s m #[Value.ref b] below meth c H' locs' (cells + 5) (slots + 262) Q (F0 m 1100 ls' [])) : W p l e room_1 s m #[Value.ref b] below meth c H locs cells slots Q (F0 m 410 ls []) := by
  obtain ⟨C, hK, hN, hA, SZ, TZ, hKL, hX, hbl, hbA, hlt, hLn⟩ := X
  have hx := C.1
  have hb := C.2.1
  have hts := C.2.2.2.2
  have hc0 : cells ≤ room_1.cells := (show cells ≤ 601024 by omega)
  have hs0 : slots ≤ room_1.slots := (show slots ≤ 7293034 by omega)
  have hc5 : cells + 5 ≤ room_1.cells := (show cells + 5 ≤ 601024 by omega)
  have hs5 : slots + 262 ≤ room_1.slots := (show slots + 262 ≤ 7293034 by omega)
  refine lv_aload_n hx hb dL_law_410 rfl (lv_at hl 2 rfl) ?_
  refine lv_aload_n hx hb dL_law_411 rfl (lv_at hl 1 rfl) ?_
  refine lv_iload hx hb dL_law_412 (lv_at hl 0 rfl) ?_
  obtain ⟨v1, ev1, tv1⟩ : ∃ v : Int32, Int32.ofInt (1) = v ∧ v.toInt = 1 := ⟨_, rfl, by decide +kernel⟩
  refine lv_iconst hx hb dL_law_414 ev1 ?_
  refine lv_iadd hx hb dL_law_415 ?_
  refine lv_topi (fun v2 ev2 => ?_)
  have tv2 := nu_add ev2 (by omega) (by omega)
  refine va_sld hx hb hX hbl hbA S.1.2.2 (tr_in (by omega) (by omega)) dL_law_416 ?_
  refine lv_topi (fun v3 ev3 => ?_)
  refine lv_aload_n hx hb dL_law_417 rfl (lv_at hl 1 rfl) ?_
  refine lv_iload hx hb dL_law_418 (lv_at hl 0 rfl) ?_
  obtain ⟨v4, ev4, tv4⟩ : ∃ v : Int32, Int32.ofInt (2) = v ∧ v.toInt = 2 := ⟨_, rfl, by decide +kernel⟩
  refine lv_iconst hx hb dL_law_420 ev4 ?_
  refine lv_iadd hx hb dL_law_421 ?_
  refine lv_topi (fun v5 ev5 => ?_)
  have tv5 := nu_add ev5 (by omega) (by omega)
  refine va_sld hx hb hX hbl hbA S.1.2.2 (tr_in (by omega) (by omega)) dL_law_422 ?_
  refine lv_topi (fun v6 ev6 => ?_)
  refine tc_vi C hK hN hA S.1 S.2 J.1.1 J.1.2 rfl rfl (k_X9_tread_vw l D cy S.2 J.1.1 J.1.2 v3 v6) (cwV 2 hts gL_law_X9_tread rfl rfl rfl (by decide +kernel) ⟨Nat.le_of_ble_eq_true rfl, Nat.le_of_ble_eq_true rfl⟩) rfl hl.1 rfl (Nat.le_of_ble_eq_true rfl) dL_law_423 ⟨hc0, hs0⟩ (fun r7 E7 H7 k7 W7 I7 F7 p7 => ?_)
  have S7 : NowG D cy A s L τ E7 H7 k7 := ⟨W7, I7⟩
  have J7 : LI cL L τ E7 x mm ao := LI.cls J S.2 I7 F7 rfl rfl rfl rfl rfl rfl rfl rfl
  have Jt7 : TI L τ E7 mm := TI.cL Jt S.2 J.1.1 J.1.2 J.2.1.1 J.2.1.2 F7 rfl rfl rfl rfl (p7 9 (by decide))
  refine lv_pop hx hb dL_law_426 rfl ?_
  refine lv_aload_n hx hb dL_law_427 rfl (lv_at hl 3 rfl) ?_
  refine lv_aload_n hx hb dL_law_428 rfl (lv_at hl 1 rfl) ?_
  refine lv_iload hx hb dL_law_429 (lv_at hl 0 rfl) ?_
  obtain ⟨v8, ev8, tv8⟩ : ∃ v : Int32, Int32.ofInt (1) = v ∧ v.toInt = 1 := ⟨_, rfl, by decide +kernel⟩
  refine lv_iconst hx hb dL_law_431 ev8 ?_
  refine lv_iadd hx hb dL_law_432 ?_
  refine lv_topi (fun v9 ev9 => ?_)
  have tv9 := nu_add ev9 (by omega) (by omega)
  refine va_sld hx hb hX hbl hbA S7.1.2.2 (tr_in (by omega) (by omega)) dL_law_433 ?_
  refine lv_topi (fun v10 ev10 => ?_)
  refine lv_aload_n hx hb dL_law_434 rfl (lv_at hl 1 rfl) ?_
  refine lv_iload hx hb dL_law_435 (lv_at hl 0 rfl) ?_
  obtain ⟨v11, ev11, tv11⟩ : ∃ v : Int32, Int32.ofInt (2) = v ∧ v.toInt = 2 := ⟨_, rfl, by decide +kernel⟩
  refine lv_iconst hx hb dL_law_437 ev11 ?_
  refine lv_iadd hx hb dL_law_438 ?_
  refine lv_topi (fun v12 ev12 => ?_)
  have tv12 := nu_add ev12 (by omega) (by omega)
  refine va_sld hx hb hX hbl hbA S7.1.2.2 (tr_in (by omega) (by omega)) dL_law_439 ?_
  refine lv_topi (fun v13 ev13 => ?_)
  refine tc_vi C hK hN hA S7.1 S7.2 J7.2.1.1 J7.2.1.2 rfl rfl (k_X10_tread l D cy S7.2 J7.2.1.1 J7.2.1.2 v10 v13) (cwV 2 hts gL_law_X10_tread rfl rfl rfl (by decide +kernel) ⟨Nat.le_of_ble_eq_true rfl, Nat.le_of_ble_eq_true rfl⟩) rfl hl.1 rfl (Nat.le_of_ble_eq_true rfl) dL_law_440 ⟨hc0, hs0⟩ (fun r14 E14 H14 k14 W14 I14 F14 p14 => ?_)
  have S14 : NowG D cy A s L τ E14 H14 k14 := ⟨W14, I14⟩
  have J14 : LI cL L τ E14 x mm ao := LI.ref J7 F14 (J7.2.2.2.1.fw S7.2 I14 J7.2.1.1 J7.2.1.2 F14 rfl rfl (p14 2 (by decide))) (SlotOK.fr F14 rfl rfl rfl rfl J7.2.2.2.2.1) rfl
  have Jt14 : TI L τ E14 mm := TI.rL Jt7 F14 rfl rfl rfl rfl (p14 20 (by decide)) (p14 5 (by decide)) (p14 3 (by decide)) (p14 6 (by decide))
  refine lv_pop hx hb dL_law_443 rfl ?_
  refine lv_goto (tgt := 1100) hx hb dL_law_444 (by decide) ?_
  refine W.widen (k := cells + 5) (n := slots + 262) (by omega) (by omega) ?_
  exact kk L τ E14 H14 k14 ls S14 J14 Jt14 hl
