theorem dL_law_323 : decode cL_law 323 = .ok (.aload_n 1, 1) := by decide +kernel
theorem dL_law_324 : decode cL_law 324 = .ok (.aload_n 0, 1) := by decide +kernel
theorem dL_law_325 : decode cL_law 325 = .ok (.iload 4, 2) := by decide +kernel
theorem dL_law_327 : decode cL_law 327 = .ok (.iconst 1, 1) := by decide +kernel
theorem dL_law_328 : decode cL_law 328 = .ok (.iadd, 1) := by decide +kernel
theorem dL_law_329 : decode cL_law 329 = .ok (.iaload, 1) := by decide +kernel
theorem dL_law_330 : decode cL_law 330 = .ok (.aload_n 0, 1) := by decide +kernel
theorem dL_law_331 : decode cL_law 331 = .ok (.iload 4, 2) := by decide +kernel
theorem dL_law_333 : decode cL_law 333 = .ok (.iconst 2, 1) := by decide +kernel
theorem dL_law_334 : decode cL_law 334 = .ok (.iadd, 1) := by decide +kernel
theorem dL_law_335 : decode cL_law 335 = .ok (.iaload, 1) := by decide +kernel
theorem dL_law_336 : decode cL_law 336 = .ok (.invokevirtual 34, 3) := by decide +kernel
theorem dL_law_339 : decode cL_law 339 = .ok (.pop, 1) := by decide +kernel
theorem dL_law_340 : decode cL_law 340 = .ok (.aload_n 2, 1) := by decide +kernel
theorem dL_law_341 : decode cL_law 341 = .ok (.aload_n 0, 1) := by decide +kernel
theorem dL_law_342 : decode cL_law 342 = .ok (.iload 4, 2) := by decide +kernel
theorem dL_law_344 : decode cL_law 344 = .ok (.iconst 1, 1) := by decide +kernel
theorem dL_law_345 : decode cL_law 345 = .ok (.iadd, 1) := by decide +kernel
theorem dL_law_346 : decode cL_law 346 = .ok (.iaload, 1) := by decide +kernel
theorem dL_law_347 : decode cL_law 347 = .ok (.aload_n 0, 1) := by decide +kernel
theorem dL_law_348 : decode cL_law 348 = .ok (.iload 4, 2) := by decide +kernel
theorem dL_law_350 : decode cL_law 350 = .ok (.iconst 2, 1) := by decide +kernel
theorem dL_law_351 : decode cL_law 351 = .ok (.iadd, 1) := by decide +kernel
theorem dL_law_352 : decode cL_law 352 = .ok (.iaload, 1) := by decide +kernel
theorem dL_law_353 : decode cL_law 353 = .ok (.invokevirtual 38, 3) := by decide +kernel
theorem dL_law_356 : decode cL_law 356 = .ok (.pop, 1) := by decide +kernel
theorem dL_law_357 : decode cL_law 357 = .ok (.goto 743, 3) := by decide +kernel
set_option maxRecDepth 100000 in
theorem ggL_law_X9_turn : GoodIn wsL_law wsX9_turn := goodIn_r _ [263, 16, 239, 242, 181, 182, 2, 183, 184, 185, 186, 187, 44, 188, 189, 190, 191, 192, 193, 194, 195, 20, 45, 196, 197, 198, 19, 199, 72, 73, 74, 200, 201, 202, 203, 204, 205, 206, 15, 207, 50, 51, 52, 53, 54, 55, 56, 57, 58, 208, 209, 210, 211, 59, 60, 61, 62, 63, 64, 66, 998, 999, 1000, 1001, 1002, 1003, 1004, 1005, 1006, 1007, 1008, 1057, 1058, 1059, 1060, 1061, 1062, 1063, 1064, 1065, 1066, 1067, 1068, 1069, 1070, 1071, 1072, 1073, 1074, 1075] rfl (by decide +kernel)
set_option maxRecDepth 100000 in
theorem gL_law_X9_turn : GoodIn wsL_law (wsV RL 34 RX9 yX9_turn wsX9_turn) := goodIn_app (goodIn_of _ (by decide +kernel)) ggL_law_X9_turn
set_option maxRecDepth 100000 in
theorem ggL_law_X10_turn : GoodIn wsL_law wsX10_turn := goodIn_r _ [267, 216, 144, 217, 218, 219, 5, 220, 221, 222, 223, 224, 225, 146, 226, 227, 228, 229, 230, 145, 231, 232, 233, 234, 1009, 1010, 1011, 1012, 1013, 1014, 1015, 1016, 1017, 1018, 1019, 1020, 1021, 1022, 1023, 1024, 1025, 1026, 1027, 1028, 1029, 1030, 1031, 1032, 1033, 1034, 1035, 1036, 1037, 1038, 1039, 1040, 1041, 1042, 1043, 1044, 1045, 1046, 1047, 1048, 1049, 1050, 1051, 1052, 1053, 1054, 1055, 1056] rfl (by decide +kernel)
set_option maxRecDepth 100000 in
theorem gL_law_X10_turn : GoodIn wsL_law (wsV RL 38 RX10 yX10_turn wsX10_turn) := goodIn_app (goodIn_of _ (by decide +kernel)) ggL_law_X10_turn
set_option maxHeartbeats 4000000 in
set_option maxRecDepth 100000 in
theorem cs_3 {p : Program} {l : Launch} {e : Env} {s : State} {m : MethodId} {below : List Frame} {meth : Method} {c : Code} {D : va_G} {cy : Nat → ClassId} {A : Nat → Prop} {G : Sg} {tx : String} {sa : Nat} {cL : ClassId} {b Ln : Nat} {xs : Nat → Int32} {Q : State → Prop} {ls : Array Slot} (X : LC p l s m meth c D cy A G tx sa cL b Ln xs) {L : List Nat} {τ : Nat → Ro} {E : Ec} {H : Heap} {locs : List Loc} {cells slots : Nat} (S : NowG D cy A s L τ E H locs) {x mm ao : Nat} (J : LI cL L τ E x mm ao) (Jt : TI L τ E mm) {i : Int32} (hi0 : 0 ≤ i.toInt) (hi6 : i.toInt + 6 ≤ Ln) (hl : lv_has ls 7 [(4, .int i), (0, .ref b), (1, .ref x), (2, .ref mm), (3, .ref ao)]) (hc : cells + 5 ≤ 601024) (hs : slots + 262 ≤ 7293034)
    (kk : ∀ (L' : List Nat) (τ' : Nat → Ro) (E' : Ec) (H' : Heap) (locs' : List Loc) (ls' : Array Slot), NowG D cy A s L' τ' E' H' locs' → LI cL L' τ' E' x mm ao → TI L' τ' E' mm → lv_has ls' 7 [(4, .int i), (0, .ref b), (1, .ref x), (2, .ref mm), (3, .ref ao)] → W p l e room_1 s m #[Value.ref b] below meth c H' locs' (cells + 5) (slots + 262) Q (F0 m 1100 ls' [])) : W p l e room_1 s m #[Value.ref b] below meth c H locs cells slots Q (F0 m 323 ls []) := by
  obtain ⟨C, hK, hN, hA, SZ, TZ, hKL, hX, hbl, hbA, hlt, hLn⟩ := X
  have hx := C.1
  have hb := C.2.1
  have hts := C.2.2.2.2
  have hc0 : cells ≤ room_1.cells := (show cells ≤ 601024 by omega)
  have hs0 : slots ≤ room_1.slots := (show slots ≤ 7293034 by omega)
  have hc5 : cells + 5 ≤ room_1.cells := (show cells + 5 ≤ 601024 by omega)
  have hs5 : slots + 262 ≤ room_1.slots := (show slots + 262 ≤ 7293034 by omega)
  refine lv_aload_n hx hb dL_law_323 rfl (lv_at hl 2 rfl) ?_
  refine lv_aload_n hx hb dL_law_324 rfl (lv_at hl 1 rfl) ?_
  refine lv_iload hx hb dL_law_325 (lv_at hl 0 rfl) ?_
  obtain ⟨v1, ev1, tv1⟩ : ∃ v : Int32, Int32.ofInt (1) = v ∧ v.toInt = 1 := ⟨_, rfl, by decide +kernel⟩
  refine lv_iconst hx hb dL_law_327 ev1 ?_
  refine lv_iadd hx hb dL_law_328 ?_
  refine lv_topi (fun v2 ev2 => ?_)
  have tv2 := nu_add ev2 (by omega) (by omega)
  refine va_sld hx hb hX hbl hbA S.1.2.2 (tr_in (by omega) (by omega)) dL_law_329 ?_
  refine lv_topi (fun v3 ev3 => ?_)
  refine lv_aload_n hx hb dL_law_330 rfl (lv_at hl 1 rfl) ?_
  refine lv_iload hx hb dL_law_331 (lv_at hl 0 rfl) ?_
  obtain ⟨v4, ev4, tv4⟩ : ∃ v : Int32, Int32.ofInt (2) = v ∧ v.toInt = 2 := ⟨_, rfl, by decide +kernel⟩
  refine lv_iconst hx hb dL_law_333 ev4 ?_
  refine lv_iadd hx hb dL_law_334 ?_
  refine lv_topi (fun v5 ev5 => ?_)
  have tv5 := nu_add ev5 (by omega) (by omega)
  refine va_sld hx hb hX hbl hbA S.1.2.2 (tr_in (by omega) (by omega)) dL_law_335 ?_
  refine lv_topi (fun v6 ev6 => ?_)
  refine tc_vi C hK hN hA S.1 S.2 J.1.1 J.1.2 rfl rfl (k_X9_turn_vw l D cy S.2 J.1.1 J.1.2 v3 v6) (cwV 2 hts gL_law_X9_turn rfl rfl rfl (by decide +kernel) ⟨Nat.le_of_ble_eq_true rfl, Nat.le_of_ble_eq_true rfl⟩) rfl hl.1 rfl (Nat.le_of_ble_eq_true rfl) dL_law_336 ⟨hc0, hs0⟩ (fun r7 E7 H7 k7 W7 I7 F7 p7 => ?_)
  have S7 : NowG D cy A s L τ E7 H7 k7 := ⟨W7, I7⟩
  have J7 : LI cL L τ E7 x mm ao := LI.cls J S.2 I7 F7 rfl rfl rfl rfl rfl rfl rfl rfl
  have n9 := p7.1
  have TH7 : TH L τ E7 mm := Jt.1.cls J.2.1.1 J.2.1.2 F7 rfl rfl rfl rfl
  refine lv_pop hx hb dL_law_339 rfl ?_
  refine lv_aload_n hx hb dL_law_340 rfl (lv_at hl 3 rfl) ?_
  refine lv_aload_n hx hb dL_law_341 rfl (lv_at hl 1 rfl) ?_
  refine lv_iload hx hb dL_law_342 (lv_at hl 0 rfl) ?_
  obtain ⟨v8, ev8, tv8⟩ : ∃ v : Int32, Int32.ofInt (1) = v ∧ v.toInt = 1 := ⟨_, rfl, by decide +kernel⟩
  refine lv_iconst hx hb dL_law_344 ev8 ?_
  refine lv_iadd hx hb dL_law_345 ?_
  refine lv_topi (fun v9 ev9 => ?_)
  have tv9 := nu_add ev9 (by omega) (by omega)
  refine va_sld hx hb hX hbl hbA S7.1.2.2 (tr_in (by omega) (by omega)) dL_law_346 ?_
  refine lv_topi (fun v10 ev10 => ?_)
  refine lv_aload_n hx hb dL_law_347 rfl (lv_at hl 1 rfl) ?_
  refine lv_iload hx hb dL_law_348 (lv_at hl 0 rfl) ?_
  obtain ⟨v11, ev11, tv11⟩ : ∃ v : Int32, Int32.ofInt (2) = v ∧ v.toInt = 2 := ⟨_, rfl, by decide +kernel⟩
  refine lv_iconst hx hb dL_law_350 ev11 ?_
  refine lv_iadd hx hb dL_law_351 ?_
  refine lv_topi (fun v12 ev12 => ?_)
  have tv12 := nu_add ev12 (by omega) (by omega)
  refine va_sld hx hb hX hbl hbA S7.1.2.2 (tr_in (by omega) (by omega)) dL_law_352 ?_
  refine lv_topi (fun v13 ev13 => ?_)
  refine tc_vi C hK hN hA S7.1 S7.2 J7.2.1.1 J7.2.1.2 rfl rfl (k_X10_turn_vw l D cy S7.2 J7.2.1.1 J7.2.1.2 v10 v13 J7.2.2.2.1) (cwV 2 hts gL_law_X10_turn rfl rfl rfl (by decide +kernel) ⟨Nat.le_of_ble_eq_true rfl, Nat.le_of_ble_eq_true rfl⟩) rfl hl.1 rfl (Nat.le_of_ble_eq_true rfl) dL_law_353 ⟨hc0, hs0⟩ (fun r14 E14 H14 k14 W14 I14 F14 p14 => ?_)
  have S14 : NowG D cy A s L τ E14 H14 k14 := ⟨W14, I14⟩
  have J14 : LI cL L τ E14 x mm ao := LI.ref J7 F14 p14.2.2.2.2 (SlotOK.fr F14 rfl rfl rfl rfl J7.2.2.2.2.1) rfl
  have n3 := p14.1
  have Jt14 : TI L τ E14 mm := TI.rS TH7 S7.2 J7.1.1 J7.1.2 F14 rfl rfl rfl rfl (p14.2.2.2.1 20 (by decide)) (p14.2.2.2.1 5 (by decide)) n9 n3
  refine lv_pop hx hb dL_law_356 rfl ?_
  refine lv_goto (tgt := 1100) hx hb dL_law_357 (by decide) ?_
  refine W.widen (k := cells + 5) (n := slots + 262) (by omega) (by omega) ?_
  exact kk L τ E14 H14 k14 ls S14 J14 Jt14 hl
