theorem dL_law_274 : decode cL_law 274 = .ok (.aload_n 1, 1) := by decide +kernel
theorem dL_law_275 : decode cL_law 275 = .ok (.aload_n 0, 1) := by decide +kernel
theorem dL_law_276 : decode cL_law 276 = .ok (.iload 4, 2) := by decide +kernel
theorem dL_law_278 : decode cL_law 278 = .ok (.iconst 1, 1) := by decide +kernel
theorem dL_law_279 : decode cL_law 279 = .ok (.iadd, 1) := by decide +kernel
theorem dL_law_280 : decode cL_law 280 = .ok (.iaload, 1) := by decide +kernel
theorem dL_law_281 : decode cL_law 281 = .ok (.aload_n 0, 1) := by decide +kernel
theorem dL_law_282 : decode cL_law 282 = .ok (.iload 4, 2) := by decide +kernel
theorem dL_law_284 : decode cL_law 284 = .ok (.iconst 2, 1) := by decide +kernel
theorem dL_law_285 : decode cL_law 285 = .ok (.iadd, 1) := by decide +kernel
theorem dL_law_286 : decode cL_law 286 = .ok (.iaload, 1) := by decide +kernel
theorem dL_law_287 : decode cL_law 287 = .ok (.aload_n 0, 1) := by decide +kernel
theorem dL_law_288 : decode cL_law 288 = .ok (.iload 4, 2) := by decide +kernel
theorem dL_law_290 : decode cL_law 290 = .ok (.iconst 3, 1) := by decide +kernel
theorem dL_law_291 : decode cL_law 291 = .ok (.iadd, 1) := by decide +kernel
theorem dL_law_292 : decode cL_law 292 = .ok (.iaload, 1) := by decide +kernel
theorem dL_law_293 : decode cL_law 293 = .ok (.invokevirtual 29, 3) := by decide +kernel
theorem dL_law_296 : decode cL_law 296 = .ok (.pop, 1) := by decide +kernel
theorem dL_law_297 : decode cL_law 297 = .ok (.aload_n 2, 1) := by decide +kernel
theorem dL_law_298 : decode cL_law 298 = .ok (.aload_n 0, 1) := by decide +kernel
theorem dL_law_299 : decode cL_law 299 = .ok (.iload 4, 2) := by decide +kernel
theorem dL_law_301 : decode cL_law 301 = .ok (.iconst 1, 1) := by decide +kernel
theorem dL_law_302 : decode cL_law 302 = .ok (.iadd, 1) := by decide +kernel
theorem dL_law_303 : decode cL_law 303 = .ok (.iaload, 1) := by decide +kernel
theorem dL_law_304 : decode cL_law 304 = .ok (.aload_n 0, 1) := by decide +kernel
theorem dL_law_305 : decode cL_law 305 = .ok (.iload 4, 2) := by decide +kernel
theorem dL_law_307 : decode cL_law 307 = .ok (.iconst 2, 1) := by decide +kernel
theorem dL_law_308 : decode cL_law 308 = .ok (.iadd, 1) := by decide +kernel
theorem dL_law_309 : decode cL_law 309 = .ok (.iaload, 1) := by decide +kernel
theorem dL_law_310 : decode cL_law 310 = .ok (.aload_n 0, 1) := by decide +kernel
theorem dL_law_311 : decode cL_law 311 = .ok (.iload 4, 2) := by decide +kernel
theorem dL_law_313 : decode cL_law 313 = .ok (.iconst 3, 1) := by decide +kernel
theorem dL_law_314 : decode cL_law 314 = .ok (.iadd, 1) := by decide +kernel
theorem dL_law_315 : decode cL_law 315 = .ok (.iaload, 1) := by decide +kernel
theorem dL_law_316 : decode cL_law 316 = .ok (.invokevirtual 33, 3) := by decide +kernel
theorem dL_law_319 : decode cL_law 319 = .ok (.pop, 1) := by decide +kernel
theorem dL_law_320 : decode cL_law 320 = .ok (.goto 780, 3) := by decide +kernel
set_option maxRecDepth 100000 in
theorem ggL_law_X9_flight : GoodIn wsL_law wsX9_flight := goodIn_r _ [251, 16, 239, 240, 241, 181, 182, 2, 183, 184, 185, 186, 187, 44, 252, 253, 254, 15, 255, 54, 58, 188, 189, 190, 191, 192, 193, 194, 195, 20, 45, 196, 197, 198, 19, 199, 72, 73, 74, 200, 201, 202, 203, 204, 205, 206, 207, 50, 51, 52, 53, 55, 56, 57, 208, 209, 210, 211, 59, 60, 61, 62, 63, 64, 66, 998, 999, 1000, 1001, 1002, 1003, 1004, 1005, 1006, 1007, 1008, 1057, 1058, 1059, 1060, 1061, 1062, 1063, 1064, 1065, 1066, 1067, 1068, 1069, 1070, 1071, 1072, 1073, 1074, 1075] rfl (by decide +kernel)
set_option maxRecDepth 100000 in
theorem gL_law_X9_flight : GoodIn wsL_law (wsV RL 29 RX9 yX9_flight wsX9_flight) := goodIn_app (goodIn_of _ (by decide +kernel)) ggL_law_X9_flight
set_option maxRecDepth 100000 in
theorem ggL_law_X10_flight : GoodIn wsL_law wsX10_flight := goodIn_r _ [259, 216, 144, 217, 218, 219, 5, 220, 221, 222, 223, 224, 225, 146, 226, 227, 228, 229, 230, 145, 231, 232, 233, 234, 1009, 1010, 1011, 1012, 1013, 1014, 1015, 1016, 1017, 1018, 1019, 1020, 1021, 1022, 1023, 1024, 1025, 1026, 1027, 1028, 1029, 1030, 1031, 1032, 1033, 1034, 1035, 1036, 1037, 1038, 1039, 1040, 1041, 1042, 1043, 1044, 1045, 1046, 1047, 1048, 1049, 1050, 1051, 1052, 1053, 1054, 1055, 1056] rfl (by decide +kernel)
set_option maxRecDepth 100000 in
theorem gL_law_X10_flight : GoodIn wsL_law (wsV RL 33 RX10 yX10_flight wsX10_flight) := goodIn_app (goodIn_of _ (by decide +kernel)) ggL_law_X10_flight
set_option maxHeartbeats 4000000 in
set_option maxRecDepth 100000 in
theorem cs_2 {p : Program} {l : Launch} {e : Env} {s : State} {m : MethodId} {below : List Frame} {meth : Method} {c : Code} {D : va_G} {cy : Nat → ClassId} {A : Nat → Prop} {G : Sg} {tx : String} {sa : Nat} {cL : ClassId} {b Ln : Nat} {xs : Nat → Int32} {Q : State → Prop} {ls : Array Slot} (X : LC p l s m meth c D cy A G tx sa cL b Ln xs) {L : List Nat} {τ : Nat → Ro} {E : Ec} {H : Heap} {locs : List Loc} {cells slots : Nat} (S : NowG D cy A s L τ E H locs) {x mm ao : Nat} (J : LI cL L τ E x mm ao) (Jt : TI L τ E mm) {i : Int32} (hi0 : 0 ≤ i.toInt) (hi6 : i.toInt + 6 ≤ Ln) (hl : lv_has ls 7 [(4, .int i), (0, .ref b), (1, .ref x), (2, .ref mm), (3, .ref ao)]) (hc : cells + 5 ≤ 601024) (hs : slots + 262 ≤ 7293034)
    (kk : ∀ (L' : List Nat) (τ' : Nat → Ro) (E' : Ec) (H' : Heap) (locs' : List Loc) (ls' : Array Slot), NowG D cy A s L' τ' E' H' locs' → LI cL L' τ' E' x mm ao → TI L' τ' E' mm → lv_has ls' 7 [(4, .int i), (0, .ref b), (1, .ref x), (2, .ref mm), (3, .ref ao)] → W p l e room_1 s m #[Value.ref b] below meth c H' locs' (cells + 5) (slots + 262) Q (F0 m 1100 ls' [])) : W p l e room_1 s m #[Value.ref b] below meth c H locs cells slots Q (F0 m 274 ls []) := by
  obtain ⟨C, hK, hN, hA, SZ, TZ, hKL, hX, hbl, hbA, hlt, hLn⟩ := X
  have hx := C.1
  have hb := C.2.1
  have hts := C.2.2.2.2
  have hc0 : cells ≤ room_1.cells := (show cells ≤ 601024 by omega)
  have hs0 : slots ≤ room_1.slots := (show slots ≤ 7293034 by omega)
  have hc5 : cells + 5 ≤ room_1.cells := (show cells + 5 ≤ 601024 by omega)
  have hs5 : slots + 262 ≤ room_1.slots := (show slots + 262 ≤ 7293034 by omega)
  refine lv_aload_n hx hb dL_law_274 rfl (lv_at hl 2 rfl) ?_
  refine lv_aload_n hx hb dL_law_275 rfl (lv_at hl 1 rfl) ?_
  refine lv_iload hx hb dL_law_276 (lv_at hl 0 rfl) ?_
  obtain ⟨v1, ev1, tv1⟩ : ∃ v : Int32, Int32.ofInt (1) = v ∧ v.toInt = 1 := ⟨_, rfl, by decide +kernel⟩
  refine lv_iconst hx hb dL_law_278 ev1 ?_
  refine lv_iadd hx hb dL_law_279 ?_
  refine lv_topi (fun v2 ev2 => ?_)
  have tv2 := nu_add ev2 (by omega) (by omega)
  refine va_sld hx hb hX hbl hbA S.1.2.2 (tr_in (by omega) (by omega)) dL_law_280 ?_
  refine lv_topi (fun v3 ev3 => ?_)
  refine lv_aload_n hx hb dL_law_281 rfl (lv_at hl 1 rfl) ?_
  refine lv_iload hx hb dL_law_282 (lv_at hl 0 rfl) ?_
  obtain ⟨v4, ev4, tv4⟩ : ∃ v : Int32, Int32.ofInt (2) = v ∧ v.toInt = 2 := ⟨_, rfl, by decide +kernel⟩
  refine lv_iconst hx hb dL_law_284 ev4 ?_
  refine lv_iadd hx hb dL_law_285 ?_
  refine lv_topi (fun v5 ev5 => ?_)
  have tv5 := nu_add ev5 (by omega) (by omega)
  refine va_sld hx hb hX hbl hbA S.1.2.2 (tr_in (by omega) (by omega)) dL_law_286 ?_
  refine lv_topi (fun v6 ev6 => ?_)
  refine lv_aload_n hx hb dL_law_287 rfl (lv_at hl 1 rfl) ?_
  refine lv_iload hx hb dL_law_288 (lv_at hl 0 rfl) ?_
  obtain ⟨v7, ev7, tv7⟩ : ∃ v : Int32, Int32.ofInt (3) = v ∧ v.toInt = 3 := ⟨_, rfl, by decide +kernel⟩
  refine lv_iconst hx hb dL_law_290 ev7 ?_
  refine lv_iadd hx hb dL_law_291 ?_
  refine lv_topi (fun v8 ev8 => ?_)
  have tv8 := nu_add ev8 (by omega) (by omega)
  refine va_sld hx hb hX hbl hbA S.1.2.2 (tr_in (by omega) (by omega)) dL_law_292 ?_
  refine lv_topi (fun v9 ev9 => ?_)
  refine tc_vi C hK hN hA S.1 S.2 J.1.1 J.1.2 rfl rfl (k_X9_flight_vw l D cy S.2 J.1.1 J.1.2 v3 v6 v9) (cwV 3 hts gL_law_X9_flight rfl rfl rfl (by decide +kernel) ⟨Nat.le_of_ble_eq_true rfl, Nat.le_of_ble_eq_true rfl⟩) rfl hl.1 rfl (Nat.le_of_ble_eq_true rfl) dL_law_293 ⟨hc0, hs0⟩ (fun r10 E10 H10 k10 W10 I10 F10 p10 => ?_)
  have S10 : NowG D cy A s L τ E10 H10 k10 := ⟨W10, I10⟩
  have J10 : LI cL L τ E10 x mm ao := LI.cls J S.2 I10 F10 rfl rfl rfl rfl rfl rfl rfl rfl
  have n9 := p10.1
  have TH10 : TH L τ E10 mm := Jt.1.cls J.2.1.1 J.2.1.2 F10 rfl rfl rfl rfl
  refine lv_pop hx hb dL_law_296 rfl ?_
  refine lv_aload_n hx hb dL_law_297 rfl (lv_at hl 3 rfl) ?_
  refine lv_aload_n hx hb dL_law_298 rfl (lv_at hl 1 rfl) ?_
  refine lv_iload hx hb dL_law_299 (lv_at hl 0 rfl) ?_
  obtain ⟨v11, ev11, tv11⟩ : ∃ v : Int32, Int32.ofInt (1) = v ∧ v.toInt = 1 := ⟨_, rfl, by decide +kernel⟩
  refine lv_iconst hx hb dL_law_301 ev11 ?_
  refine lv_iadd hx hb dL_law_302 ?_
  refine lv_topi (fun v12 ev12 => ?_)
  have tv12 := nu_add ev12 (by omega) (by omega)
  refine va_sld hx hb hX hbl hbA S10.1.2.2 (tr_in (by omega) (by omega)) dL_law_303 ?_
  refine lv_topi (fun v13 ev13 => ?_)
  refine lv_aload_n hx hb dL_law_304 rfl (lv_at hl 1 rfl) ?_
  refine lv_iload hx hb dL_law_305 (lv_at hl 0 rfl) ?_
  obtain ⟨v14, ev14, tv14⟩ : ∃ v : Int32, Int32.ofInt (2) = v ∧ v.toInt = 2 := ⟨_, rfl, by decide +kernel⟩
  refine lv_iconst hx hb dL_law_307 ev14 ?_
  refine lv_iadd hx hb dL_law_308 ?_
  refine lv_topi (fun v15 ev15 => ?_)
  have tv15 := nu_add ev15 (by omega) (by omega)
  refine va_sld hx hb hX hbl hbA S10.1.2.2 (tr_in (by omega) (by omega)) dL_law_309 ?_
  refine lv_topi (fun v16 ev16 => ?_)
  refine lv_aload_n hx hb dL_law_310 rfl (lv_at hl 1 rfl) ?_
  refine lv_iload hx hb dL_law_311 (lv_at hl 0 rfl) ?_
  obtain ⟨v17, ev17, tv17⟩ : ∃ v : Int32, Int32.ofInt (3) = v ∧ v.toInt = 3 := ⟨_, rfl, by decide +kernel⟩
  refine lv_iconst hx hb dL_law_313 ev17 ?_
  refine lv_iadd hx hb dL_law_314 ?_
  refine lv_topi (fun v18 ev18 => ?_)
  have tv18 := nu_add ev18 (by omega) (by omega)
  refine va_sld hx hb hX hbl hbA S10.1.2.2 (tr_in (by omega) (by omega)) dL_law_315 ?_
  refine lv_topi (fun v19 ev19 => ?_)
  refine tc_vi C hK hN hA S10.1 S10.2 J10.2.1.1 J10.2.1.2 rfl rfl (k_X10_flight_vw l D cy S10.2 J10.2.1.1 J10.2.1.2 v13 v16 v19 J10.2.2.2.1) (cwV 3 hts gL_law_X10_flight rfl rfl rfl (by decide +kernel) ⟨Nat.le_of_ble_eq_true rfl, Nat.le_of_ble_eq_true rfl⟩) rfl hl.1 rfl (Nat.le_of_ble_eq_true rfl) dL_law_316 ⟨hc0, hs0⟩ (fun r20 E20 H20 k20 W20 I20 F20 p20 => ?_)
  have S20 : NowG D cy A s L τ E20 H20 k20 := ⟨W20, I20⟩
  have J20 : LI cL L τ E20 x mm ao := LI.ref J10 F20 p20.2.2.2.2 (SlotOK.fr F20 rfl rfl rfl rfl J10.2.2.2.2.1) rfl
  have n3 := p20.1
  have Jt20 : TI L τ E20 mm := TI.rS TH10 S10.2 J10.1.1 J10.1.2 F20 rfl rfl rfl rfl (p20.2.2.2.1 20 (by decide)) (p20.2.2.2.1 5 (by decide)) n9 n3
  refine lv_pop hx hb dL_law_319 rfl ?_
  refine lv_goto (tgt := 1100) hx hb dL_law_320 (by decide) ?_
  refine W.widen (k := cells + 5) (n := slots + 262) (by omega) (by omega) ?_
  exact kk L τ E20 H20 k20 ls S20 J20 Jt20 hl
