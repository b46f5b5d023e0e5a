theorem dL_law_249 : decode cL_law 249 = .ok (.aload_n 1, 1) := by decide +kernel
theorem dL_law_250 : decode cL_law 250 = .ok (.aload_n 0, 1) := by decide +kernel
theorem dL_law_251 : decode cL_law 251 = .ok (.iload 4, 2) := by decide +kernel
theorem dL_law_253 : decode cL_law 253 = .ok (.iconst 1, 1) := by decide +kernel
theorem dL_law_254 : decode cL_law 254 = .ok (.iadd, 1) := by decide +kernel
theorem dL_law_255 : decode cL_law 255 = .ok (.iaload, 1) := by decide +kernel
theorem dL_law_256 : decode cL_law 256 = .ok (.invokevirtual 24, 3) := by decide +kernel
theorem dL_law_259 : decode cL_law 259 = .ok (.pop, 1) := by decide +kernel
theorem dL_law_260 : decode cL_law 260 = .ok (.aload_n 2, 1) := by decide +kernel
theorem dL_law_261 : decode cL_law 261 = .ok (.aload_n 0, 1) := by decide +kernel
theorem dL_law_262 : decode cL_law 262 = .ok (.iload 4, 2) := by decide +kernel
theorem dL_law_264 : decode cL_law 264 = .ok (.iconst 1, 1) := by decide +kernel
theorem dL_law_265 : decode cL_law 265 = .ok (.iadd, 1) := by decide +kernel
theorem dL_law_266 : decode cL_law 266 = .ok (.iaload, 1) := by decide +kernel
theorem dL_law_267 : decode cL_law 267 = .ok (.invokevirtual 28, 3) := by decide +kernel
theorem dL_law_270 : decode cL_law 270 = .ok (.pop, 1) := by decide +kernel
theorem dL_law_271 : decode cL_law 271 = .ok (.goto 829, 3) := by decide +kernel
set_option maxRecDepth 100000 in
theorem ggL_law_X9_path : GoodIn wsL_law wsX9_path := goodIn_r _ [238, 16, 239, 240, 241, 242, 181, 182, 2, 183, 184, 185, 186, 187, 44, 188, 189, 190, 191, 192, 193, 194, 195, 20, 45, 196, 197, 198, 19, 199, 72, 73, 74, 200, 201, 202, 203, 204, 205, 206, 15, 207, 50, 51, 52, 53, 54, 55, 56, 57, 58, 208, 209, 210, 211, 59, 60, 61, 62, 63, 64, 66, 243, 87, 88, 89, 998, 999, 1000, 1001, 1002, 1003, 1004, 1005, 1006, 1007, 1008, 1057, 1058, 1059, 1060, 1061, 1062, 1063, 1064, 1065, 1066, 1067, 1068, 1069, 1070, 1071, 1072, 1073, 1074, 1075] rfl (by decide +kernel)
set_option maxRecDepth 100000 in
theorem gL_law_X9_path : GoodIn wsL_law (wsV RL 24 RX9 yX9_path wsX9_path) := goodIn_app (goodIn_of _ (by decide +kernel)) ggL_law_X9_path
set_option maxRecDepth 100000 in
theorem ggL_law_X10_path : GoodIn wsL_law wsX10_path := goodIn_r _ [247, 216, 144, 217, 218, 219, 5, 220, 221, 222, 223, 224, 225, 146, 226, 227, 228, 229, 230, 145, 231, 232, 233, 234, 1009, 1010, 1011, 1012, 1013, 1014, 1015, 1016, 1017, 1018, 1019, 1020, 1021, 1022, 1023, 1024, 1025, 1026, 1027, 1028, 1029, 1030, 1031, 1032, 1033, 1034, 1035, 1036, 1037, 1038, 1039, 1040, 1041, 1042, 1043, 1044, 1045, 1046, 1047, 1048, 1049, 1050, 1051, 1052, 1053, 1054, 1055, 1056] rfl (by decide +kernel)
set_option maxRecDepth 100000 in
theorem gL_law_X10_path : GoodIn wsL_law (wsV RL 28 RX10 yX10_path wsX10_path) := goodIn_app (goodIn_of _ (by decide +kernel)) ggL_law_X10_path
set_option maxHeartbeats 4000000 in
set_option maxRecDepth 100000 in
theorem cs_1 {p : Program} {l : Launch} {e : Env} {s : State} {m : MethodId} {below : List Frame} {meth : Method} {c : Code} {D : va_G} {cy : Nat → ClassId} {A : Nat → Prop} {G : Sg} {tx : String} {sa : Nat} {cL : ClassId} {b Ln : Nat} {xs : Nat → Int32} {Q : State → Prop} {ls : Array Slot} (X : LC p l s m meth c D cy A G tx sa cL b Ln xs) {L : List Nat} {τ : Nat → Ro} {E : Ec} {H : Heap} {locs : List Loc} {cells slots : Nat} (S : NowG D cy A s L τ E H locs) {x mm ao : Nat} (J : LI cL L τ E x mm ao) (Jt : TI L τ E mm) {i : Int32} (hi0 : 0 ≤ i.toInt) (hi6 : i.toInt + 6 ≤ Ln) (hl : lv_has ls 7 [(4, .int i), (0, .ref b), (1, .ref x), (2, .ref mm), (3, .ref ao)]) (hc : cells + 5 ≤ 601024) (hs : slots + 262 ≤ 7293034)
    (kk : ∀ (L' : List Nat) (τ' : Nat → Ro) (E' : Ec) (H' : Heap) (locs' : List Loc) (ls' : Array Slot), NowG D cy A s L' τ' E' H' locs' → LI cL L' τ' E' x mm ao → TI L' τ' E' mm → lv_has ls' 7 [(4, .int i), (0, .ref b), (1, .ref x), (2, .ref mm), (3, .ref ao)] → W p l e room_1 s m #[Value.ref b] below meth c H' locs' (cells + 5) (slots + 262) Q (F0 m 1100 ls' [])) : W p l e room_1 s m #[Value.ref b] below meth c H locs cells slots Q (F0 m 249 ls []) := by
  obtain ⟨C, hK, hN, hA, SZ, TZ, hKL, hX, hbl, hbA, hlt, hLn⟩ := X
  have hx := C.1
  have hb := C.2.1
  have hts := C.2.2.2.2
  have hc0 : cells ≤ room_1.cells := (show cells ≤ 601024 by omega)
  have hs0 : slots ≤ room_1.slots := (show slots ≤ 7293034 by omega)
  have hc5 : cells + 5 ≤ room_1.cells := (show cells + 5 ≤ 601024 by omega)
  have hs5 : slots + 262 ≤ room_1.slots := (show slots + 262 ≤ 7293034 by omega)
  refine lv_aload_n hx hb dL_law_249 rfl (lv_at hl 2 rfl) ?_
  refine lv_aload_n hx hb dL_law_250 rfl (lv_at hl 1 rfl) ?_
  refine lv_iload hx hb dL_law_251 (lv_at hl 0 rfl) ?_
  obtain ⟨v1, ev1, tv1⟩ : ∃ v : Int32, Int32.ofInt (1) = v ∧ v.toInt = 1 := ⟨_, rfl, by decide +kernel⟩
  refine lv_iconst hx hb dL_law_253 ev1 ?_
  refine lv_iadd hx hb dL_law_254 ?_
  refine lv_topi (fun v2 ev2 => ?_)
  have tv2 := nu_add ev2 (by omega) (by omega)
  refine va_sld hx hb hX hbl hbA S.1.2.2 (tr_in (by omega) (by omega)) dL_law_255 ?_
  refine lv_topi (fun v3 ev3 => ?_)
  refine tc_vi C hK hN hA S.1 S.2 J.1.1 J.1.2 rfl rfl (k_X9_path_vw l D cy S.2 J.1.1 J.1.2 v3) (cwV 1 hts gL_law_X9_path rfl rfl rfl (by decide +kernel) ⟨Nat.le_of_ble_eq_true rfl, Nat.le_of_ble_eq_true rfl⟩) rfl hl.1 rfl (Nat.le_of_ble_eq_true rfl) dL_law_256 ⟨hc0, hs0⟩ (fun r4 E4 H4 k4 W4 I4 F4 p4 => ?_)
  have S4 : NowG D cy A s L τ E4 H4 k4 := ⟨W4, I4⟩
  have J4 : LI cL L τ E4 x mm ao := LI.cls J S.2 I4 F4 rfl rfl rfl rfl rfl rfl rfl rfl
  have n9 := p4.2.1
  have TH4 : TH L τ E4 mm := Jt.1.cls J.2.1.1 J.2.1.2 F4 rfl rfl rfl rfl
  refine lv_pop hx hb dL_law_259 rfl ?_
  refine lv_aload_n hx hb dL_law_260 rfl (lv_at hl 3 rfl) ?_
  refine lv_aload_n hx hb dL_law_261 rfl (lv_at hl 1 rfl) ?_
  refine lv_iload hx hb dL_law_262 (lv_at hl 0 rfl) ?_
  obtain ⟨v5, ev5, tv5⟩ : ∃ v : Int32, Int32.ofInt (1) = v ∧ v.toInt = 1 := ⟨_, rfl, by decide +kernel⟩
  refine lv_iconst hx hb dL_law_264 ev5 ?_
  refine lv_iadd hx hb dL_law_265 ?_
  refine lv_topi (fun v6 ev6 => ?_)
  have tv6 := nu_add ev6 (by omega) (by omega)
  refine va_sld hx hb hX hbl hbA S4.1.2.2 (tr_in (by omega) (by omega)) dL_law_266 ?_
  refine lv_topi (fun v7 ev7 => ?_)
  refine tc_vi C hK hN hA S4.1 S4.2 J4.2.1.1 J4.2.1.2 rfl rfl (k_X10_path_vw l D cy S4.2 J4.2.1.1 J4.2.1.2 v7 J4.2.2.2.1) (cwV 1 hts gL_law_X10_path rfl rfl rfl (by decide +kernel) ⟨Nat.le_of_ble_eq_true rfl, Nat.le_of_ble_eq_true rfl⟩) rfl hl.1 rfl (Nat.le_of_ble_eq_true rfl) dL_law_267 ⟨hc0, hs0⟩ (fun r8 E8 H8 k8 W8 I8 F8 p8 => ?_)
  have S8 : NowG D cy A s L τ E8 H8 k8 := ⟨W8, I8⟩
  have J8 : LI cL L τ E8 x mm ao := LI.ref J4 F8 p8.2.2.2.2.2 (SlotOK.fr F8 rfl rfl rfl rfl J4.2.2.2.2.1) rfl
  have n3 := p8.2.1
  have Jt8 : TI L τ E8 mm := TI.rS TH4 S4.2 J4.1.1 J4.1.2 F8 rfl rfl rfl rfl (p8.2.2.2.2.1 20 (by decide)) (p8.2.2.2.2.1 5 (by decide)) n9 n3
  refine lv_pop hx hb dL_law_270 rfl ?_
  refine lv_goto (tgt := 1100) hx hb dL_law_271 (by decide) ?_
  refine W.widen (k := cells + 5) (n := slots + 262) (by omega) (by omega) ?_
  exact kk L τ E8 H8 k8 ls S8 J8 Jt8 hl
