theorem dL_law_932 : decode cL_law 932 = .ok (.aload_n 1, 1) := by decide +kernel
theorem dL_law_933 : decode cL_law 933 = .ok (.invokevirtual 124, 3) := by decide +kernel
theorem dL_law_936 : decode cL_law 936 = .ok (.pop, 1) := by decide +kernel
theorem dL_law_937 : decode cL_law 937 = .ok (.aload_n 2, 1) := by decide +kernel
theorem dL_law_938 : decode cL_law 938 = .ok (.invokevirtual 127, 3) := by decide +kernel
theorem dL_law_941 : decode cL_law 941 = .ok (.pop, 1) := by decide +kernel
theorem dL_law_942 : decode cL_law 942 = .ok (.goto 158, 3) := by decide +kernel
set_option maxRecDepth 100000 in
theorem ggL_law_X9_sweep : GoodIn wsL_law wsX9_sweep := goodIn_r _ [893, 40, 286, 998, 999, 1000, 1001, 1002, 1003, 1004, 1005, 1006, 1007, 1008, 1110, 1111, 1112] rfl (by decide +kernel)
set_option maxRecDepth 100000 in
theorem gL_law_X9_sweep : GoodIn wsL_law (wsV RL 124 RX9 yX9_sweep wsX9_sweep) := goodIn_app (goodIn_of _ (by decide +kernel)) ggL_law_X9_sweep
set_option maxRecDepth 100000 in
theorem ggL_law_X10_sweep : GoodIn wsL_law wsX10_sweep := goodIn_r _ [897, 216, 349, 1009, 1010, 1011, 1012, 1013, 1014, 1015, 1016, 1017, 1018, 1019, 1020, 1021, 1022, 1023, 1024, 1025, 1026, 1027, 1028, 1029, 1030, 1031, 1032, 1033, 1034, 1035, 1036, 1037, 1038, 1039, 1040, 1041, 1042, 1043, 1044, 1045, 1046, 1047, 1048, 1049, 1050, 1051, 1052, 1053, 1054, 1055, 1056] rfl (by decide +kernel)
set_option maxRecDepth 100000 in
theorem gL_law_X10_sweep : GoodIn wsL_law (wsV RL 127 RX10 yX10_sweep wsX10_sweep) := goodIn_app (goodIn_of _ (by decide +kernel)) ggL_law_X10_sweep
set_option maxHeartbeats 4000000 in
set_option maxRecDepth 100000 in
theorem cs_24 {p : Program} {l : Launch} {e : Env} {s : State} {m : MethodId} {below : List Frame} {meth : Method} {c : Code} {D : va_G} {cy : Nat → ClassId} {A : Nat → Prop} {G : Sg} {tx : String} {sa : Nat} {cL : ClassId} {b Ln : Nat} {xs : Nat → Int32} {Q : State → Prop} {ls : Array Slot} (X : LC p l s m meth c D cy A G tx sa cL b Ln xs) {L : List Nat} {τ : Nat → Ro} {E : Ec} {H : Heap} {locs : List Loc} {cells slots : Nat} (S : NowG D cy A s L τ E H locs) {x mm ao : Nat} (J : LI cL L τ E x mm ao) (Jt : TI L τ E mm) {i : Int32} (hi0 : 0 ≤ i.toInt) (hi6 : i.toInt + 6 ≤ Ln) (hl : lv_has ls 7 [(4, .int i), (0, .ref b), (1, .ref x), (2, .ref mm), (3, .ref ao)]) (hc : cells + 5 ≤ 601024) (hs : slots + 262 ≤ 7293034)
    (kk : ∀ (L' : List Nat) (τ' : Nat → Ro) (E' : Ec) (H' : Heap) (locs' : List Loc) (ls' : Array Slot), NowG D cy A s L' τ' E' H' locs' → LI cL L' τ' E' x mm ao → TI L' τ' E' mm → lv_has ls' 7 [(4, .int i), (0, .ref b), (1, .ref x), (2, .ref mm), (3, .ref ao)] → W p l e room_1 s m #[Value.ref b] below meth c H' locs' (cells + 5) (slots + 262) Q (F0 m 1100 ls' [])) : W p l e room_1 s m #[Value.ref b] below meth c H locs cells slots Q (F0 m 932 ls []) := by
  obtain ⟨C, hK, hN, hA, SZ, TZ, hKL, hX, hbl, hbA, hlt, hLn⟩ := X
  have hx := C.1
  have hb := C.2.1
  have hts := C.2.2.2.2
  have hc0 : cells ≤ room_1.cells := (show cells ≤ 601024 by omega)
  have hs0 : slots ≤ room_1.slots := (show slots ≤ 7293034 by omega)
  have hc5 : cells + 5 ≤ room_1.cells := (show cells + 5 ≤ 601024 by omega)
  have hs5 : slots + 262 ≤ room_1.slots := (show slots + 262 ≤ 7293034 by omega)
  refine lv_aload_n hx hb dL_law_932 rfl (lv_at hl 2 rfl) ?_
  refine tc_vi C hK hN hA S.1 S.2 J.1.1 J.1.2 rfl rfl (k_X9_sweep l D cy S.2 J.1.1 J.1.2 ) (cwV 0 hts gL_law_X9_sweep rfl rfl rfl (by decide +kernel) ⟨Nat.le_of_ble_eq_true rfl, Nat.le_of_ble_eq_true rfl⟩) rfl hl.1 rfl (Nat.le_of_ble_eq_true rfl) dL_law_933 ⟨hc0, hs0⟩ (fun r1 E1 H1 k1 W1 I1 F1 p1 => ?_)
  have S1 : NowG D cy A s L τ E1 H1 k1 := ⟨W1, I1⟩
  have J1 : LI cL L τ E1 x mm ao := LI.cls J S.2 I1 F1 rfl rfl rfl rfl rfl rfl rfl rfl
  have Jt1 : TI L τ E1 mm := TI.cL Jt S.2 J.1.1 J.1.2 J.2.1.1 J.2.1.2 F1 rfl rfl rfl rfl (fi_cell (k := 9) (F1 x J.1.1 (by rw [J.1.2]; rfl)))
  refine lv_pop hx hb dL_law_936 rfl ?_
  refine lv_aload_n hx hb dL_law_937 rfl (lv_at hl 3 rfl) ?_
  refine tc_vi C hK hN hA S1.1 S1.2 J1.2.1.1 J1.2.1.2 rfl rfl (k_X10_sweep l D cy S1.2 J1.2.1.1 J1.2.1.2 ) (cwV 0 hts gL_law_X10_sweep rfl rfl rfl (by decide +kernel) ⟨Nat.le_of_ble_eq_true rfl, Nat.le_of_ble_eq_true rfl⟩) rfl hl.1 rfl (Nat.le_of_ble_eq_true rfl) dL_law_938 ⟨hc0, hs0⟩ (fun r2 E2 H2 k2 W2 I2 F2 p2 => ?_)
  have S2 : NowG D cy A s L τ E2 H2 k2 := ⟨W2, I2⟩
  have J2 : LI cL L τ E2 x mm ao := LI.ref J1 F2 (J1.2.2.2.1.fw S1.2 I2 J1.2.1.1 J1.2.1.2 F2 rfl rfl (p2.2 2 (by decide))) (SlotOK.fr F2 rfl rfl rfl rfl J1.2.2.2.2.1) rfl
  have Jt2 : TI L τ E2 mm := TI.rL Jt1 F2 rfl rfl rfl rfl (p2.2 20 (by decide)) (p2.2 5 (by decide)) (p2.2 3 (by decide)) (p2.2 6 (by decide))
  refine lv_pop hx hb dL_law_941 rfl ?_
  refine lv_goto (tgt := 1100) hx hb dL_law_942 (by decide) ?_
  refine W.widen (k := cells + 5) (n := slots + 262) (by omega) (by omega) ?_
  exact kk L τ E2 H2 k2 ls S2 J2 Jt2 hl
