theorem dL_law_983 : decode cL_law 983 = .ok (.aload_n 1, 1) := by decide +kernel
theorem dL_law_984 : decode cL_law 984 = .ok (.aload_n 0, 1) := by decide +kernel
theorem dL_law_985 : decode cL_law 985 = .ok (.iload 4, 2) := by decide +kernel
theorem dL_law_987 : decode cL_law 987 = .ok (.iconst 1, 1) := by decide +kernel
theorem dL_law_988 : decode cL_law 988 = .ok (.iadd, 1) := by decide +kernel
theorem dL_law_989 : decode cL_law 989 = .ok (.iaload, 1) := by decide +kernel
theorem dL_law_990 : decode cL_law 990 = .ok (.aload_n 3, 1) := by decide +kernel
theorem dL_law_991 : decode cL_law 991 = .ok (.invokestatic 136, 3) := by decide +kernel
theorem dL_law_994 : decode cL_law 994 = .ok (.istore 5, 2) := by decide +kernel
theorem dL_law_996 : decode cL_law 996 = .ok (.aload_n 2, 1) := by decide +kernel
theorem dL_law_997 : decode cL_law 997 = .ok (.aload_n 0, 1) := by decide +kernel
theorem dL_law_998 : decode cL_law 998 = .ok (.iload 4, 2) := by decide +kernel
theorem dL_law_1000 : decode cL_law 1000 = .ok (.iconst 1, 1) := by decide +kernel
theorem dL_law_1001 : decode cL_law 1001 = .ok (.iadd, 1) := by decide +kernel
theorem dL_law_1002 : decode cL_law 1002 = .ok (.iaload, 1) := by decide +kernel
theorem dL_law_1003 : decode cL_law 1003 = .ok (.invokevirtual 141, 3) := by decide +kernel
theorem dL_law_1006 : decode cL_law 1006 = .ok (.istore 6, 2) := by decide +kernel
theorem dL_law_1008 : decode cL_law 1008 = .ok (.goto 92, 3) := by decide +kernel
set_option maxRecDepth 100000 in
theorem ggL_law_L_told : GoodIn wsL_law wsL_told := goodIn_ca (goodIn_r _ [941, 942, 943, 944, 945, 2, 946, 947, 948, 43, 42, 181, 182, 183, 998, 999, 1000, 1001, 1002, 1003, 1004, 1005, 1006, 1007, 1008] rfl (by decide +kernel)) (goodIn_sub (fun _ h => List.mem_append_right _ h) (by decide +kernel))
set_option maxRecDepth 100000 in
theorem gL_law_L_told : GoodIn wsL_law (va_wsS RL 136 yL_told wsL_told) := goodIn_app (goodIn_of _ (by decide +kernel)) ggL_law_L_told
set_option maxRecDepth 100000 in
theorem ggL_law_X10_told : GoodIn wsL_law wsX10_told := goodIn_r _ [952, 933, 216, 172, 217, 218, 219, 5, 220, 1009, 1010, 1011, 1012, 1013, 1014, 1015, 1016, 1017, 1018, 1019, 1020, 1021, 1022, 1023, 1024, 1025, 1026, 1027, 1028, 1029, 1030, 1031, 1032, 1033, 1034, 1035, 1036, 1037, 1038, 1039, 1040, 1041, 1042, 1043, 1044, 1045, 1046, 1047, 1048, 1049, 1050, 1051, 1052, 1053, 1054, 1055, 1056] rfl (by decide +kernel)
set_option maxRecDepth 100000 in
theorem gL_law_X10_told : GoodIn wsL_law (wsV RL 141 RX10 yX10_told wsX10_told) := goodIn_app (goodIn_of _ (by decide +kernel)) ggL_law_X10_told
set_option maxHeartbeats 4000000 in
set_option maxRecDepth 100000 in
theorem cs_27 {p : Program} {l : Launch} {e : Env} {s : State} {m : MethodId} {below : List Frame} {meth : Method} {c : Code} {D : va_G} {cy : Nat → ClassId} {A : Nat → Prop} {G : Sg} {tx : String} {sa : Nat} {cL : ClassId} {b Ln : Nat} {xs : Nat → Int32} {Q : State → Prop} {ls : Array Slot} (X : LC p l s m meth c D cy A G tx sa cL b Ln xs) {L : List Nat} {τ : Nat → Ro} {E : Ec} {H : Heap} {locs : List Loc} {cells slots : Nat} (S : NowG D cy A s L τ E H locs) {x mm ao : Nat} (J : LI cL L τ E x mm ao) (Jt : TI L τ E mm) {i : Int32} (hi0 : 0 ≤ i.toInt) (hi6 : i.toInt + 6 ≤ Ln) (hl : lv_has ls 7 [(4, .int i), (0, .ref b), (1, .ref x), (2, .ref mm), (3, .ref ao)]) (hc : cells + 5 ≤ 601024) (hs : slots + 262 ≤ 7293034)
    (kk : ∀ (L' : List Nat) (τ' : Nat → Ro) (E' : Ec) (H' : Heap) (locs' : List Loc) (ls' : Array Slot), NowG D cy A s L' τ' E' H' locs' → LI cL L' τ' E' x mm ao → TI L' τ' E' mm → lv_has ls' 7 [(4, .int i), (0, .ref b), (1, .ref x), (2, .ref mm), (3, .ref ao)] → W p l e room_1 s m #[Value.ref b] below meth c H' locs' (cells + 5) (slots + 262) Q (F0 m 1100 ls' [])) : W p l e room_1 s m #[Value.ref b] below meth c H locs cells slots Q (F0 m 983 ls []) := by
  obtain ⟨C, hK, hN, hA, SZ, TZ, hKL, hX, hbl, hbA, hlt, hLn⟩ := X
  have hx := C.1
  have hb := C.2.1
  have hts := C.2.2.2.2
  have hc0 : cells ≤ room_1.cells := (show cells ≤ 601024 by omega)
  have hs0 : slots ≤ room_1.slots := (show slots ≤ 7293034 by omega)
  have hc5 : cells + 5 ≤ room_1.cells := (show cells + 5 ≤ 601024 by omega)
  have hs5 : slots + 262 ≤ room_1.slots := (show slots + 262 ≤ 7293034 by omega)
  refine lv_aload_n hx hb dL_law_983 rfl (lv_at hl 2 rfl) ?_
  refine lv_aload_n hx hb dL_law_984 rfl (lv_at hl 1 rfl) ?_
  refine lv_iload hx hb dL_law_985 (lv_at hl 0 rfl) ?_
  obtain ⟨v1, ev1, tv1⟩ : ∃ v : Int32, Int32.ofInt (1) = v ∧ v.toInt = 1 := ⟨_, rfl, by decide +kernel⟩
  refine lv_iconst hx hb dL_law_987 ev1 ?_
  refine lv_iadd hx hb dL_law_988 ?_
  refine lv_topi (fun v2 ev2 => ?_)
  have tv2 := nu_add ev2 (by omega) (by omega)
  refine va_sld hx hb hX hbl hbA S.1.2.2 (tr_in (by omega) (by omega)) dL_law_989 ?_
  refine lv_topi (fun v3 ev3 => ?_)
  refine lv_aload_n hx hb dL_law_990 rfl (lv_at hl 4 rfl) ?_
  obtain ⟨f0, ef0⟩ := J.2.2.1.2.2
  have hFc := fr_A S.1 hA
  refine vx_calli (vx_runSX (As := [.ref x, .int v3, .ref ao]) (rest := []) C (k_L_told l hlt D cy (tx := tx) (sa := sa) S.2 J.1.1 J.1.2 v3 J.2.2.1.1 J.2.2.1.2.1 ef0 H.size) (vx_cwSW 3 hts gL_law_L_told rfl rfl rfl (by decide +kernel) ⟨Nat.le_of_ble_eq_true rfl, Nat.le_of_ble_eq_true rfl⟩) ⟨blindU, pre_atU hK hN hA TZ hKL S.1⟩ rfl rfl hl.1 rfl (lv_room (Nat.le_of_ble_eq_true rfl)) dL_law_991 ⟨(show cells + 1 ≤ 601024 by omega), (show slots + 6 ≤ 7293034 by omega)⟩) S.1.2.2 (fun q _ h => hFc q h) hFc (fun q _ h => hFc q h) (fun _ _ _ _ _ _ _ _ _ _ hB => hB.elim) (fun r4 E4 t4 H4 k4 ht4 hv4 p4 hB4 hz4 hk4 hS4 => ?_)
  have S4 : NowG D cy A s L τ E4 H4 k4 := ⟨wd_behind S.1 hA ht4 hB4 hS4, p4.1⟩
  have J4 : LI cL L τ E4 x mm ao := LI.told J S.2 p4.1 p4.2.1 p4.2.2
  have Jt4 : TI L τ E4 mm := TI.cL Jt S.2 J.1.1 J.1.2 J.2.1.1 J.2.1.2 p4.2.1 rfl rfl rfl rfl (fi_cell (k := 9) (p4.2.1 x J.1.1 (by rw [J.1.2]; rfl)))
  refine W.widen (k := cells + 5) (n := slots + 262) (by omega) (by omega) ?_
  refine lv_istore (lv' := [(5, .int r4), (4, .int i), (0, .ref b), (1, .ref x), (2, .ref mm), (3, .ref ao)]) hx hb dL_law_994 hl (by decide) rfl (fun l5 hl6 => ?_)
  refine lv_aload_n hx hb dL_law_996 rfl (lv_at hl6 4 rfl) ?_
  refine lv_aload_n hx hb dL_law_997 rfl (lv_at hl6 2 rfl) ?_
  refine lv_iload hx hb dL_law_998 (lv_at hl6 1 rfl) ?_
  obtain ⟨v7, ev7, tv7⟩ : ∃ v : Int32, Int32.ofInt (1) = v ∧ v.toInt = 1 := ⟨_, rfl, by decide +kernel⟩
  refine lv_iconst hx hb dL_law_1000 ev7 ?_
  refine lv_iadd hx hb dL_law_1001 ?_
  refine lv_topi (fun v8 ev8 => ?_)
  have tv8 := nu_add ev8 (by omega) (by omega)
  refine va_sld hx hb hX hbl hbA S4.1.2.2 (tr_in (by omega) (by omega)) dL_law_1002 ?_
  refine lv_topi (fun v9 ev9 => ?_)
  refine tc_vi C hK hN hA S4.1 S4.2 J4.2.1.1 J4.2.1.2 rfl rfl (k_X10_told l D cy S4.2 J4.2.1.1 J4.2.1.2 v9) (cwV 1 hts gL_law_X10_told rfl rfl rfl (by decide +kernel) ⟨Nat.le_of_ble_eq_true rfl, Nat.le_of_ble_eq_true rfl⟩) rfl hl6.1 rfl (Nat.le_of_ble_eq_true rfl) dL_law_1003 ⟨hc5, hs5⟩ (fun r10 E10 H10 k10 W10 I10 F10 p10 => ?_)
  have S10 : NowG D cy A s L τ E10 H10 k10 := ⟨W10, I10⟩
  have J10 : LI cL L τ E10 x mm ao := LI.ref J4 F10 (J4.2.2.2.1.fw S4.2 I10 J4.2.1.1 J4.2.1.2 F10 rfl rfl (p10 2 (by decide))) (SlotOK.fr F10 rfl rfl rfl rfl J4.2.2.2.2.1) rfl
  have Jt10 : TI L τ E10 mm := TI.rL Jt4 F10 rfl rfl rfl rfl (p10 20 (by decide)) (p10 5 (by decide)) (p10 3 (by decide)) (p10 6 (by decide))
  refine lv_istore (lv' := [(6, .int r10), (5, .int r4), (4, .int i), (0, .ref b), (1, .ref x), (2, .ref mm), (3, .ref ao)]) hx hb dL_law_1006 hl6 (by decide) rfl (fun l11 hl12 => ?_)
  refine lv_goto (tgt := 1100) hx hb dL_law_1008 (by decide) ?_
  exact kk L τ E10 H10 k10 l11 S10 J10 Jt10 (lv_sub hl12 [2, 3, 4, 5, 6] rfl)
