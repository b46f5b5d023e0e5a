theorem dL_law_708 : decode cL_law 708 = .ok (.aload_n 1, 1) := by decide +kernel
theorem dL_law_709 : decode cL_law 709 = .ok (.aload_n 0, 1) := by decide +kernel
theorem dL_law_710 : decode cL_law 710 = .ok (.iload 4, 2) := by decide +kernel
theorem dL_law_712 : decode cL_law 712 = .ok (.iconst 1, 1) := by decide +kernel
theorem dL_law_713 : decode cL_law 713 = .ok (.iadd, 1) := by decide +kernel
theorem dL_law_714 : decode cL_law 714 = .ok (.iaload, 1) := by decide +kernel
theorem dL_law_715 : decode cL_law 715 = .ok (.aload_n 0, 1) := by decide +kernel
theorem dL_law_716 : decode cL_law 716 = .ok (.iload 4, 2) := by decide +kernel
theorem dL_law_718 : decode cL_law 718 = .ok (.iconst 2, 1) := by decide +kernel
theorem dL_law_719 : decode cL_law 719 = .ok (.iadd, 1) := by decide +kernel
theorem dL_law_720 : decode cL_law 720 = .ok (.iaload, 1) := by decide +kernel
theorem dL_law_721 : decode cL_law 721 = .ok (.invokevirtual 92, 3) := by decide +kernel
theorem dL_law_724 : decode cL_law 724 = .ok (.pop, 1) := by decide +kernel
theorem dL_law_725 : decode cL_law 725 = .ok (.aload_n 2, 1) := by decide +kernel
theorem dL_law_726 : decode cL_law 726 = .ok (.aload_n 0, 1) := by decide +kernel
theorem dL_law_727 : decode cL_law 727 = .ok (.iload 4, 2) := by decide +kernel
theorem dL_law_729 : decode cL_law 729 = .ok (.iconst 1, 1) := by decide +kernel
theorem dL_law_730 : decode cL_law 730 = .ok (.iadd, 1) := by decide +kernel
theorem dL_law_731 : decode cL_law 731 = .ok (.iaload, 1) := by decide +kernel
theorem dL_law_732 : decode cL_law 732 = .ok (.aload_n 0, 1) := by decide +kernel
theorem dL_law_733 : decode cL_law 733 = .ok (.iload 4, 2) := by decide +kernel
theorem dL_law_735 : decode cL_law 735 = .ok (.iconst 2, 1) := by decide +kernel
theorem dL_law_736 : decode cL_law 736 = .ok (.iadd, 1) := by decide +kernel
theorem dL_law_737 : decode cL_law 737 = .ok (.iaload, 1) := by decide +kernel
theorem dL_law_738 : decode cL_law 738 = .ok (.invokevirtual 95, 3) := by decide +kernel
theorem dL_law_741 : decode cL_law 741 = .ok (.pop, 1) := by decide +kernel
theorem dL_law_742 : decode cL_law 742 = .ok (.goto 358, 3) := by decide +kernel
set_option maxRecDepth 100000 in
theorem ggL_law_X9_about : GoodIn wsL_law wsX9_about := goodIn_r _ [756, 757, 758, 759, 760, 743, 744, 745, 2, 746, 16, 44, 747, 681, 682, 15, 683, 57, 66, 182, 183, 181, 1113, 1114, 1115, 1116, 1117, 1118, 998, 999, 1000, 1001, 1002, 1003, 1004, 1005, 1006, 1007, 1008, 1057, 1058, 1059, 1060, 1061, 1062, 1063, 1064, 1065, 1066, 1067, 1068, 1069, 1070, 1071, 1072] rfl (by decide +kernel)
set_option maxRecDepth 100000 in
theorem gL_law_X9_about : GoodIn wsL_law (wsV RL 92 RX9 yX9_about wsX9_about) := goodIn_app (goodIn_of _ (by decide +kernel)) ggL_law_X9_about
set_option maxRecDepth 100000 in
theorem ggL_law_X10_about : GoodIn wsL_law wsX10_about := goodIn_r _ [764, 216, 144, 162, 163, 160, 161, 217, 218, 219, 5, 220, 403, 404, 405, 406, 225, 146, 231, 232, 233, 234, 1009, 1010, 1011, 1012, 1013, 1014, 1015, 1016, 1017, 1018, 1019, 1020, 1021, 1022, 1023, 1024, 1025, 1026, 1027, 1028, 1029, 1030, 1031, 1032, 1033, 1034, 1035, 1036, 1037, 1038, 1039, 1040, 1041, 1042, 1043, 1044, 1045, 1046, 1047, 1048, 1049, 1050, 1051, 1052, 1053, 1054, 1055, 1056] rfl (by decide +kernel)
set_option maxRecDepth 100000 in
theorem gL_law_X10_about : GoodIn wsL_law (wsV RL 95 RX10 yX10_about wsX10_about) := goodIn_app (goodIn_of _ (by decide +kernel)) ggL_law_X10_about
set_option maxHeartbeats 4000000 in
set_option maxRecDepth 100000 in
theorem cs_16 {p : Program} {l : Launch} {e : Env} {s : State} {m : MethodId} {below : List Frame} {meth : Method} {c : Code} {D : va_G} {cy : Nat → ClassId} {A : Nat → Prop} {G : Sg} {tx : String} {sa : Nat} {cL : ClassId} {b Ln : Nat} {xs : Nat → Int32} {Q : State → Prop} {ls : Array Slot} (X : LC p l s m meth c D cy A G tx sa cL b Ln xs) {L : List Nat} {τ : Nat → Ro} {E : Ec} {H : Heap} {locs : List Loc} {cells slots : Nat} (S : NowG D cy A s L τ E H locs) {x mm ao : Nat} (J : LI cL L τ E x mm ao) (Jt : TI L τ E mm) {i : Int32} (hi0 : 0 ≤ i.toInt) (hi6 : i.toInt + 6 ≤ Ln) (hl : lv_has ls 7 [(4, .int i), (0, .ref b), (1, .ref x), (2, .ref mm), (3, .ref ao)]) (hc : cells + 5 ≤ 601024) (hs : slots + 262 ≤ 7293034)
    (kk : ∀ (L' : List Nat) (τ' : Nat → Ro) (E' : Ec) (H' : Heap) (locs' : List Loc) (ls' : Array Slot), NowG D cy A s L' τ' E' H' locs' → LI cL L' τ' E' x mm ao → TI L' τ' E' mm → lv_has ls' 7 [(4, .int i), (0, .ref b), (1, .ref x), (2, .ref mm), (3, .ref ao)] → W p l e room_1 s m #[Value.ref b] below meth c H' locs' (cells + 5) (slots + 262) Q (F0 m 1100 ls' [])) : W p l e room_1 s m #[Value.ref b] below meth c H locs cells slots Q (F0 m 708 ls []) := by
  obtain ⟨C, hK, hN, hA, SZ, TZ, hKL, hX, hbl, hbA, hlt, hLn⟩ := X
  have hx := C.1
  have hb := C.2.1
  have hts := C.2.2.2.2
  have hc0 : cells ≤ room_1.cells := (show cells ≤ 601024 by omega)
  have hs0 : slots ≤ room_1.slots := (show slots ≤ 7293034 by omega)
  have hc5 : cells + 5 ≤ room_1.cells := (show cells + 5 ≤ 601024 by omega)
  have hs5 : slots + 262 ≤ room_1.slots := (show slots + 262 ≤ 7293034 by omega)
  refine lv_aload_n hx hb dL_law_708 rfl (lv_at hl 2 rfl) ?_
  refine lv_aload_n hx hb dL_law_709 rfl (lv_at hl 1 rfl) ?_
  refine lv_iload hx hb dL_law_710 (lv_at hl 0 rfl) ?_
  obtain ⟨v1, ev1, tv1⟩ : ∃ v : Int32, Int32.ofInt (1) = v ∧ v.toInt = 1 := ⟨_, rfl, by decide +kernel⟩
  refine lv_iconst hx hb dL_law_712 ev1 ?_
  refine lv_iadd hx hb dL_law_713 ?_
  refine lv_topi (fun v2 ev2 => ?_)
  have tv2 := nu_add ev2 (by omega) (by omega)
  refine va_sld hx hb hX hbl hbA S.1.2.2 (tr_in (by omega) (by omega)) dL_law_714 ?_
  refine lv_topi (fun v3 ev3 => ?_)
  refine lv_aload_n hx hb dL_law_715 rfl (lv_at hl 1 rfl) ?_
  refine lv_iload hx hb dL_law_716 (lv_at hl 0 rfl) ?_
  obtain ⟨v4, ev4, tv4⟩ : ∃ v : Int32, Int32.ofInt (2) = v ∧ v.toInt = 2 := ⟨_, rfl, by decide +kernel⟩
  refine lv_iconst hx hb dL_law_718 ev4 ?_
  refine lv_iadd hx hb dL_law_719 ?_
  refine lv_topi (fun v5 ev5 => ?_)
  have tv5 := nu_add ev5 (by omega) (by omega)
  refine va_sld hx hb hX hbl hbA S.1.2.2 (tr_in (by omega) (by omega)) dL_law_720 ?_
  refine lv_topi (fun v6 ev6 => ?_)
  refine tc_vi C hK hN hA S.1 S.2 J.1.1 J.1.2 rfl rfl (k_X9_about_vw l D cy S.2 J.1.1 J.1.2 v3 v6) (cwV 2 hts gL_law_X9_about rfl rfl rfl (by decide +kernel) ⟨Nat.le_of_ble_eq_true rfl, Nat.le_of_ble_eq_true rfl⟩) rfl hl.1 rfl (Nat.le_of_ble_eq_true rfl) dL_law_721 ⟨hc0, hs0⟩ (fun r7 E7 H7 k7 W7 I7 F7 p7 => ?_)
  have S7 : NowG D cy A s L τ E7 H7 k7 := ⟨W7, I7⟩
  have J7 : LI cL L τ E7 x mm ao := LI.cls J S.2 I7 F7 rfl rfl rfl rfl rfl rfl rfl rfl
  have n9 := p7
  have TH7 : TH L τ E7 mm := Jt.1.cls J.2.1.1 J.2.1.2 F7 rfl rfl rfl rfl
  refine lv_pop hx hb dL_law_724 rfl ?_
  refine lv_aload_n hx hb dL_law_725 rfl (lv_at hl 3 rfl) ?_
  refine lv_aload_n hx hb dL_law_726 rfl (lv_at hl 1 rfl) ?_
  refine lv_iload hx hb dL_law_727 (lv_at hl 0 rfl) ?_
  obtain ⟨v8, ev8, tv8⟩ : ∃ v : Int32, Int32.ofInt (1) = v ∧ v.toInt = 1 := ⟨_, rfl, by decide +kernel⟩
  refine lv_iconst hx hb dL_law_729 ev8 ?_
  refine lv_iadd hx hb dL_law_730 ?_
  refine lv_topi (fun v9 ev9 => ?_)
  have tv9 := nu_add ev9 (by omega) (by omega)
  refine va_sld hx hb hX hbl hbA S7.1.2.2 (tr_in (by omega) (by omega)) dL_law_731 ?_
  refine lv_topi (fun v10 ev10 => ?_)
  refine lv_aload_n hx hb dL_law_732 rfl (lv_at hl 1 rfl) ?_
  refine lv_iload hx hb dL_law_733 (lv_at hl 0 rfl) ?_
  obtain ⟨v11, ev11, tv11⟩ : ∃ v : Int32, Int32.ofInt (2) = v ∧ v.toInt = 2 := ⟨_, rfl, by decide +kernel⟩
  refine lv_iconst hx hb dL_law_735 ev11 ?_
  refine lv_iadd hx hb dL_law_736 ?_
  refine lv_topi (fun v12 ev12 => ?_)
  have tv12 := nu_add ev12 (by omega) (by omega)
  refine va_sld hx hb hX hbl hbA S7.1.2.2 (tr_in (by omega) (by omega)) dL_law_737 ?_
  refine lv_topi (fun v13 ev13 => ?_)
  refine tc_vi C hK hN hA S7.1 S7.2 J7.2.1.1 J7.2.1.2 rfl rfl (k_X10_about_vw l D cy S7.2 J7.2.1.1 J7.2.1.2 v10 v13) (cwV 2 hts gL_law_X10_about rfl rfl rfl (by decide +kernel) ⟨Nat.le_of_ble_eq_true rfl, Nat.le_of_ble_eq_true rfl⟩) rfl hl.1 rfl (Nat.le_of_ble_eq_true rfl) dL_law_738 ⟨hc0, hs0⟩ (fun r14 E14 H14 k14 W14 I14 F14 p14 => ?_)
  have S14 : NowG D cy A s L τ E14 H14 k14 := ⟨W14, I14⟩
  have J14 : LI cL L τ E14 x mm ao := LI.ref J7 F14 (J7.2.2.2.1.fw S7.2 I14 J7.2.1.1 J7.2.1.2 F14 rfl rfl (p14.2 2 (by decide))) (SlotOK.fr F14 rfl rfl rfl rfl J7.2.2.2.2.1) rfl
  have n3 := p14.1
  have Jt14 : TI L τ E14 mm := TI.rS TH7 S7.2 J7.1.1 J7.1.2 F14 rfl rfl rfl rfl (p14.2 20 (by decide)) (p14.2 5 (by decide)) n9 n3
  refine lv_pop hx hb dL_law_741 rfl ?_
  refine lv_goto (tgt := 1100) hx hb dL_law_742 (by decide) ?_
  refine W.widen (k := cells + 5) (n := slots + 262) (by omega) (by omega) ?_
  exact kk L τ E14 H14 k14 ls S14 J14 Jt14 hl
