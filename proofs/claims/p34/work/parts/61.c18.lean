theorem dL_law_782 : decode cL_law 782 = .ok (.aload_n 1, 1) := by decide +kernel
theorem dL_law_783 : decode cL_law 783 = .ok (.aload_n 0, 1) := by decide +kernel
theorem dL_law_784 : decode cL_law 784 = .ok (.iload 4, 2) := by decide +kernel
theorem dL_law_786 : decode cL_law 786 = .ok (.iconst 1, 1) := by decide +kernel
theorem dL_law_787 : decode cL_law 787 = .ok (.iadd, 1) := by decide +kernel
theorem dL_law_788 : decode cL_law 788 = .ok (.iaload, 1) := by decide +kernel
theorem dL_law_789 : decode cL_law 789 = .ok (.aload_n 0, 1) := by decide +kernel
theorem dL_law_790 : decode cL_law 790 = .ok (.iload 4, 2) := by decide +kernel
theorem dL_law_792 : decode cL_law 792 = .ok (.iconst 2, 1) := by decide +kernel
theorem dL_law_793 : decode cL_law 793 = .ok (.iadd, 1) := by decide +kernel
theorem dL_law_794 : decode cL_law 794 = .ok (.iaload, 1) := by decide +kernel
theorem dL_law_795 : decode cL_law 795 = .ok (.invokevirtual 100, 3) := by decide +kernel
theorem dL_law_798 : decode cL_law 798 = .ok (.pop, 1) := by decide +kernel
theorem dL_law_799 : decode cL_law 799 = .ok (.aload_n 2, 1) := by decide +kernel
theorem dL_law_800 : decode cL_law 800 = .ok (.aload_n 0, 1) := by decide +kernel
theorem dL_law_801 : decode cL_law 801 = .ok (.iload 4, 2) := by decide +kernel
theorem dL_law_803 : decode cL_law 803 = .ok (.iconst 1, 1) := by decide +kernel
theorem dL_law_804 : decode cL_law 804 = .ok (.iadd, 1) := by decide +kernel
theorem dL_law_805 : decode cL_law 805 = .ok (.iaload, 1) := by decide +kernel
theorem dL_law_806 : decode cL_law 806 = .ok (.aload_n 0, 1) := by decide +kernel
theorem dL_law_807 : decode cL_law 807 = .ok (.iload 4, 2) := by decide +kernel
theorem dL_law_809 : decode cL_law 809 = .ok (.iconst 2, 1) := by decide +kernel
theorem dL_law_810 : decode cL_law 810 = .ok (.iadd, 1) := by decide +kernel
theorem dL_law_811 : decode cL_law 811 = .ok (.iaload, 1) := by decide +kernel
theorem dL_law_812 : decode cL_law 812 = .ok (.invokevirtual 103, 3) := by decide +kernel
theorem dL_law_815 : decode cL_law 815 = .ok (.pop, 1) := by decide +kernel
theorem dL_law_816 : decode cL_law 816 = .ok (.goto 284, 3) := by decide +kernel
set_option maxRecDepth 100000 in
theorem ggL_law_X9_best : GoodIn wsL_law wsX9_best := goodIn_r _ [777, 44, 36, 16, 778, 779, 395, 396, 397, 2, 398, 780, 781, 782, 35, 783, 119, 126, 784, 127, 128, 129, 785, 205, 206, 15, 207, 50, 51, 52, 53, 54, 55, 56, 57, 58, 208, 209, 210, 211, 59, 60, 61, 62, 63, 64, 66, 786, 298, 299, 300, 787, 788, 789, 790, 791, 792, 793, 794, 795, 796, 797, 798, 799, 121, 123, 124, 800, 292, 293, 23, 294, 82, 84, 85, 83, 295, 81, 296, 253, 254, 255, 297, 301, 302, 303, 304, 305, 306, 307, 308, 309, 310, 311, 312, 313, 314, 315, 316, 317, 318, 319, 320, 321, 322, 323, 324, 325, 326, 327, 328, 329, 330, 331, 332, 333, 334, 202, 335, 336, 337, 201, 203, 338, 801, 676, 677, 27, 678, 679, 93, 680, 681, 682, 683, 182, 183, 684, 685, 686, 687, 688, 689, 94, 95, 96, 690, 691, 692, 445, 693, 567, 694, 695, 696, 697, 570, 698, 699, 700, 701, 573, 702, 575, 577, 703, 704, 705, 706, 707, 802, 803, 804, 805, 131, 130, 125, 806, 807, 340, 341, 342, 343, 998, 999, 1000, 1001, 1002, 1003, 1004, 1005, 1006, 1007, 1008, 1099, 1100, 1101, 1102, 1103, 1104, 1105, 1106, 1107, 1108, 1109, 1057, 1058, 1059, 1060, 1061, 1062, 1063, 1064, 1065, 1066, 1067, 1068, 1069, 1070, 1071, 1072, 1076, 1077, 1078, 1079, 1080, 1081, 1082, 1083, 1084, 1113, 1114, 1115, 1116, 1117, 1118] rfl (by decide +kernel)
set_option maxRecDepth 100000 in
theorem gL_law_X9_best : GoodIn wsL_law (wsV RL 100 RX9 yX9_best wsX9_best) := goodIn_app (goodIn_of _ (by decide +kernel)) ggL_law_X9_best
set_option maxRecDepth 100000 in
theorem ggL_law_X10_best : GoodIn wsL_law wsX10_best := goodIn_r _ [811, 216, 812, 813, 814, 815, 144, 816, 817, 403, 404, 405, 5, 406, 225, 146, 231, 232, 233, 234, 818, 819, 820, 821, 147, 167, 348, 822, 168, 354, 355, 356, 357, 149, 150, 153, 151, 154, 358, 359, 360, 361, 362, 363, 364, 365, 148, 152, 155, 156, 712, 713, 714, 715, 716, 717, 718, 719, 161, 160, 720, 721, 722, 723, 724, 725, 726, 162, 166, 727, 728, 729, 730, 163, 164, 165, 731, 732, 733, 734, 366, 367, 368, 369, 217, 218, 219, 220, 1009, 1010, 1011, 1012, 1013, 1014, 1015, 1016, 1017, 1018, 1019, 1020, 1021, 1022, 1023, 1024, 1025, 1026, 1027, 1028, 1029, 1030, 1031, 1032, 1033, 1034, 1035, 1036, 1037, 1038, 1039, 1040, 1041, 1042, 1043, 1044, 1045, 1046, 1047, 1048, 1049, 1050, 1051, 1052, 1053, 1054, 1055, 1056] rfl (by decide +kernel)
set_option maxRecDepth 100000 in
theorem gL_law_X10_best : GoodIn wsL_law (wsV RL 103 RX10 yX10_best wsX10_best) := goodIn_app (goodIn_of _ (by decide +kernel)) ggL_law_X10_best
set_option maxHeartbeats 4000000 in
set_option maxRecDepth 100000 in
theorem cs_18 {p : Program} {l : Launch} {e : Env} {s : State} {m : MethodId} {below : List Frame} {meth : Method} {c : Code} {D : va_G} {cy : Nat → ClassId} {A : Nat → Prop} {G : Sg} {tx : String} {sa : Nat} {cL : ClassId} {b Ln : Nat} {xs : Nat → Int32} {Q : State → Prop} {ls : Array Slot} (X : LC p l s m meth c D cy A G tx sa cL b Ln xs) {L : List Nat} {τ : Nat → Ro} {E : Ec} {H : Heap} {locs : List Loc} {cells slots : Nat} (S : NowG D cy A s L τ E H locs) {x mm ao : Nat} (J : LI cL L τ E x mm ao) (Jt : TI L τ E mm) {i : Int32} (hi0 : 0 ≤ i.toInt) (hi6 : i.toInt + 6 ≤ Ln) (hl : lv_has ls 7 [(4, .int i), (0, .ref b), (1, .ref x), (2, .ref mm), (3, .ref ao)]) (hc : cells + 5 ≤ 601024) (hs : slots + 262 ≤ 7293034)
    (kk : ∀ (L' : List Nat) (τ' : Nat → Ro) (E' : Ec) (H' : Heap) (locs' : List Loc) (ls' : Array Slot), NowG D cy A s L' τ' E' H' locs' → LI cL L' τ' E' x mm ao → TI L' τ' E' mm → lv_has ls' 7 [(4, .int i), (0, .ref b), (1, .ref x), (2, .ref mm), (3, .ref ao)] → W p l e room_1 s m #[Value.ref b] below meth c H' locs' (cells + 5) (slots + 262) Q (F0 m 1100 ls' [])) : W p l e room_1 s m #[Value.ref b] below meth c H locs cells slots Q (F0 m 782 ls []) := by
  obtain ⟨C, hK, hN, hA, SZ, TZ, hKL, hX, hbl, hbA, hlt, hLn⟩ := X
  have hx := C.1
  have hb := C.2.1
  have hts := C.2.2.2.2
  have hc0 : cells ≤ room_1.cells := (show cells ≤ 601024 by omega)
  have hs0 : slots ≤ room_1.slots := (show slots ≤ 7293034 by omega)
  have hc5 : cells + 5 ≤ room_1.cells := (show cells + 5 ≤ 601024 by omega)
  have hs5 : slots + 262 ≤ room_1.slots := (show slots + 262 ≤ 7293034 by omega)
  refine lv_aload_n hx hb dL_law_782 rfl (lv_at hl 2 rfl) ?_
  refine lv_aload_n hx hb dL_law_783 rfl (lv_at hl 1 rfl) ?_
  refine lv_iload hx hb dL_law_784 (lv_at hl 0 rfl) ?_
  obtain ⟨v1, ev1, tv1⟩ : ∃ v : Int32, Int32.ofInt (1) = v ∧ v.toInt = 1 := ⟨_, rfl, by decide +kernel⟩
  refine lv_iconst hx hb dL_law_786 ev1 ?_
  refine lv_iadd hx hb dL_law_787 ?_
  refine lv_topi (fun v2 ev2 => ?_)
  have tv2 := nu_add ev2 (by omega) (by omega)
  refine va_sld hx hb hX hbl hbA S.1.2.2 (tr_in (by omega) (by omega)) dL_law_788 ?_
  refine lv_topi (fun v3 ev3 => ?_)
  refine lv_aload_n hx hb dL_law_789 rfl (lv_at hl 1 rfl) ?_
  refine lv_iload hx hb dL_law_790 (lv_at hl 0 rfl) ?_
  obtain ⟨v4, ev4, tv4⟩ : ∃ v : Int32, Int32.ofInt (2) = v ∧ v.toInt = 2 := ⟨_, rfl, by decide +kernel⟩
  refine lv_iconst hx hb dL_law_792 ev4 ?_
  refine lv_iadd hx hb dL_law_793 ?_
  refine lv_topi (fun v5 ev5 => ?_)
  have tv5 := nu_add ev5 (by omega) (by omega)
  refine va_sld hx hb hX hbl hbA S.1.2.2 (tr_in (by omega) (by omega)) dL_law_794 ?_
  refine lv_topi (fun v6 ev6 => ?_)
  refine tc_vi C hK hN hA S.1 S.2 J.1.1 J.1.2 rfl rfl (k_X9_best_vw l D cy S.2 J.1.1 J.1.2 v3 v6) (cwV 2 hts gL_law_X9_best rfl rfl rfl (by decide +kernel) ⟨Nat.le_of_ble_eq_true rfl, Nat.le_of_ble_eq_true rfl⟩) rfl hl.1 rfl (Nat.le_of_ble_eq_true rfl) dL_law_795 ⟨hc0, hs0⟩ (fun r7 E7 H7 k7 W7 I7 F7 p7 => ?_)
  have S7 : NowG D cy A s L τ E7 H7 k7 := ⟨W7, I7⟩
  have J7 : LI cL L τ E7 x mm ao := LI.cls J S.2 I7 F7 rfl rfl rfl rfl rfl rfl rfl rfl
  have n9 := p7
  have TH7 : TH L τ E7 mm := Jt.1.cls J.2.1.1 J.2.1.2 F7 rfl rfl rfl rfl
  refine lv_pop hx hb dL_law_798 rfl ?_
  refine lv_aload_n hx hb dL_law_799 rfl (lv_at hl 3 rfl) ?_
  refine lv_aload_n hx hb dL_law_800 rfl (lv_at hl 1 rfl) ?_
  refine lv_iload hx hb dL_law_801 (lv_at hl 0 rfl) ?_
  obtain ⟨v8, ev8, tv8⟩ : ∃ v : Int32, Int32.ofInt (1) = v ∧ v.toInt = 1 := ⟨_, rfl, by decide +kernel⟩
  refine lv_iconst hx hb dL_law_803 ev8 ?_
  refine lv_iadd hx hb dL_law_804 ?_
  refine lv_topi (fun v9 ev9 => ?_)
  have tv9 := nu_add ev9 (by omega) (by omega)
  refine va_sld hx hb hX hbl hbA S7.1.2.2 (tr_in (by omega) (by omega)) dL_law_805 ?_
  refine lv_topi (fun v10 ev10 => ?_)
  refine lv_aload_n hx hb dL_law_806 rfl (lv_at hl 1 rfl) ?_
  refine lv_iload hx hb dL_law_807 (lv_at hl 0 rfl) ?_
  obtain ⟨v11, ev11, tv11⟩ : ∃ v : Int32, Int32.ofInt (2) = v ∧ v.toInt = 2 := ⟨_, rfl, by decide +kernel⟩
  refine lv_iconst hx hb dL_law_809 ev11 ?_
  refine lv_iadd hx hb dL_law_810 ?_
  refine lv_topi (fun v12 ev12 => ?_)
  have tv12 := nu_add ev12 (by omega) (by omega)
  refine va_sld hx hb hX hbl hbA S7.1.2.2 (tr_in (by omega) (by omega)) dL_law_811 ?_
  refine lv_topi (fun v13 ev13 => ?_)
  refine tc_vi C hK hN hA S7.1 S7.2 J7.2.1.1 J7.2.1.2 rfl rfl (k_X10_best_vw l D cy S7.2 J7.2.1.1 J7.2.1.2 v10 v13 J7.2.2.2.2.1) (cwV 2 hts gL_law_X10_best rfl rfl rfl (by decide +kernel) ⟨Nat.le_of_ble_eq_true rfl, Nat.le_of_ble_eq_true rfl⟩) rfl hl.1 rfl (Nat.le_of_ble_eq_true rfl) dL_law_812 ⟨hc0, hs0⟩ (fun r14 E14 H14 k14 W14 I14 F14 p14 => ?_)
  have S14 : NowG D cy A s L τ E14 H14 k14 := ⟨W14, I14⟩
  have J14 : LI cL L τ E14 x mm ao := LI.ref J7 F14 (J7.2.2.2.1.fw S7.2 I14 J7.2.1.1 J7.2.1.2 F14 rfl rfl (p14.2 2 (by decide))) (SlotOK.fr F14 rfl rfl rfl rfl J7.2.2.2.2.1) rfl
  have n3 := p14.1
  have Jt14 : TI L τ E14 mm := TI.rS TH7 S7.2 J7.1.1 J7.1.2 F14 rfl rfl rfl rfl (p14.2 20 (by decide)) (p14.2 5 (by decide)) n9 n3
  refine lv_pop hx hb dL_law_815 rfl ?_
  refine lv_goto (tgt := 1100) hx hb dL_law_816 (by decide) ?_
  refine W.widen (k := cells + 5) (n := slots + 262) (by omega) (by omega) ?_
  exact kk L τ E14 H14 k14 ls S14 J14 Jt14 hl
