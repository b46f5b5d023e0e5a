set_option maxRecDepth 20000 in
theorem ggX10_broken_X10_in : GoodIn wsX10_broken wsX10_in := goodIn_r _ [10] (by decide +kernel) (by decide +kernel)
set_option maxRecDepth 20000 in
theorem gX10_broken_X10_in : GoodIn wsX10_broken (wsV RX10 123 RX10 yX10_in wsX10_in) := goodIn_app (goodIn_of _ (by decide +kernel)) ggX10_broken_X10_in
set_option maxRecDepth 20000 in
theorem ggX10_broken_X10_no : GoodIn wsX10_broken wsX10_no := goodIn_r _ [14, 15, 16, 71, 72, 73, 74, 75, 76, 77, 78, 79, 80, 81, 82, 83, 84, 85, 86, 87, 88, 89, 90, 91, 92, 93, 94, 95, 96, 97, 98, 99, 100, 101, 102, 103, 104, 105, 106, 107, 108, 109, 110, 111, 112, 113, 114, 115, 116, 117, 118] (by decide +kernel) (by decide +kernel)
set_option maxRecDepth 20000 in
theorem gX10_broken_X10_no : GoodIn wsX10_broken (wsV RX10 144 RX10 yX10_no wsX10_no) := goodIn_app (goodIn_of _ (by decide +kernel)) ggX10_broken_X10_no
set_option maxRecDepth 20000 in
theorem ggX10_broken_X10_good : GoodIn wsX10_broken wsX10_good := goodIn_r _ [20, 15, 16, 71, 72, 73, 74, 75, 76, 77, 78, 79, 80, 81, 82, 83, 84, 85, 86, 87, 88, 89, 90, 91, 92, 93, 94, 95, 96, 97, 98, 99, 100, 101, 102, 103, 104, 105, 106, 107, 108, 109, 110, 111, 112, 113, 114, 115, 116, 117, 118] (by decide +kernel) (by decide +kernel)
set_option maxRecDepth 20000 in
theorem gX10_broken_X10_good : GoodIn wsX10_broken (wsV RX10 106 RX10 yX10_good wsX10_good) := goodIn_app (goodIn_of _ (by decide +kernel)) ggX10_broken_X10_good
set_option maxRecDepth 20000 in
theorem ggX10_broken_X10_asTold : GoodIn wsX10_broken wsX10_asTold := goodIn_r _ [24, 25, 2, 26, 27, 28, 9, 29, 30, 31, 32, 33, 34, 35, 36, 37, 38, 39, 40, 41, 42, 43, 44, 45, 46, 47, 71, 72, 73, 74, 75, 76, 77, 78, 79, 80, 81, 82, 83, 84, 85, 86, 87, 88, 89, 90, 91, 92, 93, 94, 95, 96, 97, 98, 99, 100, 101, 102, 103, 104, 105, 106, 107, 108, 109, 110, 111, 112, 113, 114, 115, 116, 117, 118] (by decide +kernel) (by decide +kernel)
set_option maxRecDepth 20000 in
theorem gX10_broken_X10_asTold : GoodIn wsX10_broken (wsV RX10 134 RX10 yX10_asTold wsX10_asTold) := goodIn_app (goodIn_of _ (by decide +kernel)) ggX10_broken_X10_asTold
set_option maxRecDepth 20000 in
theorem ggX10_broken_X10_isBroken : GoodIn wsX10_broken wsX10_isBroken := goodIn_r _ [51, 52, 30, 53, 4, 5, 3, 54, 55, 56, 9, 57, 58, 59, 60, 61, 62, 63, 64, 65, 66, 67, 68, 69, 70, 31, 34, 45, 35, 2, 44, 71, 72, 73, 74, 75, 76, 77, 78, 79, 80, 81, 82, 83, 84, 85, 86, 87, 88, 89, 90, 91, 92, 93, 94, 95, 96, 97, 98, 99, 100, 101, 102, 103, 104, 105, 106, 107, 108, 109, 110, 111, 112, 113, 114, 115, 116, 117, 118] (by decide +kernel) (by decide +kernel)
set_option maxRecDepth 20000 in
theorem gX10_broken_X10_isBroken : GoodIn wsX10_broken (wsV RX10 232 RX10 yX10_isBroken wsX10_isBroken) := goodIn_app (goodIn_of _ (by decide +kernel)) ggX10_broken_X10_isBroken
theorem dX10_broken_0 : decode cX10_broken 0 = .ok (.aload_n 0, 1) := by decide +kernel
theorem dX10_broken_1 : decode cX10_broken 1 = .ok (.iconst 0, 1) := by decide +kernel
theorem dX10_broken_2 : decode cX10_broken 2 = .ok (.putfield 97, 3) := by decide +kernel
theorem dX10_broken_5 : decode cX10_broken 5 = .ok (.aload_n 0, 1) := by decide +kernel
theorem dX10_broken_6 : decode cX10_broken 6 = .ok (.iload_n 1, 1) := by decide +kernel
theorem dX10_broken_7 : decode cX10_broken 7 = .ok (.iconst 0, 1) := by decide +kernel
theorem dX10_broken_8 : decode cX10_broken 8 = .ok (.aload_n 0, 1) := by decide +kernel
theorem dX10_broken_9 : decode cX10_broken 9 = .ok (.getfield 7, 3) := by decide +kernel
theorem dX10_broken_12 : decode cX10_broken 12 = .ok (.bipush 44, 2) := by decide +kernel
theorem dX10_broken_14 : decode cX10_broken 14 = .ok (.iaload, 1) := by decide +kernel
theorem dX10_broken_15 : decode cX10_broken 15 = .ok (.iconst 1, 1) := by decide +kernel
theorem dX10_broken_16 : decode cX10_broken 16 = .ok (.isub, 1) := by decide +kernel
theorem dX10_broken_17 : decode cX10_broken 17 = .ok (.invokevirtual 123, 3) := by decide +kernel
theorem dX10_broken_20 : decode cX10_broken 20 = .ok (.ifCond .ne 9, 3) := by decide +kernel
theorem dX10_broken_23 : decode cX10_broken 23 = .ok (.aload_n 0, 1) := by decide +kernel
theorem dX10_broken_24 : decode cX10_broken 24 = .ok (.iconst 4, 1) := by decide +kernel
theorem dX10_broken_25 : decode cX10_broken 25 = .ok (.invokevirtual 144, 3) := by decide +kernel
theorem dX10_broken_28 : decode cX10_broken 28 = .ok (.ireturn, 1) := by decide +kernel
theorem dX10_broken_29 : decode cX10_broken 29 = .ok (.aload_n 0, 1) := by decide +kernel
theorem dX10_broken_30 : decode cX10_broken 30 = .ok (.iload_n 2, 1) := by decide +kernel
theorem dX10_broken_31 : decode cX10_broken 31 = .ok (.iconst 0, 1) := by decide +kernel
theorem dX10_broken_32 : decode cX10_broken 32 = .ok (.iconst 3, 1) := by decide +kernel
theorem dX10_broken_33 : decode cX10_broken 33 = .ok (.invokevirtual 123, 3) := by decide +kernel
theorem dX10_broken_36 : decode cX10_broken 36 = .ok (.ifCond .ne 9, 3) := by decide +kernel
theorem dX10_broken_39 : decode cX10_broken 39 = .ok (.aload_n 0, 1) := by decide +kernel
theorem dX10_broken_40 : decode cX10_broken 40 = .ok (.iconst 1, 1) := by decide +kernel
theorem dX10_broken_41 : decode cX10_broken 41 = .ok (.invokevirtual 144, 3) := by decide +kernel
theorem dX10_broken_44 : decode cX10_broken 44 = .ok (.ireturn, 1) := by decide +kernel
theorem dX10_broken_45 : decode cX10_broken 45 = .ok (.aload_n 0, 1) := by decide +kernel
theorem dX10_broken_46 : decode cX10_broken 46 = .ok (.invokevirtual 106, 3) := by decide +kernel
theorem dX10_broken_49 : decode cX10_broken 49 = .ok (.aload_n 0, 1) := by decide +kernel
theorem dX10_broken_50 : decode cX10_broken 50 = .ok (.invokevirtual 134, 3) := by decide +kernel
theorem dX10_broken_53 : decode cX10_broken 53 = .ok (.aload_n 0, 1) := by decide +kernel
theorem dX10_broken_54 : decode cX10_broken 54 = .ok (.aload_n 0, 1) := by decide +kernel
theorem dX10_broken_55 : decode cX10_broken 55 = .ok (.getfield 7, 3) := by decide +kernel
theorem dX10_broken_58 : decode cX10_broken 58 = .ok (.bipush 45, 2) := by decide +kernel
theorem dX10_broken_60 : decode cX10_broken 60 = .ok (.iload_n 1, 1) := by decide +kernel
theorem dX10_broken_61 : decode cX10_broken 61 = .ok (.iadd, 1) := by decide +kernel
theorem dX10_broken_62 : decode cX10_broken 62 = .ok (.iaload, 1) := by decide +kernel
theorem dX10_broken_63 : decode cX10_broken 63 = .ok (.invokevirtual 232, 3) := by decide +kernel
theorem dX10_broken_66 : decode cX10_broken 66 = .ok (.istore_n 3, 1) := by decide +kernel
theorem dX10_broken_67 : decode cX10_broken 67 = .ok (.iload_n 2, 1) := by decide +kernel
theorem dX10_broken_68 : decode cX10_broken 68 = .ok (.ifCond .ne 15, 3) := by decide +kernel
theorem dX10_broken_71 : decode cX10_broken 71 = .ok (.iload_n 3, 1) := by decide +kernel
theorem dX10_broken_72 : decode cX10_broken 72 = .ok (.ifCond .eq 7, 3) := by decide +kernel
theorem dX10_broken_75 : decode cX10_broken 75 = .ok (.iconst 1, 1) := by decide +kernel
theorem dX10_broken_76 : decode cX10_broken 76 = .ok (.goto 51, 3) := by decide +kernel
theorem dX10_broken_79 : decode cX10_broken 79 = .ok (.iconst 0, 1) := by decide +kernel
theorem dX10_broken_80 : decode cX10_broken 80 = .ok (.goto 47, 3) := by decide +kernel
theorem dX10_broken_83 : decode cX10_broken 83 = .ok (.iload_n 2, 1) := by decide +kernel
theorem dX10_broken_84 : decode cX10_broken 84 = .ok (.iconst 3, 1) := by decide +kernel
theorem dX10_broken_85 : decode cX10_broken 85 = .ok (.if_icmp .ne 18, 3) := by decide +kernel
theorem dX10_broken_88 : decode cX10_broken 88 = .ok (.iload_n 3, 1) := by decide +kernel
theorem dX10_broken_89 : decode cX10_broken 89 = .ok (.ifCond .eq 10, 3) := by decide +kernel
theorem dX10_broken_92 : decode cX10_broken 92 = .ok (.aload_n 0, 1) := by decide +kernel
theorem dX10_broken_93 : decode cX10_broken 93 = .ok (.getfield 225, 3) := by decide +kernel
theorem dX10_broken_96 : decode cX10_broken 96 = .ok (.goto 31, 3) := by decide +kernel
theorem dX10_broken_99 : decode cX10_broken 99 = .ok (.iconst 0, 1) := by decide +kernel
theorem dX10_broken_100 : decode cX10_broken 100 = .ok (.goto 27, 3) := by decide +kernel
theorem dX10_broken_103 : decode cX10_broken 103 = .ok (.iload_n 3, 1) := by decide +kernel
theorem dX10_broken_104 : decode cX10_broken 104 = .ok (.ifCond .ne 7, 3) := by decide +kernel
theorem dX10_broken_107 : decode cX10_broken 107 = .ok (.iconst (-1), 1) := by decide +kernel
theorem dX10_broken_108 : decode cX10_broken 108 = .ok (.goto 19, 3) := by decide +kernel
theorem dX10_broken_111 : decode cX10_broken 111 = .ok (.iload_n 2, 1) := by decide +kernel
theorem dX10_broken_112 : decode cX10_broken 112 = .ok (.iconst 1, 1) := by decide +kernel
theorem dX10_broken_113 : decode cX10_broken 113 = .ok (.if_icmp .ne 10, 3) := by decide +kernel
theorem dX10_broken_116 : decode cX10_broken 116 = .ok (.aload_n 0, 1) := by decide +kernel
theorem dX10_broken_117 : decode cX10_broken 117 = .ok (.getfield 219, 3) := by decide +kernel
theorem dX10_broken_120 : decode cX10_broken 120 = .ok (.goto 7, 3) := by decide +kernel
theorem dX10_broken_123 : decode cX10_broken 123 = .ok (.aload_n 0, 1) := by decide +kernel
theorem dX10_broken_124 : decode cX10_broken 124 = .ok (.getfield 222, 3) := by decide +kernel
theorem dX10_broken_127 : decode cX10_broken 127 = .ok (.ireturn, 1) := by decide +kernel
set_option maxHeartbeats 4000000 in
set_option maxRecDepth 100000 in
theorem k_X10_broken (l : Launch) (D : va_G) (cy : Nat → ClassId) {L : List Nat} {τ : Nat → Ro} {E : Ec} (hI : Inv TB cy L τ E) {a0 : Nat} (ha0 : a0 ∈ L) (ta0 : τ a0 = (11, 0)) (a1 : Int32) (a2 : Int32) (hS : SlotOK L τ E) : CtI l yX10_broken wsX10_broken { frames := 4, cells := 0, slots := 0, locals := 95 } D TB cy L τ E [.ref a0, .int a1, .int a2] (inW [(11, 0), (62, 0), (63, 0), (64, 0), (65, 0), (66, 0), (67, 0), (68, 0), (69, 0), (70, 0), (71, 0)]) (fun r E' => (∀ k : Nat, k ∉ ([3, 4, 6, 8, 30, 31, 32] : List Nat) → fi E' a0 k = fi E a0 k)) := by
  intro sz
  refine sta (cc := cX10_broken) (maxL := 4) hI (by decide) rfl (Nat.le_of_ble_eq_true rfl) (fun p e s m args below meth c ls hsz Z S0 hl => ?_)
  have hx := Z.1.1
  have hb := Z.1.2.1
  have hts := Z.1.2.2.2.2
  have F0_ : Fr L τ (inW [(11, 0), (62, 0), (63, 0), (64, 0), (65, 0), (66, 0), (67, 0), (68, 0), (69, 0), (70, 0), (71, 0)]) E E := Fr.refl
  have hl : lv_has ls 4 [(0, .ref a0), (1, .int a1), (2, .int a2)] := hl
  generalize hQ : MQ below _ args s 0 0 _ = QQ
  refine lv_aload_n hx hb dX10_broken_0 rfl (lv_at hl 0 rfl) ?_
  obtain ⟨v1, ev1, tv1⟩ : ∃ v : Int32, Int32.ofInt (0) = v ∧ v.toInt = 0 := ⟨_, rfl, by decide +kernel⟩
  refine lv_iconst hx hb dX10_broken_1 ev1 ?_
  refine tr_puti Z.1 Z.2.2.2.1 S0.1 S0.2 ha0 ta0 rfl rfl (fun _ h => List.mem_cons_of_mem _ (List.mem_append_right _ h)) tyX10_ok nmX10 4 (by decide) rfl rfl rfl (hts _ (List.mem_of_getElem? (i := 1) rfl)) dX10_broken_2 (by omega) (by omega) (fun E2 H3 k4 W2 I2 P2 => ?_)
  have S2 : Now D TB cy (va_A (va_pl L E) sz) s L τ E2 H3 k4 := ⟨W2, I2⟩
  have F2 : Fr L τ (inW [(11, 0), (62, 0), (63, 0), (64, 0), (65, 0), (66, 0), (67, 0), (68, 0), (69, 0), (70, 0), (71, 0)]) E E2 := Fr.put F0_ P2 ta0 rfl
  refine lv_aload_n hx hb dX10_broken_5 rfl (lv_at hl 0 rfl) ?_
  refine lv_iload_n hx hb dX10_broken_6 rfl (lv_at hl 1 rfl) ?_
  obtain ⟨v5, ev5, tv5⟩ : ∃ v : Int32, Int32.ofInt (0) = v ∧ v.toInt = 0 := ⟨_, rfl, by decide +kernel⟩
  refine lv_iconst hx hb dX10_broken_7 ev5 ?_
  refine lv_aload_n hx hb dX10_broken_8 rfl (lv_at hl 0 rfl) ?_
  refine tr_getr Z.1 Z.2.2.2.1 S2.1 S2.2 ha0 ta0 rfl rfl (fun _ h => List.mem_cons_of_mem _ (List.mem_append_right _ h)) 0 (by decide) rfl (hts _ (List.mem_of_getElem? (i := 2) rfl)) dX10_broken_9 (fun q6 eq6 hq6 tq6 => ?_)
  have tq6 : τ q6 = (60, 0) := tq6
  obtain ⟨v7, ev7, tv7⟩ : ∃ v : Int32, (Int8.ofInt (44)).toInt32 = v ∧ v.toInt = 44 := ⟨_, rfl, by decide +kernel⟩
  refine lv_bipush hx hb dX10_broken_12 ev7 ?_
  refine tr_ialdx Z.1 Z.2.2.2.1 S2.1 S2.2 hq6 tq6 rfl (by omega) (by omega) dX10_broken_14 (fun v8 ev8 lv8 uv8 => ?_)
  have bv8 : nowB v7.toNatClampNeg = (0, 8) := nb_44 (by show v7.toInt.toNat = 44; omega)
  rw [bv8] at lv8 uv8
  have lv8 : 0 ≤ v8.toInt := lv8
  have uv8 : v8.toInt ≤ 8 := uv8
  have av8 : ai E2 q6 44 = v8 := ai_at ev8 (by omega)
  obtain ⟨v9, ev9, tv9⟩ : ∃ v : Int32, Int32.ofInt (1) = v ∧ v.toInt = 1 := ⟨_, rfl, by decide +kernel⟩
  refine lv_iconst hx hb dX10_broken_15 ev9 ?_
  refine lv_isub hx hb dX10_broken_16 ?_
  refine lv_topi (fun v10 ev10 => ?_)
  have tv10 := nu_sub ev10 (by omega) (by omega)
  refine tc_vi Z.1 Z.2.2.2.1 Z.2.2.2.2.1 Z.2.2.2.2.2 S2.1 S2.2 ha0 ta0 rfl rfl (k_X10_in l D cy S2.2 ha0 ta0 a1 v5 v10) (cwV 3 hts gX10_broken_X10_in rfl rfl rfl (by decide +kernel) ⟨Nat.le_of_ble_eq_true rfl, Nat.le_of_ble_eq_true rfl⟩) rfl hl.1 rfl (Nat.le_of_ble_eq_true rfl) dX10_broken_17 ⟨Nat.zero_le _, Nat.zero_le _⟩ (fun v14 E11 H12 k13 W11 I11 G11 p11 => ?_)
  obtain ⟨q11, p11_0, p11_1, p11_2⟩ := p11
  have q11 := q11.symm
  subst q11
  have S11 : Now D TB cy (va_A (va_pl L E) sz) s L τ E2 H12 k13 := ⟨W11, I11⟩
  refine lv_if_ne (tgt := 29) hx hb dX10_broken_20 (by decide) (fun c15 => ?_) (fun c15 => ?_)
  · skip
    have tc15 := nu_ne c15
    have uc15 : (0 : Int32).toInt = 0 := rfl
    refine lv_aload_n hx hb dX10_broken_29 rfl (lv_at hl 0 rfl) ?_
    refine lv_iload_n hx hb dX10_broken_30 rfl (lv_at hl 2 rfl) ?_
    obtain ⟨v16, ev16, tv16⟩ : ∃ v : Int32, Int32.ofInt (0) = v ∧ v.toInt = 0 := ⟨_, rfl, by decide +kernel⟩
    refine lv_iconst hx hb dX10_broken_31 ev16 ?_
    obtain ⟨v17, ev17, tv17⟩ : ∃ v : Int32, Int32.ofInt (3) = v ∧ v.toInt = 3 := ⟨_, rfl, by decide +kernel⟩
    refine lv_iconst hx hb dX10_broken_32 ev17 ?_
    refine tc_vi Z.1 Z.2.2.2.1 Z.2.2.2.2.1 Z.2.2.2.2.2 S11.1 S11.2 ha0 ta0 rfl rfl (k_X10_in l D cy S11.2 ha0 ta0 a2 v16 v17) (cwV 3 hts gX10_broken_X10_in rfl rfl rfl (by decide +kernel) ⟨Nat.le_of_ble_eq_true rfl, Nat.le_of_ble_eq_true rfl⟩) rfl hl.1 rfl (Nat.le_of_ble_eq_true rfl) dX10_broken_33 ⟨Nat.zero_le _, Nat.zero_le _⟩ (fun v21 E18 H19 k20 W18 I18 G18 p18 => ?_)
    obtain ⟨q18, p18_0, p18_1, p18_2⟩ := p18
    have q18 := q18.symm
    subst q18
    have S18 : Now D TB cy (va_A (va_pl L E) sz) s L τ E2 H19 k20 := ⟨W18, I18⟩
    refine lv_if_ne (tgt := 45) hx hb dX10_broken_36 (by decide) (fun c22 => ?_) (fun c22 => ?_)
    · skip
      have tc22 := nu_ne c22
      have uc22 : (0 : Int32).toInt = 0 := rfl
      refine lv_aload_n hx hb dX10_broken_45 rfl (lv_at hl 0 rfl) ?_
      refine tc_vv Z.1 Z.2.2.2.1 Z.2.2.2.2.1 Z.2.2.2.2.2 S18.1 S18.2 ha0 ta0 rfl rfl (k_X10_good l D cy S18.2 ha0 ta0) (cwV 0 hts gX10_broken_X10_good rfl rfl rfl (by decide +kernel) ⟨Nat.le_of_ble_eq_true rfl, Nat.le_of_ble_eq_true rfl⟩) rfl hl.1 rfl (Nat.le_of_ble_eq_true rfl) dX10_broken_46 ⟨Nat.zero_le _, Nat.zero_le _⟩ (fun E23 H24 k25 W23 I23 G23 p23 => ?_)
      have p23_0 := p23
      have S23 : Now D TB cy (va_A (va_pl L E) sz) s L τ E23 H24 k25 := ⟨W23, I23⟩
      have F23 : Fr L τ (inW [(11, 0), (62, 0), (63, 0), (64, 0), (65, 0), (66, 0), (67, 0), (68, 0), (69, 0), (70, 0), (71, 0)]) E E23 := F2.trans (G23.mono (inW_mono (by decide)))
      refine lv_aload_n hx hb dX10_broken_49 rfl (lv_at hl 0 rfl) ?_
      refine tc_vv Z.1 Z.2.2.2.1 Z.2.2.2.2.1 Z.2.2.2.2.2 S23.1 S23.2 ha0 ta0 rfl rfl (k_X10_asTold l D cy S23.2 ha0 ta0) (cwV 0 hts gX10_broken_X10_asTold rfl rfl rfl (by decide +kernel) ⟨Nat.le_of_ble_eq_true rfl, Nat.le_of_ble_eq_true rfl⟩) rfl hl.1 rfl (Nat.le_of_ble_eq_true rfl) dX10_broken_50 ⟨Nat.zero_le _, Nat.zero_le _⟩ (fun E27 H28 k29 W27 I27 G27 p27 => ?_)
      have p27_0 := p27
      have S27 : Now D TB cy (va_A (va_pl L E) sz) s L τ E27 H28 k29 := ⟨W27, I27⟩
      have F27 : Fr L τ (inW [(11, 0), (62, 0), (63, 0), (64, 0), (65, 0), (66, 0), (67, 0), (68, 0), (69, 0), (70, 0), (71, 0)]) E E27 := F23.trans (G27.mono (inW_mono (by decide)))
      refine lv_aload_n hx hb dX10_broken_53 rfl (lv_at hl 0 rfl) ?_
      refine lv_aload_n hx hb dX10_broken_54 rfl (lv_at hl 0 rfl) ?_
      refine tr_getr Z.1 Z.2.2.2.1 S27.1 S27.2 ha0 ta0 rfl rfl (fun _ h => List.mem_cons_of_mem _ (List.mem_append_right _ h)) 0 (by decide) rfl (hts _ (List.mem_of_getElem? (i := 2) rfl)) dX10_broken_55 (fun q31 eq31 hq31 tq31 => ?_)
      have tq31 : τ q31 = (60, 0) := tq31
      have uq31 : q6 = q31 := S27.2.2.2.2 _ hq6 _ hq31 (tq6.trans tq31.symm) (by rw [tq6]; rfl)
      subst uq31
      obtain ⟨v32, ev32, tv32⟩ : ∃ v : Int32, (Int8.ofInt (45)).toInt32 = v ∧ v.toInt = 45 := ⟨_, rfl, by decide +kernel⟩
      refine lv_bipush hx hb dX10_broken_58 ev32 ?_
      refine lv_iload_n hx hb dX10_broken_60 rfl (lv_at hl 1 rfl) ?_
      refine lv_iadd hx hb dX10_broken_61 ?_
      refine lv_topi (fun v33 ev33 => ?_)
      have tv33 := nu_add ev33 (by omega) (by omega)
      refine tr_ialdx Z.1 Z.2.2.2.1 S27.1 S27.2 hq6 tq6 rfl (by omega) (by omega) dX10_broken_62 (fun v34 ev34 lv34 uv34 => ?_)
      have bv34 : nowB v33.toNatClampNeg = (0, 49) := nb_45 (by show 45 ≤ v33.toInt.toNat ∧ v33.toInt.toNat ≤ 52; omega)
      rw [bv34] at lv34 uv34
      have lv34 : 0 ≤ v34.toInt := lv34
      have uv34 : v34.toInt ≤ 49 := uv34
      refine tc_vi Z.1 Z.2.2.2.1 Z.2.2.2.2.1 Z.2.2.2.2.2 S27.1 S27.2 ha0 ta0 rfl rfl (k_X10_isBroken l D cy S27.2 ha0 ta0 v34 (by omega) (by omega) (SlotOK.fr F27 rfl rfl rfl rfl hS)) (cwV 1 hts gX10_broken_X10_isBroken rfl rfl rfl (by decide +kernel) ⟨Nat.le_of_ble_eq_true rfl, Nat.le_of_ble_eq_true rfl⟩) rfl hl.1 rfl (Nat.le_of_ble_eq_true rfl) dX10_broken_63 ⟨Nat.zero_le _, Nat.zero_le _⟩ (fun v38 E35 H36 k37 W35 I35 G35 p35 => ?_)
      obtain ⟨p35_0, p35_1, p35_2⟩ := p35
      have S35 : Now D TB cy (va_A (va_pl L E) sz) s L τ E35 H36 k37 := ⟨W35, I35⟩
      have F35 : Fr L τ (inW [(11, 0), (62, 0), (63, 0), (64, 0), (65, 0), (66, 0), (67, 0), (68, 0), (69, 0), (70, 0), (71, 0)]) E E35 := F27.trans (G35.mono (inW_mono (by decide)))
      refine lv_istore_n (lv' := [(3, .int v38), (0, .ref a0), (1, .int a1), (2, .int a2)]) hx hb dX10_broken_66 rfl hl (by decide) rfl (fun l39 hl40 => ?_)
      refine lv_iload_n hx hb dX10_broken_67 rfl (lv_at hl40 3 rfl) ?_
      refine lv_if_ne (tgt := 83) hx hb dX10_broken_68 (by decide) (fun c41 => ?_) (fun c41 => ?_)
      · skip
        have tc41 := nu_ne c41
        have uc41 : (0 : Int32).toInt = 0 := rfl
        refine lv_iload_n hx hb dX10_broken_83 rfl (lv_at hl40 3 rfl) ?_
        obtain ⟨v42, ev42, tv42⟩ : ∃ v : Int32, Int32.ofInt (3) = v ∧ v.toInt = 3 := ⟨_, rfl, by decide +kernel⟩
        refine lv_iconst hx hb dX10_broken_84 ev42 ?_
        refine lv_icmp_ne (tgt := 103) hx hb dX10_broken_85 (by decide) (fun c43 => ?_) (fun c43 => ?_)
        · skip
          have tc43 := nu_ne c43
          refine lv_iload_n hx hb dX10_broken_103 rfl (lv_at hl40 0 rfl) ?_
          refine lv_if_ne (tgt := 111) hx hb dX10_broken_104 (by decide) (fun c44 => ?_) (fun c44 => ?_)
          · skip
            have tc44 := nu_ne c44
            have uc44 : (0 : Int32).toInt = 0 := rfl
            refine lv_iload_n hx hb dX10_broken_111 rfl (lv_at hl40 3 rfl) ?_
            obtain ⟨v45, ev45, tv45⟩ : ∃ v : Int32, Int32.ofInt (1) = v ∧ v.toInt = 1 := ⟨_, rfl, by decide +kernel⟩
            refine lv_iconst hx hb dX10_broken_112 ev45 ?_
            refine lv_icmp_ne (tgt := 123) hx hb dX10_broken_113 (by decide) (fun c46 => ?_) (fun c46 => ?_)
            · skip
              have tc46 := nu_ne c46
              refine lv_aload_n hx hb dX10_broken_123 rfl (lv_at hl40 1 rfl) ?_
              refine tr_geti Z.1 Z.2.2.2.1 S35.1 S35.2 ha0 ta0 rfl rfl (fun _ h => List.mem_cons_of_mem _ (List.mem_append_right _ h)) 31 (by decide) rfl (hts _ (List.mem_of_getElem? (i := 5) rfl)) dX10_broken_124 (fun v47 ev47 lv47 uv47 => ?_)
              rw [← hQ]
              exact en_i Z S35 F35 (fun k hk => ((p35_2 k (fw_sub (by decide) hk)).trans ((p27_0 k (fw_sub (by decide) hk)).trans ((p23_0 k (fw_sub (by decide) hk)).trans ((fi_put P2 (Or.inr (fw_ne (by decide) hk))).trans ((fun k hk => rfl) k hk)))))) dX10_broken_127
            · skip
              have tc46 := nu_eq c46
              refine lv_aload_n hx hb dX10_broken_116 rfl (lv_at hl40 1 rfl) ?_
              refine tr_geti Z.1 Z.2.2.2.1 S35.1 S35.2 ha0 ta0 rfl rfl (fun _ h => List.mem_cons_of_mem _ (List.mem_append_right _ h)) 30 (by decide) rfl (hts _ (List.mem_of_getElem? (i := 4) rfl)) dX10_broken_117 (fun v48 ev48 lv48 uv48 => ?_)
              refine lv_goto (tgt := 127) hx hb dX10_broken_120 (by decide) ?_
              rw [← hQ]
              exact en_i Z S35 F35 (fun k hk => ((p35_2 k (fw_sub (by decide) hk)).trans ((p27_0 k (fw_sub (by decide) hk)).trans ((p23_0 k (fw_sub (by decide) hk)).trans ((fi_put P2 (Or.inr (fw_ne (by decide) hk))).trans ((fun k hk => rfl) k hk)))))) dX10_broken_127
          · skip
            have tc44 := nu_eq c44
            have uc44 : (0 : Int32).toInt = 0 := rfl
            obtain ⟨v49, ev49, tv49⟩ : ∃ v : Int32, Int32.ofInt (-1) = v ∧ v.toInt = -1 := ⟨_, rfl, by decide +kernel⟩
            refine lv_iconst hx hb dX10_broken_107 ev49 ?_
            refine lv_goto (tgt := 127) hx hb dX10_broken_108 (by decide) ?_
            rw [← hQ]
            exact en_i Z S35 F35 (fun k hk => ((p35_2 k (fw_sub (by decide) hk)).trans ((p27_0 k (fw_sub (by decide) hk)).trans ((p23_0 k (fw_sub (by decide) hk)).trans ((fi_put P2 (Or.inr (fw_ne (by decide) hk))).trans ((fun k hk => rfl) k hk)))))) dX10_broken_127
        · skip
          have tc43 := nu_eq c43
          refine lv_iload_n hx hb dX10_broken_88 rfl (lv_at hl40 0 rfl) ?_
          refine lv_if_eq (tgt := 99) hx hb dX10_broken_89 (by decide) (fun c50 => ?_) (fun c50 => ?_)
          · skip
            have tc50 := nu_eq c50
            have uc50 : (0 : Int32).toInt = 0 := rfl
            obtain ⟨v51, ev51, tv51⟩ : ∃ v : Int32, Int32.ofInt (0) = v ∧ v.toInt = 0 := ⟨_, rfl, by decide +kernel⟩
            refine lv_iconst hx hb dX10_broken_99 ev51 ?_
            refine lv_goto (tgt := 127) hx hb dX10_broken_100 (by decide) ?_
            rw [← hQ]
            exact en_i Z S35 F35 (fun k hk => ((p35_2 k (fw_sub (by decide) hk)).trans ((p27_0 k (fw_sub (by decide) hk)).trans ((p23_0 k (fw_sub (by decide) hk)).trans ((fi_put P2 (Or.inr (fw_ne (by decide) hk))).trans ((fun k hk => rfl) k hk)))))) dX10_broken_127
          · skip
            have tc50 := nu_ne c50
            have uc50 : (0 : Int32).toInt = 0 := rfl
            refine lv_aload_n hx hb dX10_broken_92 rfl (lv_at hl40 1 rfl) ?_
            refine tr_geti Z.1 Z.2.2.2.1 S35.1 S35.2 ha0 ta0 rfl rfl (fun _ h => List.mem_cons_of_mem _ (List.mem_append_right _ h)) 32 (by decide) rfl (hts _ (List.mem_of_getElem? (i := 3) rfl)) dX10_broken_93 (fun v52 ev52 lv52 uv52 => ?_)
            refine lv_goto (tgt := 127) hx hb dX10_broken_96 (by decide) ?_
            rw [← hQ]
            exact en_i Z S35 F35 (fun k hk => ((p35_2 k (fw_sub (by decide) hk)).trans ((p27_0 k (fw_sub (by decide) hk)).trans ((p23_0 k (fw_sub (by decide) hk)).trans ((fi_put P2 (Or.inr (fw_ne (by decide) hk))).trans ((fun k hk => rfl) k hk)))))) dX10_broken_127
      · skip
        have tc41 := nu_eq c41
        have uc41 : (0 : Int32).toInt = 0 := rfl
        refine lv_iload_n hx hb dX10_broken_71 rfl (lv_at hl40 0 rfl) ?_
        refine lv_if_eq (tgt := 79) hx hb dX10_broken_72 (by decide) (fun c53 => ?_) (fun c53 => ?_)
        · skip
          have tc53 := nu_eq c53
          have uc53 : (0 : Int32).toInt = 0 := rfl
          obtain ⟨v54, ev54, tv54⟩ : ∃ v : Int32, Int32.ofInt (0) = v ∧ v.toInt = 0 := ⟨_, rfl, by decide +kernel⟩
          refine lv_iconst hx hb dX10_broken_79 ev54 ?_
          refine lv_goto (tgt := 127) hx hb dX10_broken_80 (by decide) ?_
          rw [← hQ]
          exact en_i Z S35 F35 (fun k hk => ((p35_2 k (fw_sub (by decide) hk)).trans ((p27_0 k (fw_sub (by decide) hk)).trans ((p23_0 k (fw_sub (by decide) hk)).trans ((fi_put P2 (Or.inr (fw_ne (by decide) hk))).trans ((fun k hk => rfl) k hk)))))) dX10_broken_127
        · skip
          have tc53 := nu_ne c53
          have uc53 : (0 : Int32).toInt = 0 := rfl
          obtain ⟨v55, ev55, tv55⟩ : ∃ v : Int32, Int32.ofInt (1) = v ∧ v.toInt = 1 := ⟨_, rfl, by decide +kernel⟩
          refine lv_iconst hx hb dX10_broken_75 ev55 ?_
          refine lv_goto (tgt := 127) hx hb dX10_broken_76 (by decide) ?_
          rw [← hQ]
          exact en_i Z S35 F35 (fun k hk => ((p35_2 k (fw_sub (by decide) hk)).trans ((p27_0 k (fw_sub (by decide) hk)).trans ((p23_0 k (fw_sub (by decide) hk)).trans ((fi_put P2 (Or.inr (fw_ne (by decide) hk))).trans ((fun k hk => rfl) k hk)))))) dX10_broken_127
    · skip
      have tc22 := nu_eq c22
      have uc22 : (0 : Int32).toInt = 0 := rfl
      refine lv_aload_n hx hb dX10_broken_39 rfl (lv_at hl 0 rfl) ?_
      obtain ⟨v56, ev56, tv56⟩ : ∃ v : Int32, Int32.ofInt (1) = v ∧ v.toInt = 1 := ⟨_, rfl, by decide +kernel⟩
      refine lv_iconst hx hb dX10_broken_40 ev56 ?_
      refine tc_vi Z.1 Z.2.2.2.1 Z.2.2.2.2.1 Z.2.2.2.2.2 S18.1 S18.2 ha0 ta0 rfl rfl (k_X10_no l D cy S18.2 ha0 ta0 v56) (cwV 1 hts gX10_broken_X10_no rfl rfl rfl (by decide +kernel) ⟨Nat.le_of_ble_eq_true rfl, Nat.le_of_ble_eq_true rfl⟩) rfl hl.1 rfl (Nat.le_of_ble_eq_true rfl) dX10_broken_41 ⟨Nat.zero_le _, Nat.zero_le _⟩ (fun v60 E57 H58 k59 W57 I57 G57 p57 => ?_)
      obtain ⟨p57_0, p57_1, p57_2⟩ := p57
      have S57 : Now D TB cy (va_A (va_pl L E) sz) s L τ E57 H58 k59 := ⟨W57, I57⟩
      have F57 : Fr L τ (inW [(11, 0), (62, 0), (63, 0), (64, 0), (65, 0), (66, 0), (67, 0), (68, 0), (69, 0), (70, 0), (71, 0)]) E E57 := F2.trans (G57.mono (inW_mono (by decide)))
      rw [← hQ]
      exact en_i Z S57 F57 (fun k hk => ((p57_2 k (fw_sub (by decide) hk)).trans ((fi_put P2 (Or.inr (fw_ne (by decide) hk))).trans ((fun k hk => rfl) k hk)))) dX10_broken_44
  · skip
    have tc15 := nu_eq c15
    have uc15 : (0 : Int32).toInt = 0 := rfl
    refine lv_aload_n hx hb dX10_broken_23 rfl (lv_at hl 0 rfl) ?_
    obtain ⟨v61, ev61, tv61⟩ : ∃ v : Int32, Int32.ofInt (4) = v ∧ v.toInt = 4 := ⟨_, rfl, by decide +kernel⟩
    refine lv_iconst hx hb dX10_broken_24 ev61 ?_
    refine tc_vi Z.1 Z.2.2.2.1 Z.2.2.2.2.1 Z.2.2.2.2.2 S11.1 S11.2 ha0 ta0 rfl rfl (k_X10_no l D cy S11.2 ha0 ta0 v61) (cwV 1 hts gX10_broken_X10_no rfl rfl rfl (by decide +kernel) ⟨Nat.le_of_ble_eq_true rfl, Nat.le_of_ble_eq_true rfl⟩) rfl hl.1 rfl (Nat.le_of_ble_eq_true rfl) dX10_broken_25 ⟨Nat.zero_le _, Nat.zero_le _⟩ (fun v65 E62 H63 k64 W62 I62 G62 p62 => ?_)
    obtain ⟨p62_0, p62_1, p62_2⟩ := p62
    have S62 : Now D TB cy (va_A (va_pl L E) sz) s L τ E62 H63 k64 := ⟨W62, I62⟩
    have F62 : Fr L τ (inW [(11, 0), (62, 0), (63, 0), (64, 0), (65, 0), (66, 0), (67, 0), (68, 0), (69, 0), (70, 0), (71, 0)]) E E62 := F2.trans (G62.mono (inW_mono (by decide)))
    rw [← hQ]
    exact en_i Z S62 F62 (fun k hk => ((p62_2 k (fw_sub (by decide) hk)).trans ((fi_put P2 (Or.inr (fw_ne (by decide) hk))).trans ((fun k hk => rfl) k hk)))) dX10_broken_28

set_option maxRecDepth 20000 in
theorem ggX10_about_X10_in : GoodIn wsX10_about wsX10_in := goodIn_r _ [11] (by decide +kernel) (by decide +kernel)
set_option maxRecDepth 20000 in
theorem gX10_about_X10_in : GoodIn wsX10_about (wsV RX10 123 RX10 yX10_in wsX10_in) := goodIn_app (goodIn_of _ (by decide +kernel)) ggX10_about_X10_in
set_option maxRecDepth 20000 in
theorem ggX10_about_X10_no : GoodIn wsX10_about wsX10_no := goodIn_r _ [15, 16, 17, 22, 23, 24, 25, 26, 27, 28, 29, 30, 31, 32, 33, 34, 35, 36, 37, 38, 39, 40, 41, 42, 43, 44, 45, 46, 47, 48, 49, 50, 51, 52, 53, 54, 55, 56, 57, 58, 59, 60, 61, 62, 63, 64, 65, 66, 67, 68, 69] (by decide +kernel) (by decide +kernel)
set_option maxRecDepth 20000 in
theorem gX10_about_X10_no : GoodIn wsX10_about (wsV RX10 144 RX10 yX10_no wsX10_no) := goodIn_app (goodIn_of _ (by decide +kernel)) ggX10_about_X10_no
set_option maxRecDepth 20000 in
theorem ggX10_about_X10_good : GoodIn wsX10_about wsX10_good := goodIn_r _ [21, 16, 17, 22, 23, 24, 25, 26, 27, 28, 29, 30, 31, 32, 33, 34, 35, 36, 37, 38, 39, 40, 41, 42, 43, 44, 45, 46, 47, 48, 49, 50, 51, 52, 53, 54, 55, 56, 57, 58, 59, 60, 61, 62, 63, 64, 65, 66, 67, 68, 69] (by decide +kernel) (by decide +kernel)
set_option maxRecDepth 20000 in
theorem gX10_about_X10_good : GoodIn wsX10_about (wsV RX10 106 RX10 yX10_good wsX10_good) := goodIn_app (goodIn_of _ (by decide +kernel)) ggX10_about_X10_good
theorem dX10_about_0 : decode cX10_about 0 = .ok (.aload_n 0, 1) := by decide +kernel
theorem dX10_about_1 : decode cX10_about 1 = .ok (.iconst 0, 1) := by decide +kernel
theorem dX10_about_2 : decode cX10_about 2 = .ok (.putfield 97, 3) := by decide +kernel
theorem dX10_about_5 : decode cX10_about 5 = .ok (.aload_n 0, 1) := by decide +kernel
theorem dX10_about_6 : decode cX10_about 6 = .ok (.iload_n 1, 1) := by decide +kernel
theorem dX10_about_7 : decode cX10_about 7 = .ok (.iconst 0, 1) := by decide +kernel
theorem dX10_about_8 : decode cX10_about 8 = .ok (.aload_n 0, 1) := by decide +kernel
theorem dX10_about_9 : decode cX10_about 9 = .ok (.getfield 7, 3) := by decide +kernel
theorem dX10_about_12 : decode cX10_about 12 = .ok (.bipush 44, 2) := by decide +kernel
theorem dX10_about_14 : decode cX10_about 14 = .ok (.iaload, 1) := by decide +kernel
theorem dX10_about_15 : decode cX10_about 15 = .ok (.iconst 1, 1) := by decide +kernel
theorem dX10_about_16 : decode cX10_about 16 = .ok (.isub, 1) := by decide +kernel
theorem dX10_about_17 : decode cX10_about 17 = .ok (.invokevirtual 123, 3) := by decide +kernel
theorem dX10_about_20 : decode cX10_about 20 = .ok (.ifCond .ne 9, 3) := by decide +kernel
theorem dX10_about_23 : decode cX10_about 23 = .ok (.aload_n 0, 1) := by decide +kernel
theorem dX10_about_24 : decode cX10_about 24 = .ok (.iconst 4, 1) := by decide +kernel
theorem dX10_about_25 : decode cX10_about 25 = .ok (.invokevirtual 144, 3) := by decide +kernel
theorem dX10_about_28 : decode cX10_about 28 = .ok (.ireturn, 1) := by decide +kernel
theorem dX10_about_29 : decode cX10_about 29 = .ok (.aload_n 0, 1) := by decide +kernel
theorem dX10_about_30 : decode cX10_about 30 = .ok (.iload_n 2, 1) := by decide +kernel
theorem dX10_about_31 : decode cX10_about 31 = .ok (.iconst 0, 1) := by decide +kernel
theorem dX10_about_32 : decode cX10_about 32 = .ok (.iconst 3, 1) := by decide +kernel
theorem dX10_about_33 : decode cX10_about 33 = .ok (.invokevirtual 123, 3) := by decide +kernel
theorem dX10_about_36 : decode cX10_about 36 = .ok (.ifCond .ne 9, 3) := by decide +kernel
theorem dX10_about_39 : decode cX10_about 39 = .ok (.aload_n 0, 1) := by decide +kernel
theorem dX10_about_40 : decode cX10_about 40 = .ok (.iconst 1, 1) := by decide +kernel
theorem dX10_about_41 : decode cX10_about 41 = .ok (.invokevirtual 144, 3) := by decide +kernel
theorem dX10_about_44 : decode cX10_about 44 = .ok (.ireturn, 1) := by decide +kernel
theorem dX10_about_45 : decode cX10_about 45 = .ok (.aload_n 0, 1) := by decide +kernel
theorem dX10_about_46 : decode cX10_about 46 = .ok (.invokevirtual 106, 3) := by decide +kernel
theorem dX10_about_49 : decode cX10_about 49 = .ok (.aload_n 0, 1) := by decide +kernel
theorem dX10_about_50 : decode cX10_about 50 = .ok (.getfield 7, 3) := by decide +kernel
theorem dX10_about_53 : decode cX10_about 53 = .ok (.bipush 45, 2) := by decide +kernel
theorem dX10_about_55 : decode cX10_about 55 = .ok (.iload_n 1, 1) := by decide +kernel
theorem dX10_about_56 : decode cX10_about 56 = .ok (.iadd, 1) := by decide +kernel
theorem dX10_about_57 : decode cX10_about 57 = .ok (.iaload, 1) := by decide +kernel
theorem dX10_about_58 : decode cX10_about 58 = .ok (.istore_n 3, 1) := by decide +kernel
theorem dX10_about_59 : decode cX10_about 59 = .ok (.iconst 0, 1) := by decide +kernel
theorem dX10_about_60 : decode cX10_about 60 = .ok (.istore 4, 2) := by decide +kernel
theorem dX10_about_62 : decode cX10_about 62 = .ok (.iconst 0, 1) := by decide +kernel
theorem dX10_about_63 : decode cX10_about 63 = .ok (.istore 5, 2) := by decide +kernel
theorem dX10_about_65 : decode cX10_about 65 = .ok (.iload 5, 2) := by decide +kernel
theorem dX10_about_67 : decode cX10_about 67 = .ok (.iconst 2, 1) := by decide +kernel
theorem dX10_about_68 : decode cX10_about 68 = .ok (.aload_n 0, 1) := by decide +kernel
theorem dX10_about_69 : decode cX10_about 69 = .ok (.getfield 64, 3) := by decide +kernel
theorem dX10_about_72 : decode cX10_about 72 = .ok (.iload_n 3, 1) := by decide +kernel
theorem dX10_about_73 : decode cX10_about 73 = .ok (.iaload, 1) := by decide +kernel
theorem dX10_about_74 : decode cX10_about 74 = .ok (.imul, 1) := by decide +kernel
theorem dX10_about_75 : decode cX10_about 75 = .ok (.if_icmp .ge 26, 3) := by decide +kernel
theorem dX10_about_78 : decode cX10_about 78 = .ok (.iload 4, 2) := by decide +kernel
theorem dX10_about_80 : decode cX10_about 80 = .ok (.aload_n 0, 1) := by decide +kernel
theorem dX10_about_81 : decode cX10_about 81 = .ok (.getfield 67, 3) := by decide +kernel
theorem dX10_about_84 : decode cX10_about 84 = .ok (.bipush 8, 2) := by decide +kernel
theorem dX10_about_86 : decode cX10_about 86 = .ok (.iload_n 3, 1) := by decide +kernel
theorem dX10_about_87 : decode cX10_about 87 = .ok (.imul, 1) := by decide +kernel
theorem dX10_about_88 : decode cX10_about 88 = .ok (.iload 5, 2) := by decide +kernel
theorem dX10_about_90 : decode cX10_about 90 = .ok (.iadd, 1) := by decide +kernel
theorem dX10_about_91 : decode cX10_about 91 = .ok (.iaload, 1) := by decide +kernel
theorem dX10_about_92 : decode cX10_about 92 = .ok (.iadd, 1) := by decide +kernel
theorem dX10_about_93 : decode cX10_about 93 = .ok (.istore 4, 2) := by decide +kernel
theorem dX10_about_95 : decode cX10_about 95 = .ok (.iinc 5 1, 3) := by decide +kernel
theorem dX10_about_98 : decode cX10_about 98 = .ok (.goto (-33), 3) := by decide +kernel
theorem dX10_about_101 : decode cX10_about 101 = .ok (.iload_n 2, 1) := by decide +kernel
theorem dX10_about_102 : decode cX10_about 102 = .ok (.ifCond .ne 20, 3) := by decide +kernel
theorem dX10_about_105 : decode cX10_about 105 = .ok (.aload_n 0, 1) := by decide +kernel
theorem dX10_about_106 : decode cX10_about 106 = .ok (.getfield 57, 3) := by decide +kernel
theorem dX10_about_109 : decode cX10_about 109 = .ok (.iload_n 3, 1) := by decide +kernel
theorem dX10_about_110 : decode cX10_about 110 = .ok (.baload, 1) := by decide +kernel
theorem dX10_about_111 : decode cX10_about 111 = .ok (.ifCond .eq 7, 3) := by decide +kernel
theorem dX10_about_114 : decode cX10_about 114 = .ok (.iconst 1, 1) := by decide +kernel
theorem dX10_about_115 : decode cX10_about 115 = .ok (.goto 45, 3) := by decide +kernel
theorem dX10_about_118 : decode cX10_about 118 = .ok (.iconst 0, 1) := by decide +kernel
theorem dX10_about_119 : decode cX10_about 119 = .ok (.goto 41, 3) := by decide +kernel
theorem dX10_about_122 : decode cX10_about 122 = .ok (.iload_n 2, 1) := by decide +kernel
theorem dX10_about_123 : decode cX10_about 123 = .ok (.iconst 1, 1) := by decide +kernel
theorem dX10_about_124 : decode cX10_about 124 = .ok (.if_icmp .ne 12, 3) := by decide +kernel
theorem dX10_about_127 : decode cX10_about 127 = .ok (.aload_n 0, 1) := by decide +kernel
theorem dX10_about_128 : decode cX10_about 128 = .ok (.getfield 64, 3) := by decide +kernel
theorem dX10_about_131 : decode cX10_about 131 = .ok (.iload_n 3, 1) := by decide +kernel
theorem dX10_about_132 : decode cX10_about 132 = .ok (.iaload, 1) := by decide +kernel
theorem dX10_about_133 : decode cX10_about 133 = .ok (.goto 27, 3) := by decide +kernel
theorem dX10_about_136 : decode cX10_about 136 = .ok (.iload_n 2, 1) := by decide +kernel
theorem dX10_about_137 : decode cX10_about 137 = .ok (.iconst 2, 1) := by decide +kernel
theorem dX10_about_138 : decode cX10_about 138 = .ok (.if_icmp .ne 8, 3) := by decide +kernel
theorem dX10_about_141 : decode cX10_about 141 = .ok (.iload 4, 2) := by decide +kernel
theorem dX10_about_143 : decode cX10_about 143 = .ok (.goto 17, 3) := by decide +kernel
theorem dX10_about_146 : decode cX10_about 146 = .ok (.aload_n 0, 1) := by decide +kernel
theorem dX10_about_147 : decode cX10_about 147 = .ok (.getfield 61, 3) := by decide +kernel
theorem dX10_about_150 : decode cX10_about 150 = .ok (.iload_n 3, 1) := by decide +kernel
theorem dX10_about_151 : decode cX10_about 151 = .ok (.baload, 1) := by decide +kernel
theorem dX10_about_152 : decode cX10_about 152 = .ok (.ifCond .eq 7, 3) := by decide +kernel
theorem dX10_about_155 : decode cX10_about 155 = .ok (.iconst 1, 1) := by decide +kernel
theorem dX10_about_156 : decode cX10_about 156 = .ok (.goto 4, 3) := by decide +kernel
theorem dX10_about_159 : decode cX10_about 159 = .ok (.iconst 0, 1) := by decide +kernel
theorem dX10_about_160 : decode cX10_about 160 = .ok (.ireturn, 1) := by decide +kernel
set_option maxHeartbeats 4000000 in
set_option maxRecDepth 100000 in
theorem k_X10_about (l : Launch) (D : va_G) (cy : Nat → ClassId) {L : List Nat} {τ : Nat → Ro} {E : Ec} (hI : Inv TB cy L τ E) {a0 : Nat} (ha0 : a0 ∈ L) (ta0 : τ a0 = (11, 0)) (a1 : Int32) (a2 : Int32) : CtI l yX10_about wsX10_about { frames := 1, cells := 0, slots := 0, locals := 23 } D TB cy L τ E [.ref a0, .int a1, .int a2] (inW [(11, 0)]) (fun r E' => (∀ k : Nat, k ∉ ([3, 4, 6] : List Nat) → fi E' a0 k = fi E a0 k)) := by
  intro sz
  refine sta (cc := cX10_about) (maxL := 6) hI (by decide) rfl (Nat.le_of_ble_eq_true rfl) (fun p e s m args below meth c ls hsz Z S0 hl => ?_)
  have hx := Z.1.1
  have hb := Z.1.2.1
  have hts := Z.1.2.2.2.2
  have F0_ : Fr L τ (inW [(11, 0)]) E E := Fr.refl
  have hl : lv_has ls 6 [(0, .ref a0), (1, .int a1), (2, .int a2)] := hl
  generalize hQ : MQ below _ args s 0 0 _ = QQ
  have J65 : ∀ (n : Nat) (x3_65 : Int32) (x4_65 : Int32) (x5_65 : Int32) (E_65 : Ec) (H_65 : Heap) (k_65 : List Loc) (l_65 : Array Slot), Now D TB cy (va_A (va_pl L E) sz) s L τ E_65 H_65 k_65 → Fr L τ (inW [(11, 0)]) E E_65 → (0 ≤ a2.toInt) → (a2.toInt ≤ 3) → (0 ≤ x3_65.toInt) → (x3_65.toInt ≤ 49) → (0 ≤ x5_65.toInt) → (x5_65.toInt ≤ 8) → (∀ k : Nat, k ∉ ([3, 4, 6] : List Nat) → fi E_65 a0 k = fi E a0 k) → (8 - x5_65.toInt).toNat < n → lv_has l_65 6 [(0, .ref a0), (2, .int a2), (3, .int x3_65), (4, .int x4_65), (5, .int x5_65)] → W p l e { frames := 1, cells := 0, slots := 0, locals := 23 } s m args below meth c H_65 k_65 0 0 QQ (F0 m 65 l_65 []) := by
    intro n
    induction n with
    | zero => intro x3_65 x4_65 x5_65 E_65 H_65 k_65 l_65 S_65 F_65 z1 z2 z3 z4 z5 z6 z7 hm hl_65; exact absurd hm (Nat.not_lt_zero _)
    | succ n ih =>
      intro x3_65 x4_65 x5_65 E_65 H_65 k_65 l_65 S_65 F_65 z1 z2 z3 z4 z5 z6 z7 hm hl_65
      have ih_65 := ih
      refine lv_iload hx hb dX10_about_65 (lv_at hl_65 4 rfl) ?_
      obtain ⟨v8, ev8, tv8⟩ : ∃ v : Int32, Int32.ofInt (2) = v ∧ v.toInt = 2 := ⟨_, rfl, by decide +kernel⟩
      refine lv_iconst hx hb dX10_about_67 ev8 ?_
      refine lv_aload_n hx hb dX10_about_68 rfl (lv_at hl_65 0 rfl) ?_
      refine tr_getr Z.1 Z.2.2.2.1 S_65.1 S_65.2 ha0 ta0 rfl rfl (fun _ h => List.mem_cons_of_mem _ (List.mem_append_right _ h)) 25 (by decide) rfl (hts _ (List.mem_of_getElem? (i := 3) rfl)) dX10_about_69 (fun q9 eq9 hq9 tq9 => ?_)
      have tq9 : τ q9 = (76, 0) := tq9
      refine lv_iload_n hx hb dX10_about_72 rfl (lv_at hl_65 2 rfl) ?_
      refine tr_iald Z.1 Z.2.2.2.1 S_65.1 S_65.2 hq9 tq9 rfl (by omega) (by omega) dX10_about_73 (fun v10 ev10 lv10 uv10 => ?_)
      refine lv_imul hx hb dX10_about_74 ?_
      refine lv_topi (fun v11 ev11 => ?_)
      have tv11 := nu_mulc' (2) ev11 (by omega) (by omega) (by omega)
      refine lv_icmp_ge (tgt := 101) hx hb dX10_about_75 (by decide) (fun c12 => ?_) (fun c12 => ?_)
      · skip
        have tc12 := nu_le c12
        refine lv_iload_n hx hb dX10_about_101 rfl (lv_at hl_65 1 rfl) ?_
        refine lv_if_ne (tgt := 122) hx hb dX10_about_102 (by decide) (fun c13 => ?_) (fun c13 => ?_)
        · skip
          have tc13 := nu_ne c13
          have uc13 : (0 : Int32).toInt = 0 := rfl
          refine lv_iload_n hx hb dX10_about_122 rfl (lv_at hl_65 1 rfl) ?_
          obtain ⟨v14, ev14, tv14⟩ : ∃ v : Int32, Int32.ofInt (1) = v ∧ v.toInt = 1 := ⟨_, rfl, by decide +kernel⟩
          refine lv_iconst hx hb dX10_about_123 ev14 ?_
          refine lv_icmp_ne (tgt := 136) hx hb dX10_about_124 (by decide) (fun c15 => ?_) (fun c15 => ?_)
          · skip
            have tc15 := nu_ne c15
            refine lv_iload_n hx hb dX10_about_136 rfl (lv_at hl_65 1 rfl) ?_
            obtain ⟨v16, ev16, tv16⟩ : ∃ v : Int32, Int32.ofInt (2) = v ∧ v.toInt = 2 := ⟨_, rfl, by decide +kernel⟩
            refine lv_iconst hx hb dX10_about_137 ev16 ?_
            refine lv_icmp_ne (tgt := 146) hx hb dX10_about_138 (by decide) (fun c17 => ?_) (fun c17 => ?_)
            · skip
              have tc17 := nu_ne c17
              refine lv_aload_n hx hb dX10_about_146 rfl (lv_at hl_65 0 rfl) ?_
              refine tr_getr Z.1 Z.2.2.2.1 S_65.1 S_65.2 ha0 ta0 rfl rfl (fun _ h => List.mem_cons_of_mem _ (List.mem_append_right _ h)) 24 (by decide) rfl (hts _ (List.mem_of_getElem? (i := 6) rfl)) dX10_about_147 (fun q18 eq18 hq18 tq18 => ?_)
              have tq18 : τ q18 = (75, 0) := tq18
              refine lv_iload_n hx hb dX10_about_150 rfl (lv_at hl_65 2 rfl) ?_
              refine tr_zald Z.1 Z.2.2.2.1 S_65.1 S_65.2 hq18 tq18 rfl (by omega) (by omega) dX10_about_151 (fun v19 ev19 lv19 uv19 => ?_)
              refine lv_if_eq (tgt := 159) hx hb dX10_about_152 (by decide) (fun c20 => ?_) (fun c20 => ?_)
              · skip
                have tc20 := nu_eq c20
                have uc20 : (0 : Int32).toInt = 0 := rfl
                obtain ⟨v21, ev21, tv21⟩ : ∃ v : Int32, Int32.ofInt (0) = v ∧ v.toInt = 0 := ⟨_, rfl, by decide +kernel⟩
                refine lv_iconst hx hb dX10_about_159 ev21 ?_
                rw [← hQ]
                exact en_i Z S_65 F_65 (fun k hk => (z7 k hk)) dX10_about_160
              · skip
                have tc20 := nu_ne c20
                have uc20 : (0 : Int32).toInt = 0 := rfl
                obtain ⟨v22, ev22, tv22⟩ : ∃ v : Int32, Int32.ofInt (1) = v ∧ v.toInt = 1 := ⟨_, rfl, by decide +kernel⟩
                refine lv_iconst hx hb dX10_about_155 ev22 ?_
                refine lv_goto (tgt := 160) hx hb dX10_about_156 (by decide) ?_
                rw [← hQ]
                exact en_i Z S_65 F_65 (fun k hk => (z7 k hk)) dX10_about_160
            · skip
              have tc17 := nu_eq c17
              refine lv_iload hx hb dX10_about_141 (lv_at hl_65 3 rfl) ?_
              refine lv_goto (tgt := 160) hx hb dX10_about_143 (by decide) ?_
              rw [← hQ]
              exact en_i Z S_65 F_65 (fun k hk => (z7 k hk)) dX10_about_160
          · skip
            have tc15 := nu_eq c15
            refine lv_aload_n hx hb dX10_about_127 rfl (lv_at hl_65 0 rfl) ?_
            refine tr_getr Z.1 Z.2.2.2.1 S_65.1 S_65.2 ha0 ta0 rfl rfl (fun _ h => List.mem_cons_of_mem _ (List.mem_append_right _ h)) 25 (by decide) rfl (hts _ (List.mem_of_getElem? (i := 3) rfl)) dX10_about_128 (fun q23 eq23 hq23 tq23 => ?_)
            have tq23 : τ q23 = (76, 0) := tq23
            have uq23 : q9 = q23 := S_65.2.2.2.2 _ hq9 _ hq23 (tq9.trans tq23.symm) (by rw [tq9]; rfl)
            subst uq23
            refine lv_iload_n hx hb dX10_about_131 rfl (lv_at hl_65 2 rfl) ?_
            refine tr_iald Z.1 Z.2.2.2.1 S_65.1 S_65.2 hq9 tq9 rfl (by omega) (by omega) dX10_about_132 (fun v24 ev24 lv24 uv24 => ?_)
            refine lv_goto (tgt := 160) hx hb dX10_about_133 (by decide) ?_
            rw [← hQ]
            exact en_i Z S_65 F_65 (fun k hk => (z7 k hk)) dX10_about_160
        · skip
          have tc13 := nu_eq c13
          have uc13 : (0 : Int32).toInt = 0 := rfl
          refine lv_aload_n hx hb dX10_about_105 rfl (lv_at hl_65 0 rfl) ?_
          refine tr_getr Z.1 Z.2.2.2.1 S_65.1 S_65.2 ha0 ta0 rfl rfl (fun _ h => List.mem_cons_of_mem _ (List.mem_append_right _ h)) 23 (by decide) rfl (hts _ (List.mem_of_getElem? (i := 5) rfl)) dX10_about_106 (fun q25 eq25 hq25 tq25 => ?_)
          have tq25 : τ q25 = (74, 0) := tq25
          refine lv_iload_n hx hb dX10_about_109 rfl (lv_at hl_65 2 rfl) ?_
          refine tr_zald Z.1 Z.2.2.2.1 S_65.1 S_65.2 hq25 tq25 rfl (by omega) (by omega) dX10_about_110 (fun v26 ev26 lv26 uv26 => ?_)
          refine lv_if_eq (tgt := 118) hx hb dX10_about_111 (by decide) (fun c27 => ?_) (fun c27 => ?_)
          · skip
            have tc27 := nu_eq c27
            have uc27 : (0 : Int32).toInt = 0 := rfl
            obtain ⟨v28, ev28, tv28⟩ : ∃ v : Int32, Int32.ofInt (0) = v ∧ v.toInt = 0 := ⟨_, rfl, by decide +kernel⟩
            refine lv_iconst hx hb dX10_about_118 ev28 ?_
            refine lv_goto (tgt := 160) hx hb dX10_about_119 (by decide) ?_
            rw [← hQ]
            exact en_i Z S_65 F_65 (fun k hk => (z7 k hk)) dX10_about_160
          · skip
            have tc27 := nu_ne c27
            have uc27 : (0 : Int32).toInt = 0 := rfl
            obtain ⟨v29, ev29, tv29⟩ : ∃ v : Int32, Int32.ofInt (1) = v ∧ v.toInt = 1 := ⟨_, rfl, by decide +kernel⟩
            refine lv_iconst hx hb dX10_about_114 ev29 ?_
            refine lv_goto (tgt := 160) hx hb dX10_about_115 (by decide) ?_
            rw [← hQ]
            exact en_i Z S_65 F_65 (fun k hk => (z7 k hk)) dX10_about_160
      · skip
        have tc12 := nu_nle c12
        refine lv_iload hx hb dX10_about_78 (lv_at hl_65 3 rfl) ?_
        refine lv_aload_n hx hb dX10_about_80 rfl (lv_at hl_65 0 rfl) ?_
        refine tr_getr Z.1 Z.2.2.2.1 S_65.1 S_65.2 ha0 ta0 rfl rfl (fun _ h => List.mem_cons_of_mem _ (List.mem_append_right _ h)) 26 (by decide) rfl (hts _ (List.mem_of_getElem? (i := 4) rfl)) dX10_about_81 (fun q30 eq30 hq30 tq30 => ?_)
        have tq30 : τ q30 = (77, 0) := tq30
        obtain ⟨v31, ev31, tv31⟩ : ∃ v : Int32, (Int8.ofInt (8)).toInt32 = v ∧ v.toInt = 8 := ⟨_, rfl, by decide +kernel⟩
        refine lv_bipush hx hb dX10_about_84 ev31 ?_
        refine lv_iload_n hx hb dX10_about_86 rfl (lv_at hl_65 2 rfl) ?_
        refine lv_imul hx hb dX10_about_87 ?_
        refine lv_topi (fun v32 ev32 => ?_)
        have tv32 := nu_mulc' (8) ev32 (by omega) (by omega) (by omega)
        refine lv_iload hx hb dX10_about_88 (lv_at hl_65 4 rfl) ?_
        refine lv_iadd hx hb dX10_about_90 ?_
        refine lv_topi (fun v33 ev33 => ?_)
        have tv33 := nu_add ev33 (by omega) (by omega)
        refine tr_iald Z.1 Z.2.2.2.1 S_65.1 S_65.2 hq30 tq30 rfl (by omega) (by omega) dX10_about_91 (fun v34 ev34 lv34 uv34 => ?_)
        refine lv_iadd hx hb dX10_about_92 ?_
        refine lv_topi (fun v35 ev35 => ?_)
        refine lv_istore (lv' := [(4, .int v35), (0, .ref a0), (2, .int a2), (3, .int x3_65), (5, .int x5_65)]) hx hb dX10_about_93 hl_65 (by decide) rfl (fun l36 hl37 => ?_)
        obtain ⟨v38, ev38⟩ : ∃ y : Int32, x5_65 + Int32.ofInt (1) = y := ⟨_, rfl⟩
        have tv38 : v38.toInt = x5_65.toInt + (1) := by rw [← ev38]; exact (fb_addI (by rw [show (Int32.ofInt (1)).toInt = 1 from by decide +kernel]; omega) (by rw [show (Int32.ofInt (1)).toInt = 1 from by decide +kernel]; omega)).trans (by rw [show (Int32.ofInt (1)).toInt = 1 from by decide +kernel])
        refine lv_iinc (v := v38) (lv' := [(5, .int v38), (4, .int v35), (0, .ref a0), (2, .int a2), (3, .int x3_65)]) hx hb dX10_about_95 hl37 (k := 4) rfl ev38 (by decide) rfl (fun l39 hl40 => ?_)
        refine lv_goto (tgt := 65) hx hb dX10_about_98 (by decide) ?_
        exact ih_65 x3_65 v35 v38 E_65 H_65 k_65 l39 S_65 F_65 (by have := fb_rng v35; omega) (by have := fb_rng v35; omega) (by have := fb_rng v35; omega) (by have := fb_rng v35; omega) (by have := fb_rng v35; omega) (by have := fb_rng v35; omega) (fun k hk => (z7 k hk)) (by omega) (lv_sub hl40 [2, 3, 4, 1, 0] rfl)
  refine lv_aload_n hx hb dX10_about_0 rfl (lv_at hl 0 rfl) ?_
  obtain ⟨v41, ev41, tv41⟩ : ∃ v : Int32, Int32.ofInt (0) = v ∧ v.toInt = 0 := ⟨_, rfl, by decide +kernel⟩
  refine lv_iconst hx hb dX10_about_1 ev41 ?_
  refine tr_puti Z.1 Z.2.2.2.1 S0.1 S0.2 ha0 ta0 rfl rfl (fun _ h => List.mem_cons_of_mem _ (List.mem_append_right _ h)) tyX10_ok nmX10 4 (by decide) rfl rfl rfl (hts _ (List.mem_of_getElem? (i := 1) rfl)) dX10_about_2 (by omega) (by omega) (fun E42 H43 k44 W42 I42 P42 => ?_)
  have S42 : Now D TB cy (va_A (va_pl L E) sz) s L τ E42 H43 k44 := ⟨W42, I42⟩
  have F42 : Fr L τ (inW [(11, 0)]) E E42 := Fr.put F0_ P42 ta0 rfl
  refine lv_aload_n hx hb dX10_about_5 rfl (lv_at hl 0 rfl) ?_
  refine lv_iload_n hx hb dX10_about_6 rfl (lv_at hl 1 rfl) ?_
  obtain ⟨v45, ev45, tv45⟩ : ∃ v : Int32, Int32.ofInt (0) = v ∧ v.toInt = 0 := ⟨_, rfl, by decide +kernel⟩
  refine lv_iconst hx hb dX10_about_7 ev45 ?_
  refine lv_aload_n hx hb dX10_about_8 rfl (lv_at hl 0 rfl) ?_
  refine tr_getr Z.1 Z.2.2.2.1 S42.1 S42.2 ha0 ta0 rfl rfl (fun _ h => List.mem_cons_of_mem _ (List.mem_append_right _ h)) 0 (by decide) rfl (hts _ (List.mem_of_getElem? (i := 2) rfl)) dX10_about_9 (fun q46 eq46 hq46 tq46 => ?_)
  have tq46 : τ q46 = (60, 0) := tq46
  obtain ⟨v47, ev47, tv47⟩ : ∃ v : Int32, (Int8.ofInt (44)).toInt32 = v ∧ v.toInt = 44 := ⟨_, rfl, by decide +kernel⟩
  refine lv_bipush hx hb dX10_about_12 ev47 ?_
  refine tr_ialdx Z.1 Z.2.2.2.1 S42.1 S42.2 hq46 tq46 rfl (by omega) (by omega) dX10_about_14 (fun v48 ev48 lv48 uv48 => ?_)
  have bv48 : nowB v47.toNatClampNeg = (0, 8) := nb_44 (by show v47.toInt.toNat = 44; omega)
  rw [bv48] at lv48 uv48
  have lv48 : 0 ≤ v48.toInt := lv48
  have uv48 : v48.toInt ≤ 8 := uv48
  have av48 : ai E42 q46 44 = v48 := ai_at ev48 (by omega)
  obtain ⟨v49, ev49, tv49⟩ : ∃ v : Int32, Int32.ofInt (1) = v ∧ v.toInt = 1 := ⟨_, rfl, by decide +kernel⟩
  refine lv_iconst hx hb dX10_about_15 ev49 ?_
  refine lv_isub hx hb dX10_about_16 ?_
  refine lv_topi (fun v50 ev50 => ?_)
  have tv50 := nu_sub ev50 (by omega) (by omega)
  refine tc_vi Z.1 Z.2.2.2.1 Z.2.2.2.2.1 Z.2.2.2.2.2 S42.1 S42.2 ha0 ta0 rfl rfl (k_X10_in l D cy S42.2 ha0 ta0 a1 v45 v50) (cwV 3 hts gX10_about_X10_in rfl rfl rfl (by decide +kernel) ⟨Nat.le_of_ble_eq_true rfl, Nat.le_of_ble_eq_true rfl⟩) rfl hl.1 rfl (Nat.le_of_ble_eq_true rfl) dX10_about_17 ⟨Nat.zero_le _, Nat.zero_le _⟩ (fun v54 E51 H52 k53 W51 I51 G51 p51 => ?_)
  obtain ⟨q51, p51_0, p51_1, p51_2⟩ := p51
  have q51 := q51.symm
  subst q51
  have S51 : Now D TB cy (va_A (va_pl L E) sz) s L τ E42 H52 k53 := ⟨W51, I51⟩
  refine lv_if_ne (tgt := 29) hx hb dX10_about_20 (by decide) (fun c55 => ?_) (fun c55 => ?_)
  · skip
    have tc55 := nu_ne c55
    have uc55 : (0 : Int32).toInt = 0 := rfl
    refine lv_aload_n hx hb dX10_about_29 rfl (lv_at hl 0 rfl) ?_
    refine lv_iload_n hx hb dX10_about_30 rfl (lv_at hl 2 rfl) ?_
    obtain ⟨v56, ev56, tv56⟩ : ∃ v : Int32, Int32.ofInt (0) = v ∧ v.toInt = 0 := ⟨_, rfl, by decide +kernel⟩
    refine lv_iconst hx hb dX10_about_31 ev56 ?_
    obtain ⟨v57, ev57, tv57⟩ : ∃ v : Int32, Int32.ofInt (3) = v ∧ v.toInt = 3 := ⟨_, rfl, by decide +kernel⟩
    refine lv_iconst hx hb dX10_about_32 ev57 ?_
    refine tc_vi Z.1 Z.2.2.2.1 Z.2.2.2.2.1 Z.2.2.2.2.2 S51.1 S51.2 ha0 ta0 rfl rfl (k_X10_in l D cy S51.2 ha0 ta0 a2 v56 v57) (cwV 3 hts gX10_about_X10_in rfl rfl rfl (by decide +kernel) ⟨Nat.le_of_ble_eq_true rfl, Nat.le_of_ble_eq_true rfl⟩) rfl hl.1 rfl (Nat.le_of_ble_eq_true rfl) dX10_about_33 ⟨Nat.zero_le _, Nat.zero_le _⟩ (fun v61 E58 H59 k60 W58 I58 G58 p58 => ?_)
    obtain ⟨q58, p58_0, p58_1, p58_2⟩ := p58
    have q58 := q58.symm
    subst q58
    have S58 : Now D TB cy (va_A (va_pl L E) sz) s L τ E42 H59 k60 := ⟨W58, I58⟩
    refine lv_if_ne (tgt := 45) hx hb dX10_about_36 (by decide) (fun c62 => ?_) (fun c62 => ?_)
    · skip
      have tc62 := nu_ne c62
      have uc62 : (0 : Int32).toInt = 0 := rfl
      refine lv_aload_n hx hb dX10_about_45 rfl (lv_at hl 0 rfl) ?_
      refine tc_vv Z.1 Z.2.2.2.1 Z.2.2.2.2.1 Z.2.2.2.2.2 S58.1 S58.2 ha0 ta0 rfl rfl (k_X10_good l D cy S58.2 ha0 ta0) (cwV 0 hts gX10_about_X10_good rfl rfl rfl (by decide +kernel) ⟨Nat.le_of_ble_eq_true rfl, Nat.le_of_ble_eq_true rfl⟩) rfl hl.1 rfl (Nat.le_of_ble_eq_true rfl) dX10_about_46 ⟨Nat.zero_le _, Nat.zero_le _⟩ (fun E63 H64 k65 W63 I63 G63 p63 => ?_)
      have p63_0 := p63
      have S63 : Now D TB cy (va_A (va_pl L E) sz) s L τ E63 H64 k65 := ⟨W63, I63⟩
      have F63 : Fr L τ (inW [(11, 0)]) E E63 := F42.trans (G63.mono (inW_mono (by decide)))
      refine lv_aload_n hx hb dX10_about_49 rfl (lv_at hl 0 rfl) ?_
      refine tr_getr Z.1 Z.2.2.2.1 S63.1 S63.2 ha0 ta0 rfl rfl (fun _ h => List.mem_cons_of_mem _ (List.mem_append_right _ h)) 0 (by decide) rfl (hts _ (List.mem_of_getElem? (i := 2) rfl)) dX10_about_50 (fun q67 eq67 hq67 tq67 => ?_)
      have tq67 : τ q67 = (60, 0) := tq67
      have uq67 : q46 = q67 := S63.2.2.2.2 _ hq46 _ hq67 (tq46.trans tq67.symm) (by rw [tq46]; rfl)
      subst uq67
      obtain ⟨v68, ev68, tv68⟩ : ∃ v : Int32, (Int8.ofInt (45)).toInt32 = v ∧ v.toInt = 45 := ⟨_, rfl, by decide +kernel⟩
      refine lv_bipush hx hb dX10_about_53 ev68 ?_
      refine lv_iload_n hx hb dX10_about_55 rfl (lv_at hl 1 rfl) ?_
      refine lv_iadd hx hb dX10_about_56 ?_
      refine lv_topi (fun v69 ev69 => ?_)
      have tv69 := nu_add ev69 (by omega) (by omega)
      refine tr_ialdx Z.1 Z.2.2.2.1 S63.1 S63.2 hq46 tq46 rfl (by omega) (by omega) dX10_about_57 (fun v70 ev70 lv70 uv70 => ?_)
      have bv70 : nowB v69.toNatClampNeg = (0, 49) := nb_45 (by show 45 ≤ v69.toInt.toNat ∧ v69.toInt.toNat ≤ 52; omega)
      rw [bv70] at lv70 uv70
      have lv70 : 0 ≤ v70.toInt := lv70
      have uv70 : v70.toInt ≤ 49 := uv70
      refine lv_istore_n (lv' := [(3, .int v70), (0, .ref a0), (1, .int a1), (2, .int a2)]) hx hb dX10_about_58 rfl hl (by decide) rfl (fun l71 hl72 => ?_)
      obtain ⟨v73, ev73, tv73⟩ : ∃ v : Int32, Int32.ofInt (0) = v ∧ v.toInt = 0 := ⟨_, rfl, by decide +kernel⟩
      refine lv_iconst hx hb dX10_about_59 ev73 ?_
      refine lv_istore (lv' := [(4, .int v73), (3, .int v70), (0, .ref a0), (1, .int a1), (2, .int a2)]) hx hb dX10_about_60 hl72 (by decide) rfl (fun l74 hl75 => ?_)
      obtain ⟨v76, ev76, tv76⟩ : ∃ v : Int32, Int32.ofInt (0) = v ∧ v.toInt = 0 := ⟨_, rfl, by decide +kernel⟩
      refine lv_iconst hx hb dX10_about_62 ev76 ?_
      refine lv_istore (lv' := [(5, .int v76), (4, .int v73), (3, .int v70), (0, .ref a0), (1, .int a1), (2, .int a2)]) hx hb dX10_about_63 hl75 (by decide) rfl (fun l77 hl78 => ?_)
      exact J65 _ v70 v73 v76 E63 H64 k65 l77 S63 F63 (by omega) (by omega) (by omega) (by omega) (by omega) (by omega) (fun k hk => ((p63_0 k (fw_sub (by decide) hk)).trans ((fi_put P42 (Or.inr (fw_ne (by decide) hk))).trans ((fun k hk => rfl) k hk)))) (Nat.lt_succ_self _) (lv_sub hl78 [3, 5, 2, 1, 0] rfl)
    · skip
      have tc62 := nu_eq c62
      have uc62 : (0 : Int32).toInt = 0 := rfl
      refine lv_aload_n hx hb dX10_about_39 rfl (lv_at hl 0 rfl) ?_
      obtain ⟨v79, ev79, tv79⟩ : ∃ v : Int32, Int32.ofInt (1) = v ∧ v.toInt = 1 := ⟨_, rfl, by decide +kernel⟩
      refine lv_iconst hx hb dX10_about_40 ev79 ?_
      refine tc_vi Z.1 Z.2.2.2.1 Z.2.2.2.2.1 Z.2.2.2.2.2 S58.1 S58.2 ha0 ta0 rfl rfl (k_X10_no l D cy S58.2 ha0 ta0 v79) (cwV 1 hts gX10_about_X10_no rfl rfl rfl (by decide +kernel) ⟨Nat.le_of_ble_eq_true rfl, Nat.le_of_ble_eq_true rfl⟩) rfl hl.1 rfl (Nat.le_of_ble_eq_true rfl) dX10_about_41 ⟨Nat.zero_le _, Nat.zero_le _⟩ (fun v83 E80 H81 k82 W80 I80 G80 p80 => ?_)
      obtain ⟨p80_0, p80_1, p80_2⟩ := p80
      have S80 : Now D TB cy (va_A (va_pl L E) sz) s L τ E80 H81 k82 := ⟨W80, I80⟩
      have F80 : Fr L τ (inW [(11, 0)]) E E80 := F42.trans (G80.mono (inW_mono (by decide)))
      rw [← hQ]
      exact en_i Z S80 F80 (fun k hk => ((p80_2 k (fw_sub (by decide) hk)).trans ((fi_put P42 (Or.inr (fw_ne (by decide) hk))).trans ((fun k hk => rfl) k hk)))) dX10_about_44
  · skip
    have tc55 := nu_eq c55
    have uc55 : (0 : Int32).toInt = 0 := rfl
    refine lv_aload_n hx hb dX10_about_23 rfl (lv_at hl 0 rfl) ?_
    obtain ⟨v84, ev84, tv84⟩ : ∃ v : Int32, Int32.ofInt (4) = v ∧ v.toInt = 4 := ⟨_, rfl, by decide +kernel⟩
    refine lv_iconst hx hb dX10_about_24 ev84 ?_
    refine tc_vi Z.1 Z.2.2.2.1 Z.2.2.2.2.1 Z.2.2.2.2.2 S51.1 S51.2 ha0 ta0 rfl rfl (k_X10_no l D cy S51.2 ha0 ta0 v84) (cwV 1 hts gX10_about_X10_no rfl rfl rfl (by decide +kernel) ⟨Nat.le_of_ble_eq_true rfl, Nat.le_of_ble_eq_true rfl⟩) rfl hl.1 rfl (Nat.le_of_ble_eq_true rfl) dX10_about_25 ⟨Nat.zero_le _, Nat.zero_le _⟩ (fun v88 E85 H86 k87 W85 I85 G85 p85 => ?_)
    obtain ⟨p85_0, p85_1, p85_2⟩ := p85
    have S85 : Now D TB cy (va_A (va_pl L E) sz) s L τ E85 H86 k87 := ⟨W85, I85⟩
    have F85 : Fr L τ (inW [(11, 0)]) E E85 := F42.trans (G85.mono (inW_mono (by decide)))
    rw [← hQ]
    exact en_i Z S85 F85 (fun k hk => ((p85_2 k (fw_sub (by decide) hk)).trans ((fi_put P42 (Or.inr (fw_ne (by decide) hk))).trans ((fun k hk => rfl) k hk)))) dX10_about_28

set_option maxRecDepth 20000 in
theorem ggX10_tryOne_X10_make : GoodIn wsX10_tryOne wsX10_make := goodIn_r _ [14, 7, 15, 2, 16, 17, 18, 19, 20, 21, 22, 23, 13, 24, 25, 26, 27, 28, 29, 30, 31, 32, 67, 68, 69, 70, 71, 72, 73, 74, 75, 76, 77, 78, 79, 80, 81, 82, 83, 84, 85, 86, 87, 88, 89, 90, 91, 92, 93, 94, 95, 96, 97, 98, 99, 100, 101, 102, 103, 104, 105, 106, 107, 108, 109, 110, 111, 112, 113, 114] (by decide +kernel) (by decide +kernel)
set_option maxRecDepth 20000 in
theorem gX10_tryOne_X10_make : GoodIn wsX10_tryOne (wsV RX10 109 RX10 yX10_make wsX10_make) := goodIn_app (goodIn_of _ (by decide +kernel)) ggX10_tryOne_X10_make
set_option maxRecDepth 20000 in
theorem ggX10_tryOne_X10_firstBroken : GoodIn wsX10_tryOne wsX10_firstBroken := goodIn_r _ [36, 15, 37, 38, 39, 13, 40, 41, 7, 42, 43, 44, 45, 46, 47, 48, 49, 50, 51, 52, 53, 54, 55, 56, 57, 58, 59, 60, 61, 62, 16, 19, 30, 20, 29, 67, 68, 69, 70, 71, 72, 73, 74, 75, 76, 77, 78, 79, 80, 81, 82, 83, 84, 85, 86, 87, 88, 89, 90, 91, 92, 93, 94, 95, 96, 97, 98, 99, 100, 101, 102, 103, 104, 105, 106, 107, 108, 109, 110, 111, 112, 113, 114] (by decide +kernel) (by decide +kernel)
set_option maxRecDepth 20000 in
theorem gX10_tryOne_X10_firstBroken : GoodIn wsX10_tryOne (wsV RX10 235 RX10 yX10_firstBroken wsX10_firstBroken) := goodIn_app (goodIn_of _ (by decide +kernel)) ggX10_tryOne_X10_firstBroken
set_option maxRecDepth 20000 in
theorem ggX10_tryOne_X10_priceHere : GoodIn wsX10_tryOne wsX10_priceHere := goodIn_r _ [66, 7, 15, 29, 67, 68, 69, 70, 71, 72, 73, 74, 75, 76, 77, 78, 79, 80, 81, 82, 83, 84, 85, 86, 87, 88, 89, 90, 91, 92, 93, 94, 95, 96, 97, 98, 99, 100, 101, 102, 103, 104, 105, 106, 107, 108, 109, 110, 111, 112, 113, 114] (by decide +kernel) (by decide +kernel)
set_option maxRecDepth 20000 in
theorem gX10_tryOne_X10_priceHere : GoodIn wsX10_tryOne (wsV RX10 137 RX10 yX10_priceHere wsX10_priceHere) := goodIn_app (goodIn_of _ (by decide +kernel)) ggX10_tryOne_X10_priceHere
theorem dX10_tryOne_0 : decode cX10_tryOne 0 = .ok (.aload_n 0, 1) := by decide +kernel
theorem dX10_tryOne_1 : decode cX10_tryOne 1 = .ok (.getfield 238, 3) := by decide +kernel
theorem dX10_tryOne_4 : decode cX10_tryOne 4 = .ok (.sipush 2000, 3) := by decide +kernel
theorem dX10_tryOne_7 : decode cX10_tryOne 7 = .ok (.if_icmp .ne 4, 3) := by decide +kernel
theorem dX10_tryOne_10 : decode cX10_tryOne 10 = .ok (.return_, 1) := by decide +kernel
theorem dX10_tryOne_11 : decode cX10_tryOne 11 = .ok (.aload_n 0, 1) := by decide +kernel
theorem dX10_tryOne_12 : decode cX10_tryOne 12 = .ok (.getfield 20, 3) := by decide +kernel
theorem dX10_tryOne_15 : decode cX10_tryOne 15 = .ok (.iconst 0, 1) := by decide +kernel
theorem dX10_tryOne_16 : decode cX10_tryOne 16 = .ok (.iload_n 1, 1) := by decide +kernel
theorem dX10_tryOne_17 : decode cX10_tryOne 17 = .ok (.iastore, 1) := by decide +kernel
theorem dX10_tryOne_18 : decode cX10_tryOne 18 = .ok (.aload_n 0, 1) := by decide +kernel
theorem dX10_tryOne_19 : decode cX10_tryOne 19 = .ok (.getfield 20, 3) := by decide +kernel
theorem dX10_tryOne_22 : decode cX10_tryOne 22 = .ok (.iconst 1, 1) := by decide +kernel
theorem dX10_tryOne_23 : decode cX10_tryOne 23 = .ok (.iload_n 2, 1) := by decide +kernel
theorem dX10_tryOne_24 : decode cX10_tryOne 24 = .ok (.iastore, 1) := by decide +kernel
theorem dX10_tryOne_25 : decode cX10_tryOne 25 = .ok (.aload_n 0, 1) := by decide +kernel
theorem dX10_tryOne_26 : decode cX10_tryOne 26 = .ok (.getfield 20, 3) := by decide +kernel
theorem dX10_tryOne_29 : decode cX10_tryOne 29 = .ok (.iconst 2, 1) := by decide +kernel
theorem dX10_tryOne_30 : decode cX10_tryOne 30 = .ok (.iload_n 3, 1) := by decide +kernel
theorem dX10_tryOne_31 : decode cX10_tryOne 31 = .ok (.iastore, 1) := by decide +kernel
theorem dX10_tryOne_32 : decode cX10_tryOne 32 = .ok (.aload_n 0, 1) := by decide +kernel
theorem dX10_tryOne_33 : decode cX10_tryOne 33 = .ok (.invokevirtual 109, 3) := by decide +kernel
theorem dX10_tryOne_36 : decode cX10_tryOne 36 = .ok (.aload_n 0, 1) := by decide +kernel
theorem dX10_tryOne_37 : decode cX10_tryOne 37 = .ok (.invokevirtual 235, 3) := by decide +kernel
theorem dX10_tryOne_40 : decode cX10_tryOne 40 = .ok (.istore 4, 2) := by decide +kernel
theorem dX10_tryOne_42 : decode cX10_tryOne 42 = .ok (.aload_n 0, 1) := by decide +kernel
theorem dX10_tryOne_43 : decode cX10_tryOne 43 = .ok (.getfield 238, 3) := by decide +kernel
theorem dX10_tryOne_46 : decode cX10_tryOne 46 = .ok (.sipush 200, 3) := by decide +kernel
theorem dX10_tryOne_49 : decode cX10_tryOne 49 = .ok (.if_icmp .ge 14, 3) := by decide +kernel
theorem dX10_tryOne_52 : decode cX10_tryOne 52 = .ok (.aload_n 0, 1) := by decide +kernel
theorem dX10_tryOne_53 : decode cX10_tryOne 53 = .ok (.getfield 79, 3) := by decide +kernel
theorem dX10_tryOne_56 : decode cX10_tryOne 56 = .ok (.aload_n 0, 1) := by decide +kernel
theorem dX10_tryOne_57 : decode cX10_tryOne 57 = .ok (.getfield 238, 3) := by decide +kernel
theorem dX10_tryOne_60 : decode cX10_tryOne 60 = .ok (.iload 4, 2) := by decide +kernel
theorem dX10_tryOne_62 : decode cX10_tryOne 62 = .ok (.iastore, 1) := by decide +kernel
theorem dX10_tryOne_63 : decode cX10_tryOne 63 = .ok (.aload_n 0, 1) := by decide +kernel
theorem dX10_tryOne_64 : decode cX10_tryOne 64 = .ok (.dup, 1) := by decide +kernel
theorem dX10_tryOne_65 : decode cX10_tryOne 65 = .ok (.getfield 238, 3) := by decide +kernel
theorem dX10_tryOne_68 : decode cX10_tryOne 68 = .ok (.iconst 1, 1) := by decide +kernel
theorem dX10_tryOne_69 : decode cX10_tryOne 69 = .ok (.iadd, 1) := by decide +kernel
theorem dX10_tryOne_70 : decode cX10_tryOne 70 = .ok (.putfield 238, 3) := by decide +kernel
theorem dX10_tryOne_73 : decode cX10_tryOne 73 = .ok (.iload 4, 2) := by decide +kernel
theorem dX10_tryOne_75 : decode cX10_tryOne 75 = .ok (.bipush (-2), 2) := by decide +kernel
theorem dX10_tryOne_77 : decode cX10_tryOne 77 = .ok (.if_icmp .eq 4, 3) := by decide +kernel
theorem dX10_tryOne_80 : decode cX10_tryOne 80 = .ok (.return_, 1) := by decide +kernel
theorem dX10_tryOne_81 : decode cX10_tryOne 81 = .ok (.aload_n 0, 1) := by decide +kernel
theorem dX10_tryOne_82 : decode cX10_tryOne 82 = .ok (.dup, 1) := by decide +kernel
theorem dX10_tryOne_83 : decode cX10_tryOne 83 = .ok (.getfield 241, 3) := by decide +kernel
theorem dX10_tryOne_86 : decode cX10_tryOne 86 = .ok (.iconst 1, 1) := by decide +kernel
theorem dX10_tryOne_87 : decode cX10_tryOne 87 = .ok (.iadd, 1) := by decide +kernel
theorem dX10_tryOne_88 : decode cX10_tryOne 88 = .ok (.putfield 241, 3) := by decide +kernel
theorem dX10_tryOne_91 : decode cX10_tryOne 91 = .ok (.aload_n 0, 1) := by decide +kernel
theorem dX10_tryOne_92 : decode cX10_tryOne 92 = .ok (.invokevirtual 137, 3) := by decide +kernel
theorem dX10_tryOne_95 : decode cX10_tryOne 95 = .ok (.istore 5, 2) := by decide +kernel
theorem dX10_tryOne_97 : decode cX10_tryOne 97 = .ok (.aload_n 0, 1) := by decide +kernel
theorem dX10_tryOne_98 : decode cX10_tryOne 98 = .ok (.getfield 244, 3) := by decide +kernel
theorem dX10_tryOne_101 : decode cX10_tryOne 101 = .ok (.ifCond .eq 13, 3) := by decide +kernel
theorem dX10_tryOne_104 : decode cX10_tryOne 104 = .ok (.iload 5, 2) := by decide +kernel
theorem dX10_tryOne_106 : decode cX10_tryOne 106 = .ok (.aload_n 0, 1) := by decide +kernel
theorem dX10_tryOne_107 : decode cX10_tryOne 107 = .ok (.getfield 248, 3) := by decide +kernel
theorem dX10_tryOne_110 : decode cX10_tryOne 110 = .ok (.if_icmp .lt 4, 3) := by decide +kernel
theorem dX10_tryOne_113 : decode cX10_tryOne 113 = .ok (.return_, 1) := by decide +kernel
theorem dX10_tryOne_114 : decode cX10_tryOne 114 = .ok (.aload_n 0, 1) := by decide +kernel
theorem dX10_tryOne_115 : decode cX10_tryOne 115 = .ok (.iconst 1, 1) := by decide +kernel
theorem dX10_tryOne_116 : decode cX10_tryOne 116 = .ok (.putfield 244, 3) := by decide +kernel
theorem dX10_tryOne_119 : decode cX10_tryOne 119 = .ok (.aload_n 0, 1) := by decide +kernel
theorem dX10_tryOne_120 : decode cX10_tryOne 120 = .ok (.iload 5, 2) := by decide +kernel
theorem dX10_tryOne_122 : decode cX10_tryOne 122 = .ok (.putfield 248, 3) := by decide +kernel
theorem dX10_tryOne_125 : decode cX10_tryOne 125 = .ok (.aload_n 0, 1) := by decide +kernel
theorem dX10_tryOne_126 : decode cX10_tryOne 126 = .ok (.aload_n 0, 1) := by decide +kernel
theorem dX10_tryOne_127 : decode cX10_tryOne 127 = .ok (.getfield 112, 3) := by decide +kernel
theorem dX10_tryOne_130 : decode cX10_tryOne 130 = .ok (.iconst 1, 1) := by decide +kernel
theorem dX10_tryOne_131 : decode cX10_tryOne 131 = .ok (.iadd, 1) := by decide +kernel
theorem dX10_tryOne_132 : decode cX10_tryOne 132 = .ok (.putfield 251, 3) := by decide +kernel
theorem dX10_tryOne_135 : decode cX10_tryOne 135 = .ok (.iconst 0, 1) := by decide +kernel
theorem dX10_tryOne_136 : decode cX10_tryOne 136 = .ok (.istore 6, 2) := by decide +kernel
theorem dX10_tryOne_138 : decode cX10_tryOne 138 = .ok (.iload 6, 2) := by decide +kernel
theorem dX10_tryOne_140 : decode cX10_tryOne 140 = .ok (.iconst 3, 1) := by decide +kernel
theorem dX10_tryOne_141 : decode cX10_tryOne 141 = .ok (.if_icmp .ge 23, 3) := by decide +kernel
theorem dX10_tryOne_144 : decode cX10_tryOne 144 = .ok (.aload_n 0, 1) := by decide +kernel
theorem dX10_tryOne_145 : decode cX10_tryOne 145 = .ok (.getfield 82, 3) := by decide +kernel
theorem dX10_tryOne_148 : decode cX10_tryOne 148 = .ok (.iload 6, 2) := by decide +kernel
theorem dX10_tryOne_150 : decode cX10_tryOne 150 = .ok (.aload_n 0, 1) := by decide +kernel
theorem dX10_tryOne_151 : decode cX10_tryOne 151 = .ok (.getfield 20, 3) := by decide +kernel
theorem dX10_tryOne_154 : decode cX10_tryOne 154 = .ok (.iload 6, 2) := by decide +kernel
theorem dX10_tryOne_156 : decode cX10_tryOne 156 = .ok (.iaload, 1) := by decide +kernel
theorem dX10_tryOne_157 : decode cX10_tryOne 157 = .ok (.iastore, 1) := by decide +kernel
theorem dX10_tryOne_158 : decode cX10_tryOne 158 = .ok (.iinc 6 1, 3) := by decide +kernel
theorem dX10_tryOne_161 : decode cX10_tryOne 161 = .ok (.goto (-23), 3) := by decide +kernel
theorem dX10_tryOne_164 : decode cX10_tryOne 164 = .ok (.return_, 1) := by decide +kernel
set_option maxHeartbeats 4000000 in
set_option maxRecDepth 100000 in
theorem k_X10_tryOne (l : Launch) (D : va_G) (cy : Nat → ClassId) {L : List Nat} {τ : Nat → Ro} {E : Ec} (hI : Inv TB cy L τ E) {a0 : Nat} (ha0 : a0 ∈ L) (ta0 : τ a0 = (11, 0)) (a1 : Int32) (la1 : 0 ≤ a1.toInt) (ua1 : a1.toInt ≤ 20) (a2 : Int32) (la2 : 0 ≤ a2.toInt) (ua2 : a2.toInt ≤ 20) (a3 : Int32) (la3 : 0 ≤ a3.toInt) (ua3 : a3.toInt ≤ 20) (hS : SlotOK L τ E) : CtV l yX10_tryOne wsX10_tryOne { frames := 5, cells := 0, slots := 0, locals := 116 } D TB cy L τ E [.ref a0, .int a1, .int a2, .int a3] (inW [(11, 0), (62, 0), (63, 0), (64, 0), (65, 0), (66, 0), (67, 0), (68, 0), (69, 0), (70, 0), (71, 0), (81, 0), (82, 0)]) (fun E' => (∀ k : Nat, k ∉ ([8, 30, 31, 32, 35, 36, 37, 39, 41] : List Nat) → fi E' a0 k = fi E a0 k)) := by
  intro sz
  refine sta (cc := cX10_tryOne) (maxL := 7) hI (by decide) rfl (Nat.le_of_ble_eq_true rfl) (fun p e s m args below meth c ls hsz Z S0 hl => ?_)
  have hx := Z.1.1
  have hb := Z.1.2.1
  have hts := Z.1.2.2.2.2
  have F0_ : Fr L τ (inW [(11, 0), (62, 0), (63, 0), (64, 0), (65, 0), (66, 0), (67, 0), (68, 0), (69, 0), (70, 0), (71, 0), (81, 0), (82, 0)]) E E := Fr.refl
  have hl : lv_has ls 7 [(0, .ref a0), (1, .int a1), (2, .int a2), (3, .int a3)] := hl
  generalize hQ : MQ below _ args s 0 0 _ = QQ
  have J138 : ∀ (n : Nat) (x6_138 : Int32) (E_138 : Ec) (H_138 : Heap) (k_138 : List Loc) (l_138 : Array Slot), Now D TB cy (va_A (va_pl L E) sz) s L τ E_138 H_138 k_138 → Fr L τ (inW [(11, 0), (62, 0), (63, 0), (64, 0), (65, 0), (66, 0), (67, 0), (68, 0), (69, 0), (70, 0), (71, 0), (81, 0), (82, 0)]) E E_138 → (0 ≤ x6_138.toInt) → (x6_138.toInt ≤ 3) → (∀ k : Nat, k ∉ ([8, 30, 31, 32, 35, 36, 37, 39, 41] : List Nat) → fi E_138 a0 k = fi E a0 k) → (3 - x6_138.toInt).toNat < n → lv_has l_138 7 [(0, .ref a0), (6, .int x6_138)] → W p l e { frames := 5, cells := 0, slots := 0, locals := 116 } s m args below meth c H_138 k_138 0 0 QQ (F0 m 138 l_138 []) := by
    intro n
    induction n with
    | zero => intro x6_138 E_138 H_138 k_138 l_138 S_138 F_138 z1 z2 z3 hm hl_138; exact absurd hm (Nat.not_lt_zero _)
    | succ n ih =>
      intro x6_138 E_138 H_138 k_138 l_138 S_138 F_138 z1 z2 z3 hm hl_138
      have ih_138 := ih
      refine lv_iload hx hb dX10_tryOne_138 (lv_at hl_138 1 rfl) ?_
      obtain ⟨v4, ev4, tv4⟩ : ∃ v : Int32, Int32.ofInt (3) = v ∧ v.toInt = 3 := ⟨_, rfl, by decide +kernel⟩
      refine lv_iconst hx hb dX10_tryOne_140 ev4 ?_
      refine lv_icmp_ge (tgt := 164) hx hb dX10_tryOne_141 (by decide) (fun c5 => ?_) (fun c5 => ?_)
      · skip
        have tc5 := nu_le c5
        rw [← hQ]
        exact en_v Z S_138 F_138 (fun k hk => (z3 k hk)) dX10_tryOne_164
      · skip
        have tc5 := nu_nle c5
        refine lv_aload_n hx hb dX10_tryOne_144 rfl (lv_at hl_138 0 rfl) ?_
        refine tr_getr Z.1 Z.2.2.2.1 S_138.1 S_138.2 ha0 ta0 rfl rfl (fun _ h => List.mem_cons_of_mem _ (List.mem_append_right _ h)) 34 (by decide) rfl (hts _ (List.mem_of_getElem? (i := 9) rfl)) dX10_tryOne_145 (fun q6 eq6 hq6 tq6 => ?_)
        have tq6 : τ q6 = (82, 0) := tq6
        refine lv_iload hx hb dX10_tryOne_148 (lv_at hl_138 1 rfl) ?_
        refine lv_aload_n hx hb dX10_tryOne_150 rfl (lv_at hl_138 0 rfl) ?_
        refine tr_getr Z.1 Z.2.2.2.1 S_138.1 S_138.2 ha0 ta0 rfl rfl (fun _ h => List.mem_cons_of_mem _ (List.mem_append_right _ h)) 7 (by decide) rfl (hts _ (List.mem_of_getElem? (i := 2) rfl)) dX10_tryOne_151 (fun q7 eq7 hq7 tq7 => ?_)
        have tq7 : τ q7 = (62, 0) := tq7
        refine lv_iload hx hb dX10_tryOne_154 (lv_at hl_138 1 rfl) ?_
        refine tr_iald Z.1 Z.2.2.2.1 S_138.1 S_138.2 hq7 tq7 rfl (by omega) (by omega) dX10_tryOne_156 (fun v8 ev8 lv8 uv8 => ?_)
        refine tr_iast Z.1 Z.2.2.2.1 S_138.1 S_138.2 hq6 tq6 rfl (by omega) (by omega) (by omega) (by omega) dX10_tryOne_157 (fun E9 H10 k11 W9 I9 P9 => ?_)
        have S9 : Now D TB cy (va_A (va_pl L E) sz) s L τ E9 H10 k11 := ⟨W9, I9⟩
        have F9 : Fr L τ (inW [(11, 0), (62, 0), (63, 0), (64, 0), (65, 0), (66, 0), (67, 0), (68, 0), (69, 0), (70, 0), (71, 0), (81, 0), (82, 0)]) E E9 := Fr.set F_138 P9 tq6 rfl
        obtain ⟨v12, ev12⟩ : ∃ y : Int32, x6_138 + Int32.ofInt (1) = y := ⟨_, rfl⟩
        have tv12 : v12.toInt = x6_138.toInt + (1) := by rw [← ev12]; exact (fb_addI (by rw [show (Int32.ofInt (1)).toInt = 1 from by decide +kernel]; omega) (by rw [show (Int32.ofInt (1)).toInt = 1 from by decide +kernel]; omega)).trans (by rw [show (Int32.ofInt (1)).toInt = 1 from by decide +kernel])
        refine lv_iinc (v := v12) (lv' := [(6, .int v12), (0, .ref a0)]) hx hb dX10_tryOne_158 hl_138 (k := 1) rfl ev12 (by decide) rfl (fun l13 hl14 => ?_)
        refine lv_goto (tgt := 138) hx hb dX10_tryOne_161 (by decide) ?_
        exact ih_138 v12 E9 H10 k11 l13 S9 F9 (by omega) (by omega) (fun k hk => ((fi_set P9 (ne_ro ta0 tq6 (by decide))).trans (z3 k hk))) (by omega) (lv_sub hl14 [1, 0] rfl)
  have J114 : ∀ (x5_114 : Int32) (E_114 : Ec) (H_114 : Heap) (k_114 : List Loc) (l_114 : Array Slot), Now D TB cy (va_A (va_pl L E) sz) s L τ E_114 H_114 k_114 → Fr L τ (inW [(11, 0), (62, 0), (63, 0), (64, 0), (65, 0), (66, 0), (67, 0), (68, 0), (69, 0), (70, 0), (71, 0), (81, 0), (82, 0)]) E E_114 → (∀ k : Nat, k ∉ ([8, 30, 31, 32, 35, 36, 37, 39, 41] : List Nat) → fi E_114 a0 k = fi E a0 k) → lv_has l_114 7 [(0, .ref a0), (5, .int x5_114)] → W p l e { frames := 5, cells := 0, slots := 0, locals := 116 } s m args below meth c H_114 k_114 0 0 QQ (F0 m 114 l_114 []) := by
    intro x5_114 E_114 H_114 k_114 l_114 S_114 F_114 z15 hl_114
    refine lv_aload_n hx hb dX10_tryOne_114 rfl (lv_at hl_114 0 rfl) ?_
    obtain ⟨v16, ev16, tv16⟩ : ∃ v : Int32, Int32.ofInt (1) = v ∧ v.toInt = 1 := ⟨_, rfl, by decide +kernel⟩
    refine lv_iconst hx hb dX10_tryOne_115 ev16 ?_
    refine tr_putz Z.1 Z.2.2.2.1 S_114.1 S_114.2 ha0 ta0 rfl rfl (fun _ h => List.mem_cons_of_mem _ (List.mem_append_right _ h)) tyX10_ok nmX10 41 (by decide) rfl rfl rfl (hts _ (List.mem_of_getElem? (i := 5) rfl)) dX10_tryOne_116 (by omega) (by omega) (fun E17 H18 k19 W17 I17 P17 => ?_)
    have S17 : Now D TB cy (va_A (va_pl L E) sz) s L τ E17 H18 k19 := ⟨W17, I17⟩
    have F17 : Fr L τ (inW [(11, 0), (62, 0), (63, 0), (64, 0), (65, 0), (66, 0), (67, 0), (68, 0), (69, 0), (70, 0), (71, 0), (81, 0), (82, 0)]) E E17 := Fr.put F_114 P17 ta0 rfl
    refine lv_aload_n hx hb dX10_tryOne_119 rfl (lv_at hl_114 0 rfl) ?_
    refine lv_iload hx hb dX10_tryOne_120 (lv_at hl_114 1 rfl) ?_
    refine tr_puti Z.1 Z.2.2.2.1 S17.1 S17.2 ha0 ta0 rfl rfl (fun _ h => List.mem_cons_of_mem _ (List.mem_append_right _ h)) tyX10_ok nmX10 39 (by decide) rfl rfl rfl (hts _ (List.mem_of_getElem? (i := 6) rfl)) dX10_tryOne_122 (by have := fb_rng x5_114; omega) (by have := fb_rng x5_114; omega) (fun E20 H21 k22 W20 I20 P20 => ?_)
    have S20 : Now D TB cy (va_A (va_pl L E) sz) s L τ E20 H21 k22 := ⟨W20, I20⟩
    have F20 : Fr L τ (inW [(11, 0), (62, 0), (63, 0), (64, 0), (65, 0), (66, 0), (67, 0), (68, 0), (69, 0), (70, 0), (71, 0), (81, 0), (82, 0)]) E E20 := Fr.put F17 P20 ta0 rfl
    refine lv_aload_n hx hb dX10_tryOne_125 rfl (lv_at hl_114 0 rfl) ?_
    refine lv_aload_n hx hb dX10_tryOne_126 rfl (lv_at hl_114 0 rfl) ?_
    refine tr_geti Z.1 Z.2.2.2.1 S20.1 S20.2 ha0 ta0 rfl rfl (fun _ h => List.mem_cons_of_mem _ (List.mem_append_right _ h)) 8 (by decide) rfl (hts _ (List.mem_of_getElem? (i := 7) rfl)) dX10_tryOne_127 (fun v23 ev23 lv23 uv23 => ?_)
    obtain ⟨v24, ev24, tv24⟩ : ∃ v : Int32, Int32.ofInt (1) = v ∧ v.toInt = 1 := ⟨_, rfl, by decide +kernel⟩
    refine lv_iconst hx hb dX10_tryOne_130 ev24 ?_
    refine lv_iadd hx hb dX10_tryOne_131 ?_
    refine lv_topi (fun v25 ev25 => ?_)
    have tv25 := nu_add ev25 (by omega) (by omega)
    refine tr_puti Z.1 Z.2.2.2.1 S20.1 S20.2 ha0 ta0 rfl rfl (fun _ h => List.mem_cons_of_mem _ (List.mem_append_right _ h)) tyX10_ok nmX10 37 (by decide) rfl rfl rfl (hts _ (List.mem_of_getElem? (i := 8) rfl)) dX10_tryOne_132 (by have := fb_rng v25; omega) (by have := fb_rng v25; omega) (fun E26 H27 k28 W26 I26 P26 => ?_)
    have S26 : Now D TB cy (va_A (va_pl L E) sz) s L τ E26 H27 k28 := ⟨W26, I26⟩
    have F26 : Fr L τ (inW [(11, 0), (62, 0), (63, 0), (64, 0), (65, 0), (66, 0), (67, 0), (68, 0), (69, 0), (70, 0), (71, 0), (81, 0), (82, 0)]) E E26 := Fr.put F20 P26 ta0 rfl
    obtain ⟨v29, ev29, tv29⟩ : ∃ v : Int32, Int32.ofInt (0) = v ∧ v.toInt = 0 := ⟨_, rfl, by decide +kernel⟩
    refine lv_iconst hx hb dX10_tryOne_135 ev29 ?_
    refine lv_istore (lv' := [(6, .int v29), (0, .ref a0), (5, .int x5_114)]) hx hb dX10_tryOne_136 hl_114 (by decide) rfl (fun l30 hl31 => ?_)
    exact J138 _ v29 E26 H27 k28 l30 S26 F26 (by have := fb_rng x5_114; omega) (by have := fb_rng x5_114; omega) (fun k hk => ((fi_put P26 (Or.inr (fw_ne (by decide) hk))).trans ((fi_put P20 (Or.inr (fw_ne (by decide) hk))).trans ((fi_put P17 (Or.inr (fw_ne (by decide) hk))).trans (z15 k hk))))) (Nat.lt_succ_self _) (lv_sub hl31 [1, 0] rfl)
  have J63 : ∀ (x4_63 : Int32) (E_63 : Ec) (H_63 : Heap) (k_63 : List Loc) (l_63 : Array Slot), Now D TB cy (va_A (va_pl L E) sz) s L τ E_63 H_63 k_63 → Fr L τ (inW [(11, 0), (62, 0), (63, 0), (64, 0), (65, 0), (66, 0), (67, 0), (68, 0), (69, 0), (70, 0), (71, 0), (81, 0), (82, 0)]) E E_63 → (-2 ≤ x4_63.toInt) → (x4_63.toInt ≤ 7) → (∀ k : Nat, k ∉ ([8, 30, 31, 32, 35, 36, 37, 39, 41] : List Nat) → fi E_63 a0 k = fi E a0 k) → (0 ≤ (fi E_63 a0 35).toInt ∧ (fi E_63 a0 35).toInt ≤ 1999) → lv_has l_63 7 [(0, .ref a0), (4, .int x4_63)] → W p l e { frames := 5, cells := 0, slots := 0, locals := 116 } s m args below meth c H_63 k_63 0 0 QQ (F0 m 63 l_63 []) := by
    intro x4_63 E_63 H_63 k_63 l_63 S_63 F_63 z32 z33 z34 z35 hl_63
    refine lv_aload_n hx hb dX10_tryOne_63 rfl (lv_at hl_63 0 rfl) ?_
    refine lv_dup hx hb dX10_tryOne_64 rfl ?_
    refine tr_geti Z.1 Z.2.2.2.1 S_63.1 S_63.2 ha0 ta0 rfl rfl (fun _ h => List.mem_cons_of_mem _ (List.mem_append_right _ h)) 35 (by decide) rfl (hts _ (List.mem_of_getElem? (i := 1) rfl)) dX10_tryOne_65 (fun v36 ev36 lv36 uv36 => ?_)
    have wv36 : v36 = (fi E_63 a0 35) := ev36.symm.trans rfl
    have xv36 : v36.toInt = (fi E_63 a0 35).toInt := by rw [wv36]
    obtain ⟨v37, ev37, tv37⟩ : ∃ v : Int32, Int32.ofInt (1) = v ∧ v.toInt = 1 := ⟨_, rfl, by decide +kernel⟩
    refine lv_iconst hx hb dX10_tryOne_68 ev37 ?_
    refine lv_iadd hx hb dX10_tryOne_69 ?_
    refine lv_topi (fun v38 ev38 => ?_)
    have tv38 := nu_add ev38 (by omega) (by omega)
    refine tr_puti Z.1 Z.2.2.2.1 S_63.1 S_63.2 ha0 ta0 rfl rfl (fun _ h => List.mem_cons_of_mem _ (List.mem_append_right _ h)) tyX10_ok nmX10 35 (by decide) rfl rfl rfl (hts _ (List.mem_of_getElem? (i := 1) rfl)) dX10_tryOne_70 (by omega) (by omega) (fun E39 H40 k41 W39 I39 P39 => ?_)
    have S39 : Now D TB cy (va_A (va_pl L E) sz) s L τ E39 H40 k41 := ⟨W39, I39⟩
    have F39 : Fr L τ (inW [(11, 0), (62, 0), (63, 0), (64, 0), (65, 0), (66, 0), (67, 0), (68, 0), (69, 0), (70, 0), (71, 0), (81, 0), (82, 0)]) E E39 := Fr.put F_63 P39 ta0 rfl
    refine lv_iload hx hb dX10_tryOne_73 (lv_at hl_63 1 rfl) ?_
    obtain ⟨v42, ev42, tv42⟩ : ∃ v : Int32, (Int8.ofInt (-2)).toInt32 = v ∧ v.toInt = -2 := ⟨_, rfl, by decide +kernel⟩
    refine lv_bipush hx hb dX10_tryOne_75 ev42 ?_
    refine lv_icmp_eq (tgt := 81) hx hb dX10_tryOne_77 (by decide) (fun c43 => ?_) (fun c43 => ?_)
    · skip
      have tc43 := nu_eq c43
      refine lv_aload_n hx hb dX10_tryOne_81 rfl (lv_at hl_63 0 rfl) ?_
      refine lv_dup hx hb dX10_tryOne_82 rfl ?_
      refine tr_geti Z.1 Z.2.2.2.1 S39.1 S39.2 ha0 ta0 rfl rfl (fun _ h => List.mem_cons_of_mem _ (List.mem_append_right _ h)) 36 (by decide) rfl (hts _ (List.mem_of_getElem? (i := 4) rfl)) dX10_tryOne_83 (fun v44 ev44 lv44 uv44 => ?_)
      obtain ⟨v45, ev45, tv45⟩ : ∃ v : Int32, Int32.ofInt (1) = v ∧ v.toInt = 1 := ⟨_, rfl, by decide +kernel⟩
      refine lv_iconst hx hb dX10_tryOne_86 ev45 ?_
      refine lv_iadd hx hb dX10_tryOne_87 ?_
      refine lv_topi (fun v46 ev46 => ?_)
      refine tr_puti Z.1 Z.2.2.2.1 S39.1 S39.2 ha0 ta0 rfl rfl (fun _ h => List.mem_cons_of_mem _ (List.mem_append_right _ h)) tyX10_ok nmX10 36 (by decide) rfl rfl rfl (hts _ (List.mem_of_getElem? (i := 4) rfl)) dX10_tryOne_88 (by have := fb_rng v46; omega) (by have := fb_rng v46; omega) (fun E47 H48 k49 W47 I47 P47 => ?_)
      have S47 : Now D TB cy (va_A (va_pl L E) sz) s L τ E47 H48 k49 := ⟨W47, I47⟩
      have F47 : Fr L τ (inW [(11, 0), (62, 0), (63, 0), (64, 0), (65, 0), (66, 0), (67, 0), (68, 0), (69, 0), (70, 0), (71, 0), (81, 0), (82, 0)]) E E47 := Fr.put F39 P47 ta0 rfl
      refine lv_aload_n hx hb dX10_tryOne_91 rfl (lv_at hl_63 0 rfl) ?_
      refine tc_vi Z.1 Z.2.2.2.1 Z.2.2.2.2.1 Z.2.2.2.2.2 S47.1 S47.2 ha0 ta0 rfl rfl (k_X10_priceHere l D cy S47.2 ha0 ta0) (cwV 0 hts gX10_tryOne_X10_priceHere rfl rfl rfl (by decide +kernel) ⟨Nat.le_of_ble_eq_true rfl, Nat.le_of_ble_eq_true rfl⟩) rfl hl_63.1 rfl (Nat.le_of_ble_eq_true rfl) dX10_tryOne_92 ⟨Nat.zero_le _, Nat.zero_le _⟩ (fun v53 E50 H51 k52 W50 I50 G50 p50 => ?_)
      have q50 := p50
      have q50 := q50.symm
      subst q50
      have S50 : Now D TB cy (va_A (va_pl L E) sz) s L τ E47 H51 k52 := ⟨W50, I50⟩
      refine lv_istore (lv' := [(5, .int v53), (0, .ref a0), (4, .int x4_63)]) hx hb dX10_tryOne_95 hl_63 (by decide) rfl (fun l54 hl55 => ?_)
      refine lv_aload_n hx hb dX10_tryOne_97 rfl (lv_at hl55 1 rfl) ?_
      refine tr_geti Z.1 Z.2.2.2.1 S50.1 S50.2 ha0 ta0 rfl rfl (fun _ h => List.mem_cons_of_mem _ (List.mem_append_right _ h)) 41 (by decide) rfl (hts _ (List.mem_of_getElem? (i := 5) rfl)) dX10_tryOne_98 (fun v56 ev56 lv56 uv56 => ?_)
      refine lv_if_eq (tgt := 114) hx hb dX10_tryOne_101 (by decide) (fun c57 => ?_) (fun c57 => ?_)
      · skip
        have tc57 := nu_eq c57
        have uc57 : (0 : Int32).toInt = 0 := rfl
        exact J114 v53 E47 H51 k52 l54 S50 F47 (fun k hk => ((fi_put P47 (Or.inr (fw_ne (by decide) hk))).trans ((fi_put P39 (Or.inr (fw_ne (by decide) hk))).trans (z34 k hk)))) (lv_sub hl55 [1, 0] rfl)
      · skip
        have tc57 := nu_ne c57
        have uc57 : (0 : Int32).toInt = 0 := rfl
        refine lv_iload hx hb dX10_tryOne_104 (lv_at hl55 0 rfl) ?_
        refine lv_aload_n hx hb dX10_tryOne_106 rfl (lv_at hl55 1 rfl) ?_
        refine tr_geti Z.1 Z.2.2.2.1 S50.1 S50.2 ha0 ta0 rfl rfl (fun _ h => List.mem_cons_of_mem _ (List.mem_append_right _ h)) 39 (by decide) rfl (hts _ (List.mem_of_getElem? (i := 6) rfl)) dX10_tryOne_107 (fun v58 ev58 lv58 uv58 => ?_)
        refine lv_icmp_lt (tgt := 114) hx hb dX10_tryOne_110 (by decide) (fun c59 => ?_) (fun c59 => ?_)
        · skip
          have tc59 := nu_lt c59
          exact J114 v53 E47 H51 k52 l54 S50 F47 (fun k hk => ((fi_put P47 (Or.inr (fw_ne (by decide) hk))).trans ((fi_put P39 (Or.inr (fw_ne (by decide) hk))).trans (z34 k hk)))) (lv_sub hl55 [1, 0] rfl)
        · skip
          have tc59 := nu_nlt c59
          rw [← hQ]
          exact en_v Z S50 F47 (fun k hk => ((fi_put P47 (Or.inr (fw_ne (by decide) hk))).trans ((fi_put P39 (Or.inr (fw_ne (by decide) hk))).trans (z34 k hk)))) dX10_tryOne_113
    · skip
      have tc43 := nu_ne c43
      rw [← hQ]
      exact en_v Z S39 F39 (fun k hk => ((fi_put P39 (Or.inr (fw_ne (by decide) hk))).trans (z34 k hk))) dX10_tryOne_80
  refine lv_aload_n hx hb dX10_tryOne_0 rfl (lv_at hl 0 rfl) ?_
  refine tr_geti Z.1 Z.2.2.2.1 S0.1 S0.2 ha0 ta0 rfl rfl (fun _ h => List.mem_cons_of_mem _ (List.mem_append_right _ h)) 35 (by decide) rfl (hts _ (List.mem_of_getElem? (i := 1) rfl)) dX10_tryOne_1 (fun v60 ev60 lv60 uv60 => ?_)
  obtain ⟨v61, ev61, tv61⟩ : ∃ v : Int32, (Int16.ofInt (2000)).toInt32 = v ∧ v.toInt = 2000 := ⟨_, rfl, by decide +kernel⟩
  refine lv_sipush hx hb dX10_tryOne_4 ev61 ?_
  refine lv_icmp_ne (tgt := 11) hx hb dX10_tryOne_7 (by decide) (fun c62 => ?_) (fun c62 => ?_)
  · skip
    have tc62 := nu_ne c62
    refine lv_aload_n hx hb dX10_tryOne_11 rfl (lv_at hl 0 rfl) ?_
    refine tr_getr Z.1 Z.2.2.2.1 S0.1 S0.2 ha0 ta0 rfl rfl (fun _ h => List.mem_cons_of_mem _ (List.mem_append_right _ h)) 7 (by decide) rfl (hts _ (List.mem_of_getElem? (i := 2) rfl)) dX10_tryOne_12 (fun q63 eq63 hq63 tq63 => ?_)
    have tq63 : τ q63 = (62, 0) := tq63
    obtain ⟨v64, ev64, tv64⟩ : ∃ v : Int32, Int32.ofInt (0) = v ∧ v.toInt = 0 := ⟨_, rfl, by decide +kernel⟩
    refine lv_iconst hx hb dX10_tryOne_15 ev64 ?_
    refine lv_iload_n hx hb dX10_tryOne_16 rfl (lv_at hl 1 rfl) ?_
    refine tr_iast Z.1 Z.2.2.2.1 S0.1 S0.2 hq63 tq63 rfl (by omega) (by omega) (by omega) (by omega) dX10_tryOne_17 (fun E65 H66 k67 W65 I65 P65 => ?_)
    have S65 : Now D TB cy (va_A (va_pl L E) sz) s L τ E65 H66 k67 := ⟨W65, I65⟩
    have F65 : Fr L τ (inW [(11, 0), (62, 0), (63, 0), (64, 0), (65, 0), (66, 0), (67, 0), (68, 0), (69, 0), (70, 0), (71, 0), (81, 0), (82, 0)]) E E65 := Fr.set F0_ P65 tq63 rfl
    refine lv_aload_n hx hb dX10_tryOne_18 rfl (lv_at hl 0 rfl) ?_
    refine tr_getr Z.1 Z.2.2.2.1 S65.1 S65.2 ha0 ta0 rfl rfl (fun _ h => List.mem_cons_of_mem _ (List.mem_append_right _ h)) 7 (by decide) rfl (hts _ (List.mem_of_getElem? (i := 2) rfl)) dX10_tryOne_19 (fun q68 eq68 hq68 tq68 => ?_)
    have tq68 : τ q68 = (62, 0) := tq68
    have uq68 : q63 = q68 := S65.2.2.2.2 _ hq63 _ hq68 (tq63.trans tq68.symm) (by rw [tq63]; rfl)
    subst uq68
    obtain ⟨v69, ev69, tv69⟩ : ∃ v : Int32, Int32.ofInt (1) = v ∧ v.toInt = 1 := ⟨_, rfl, by decide +kernel⟩
    refine lv_iconst hx hb dX10_tryOne_22 ev69 ?_
    refine lv_iload_n hx hb dX10_tryOne_23 rfl (lv_at hl 2 rfl) ?_
    refine tr_iast Z.1 Z.2.2.2.1 S65.1 S65.2 hq63 tq63 rfl (by omega) (by omega) (by omega) (by omega) dX10_tryOne_24 (fun E70 H71 k72 W70 I70 P70 => ?_)
    have S70 : Now D TB cy (va_A (va_pl L E) sz) s L τ E70 H71 k72 := ⟨W70, I70⟩
    have F70 : Fr L τ (inW [(11, 0), (62, 0), (63, 0), (64, 0), (65, 0), (66, 0), (67, 0), (68, 0), (69, 0), (70, 0), (71, 0), (81, 0), (82, 0)]) E E70 := Fr.set F65 P70 tq63 rfl
    refine lv_aload_n hx hb dX10_tryOne_25 rfl (lv_at hl 0 rfl) ?_
    refine tr_getr Z.1 Z.2.2.2.1 S70.1 S70.2 ha0 ta0 rfl rfl (fun _ h => List.mem_cons_of_mem _ (List.mem_append_right _ h)) 7 (by decide) rfl (hts _ (List.mem_of_getElem? (i := 2) rfl)) dX10_tryOne_26 (fun q73 eq73 hq73 tq73 => ?_)
    have tq73 : τ q73 = (62, 0) := tq73
    have uq73 : q63 = q73 := S70.2.2.2.2 _ hq63 _ hq73 (tq63.trans tq73.symm) (by rw [tq63]; rfl)
    subst uq73
    obtain ⟨v74, ev74, tv74⟩ : ∃ v : Int32, Int32.ofInt (2) = v ∧ v.toInt = 2 := ⟨_, rfl, by decide +kernel⟩
    refine lv_iconst hx hb dX10_tryOne_29 ev74 ?_
    refine lv_iload_n hx hb dX10_tryOne_30 rfl (lv_at hl 3 rfl) ?_
    refine tr_iast Z.1 Z.2.2.2.1 S70.1 S70.2 hq63 tq63 rfl (by omega) (by omega) (by omega) (by omega) dX10_tryOne_31 (fun E75 H76 k77 W75 I75 P75 => ?_)
    have S75 : Now D TB cy (va_A (va_pl L E) sz) s L τ E75 H76 k77 := ⟨W75, I75⟩
    have F75 : Fr L τ (inW [(11, 0), (62, 0), (63, 0), (64, 0), (65, 0), (66, 0), (67, 0), (68, 0), (69, 0), (70, 0), (71, 0), (81, 0), (82, 0)]) E E75 := Fr.set F70 P75 tq63 rfl
    refine lv_aload_n hx hb dX10_tryOne_32 rfl (lv_at hl 0 rfl) ?_
    refine tc_vv Z.1 Z.2.2.2.1 Z.2.2.2.2.1 Z.2.2.2.2.2 S75.1 S75.2 ha0 ta0 rfl rfl (k_X10_make l D cy S75.2 ha0 ta0) (cwV 0 hts gX10_tryOne_X10_make rfl rfl rfl (by decide +kernel) ⟨Nat.le_of_ble_eq_true rfl, Nat.le_of_ble_eq_true rfl⟩) rfl hl.1 rfl (Nat.le_of_ble_eq_true rfl) dX10_tryOne_33 ⟨Nat.zero_le _, Nat.zero_le _⟩ (fun E78 H79 k80 W78 I78 G78 p78 => ?_)
    have p78_0 := p78
    have S78 : Now D TB cy (va_A (va_pl L E) sz) s L τ E78 H79 k80 := ⟨W78, I78⟩
    have F78 : Fr L τ (inW [(11, 0), (62, 0), (63, 0), (64, 0), (65, 0), (66, 0), (67, 0), (68, 0), (69, 0), (70, 0), (71, 0), (81, 0), (82, 0)]) E E78 := F75.trans (G78.mono (inW_mono (by decide)))
    refine lv_aload_n hx hb dX10_tryOne_36 rfl (lv_at hl 0 rfl) ?_
    refine tc_vi Z.1 Z.2.2.2.1 Z.2.2.2.2.1 Z.2.2.2.2.2 S78.1 S78.2 ha0 ta0 rfl rfl (k_X10_firstBroken l D cy S78.2 ha0 ta0 (SlotOK.fr F78 rfl rfl rfl rfl hS)) (cwV 0 hts gX10_tryOne_X10_firstBroken rfl rfl rfl (by decide +kernel) ⟨Nat.le_of_ble_eq_true rfl, Nat.le_of_ble_eq_true rfl⟩) rfl hl.1 rfl (Nat.le_of_ble_eq_true rfl) dX10_tryOne_37 ⟨Nat.zero_le _, Nat.zero_le _⟩ (fun v85 E82 H83 k84 W82 I82 G82 p82 => ?_)
    obtain ⟨p82_0, p82_1, p82_2⟩ := p82
    have S82 : Now D TB cy (va_A (va_pl L E) sz) s L τ E82 H83 k84 := ⟨W82, I82⟩
    have F82 : Fr L τ (inW [(11, 0), (62, 0), (63, 0), (64, 0), (65, 0), (66, 0), (67, 0), (68, 0), (69, 0), (70, 0), (71, 0), (81, 0), (82, 0)]) E E82 := F78.trans (G82.mono (inW_mono (by decide)))
    refine lv_istore (lv' := [(4, .int v85), (0, .ref a0), (1, .int a1), (2, .int a2), (3, .int a3)]) hx hb dX10_tryOne_40 hl (by decide) rfl (fun l86 hl87 => ?_)
    refine lv_aload_n hx hb dX10_tryOne_42 rfl (lv_at hl87 1 rfl) ?_
    refine tr_geti Z.1 Z.2.2.2.1 S82.1 S82.2 ha0 ta0 rfl rfl (fun _ h => List.mem_cons_of_mem _ (List.mem_append_right _ h)) 35 (by decide) rfl (hts _ (List.mem_of_getElem? (i := 1) rfl)) dX10_tryOne_43 (fun v88 ev88 lv88 uv88 => ?_)
    have wv88 : v88 = v60 := ev88.symm.trans ((p82_2 35 (by decide)).trans ((p78_0 35 (by decide)).trans ((fi_set P75 (ne_ro ta0 tq63 (by decide))).trans ((fi_set P70 (ne_ro ta0 tq63 (by decide))).trans ((fi_set P65 (ne_ro ta0 tq63 (by decide))).trans ev60)))))
    have xv88 : v88.toInt = v60.toInt := by rw [wv88]
    obtain ⟨v89, ev89, tv89⟩ : ∃ v : Int32, (Int16.ofInt (200)).toInt32 = v ∧ v.toInt = 200 := ⟨_, rfl, by decide +kernel⟩
    refine lv_sipush hx hb dX10_tryOne_46 ev89 ?_
    refine lv_icmp_ge (tgt := 63) hx hb dX10_tryOne_49 (by decide) (fun c90 => ?_) (fun c90 => ?_)
    · skip
      have tc90 := nu_le c90
      exact J63 v85 E82 H83 k84 l86 S82 F82 (by omega) (by omega) (fun k hk => ((p82_2 k (fw_sub (by decide) hk)).trans ((p78_0 k (fw_sub (by decide) hk)).trans ((fi_set P75 (ne_ro ta0 tq63 (by decide))).trans ((fi_set P70 (ne_ro ta0 tq63 (by decide))).trans ((fi_set P65 (ne_ro ta0 tq63 (by decide))).trans ((fun k hk => rfl) k hk))))))) (by rw [ev88]; omega) (lv_sub hl87 [1, 0] rfl)
    · skip
      have tc90 := nu_nle c90
      refine lv_aload_n hx hb dX10_tryOne_52 rfl (lv_at hl87 1 rfl) ?_
      refine tr_getr Z.1 Z.2.2.2.1 S82.1 S82.2 ha0 ta0 rfl rfl (fun _ h => List.mem_cons_of_mem _ (List.mem_append_right _ h)) 33 (by decide) rfl (hts _ (List.mem_of_getElem? (i := 3) rfl)) dX10_tryOne_53 (fun q91 eq91 hq91 tq91 => ?_)
      have tq91 : τ q91 = (81, 0) := tq91
      refine lv_aload_n hx hb dX10_tryOne_56 rfl (lv_at hl87 1 rfl) ?_
      refine tr_geti Z.1 Z.2.2.2.1 S82.1 S82.2 ha0 ta0 rfl rfl (fun _ h => List.mem_cons_of_mem _ (List.mem_append_right _ h)) 35 (by decide) rfl (hts _ (List.mem_of_getElem? (i := 1) rfl)) dX10_tryOne_57 (fun v92 ev92 lv92 uv92 => ?_)
      have wv92 : v92 = v88 := ev92.symm.trans ev88
      have xv92 : v92.toInt = v88.toInt := by rw [wv92]
      refine lv_iload hx hb dX10_tryOne_60 (lv_at hl87 0 rfl) ?_
      refine tr_iast Z.1 Z.2.2.2.1 S82.1 S82.2 hq91 tq91 rfl (by omega) (by omega) (by have := fb_rng v85; omega) (by have := fb_rng v85; omega) dX10_tryOne_62 (fun E93 H94 k95 W93 I93 P93 => ?_)
      have S93 : Now D TB cy (va_A (va_pl L E) sz) s L τ E93 H94 k95 := ⟨W93, I93⟩
      have F93 : Fr L τ (inW [(11, 0), (62, 0), (63, 0), (64, 0), (65, 0), (66, 0), (67, 0), (68, 0), (69, 0), (70, 0), (71, 0), (81, 0), (82, 0)]) E E93 := Fr.set F82 P93 tq91 rfl
      exact J63 v85 E93 H94 k95 l86 S93 F93 (by omega) (by omega) (fun k hk => ((fi_set P93 (ne_ro ta0 tq91 (by decide))).trans ((p82_2 k (fw_sub (by decide) hk)).trans ((p78_0 k (fw_sub (by decide) hk)).trans ((fi_set P75 (ne_ro ta0 tq63 (by decide))).trans ((fi_set P70 (ne_ro ta0 tq63 (by decide))).trans ((fi_set P65 (ne_ro ta0 tq63 (by decide))).trans ((fun k hk => rfl) k hk)))))))) (by rw [((fi_set P93 (ne_ro ta0 tq91 (by decide))).trans ev92)]; omega) (lv_sub hl87 [1, 0] rfl)
  · skip
    have tc62 := nu_eq c62
    rw [← hQ]
    exact en_v Z S0 F0_ (fun k hk => ((fun k hk => rfl) k hk)) dX10_tryOne_10

