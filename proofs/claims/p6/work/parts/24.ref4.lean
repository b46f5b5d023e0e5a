set_option maxRecDepth 20000 in
theorem ggX10_beam_X10_in : GoodIn wsX10_beam wsX10_in := goodIn_r _ [7] (by decide +kernel) (by decide +kernel)
set_option maxRecDepth 20000 in
theorem gX10_beam_X10_in : GoodIn wsX10_beam (wsV RX10 123 RX10 yX10_in wsX10_in) := goodIn_app (goodIn_of _ (by decide +kernel)) ggX10_beam_X10_in
set_option maxRecDepth 20000 in
theorem ggX10_beam_X10_no : GoodIn wsX10_beam wsX10_no := goodIn_r _ [11, 12, 13, 24, 25, 26, 27, 28, 29, 30, 31, 32, 33, 34, 35, 36, 37, 38, 39, 40, 41, 42, 43, 44, 45, 46, 47, 48, 49, 50, 51, 52, 53, 54, 55, 56, 57, 58, 59, 60, 61, 62, 63, 64, 65, 66, 67, 68, 69, 70, 71] (by decide +kernel) (by decide +kernel)
set_option maxRecDepth 20000 in
theorem gX10_beam_X10_no : GoodIn wsX10_beam (wsV RX10 144 RX10 yX10_no wsX10_no) := goodIn_app (goodIn_of _ (by decide +kernel)) ggX10_beam_X10_no
set_option maxRecDepth 20000 in
theorem ggX10_beam_X10_act : GoodIn wsX10_beam wsX10_act := goodIn_r _ [17, 18, 19, 2, 20, 21, 22, 6, 23, 12, 13, 24, 25, 26, 27, 28, 29, 30, 31, 32, 33, 34, 35, 36, 37, 38, 39, 40, 41, 42, 43, 44, 45, 46, 47, 48, 49, 50, 51, 52, 53, 54, 55, 56, 57, 58, 59, 60, 61, 62, 63, 64, 65, 66, 67, 68, 69, 70, 71] (by decide +kernel) (by decide +kernel)
set_option maxRecDepth 20000 in
theorem gX10_beam_X10_act : GoodIn wsX10_beam (wsV RX10 131 RX10 yX10_act wsX10_act) := goodIn_app (goodIn_of _ (by decide +kernel)) ggX10_beam_X10_act
theorem dX10_beam_0 : decode cX10_beam 0 = .ok (.aload_n 0, 1) := by decide +kernel
theorem dX10_beam_1 : decode cX10_beam 1 = .ok (.iconst 0, 1) := by decide +kernel
theorem dX10_beam_2 : decode cX10_beam 2 = .ok (.putfield 97, 3) := by decide +kernel
theorem dX10_beam_5 : decode cX10_beam 5 = .ok (.aload_n 0, 1) := by decide +kernel
theorem dX10_beam_6 : decode cX10_beam 6 = .ok (.iload_n 1, 1) := by decide +kernel
theorem dX10_beam_7 : decode cX10_beam 7 = .ok (.iconst 0, 1) := by decide +kernel
theorem dX10_beam_8 : decode cX10_beam 8 = .ok (.sipush 20000, 3) := by decide +kernel
theorem dX10_beam_11 : decode cX10_beam 11 = .ok (.invokevirtual 123, 3) := by decide +kernel
theorem dX10_beam_14 : decode cX10_beam 14 = .ok (.ifCond .eq 29, 3) := by decide +kernel
theorem dX10_beam_17 : decode cX10_beam 17 = .ok (.aload_n 0, 1) := by decide +kernel
theorem dX10_beam_18 : decode cX10_beam 18 = .ok (.iload_n 2, 1) := by decide +kernel
theorem dX10_beam_19 : decode cX10_beam 19 = .ok (.iload_n 1, 1) := by decide +kernel
theorem dX10_beam_20 : decode cX10_beam 20 = .ok (.iconst 1, 1) := by decide +kernel
theorem dX10_beam_21 : decode cX10_beam 21 = .ok (.iadd, 1) := by decide +kernel
theorem dX10_beam_22 : decode cX10_beam 22 = .ok (.sipush 20000, 3) := by decide +kernel
theorem dX10_beam_25 : decode cX10_beam 25 = .ok (.invokevirtual 123, 3) := by decide +kernel
theorem dX10_beam_28 : decode cX10_beam 28 = .ok (.ifCond .eq 15, 3) := by decide +kernel
theorem dX10_beam_31 : decode cX10_beam 31 = .ok (.aload_n 0, 1) := by decide +kernel
theorem dX10_beam_32 : decode cX10_beam 32 = .ok (.iload_n 3, 1) := by decide +kernel
theorem dX10_beam_33 : decode cX10_beam 33 = .ok (.iconst 0, 1) := by decide +kernel
theorem dX10_beam_34 : decode cX10_beam 34 = .ok (.sipush 9000, 3) := by decide +kernel
theorem dX10_beam_37 : decode cX10_beam 37 = .ok (.invokevirtual 123, 3) := by decide +kernel
theorem dX10_beam_40 : decode cX10_beam 40 = .ok (.ifCond .ne 9, 3) := by decide +kernel
theorem dX10_beam_43 : decode cX10_beam 43 = .ok (.aload_n 0, 1) := by decide +kernel
theorem dX10_beam_44 : decode cX10_beam 44 = .ok (.iconst 1, 1) := by decide +kernel
theorem dX10_beam_45 : decode cX10_beam 45 = .ok (.invokevirtual 144, 3) := by decide +kernel
theorem dX10_beam_48 : decode cX10_beam 48 = .ok (.ireturn, 1) := by decide +kernel
theorem dX10_beam_49 : decode cX10_beam 49 = .ok (.aload_n 0, 1) := by decide +kernel
theorem dX10_beam_50 : decode cX10_beam 50 = .ok (.getfield 7, 3) := by decide +kernel
theorem dX10_beam_53 : decode cX10_beam 53 = .ok (.bipush 19, 2) := by decide +kernel
theorem dX10_beam_55 : decode cX10_beam 55 = .ok (.iaload, 1) := by decide +kernel
theorem dX10_beam_56 : decode cX10_beam 56 = .ok (.istore 4, 2) := by decide +kernel
theorem dX10_beam_58 : decode cX10_beam 58 = .ok (.iload 4, 2) := by decide +kernel
theorem dX10_beam_60 : decode cX10_beam 60 = .ok (.bipush 8, 2) := by decide +kernel
theorem dX10_beam_62 : decode cX10_beam 62 = .ok (.if_icmp .ne 9, 3) := by decide +kernel
theorem dX10_beam_65 : decode cX10_beam 65 = .ok (.aload_n 0, 1) := by decide +kernel
theorem dX10_beam_66 : decode cX10_beam 66 = .ok (.iconst 3, 1) := by decide +kernel
theorem dX10_beam_67 : decode cX10_beam 67 = .ok (.invokevirtual 144, 3) := by decide +kernel
theorem dX10_beam_70 : decode cX10_beam 70 = .ok (.ireturn, 1) := by decide +kernel
theorem dX10_beam_71 : decode cX10_beam 71 = .ok (.aload_n 0, 1) := by decide +kernel
theorem dX10_beam_72 : decode cX10_beam 72 = .ok (.invokevirtual 131, 3) := by decide +kernel
theorem dX10_beam_75 : decode cX10_beam 75 = .ok (.aload_n 0, 1) := by decide +kernel
theorem dX10_beam_76 : decode cX10_beam 76 = .ok (.getfield 7, 3) := by decide +kernel
theorem dX10_beam_79 : decode cX10_beam 79 = .ok (.bipush 20, 2) := by decide +kernel
theorem dX10_beam_81 : decode cX10_beam 81 = .ok (.iconst 3, 1) := by decide +kernel
theorem dX10_beam_82 : decode cX10_beam 82 = .ok (.iload 4, 2) := by decide +kernel
theorem dX10_beam_84 : decode cX10_beam 84 = .ok (.imul, 1) := by decide +kernel
theorem dX10_beam_85 : decode cX10_beam 85 = .ok (.iadd, 1) := by decide +kernel
theorem dX10_beam_86 : decode cX10_beam 86 = .ok (.iload_n 1, 1) := by decide +kernel
theorem dX10_beam_87 : decode cX10_beam 87 = .ok (.iastore, 1) := by decide +kernel
theorem dX10_beam_88 : decode cX10_beam 88 = .ok (.aload_n 0, 1) := by decide +kernel
theorem dX10_beam_89 : decode cX10_beam 89 = .ok (.getfield 7, 3) := by decide +kernel
theorem dX10_beam_92 : decode cX10_beam 92 = .ok (.bipush 20, 2) := by decide +kernel
theorem dX10_beam_94 : decode cX10_beam 94 = .ok (.iconst 3, 1) := by decide +kernel
theorem dX10_beam_95 : decode cX10_beam 95 = .ok (.iload 4, 2) := by decide +kernel
theorem dX10_beam_97 : decode cX10_beam 97 = .ok (.imul, 1) := by decide +kernel
theorem dX10_beam_98 : decode cX10_beam 98 = .ok (.iadd, 1) := by decide +kernel
theorem dX10_beam_99 : decode cX10_beam 99 = .ok (.iconst 1, 1) := by decide +kernel
theorem dX10_beam_100 : decode cX10_beam 100 = .ok (.iadd, 1) := by decide +kernel
theorem dX10_beam_101 : decode cX10_beam 101 = .ok (.iload_n 2, 1) := by decide +kernel
theorem dX10_beam_102 : decode cX10_beam 102 = .ok (.iastore, 1) := by decide +kernel
theorem dX10_beam_103 : decode cX10_beam 103 = .ok (.aload_n 0, 1) := by decide +kernel
theorem dX10_beam_104 : decode cX10_beam 104 = .ok (.getfield 7, 3) := by decide +kernel
theorem dX10_beam_107 : decode cX10_beam 107 = .ok (.bipush 20, 2) := by decide +kernel
theorem dX10_beam_109 : decode cX10_beam 109 = .ok (.iconst 3, 1) := by decide +kernel
theorem dX10_beam_110 : decode cX10_beam 110 = .ok (.iload 4, 2) := by decide +kernel
theorem dX10_beam_112 : decode cX10_beam 112 = .ok (.imul, 1) := by decide +kernel
theorem dX10_beam_113 : decode cX10_beam 113 = .ok (.iadd, 1) := by decide +kernel
theorem dX10_beam_114 : decode cX10_beam 114 = .ok (.iconst 2, 1) := by decide +kernel
theorem dX10_beam_115 : decode cX10_beam 115 = .ok (.iadd, 1) := by decide +kernel
theorem dX10_beam_116 : decode cX10_beam 116 = .ok (.iload_n 3, 1) := by decide +kernel
theorem dX10_beam_117 : decode cX10_beam 117 = .ok (.iastore, 1) := by decide +kernel
theorem dX10_beam_118 : decode cX10_beam 118 = .ok (.aload_n 0, 1) := by decide +kernel
theorem dX10_beam_119 : decode cX10_beam 119 = .ok (.getfield 7, 3) := by decide +kernel
theorem dX10_beam_122 : decode cX10_beam 122 = .ok (.bipush 19, 2) := by decide +kernel
theorem dX10_beam_124 : decode cX10_beam 124 = .ok (.dup2, 1) := by decide +kernel
theorem dX10_beam_125 : decode cX10_beam 125 = .ok (.iaload, 1) := by decide +kernel
theorem dX10_beam_126 : decode cX10_beam 126 = .ok (.iconst 1, 1) := by decide +kernel
theorem dX10_beam_127 : decode cX10_beam 127 = .ok (.iadd, 1) := by decide +kernel
theorem dX10_beam_128 : decode cX10_beam 128 = .ok (.iastore, 1) := by decide +kernel
theorem dX10_beam_129 : decode cX10_beam 129 = .ok (.iload 4, 2) := by decide +kernel
theorem dX10_beam_131 : decode cX10_beam 131 = .ok (.iconst 1, 1) := by decide +kernel
theorem dX10_beam_132 : decode cX10_beam 132 = .ok (.iadd, 1) := by decide +kernel
theorem dX10_beam_133 : decode cX10_beam 133 = .ok (.ireturn, 1) := by decide +kernel
set_option maxHeartbeats 4000000 in
set_option maxRecDepth 100000 in
theorem k_X10_beam (l : Launch) (D : va_G) (cy : Nat → ClassId) {L : List Nat} {τ : Nat → Ro} {E : Ec} (hI : Inv TB cy L τ E) {a0 : Nat} (ha0 : a0 ∈ L) (ta0 : τ a0 = (11, 0)) (a1 : Int32) (a2 : Int32) (a3 : Int32) : CtI l yX10_beam wsX10_beam { frames := 2, cells := 0, slots := 0, locals := 41 } D TB cy L τ E [.ref a0, .int a1, .int a2, .int a3] (inW [(11, 0), (60, 0), (61, 0)]) (fun r E' => True) := by
  intro sz
  refine sta (cc := cX10_beam) (maxL := 5) hI (by decide) rfl (Nat.le_of_ble_eq_true rfl) (fun p e s m args below meth c ls hsz Z S0 hl => ?_)
  have hx := Z.1.1
  have hb := Z.1.2.1
  have hts := Z.1.2.2.2.2
  have F0_ : Fr L τ (inW [(11, 0), (60, 0), (61, 0)]) E E := Fr.refl
  have hl : lv_has ls 5 [(0, .ref a0), (1, .int a1), (2, .int a2), (3, .int a3)] := hl
  generalize hQ : MQ below _ args s 0 0 _ = QQ
  have J43 : ∀  (E_43 : Ec) (H_43 : Heap) (k_43 : List Loc) (l_43 : Array Slot), Now D TB cy (va_A (va_pl L E) sz) s L τ E_43 H_43 k_43 → Fr L τ (inW [(11, 0), (60, 0), (61, 0)]) E E_43 → lv_has l_43 5 [(0, .ref a0)] → W p l e { frames := 2, cells := 0, slots := 0, locals := 41 } s m args below meth c H_43 k_43 0 0 QQ (F0 m 43 l_43 []) := by
    intro  E_43 H_43 k_43 l_43 S_43 F_43  hl_43
    refine lv_aload_n hx hb dX10_beam_43 rfl (lv_at hl_43 0 rfl) ?_
    obtain ⟨v1, ev1, tv1⟩ : ∃ v : Int32, Int32.ofInt (1) = v ∧ v.toInt = 1 := ⟨_, rfl, by decide +kernel⟩
    refine lv_iconst hx hb dX10_beam_44 ev1 ?_
    refine tc_vi Z.1 Z.2.2.2.1 Z.2.2.2.2.1 Z.2.2.2.2.2 S_43.1 S_43.2 ha0 ta0 rfl rfl (k_X10_no l D cy S_43.2 ha0 ta0 v1) (cwV 1 hts gX10_beam_X10_no rfl rfl rfl (by decide +kernel) ⟨Nat.le_of_ble_eq_true rfl, Nat.le_of_ble_eq_true rfl⟩) rfl hl_43.1 rfl (Nat.le_of_ble_eq_true rfl) dX10_beam_45 ⟨Nat.zero_le _, Nat.zero_le _⟩ (fun v5 E2 H3 k4 W2 I2 G2 p2 => ?_)
    obtain ⟨p2_0, p2_1, p2_2⟩ := p2
    have S2 : Now D TB cy (va_A (va_pl L E) sz) s L τ E2 H3 k4 := ⟨W2, I2⟩
    have F2 : Fr L τ (inW [(11, 0), (60, 0), (61, 0)]) E E2 := F_43.trans (G2.mono (inW_mono (by decide)))
    rw [← hQ]
    exact en_i Z S2 F2 trivial dX10_beam_48
  refine lv_aload_n hx hb dX10_beam_0 rfl (lv_at hl 0 rfl) ?_
  obtain ⟨v6, ev6, tv6⟩ : ∃ v : Int32, Int32.ofInt (0) = v ∧ v.toInt = 0 := ⟨_, rfl, by decide +kernel⟩
  refine lv_iconst hx hb dX10_beam_1 ev6 ?_
  refine tr_puti Z.1 Z.2.2.2.1 S0.1 S0.2 ha0 ta0 rfl rfl (fun _ h => List.mem_cons_of_mem _ (List.mem_append_right _ h)) tyX10_ok nmX10 4 (by decide) rfl rfl rfl (hts _ (List.mem_of_getElem? (i := 1) rfl)) dX10_beam_2 (by omega) (by omega) (fun E7 H8 k9 W7 I7 P7 => ?_)
  have S7 : Now D TB cy (va_A (va_pl L E) sz) s L τ E7 H8 k9 := ⟨W7, I7⟩
  have F7 : Fr L τ (inW [(11, 0), (60, 0), (61, 0)]) E E7 := Fr.put F0_ P7 ta0 rfl
  refine lv_aload_n hx hb dX10_beam_5 rfl (lv_at hl 0 rfl) ?_
  refine lv_iload_n hx hb dX10_beam_6 rfl (lv_at hl 1 rfl) ?_
  obtain ⟨v10, ev10, tv10⟩ : ∃ v : Int32, Int32.ofInt (0) = v ∧ v.toInt = 0 := ⟨_, rfl, by decide +kernel⟩
  refine lv_iconst hx hb dX10_beam_7 ev10 ?_
  obtain ⟨v11, ev11, tv11⟩ : ∃ v : Int32, (Int16.ofInt (20000)).toInt32 = v ∧ v.toInt = 20000 := ⟨_, rfl, by decide +kernel⟩
  refine lv_sipush hx hb dX10_beam_8 ev11 ?_
  refine tc_vi Z.1 Z.2.2.2.1 Z.2.2.2.2.1 Z.2.2.2.2.2 S7.1 S7.2 ha0 ta0 rfl rfl (k_X10_in l D cy S7.2 ha0 ta0 a1 v10 v11) (cwV 3 hts gX10_beam_X10_in rfl rfl rfl (by decide +kernel) ⟨Nat.le_of_ble_eq_true rfl, Nat.le_of_ble_eq_true rfl⟩) rfl hl.1 rfl (Nat.le_of_ble_eq_true rfl) dX10_beam_11 ⟨Nat.zero_le _, Nat.zero_le _⟩ (fun v15 E12 H13 k14 W12 I12 G12 p12 => ?_)
  obtain ⟨q12, p12_0, p12_1, p12_2⟩ := p12
  have q12 := q12.symm
  subst q12
  have S12 : Now D TB cy (va_A (va_pl L E) sz) s L τ E7 H13 k14 := ⟨W12, I12⟩
  refine lv_if_eq (tgt := 43) hx hb dX10_beam_14 (by decide) (fun c16 => ?_) (fun c16 => ?_)
  · skip
    have tc16 := nu_eq c16
    have uc16 : (0 : Int32).toInt = 0 := rfl
    exact J43 E7 H13 k14 ls S12 F7 (lv_sub hl [0] rfl)
  · skip
    have tc16 := nu_ne c16
    have uc16 : (0 : Int32).toInt = 0 := rfl
    refine lv_aload_n hx hb dX10_beam_17 rfl (lv_at hl 0 rfl) ?_
    refine lv_iload_n hx hb dX10_beam_18 rfl (lv_at hl 2 rfl) ?_
    refine lv_iload_n hx hb dX10_beam_19 rfl (lv_at hl 1 rfl) ?_
    obtain ⟨v17, ev17, tv17⟩ : ∃ v : Int32, Int32.ofInt (1) = v ∧ v.toInt = 1 := ⟨_, rfl, by decide +kernel⟩
    refine lv_iconst hx hb dX10_beam_20 ev17 ?_
    refine lv_iadd hx hb dX10_beam_21 ?_
    refine lv_topi (fun v18 ev18 => ?_)
    have tv18 := nu_add ev18 (by omega) (by omega)
    obtain ⟨v19, ev19, tv19⟩ : ∃ v : Int32, (Int16.ofInt (20000)).toInt32 = v ∧ v.toInt = 20000 := ⟨_, rfl, by decide +kernel⟩
    refine lv_sipush hx hb dX10_beam_22 ev19 ?_
    refine tc_vi Z.1 Z.2.2.2.1 Z.2.2.2.2.1 Z.2.2.2.2.2 S12.1 S12.2 ha0 ta0 rfl rfl (k_X10_in l D cy S12.2 ha0 ta0 a2 v18 v19) (cwV 3 hts gX10_beam_X10_in rfl rfl rfl (by decide +kernel) ⟨Nat.le_of_ble_eq_true rfl, Nat.le_of_ble_eq_true rfl⟩) rfl hl.1 rfl (Nat.le_of_ble_eq_true rfl) dX10_beam_25 ⟨Nat.zero_le _, Nat.zero_le _⟩ (fun v23 E20 H21 k22 W20 I20 G20 p20 => ?_)
    obtain ⟨q20, p20_0, p20_1, p20_2⟩ := p20
    have q20 := q20.symm
    subst q20
    have S20 : Now D TB cy (va_A (va_pl L E) sz) s L τ E7 H21 k22 := ⟨W20, I20⟩
    refine lv_if_eq (tgt := 43) hx hb dX10_beam_28 (by decide) (fun c24 => ?_) (fun c24 => ?_)
    · skip
      have tc24 := nu_eq c24
      have uc24 : (0 : Int32).toInt = 0 := rfl
      exact J43 E7 H21 k22 ls S20 F7 (lv_sub hl [0] rfl)
    · skip
      have tc24 := nu_ne c24
      have uc24 : (0 : Int32).toInt = 0 := rfl
      refine lv_aload_n hx hb dX10_beam_31 rfl (lv_at hl 0 rfl) ?_
      refine lv_iload_n hx hb dX10_beam_32 rfl (lv_at hl 3 rfl) ?_
      obtain ⟨v25, ev25, tv25⟩ : ∃ v : Int32, Int32.ofInt (0) = v ∧ v.toInt = 0 := ⟨_, rfl, by decide +kernel⟩
      refine lv_iconst hx hb dX10_beam_33 ev25 ?_
      obtain ⟨v26, ev26, tv26⟩ : ∃ v : Int32, (Int16.ofInt (9000)).toInt32 = v ∧ v.toInt = 9000 := ⟨_, rfl, by decide +kernel⟩
      refine lv_sipush hx hb dX10_beam_34 ev26 ?_
      refine tc_vi Z.1 Z.2.2.2.1 Z.2.2.2.2.1 Z.2.2.2.2.2 S20.1 S20.2 ha0 ta0 rfl rfl (k_X10_in l D cy S20.2 ha0 ta0 a3 v25 v26) (cwV 3 hts gX10_beam_X10_in rfl rfl rfl (by decide +kernel) ⟨Nat.le_of_ble_eq_true rfl, Nat.le_of_ble_eq_true rfl⟩) rfl hl.1 rfl (Nat.le_of_ble_eq_true rfl) dX10_beam_37 ⟨Nat.zero_le _, Nat.zero_le _⟩ (fun v30 E27 H28 k29 W27 I27 G27 p27 => ?_)
      obtain ⟨q27, p27_0, p27_1, p27_2⟩ := p27
      have q27 := q27.symm
      subst q27
      have S27 : Now D TB cy (va_A (va_pl L E) sz) s L τ E7 H28 k29 := ⟨W27, I27⟩
      refine lv_if_ne (tgt := 49) hx hb dX10_beam_40 (by decide) (fun c31 => ?_) (fun c31 => ?_)
      · skip
        have tc31 := nu_ne c31
        have uc31 : (0 : Int32).toInt = 0 := rfl
        refine lv_aload_n hx hb dX10_beam_49 rfl (lv_at hl 0 rfl) ?_
        refine tr_getr Z.1 Z.2.2.2.1 S27.1 S27.2 ha0 ta0 rfl rfl (fun _ h => List.mem_cons_of_mem _ (List.mem_append_right _ h)) 0 (by decide) rfl (hts _ (List.mem_of_getElem? (i := 2) rfl)) dX10_beam_50 (fun q32 eq32 hq32 tq32 => ?_)
        have tq32 : τ q32 = (60, 0) := tq32
        obtain ⟨v33, ev33, tv33⟩ : ∃ v : Int32, (Int8.ofInt (19)).toInt32 = v ∧ v.toInt = 19 := ⟨_, rfl, by decide +kernel⟩
        refine lv_bipush hx hb dX10_beam_53 ev33 ?_
        refine tr_ialdx Z.1 Z.2.2.2.1 S27.1 S27.2 hq32 tq32 rfl (by omega) (by omega) dX10_beam_55 (fun v34 ev34 lv34 uv34 => ?_)
        have bv34 : nowB v33.toNatClampNeg = (0, 8) := nb_19 (by show v33.toInt.toNat = 19; omega)
        rw [bv34] at lv34 uv34
        have lv34 : 0 ≤ v34.toInt := lv34
        have uv34 : v34.toInt ≤ 8 := uv34
        have av34 : ai E7 q32 19 = v34 := ai_at ev34 (by omega)
        refine lv_istore (lv' := [(4, .int v34), (0, .ref a0), (1, .int a1), (2, .int a2), (3, .int a3)]) hx hb dX10_beam_56 hl (by decide) rfl (fun l35 hl36 => ?_)
        refine lv_iload hx hb dX10_beam_58 (lv_at hl36 0 rfl) ?_
        obtain ⟨v37, ev37, tv37⟩ : ∃ v : Int32, (Int8.ofInt (8)).toInt32 = v ∧ v.toInt = 8 := ⟨_, rfl, by decide +kernel⟩
        refine lv_bipush hx hb dX10_beam_60 ev37 ?_
        refine lv_icmp_ne (tgt := 71) hx hb dX10_beam_62 (by decide) (fun c38 => ?_) (fun c38 => ?_)
        · skip
          have tc38 := nu_ne c38
          refine lv_aload_n hx hb dX10_beam_71 rfl (lv_at hl36 1 rfl) ?_
          refine tc_vv Z.1 Z.2.2.2.1 Z.2.2.2.2.1 Z.2.2.2.2.2 S27.1 S27.2 ha0 ta0 rfl rfl (k_X10_act l D cy S27.2 ha0 ta0) (cwV 0 hts gX10_beam_X10_act rfl rfl rfl (by decide +kernel) ⟨Nat.le_of_ble_eq_true rfl, Nat.le_of_ble_eq_true rfl⟩) rfl hl36.1 rfl (Nat.le_of_ble_eq_true rfl) dX10_beam_72 ⟨Nat.zero_le _, Nat.zero_le _⟩ (fun E39 H40 k41 W39 I39 G39 p39 => ?_)
          have p39_0 := p39
          have S39 : Now D TB cy (va_A (va_pl L E) sz) s L τ E39 H40 k41 := ⟨W39, I39⟩
          have F39 : Fr L τ (inW [(11, 0), (60, 0), (61, 0)]) E E39 := F7.trans (G39.mono (inW_mono (by decide)))
          refine lv_aload_n hx hb dX10_beam_75 rfl (lv_at hl36 1 rfl) ?_
          refine tr_getr Z.1 Z.2.2.2.1 S39.1 S39.2 ha0 ta0 rfl rfl (fun _ h => List.mem_cons_of_mem _ (List.mem_append_right _ h)) 0 (by decide) rfl (hts _ (List.mem_of_getElem? (i := 2) rfl)) dX10_beam_76 (fun q43 eq43 hq43 tq43 => ?_)
          have tq43 : τ q43 = (60, 0) := tq43
          have uq43 : q32 = q43 := S39.2.2.2.2 _ hq32 _ hq43 (tq32.trans tq43.symm) (by rw [tq32]; rfl)
          subst uq43
          obtain ⟨v44, ev44, tv44⟩ : ∃ v : Int32, (Int8.ofInt (20)).toInt32 = v ∧ v.toInt = 20 := ⟨_, rfl, by decide +kernel⟩
          refine lv_bipush hx hb dX10_beam_79 ev44 ?_
          obtain ⟨v45, ev45, tv45⟩ : ∃ v : Int32, Int32.ofInt (3) = v ∧ v.toInt = 3 := ⟨_, rfl, by decide +kernel⟩
          refine lv_iconst hx hb dX10_beam_81 ev45 ?_
          refine lv_iload hx hb dX10_beam_82 (lv_at hl36 0 rfl) ?_
          refine lv_imul hx hb dX10_beam_84 ?_
          refine lv_topi (fun v46 ev46 => ?_)
          have tv46 := nu_mulc' (3) ev46 (by omega) (by omega) (by omega)
          refine lv_iadd hx hb dX10_beam_85 ?_
          refine lv_topi (fun v47 ev47 => ?_)
          have tv47 := nu_add ev47 (by omega) (by omega)
          refine lv_iload_n hx hb dX10_beam_86 rfl (lv_at hl36 2 rfl) ?_
          have b48 : nowB v47.toNatClampNeg = (-2147483648, 2147483647) := nb_o (by show v47.toInt.toNat < 4 ∨ (8 ≤ v47.toInt.toNat ∧ v47.toInt.toNat ≤ 18) ∨ (20 ≤ v47.toInt.toNat ∧ v47.toInt.toNat ≤ 43); omega)
          have b48 : (nowB v47.toNatClampNeg).1 ≤ a1.toInt ∧ a1.toInt ≤ (nowB v47.toNatClampNeg).2 := by rw [b48]; have := fb_rng a1; show -2147483648 ≤ a1.toInt ∧ a1.toInt ≤ 2147483647; omega
          refine tr_iastx Z.1 Z.2.2.2.1 S39.1 S39.2 hq32 tq32 rfl (by omega) (by omega) b48.1 b48.2 dX10_beam_87 (fun E48 H49 k50 W48 I48 P48 => ?_)
          have S48 : Now D TB cy (va_A (va_pl L E) sz) s L τ E48 H49 k50 := ⟨W48, I48⟩
          have F48 : Fr L τ (inW [(11, 0), (60, 0), (61, 0)]) E E48 := Fr.set F39 P48 tq32 rfl
          refine lv_aload_n hx hb dX10_beam_88 rfl (lv_at hl36 1 rfl) ?_
          refine tr_getr Z.1 Z.2.2.2.1 S48.1 S48.2 ha0 ta0 rfl rfl (fun _ h => List.mem_cons_of_mem _ (List.mem_append_right _ h)) 0 (by decide) rfl (hts _ (List.mem_of_getElem? (i := 2) rfl)) dX10_beam_89 (fun q51 eq51 hq51 tq51 => ?_)
          have tq51 : τ q51 = (60, 0) := tq51
          have uq51 : q32 = q51 := S48.2.2.2.2 _ hq32 _ hq51 (tq32.trans tq51.symm) (by rw [tq32]; rfl)
          subst uq51
          obtain ⟨v52, ev52, tv52⟩ : ∃ v : Int32, (Int8.ofInt (20)).toInt32 = v ∧ v.toInt = 20 := ⟨_, rfl, by decide +kernel⟩
          refine lv_bipush hx hb dX10_beam_92 ev52 ?_
          obtain ⟨v53, ev53, tv53⟩ : ∃ v : Int32, Int32.ofInt (3) = v ∧ v.toInt = 3 := ⟨_, rfl, by decide +kernel⟩
          refine lv_iconst hx hb dX10_beam_94 ev53 ?_
          refine lv_iload hx hb dX10_beam_95 (lv_at hl36 0 rfl) ?_
          refine lv_imul hx hb dX10_beam_97 ?_
          refine lv_topi (fun v54 ev54 => ?_)
          have tv54 := nu_mulc' (3) ev54 (by omega) (by omega) (by omega)
          refine lv_iadd hx hb dX10_beam_98 ?_
          refine lv_topi (fun v55 ev55 => ?_)
          have tv55 := nu_add ev55 (by omega) (by omega)
          obtain ⟨v56, ev56, tv56⟩ : ∃ v : Int32, Int32.ofInt (1) = v ∧ v.toInt = 1 := ⟨_, rfl, by decide +kernel⟩
          refine lv_iconst hx hb dX10_beam_99 ev56 ?_
          refine lv_iadd hx hb dX10_beam_100 ?_
          refine lv_topi (fun v57 ev57 => ?_)
          have tv57 := nu_add ev57 (by omega) (by omega)
          refine lv_iload_n hx hb dX10_beam_101 rfl (lv_at hl36 3 rfl) ?_
          have b58 : nowB v57.toNatClampNeg = (-2147483648, 2147483647) := nb_o (by show v57.toInt.toNat < 4 ∨ (8 ≤ v57.toInt.toNat ∧ v57.toInt.toNat ≤ 18) ∨ (20 ≤ v57.toInt.toNat ∧ v57.toInt.toNat ≤ 43); omega)
          have b58 : (nowB v57.toNatClampNeg).1 ≤ a2.toInt ∧ a2.toInt ≤ (nowB v57.toNatClampNeg).2 := by rw [b58]; have := fb_rng a2; show -2147483648 ≤ a2.toInt ∧ a2.toInt ≤ 2147483647; omega
          refine tr_iastx Z.1 Z.2.2.2.1 S48.1 S48.2 hq32 tq32 rfl (by omega) (by omega) b58.1 b58.2 dX10_beam_102 (fun E58 H59 k60 W58 I58 P58 => ?_)
          have S58 : Now D TB cy (va_A (va_pl L E) sz) s L τ E58 H59 k60 := ⟨W58, I58⟩
          have F58 : Fr L τ (inW [(11, 0), (60, 0), (61, 0)]) E E58 := Fr.set F48 P58 tq32 rfl
          refine lv_aload_n hx hb dX10_beam_103 rfl (lv_at hl36 1 rfl) ?_
          refine tr_getr Z.1 Z.2.2.2.1 S58.1 S58.2 ha0 ta0 rfl rfl (fun _ h => List.mem_cons_of_mem _ (List.mem_append_right _ h)) 0 (by decide) rfl (hts _ (List.mem_of_getElem? (i := 2) rfl)) dX10_beam_104 (fun q61 eq61 hq61 tq61 => ?_)
          have tq61 : τ q61 = (60, 0) := tq61
          have uq61 : q32 = q61 := S58.2.2.2.2 _ hq32 _ hq61 (tq32.trans tq61.symm) (by rw [tq32]; rfl)
          subst uq61
          obtain ⟨v62, ev62, tv62⟩ : ∃ v : Int32, (Int8.ofInt (20)).toInt32 = v ∧ v.toInt = 20 := ⟨_, rfl, by decide +kernel⟩
          refine lv_bipush hx hb dX10_beam_107 ev62 ?_
          obtain ⟨v63, ev63, tv63⟩ : ∃ v : Int32, Int32.ofInt (3) = v ∧ v.toInt = 3 := ⟨_, rfl, by decide +kernel⟩
          refine lv_iconst hx hb dX10_beam_109 ev63 ?_
          refine lv_iload hx hb dX10_beam_110 (lv_at hl36 0 rfl) ?_
          refine lv_imul hx hb dX10_beam_112 ?_
          refine lv_topi (fun v64 ev64 => ?_)
          have tv64 := nu_mulc' (3) ev64 (by omega) (by omega) (by omega)
          refine lv_iadd hx hb dX10_beam_113 ?_
          refine lv_topi (fun v65 ev65 => ?_)
          have tv65 := nu_add ev65 (by omega) (by omega)
          obtain ⟨v66, ev66, tv66⟩ : ∃ v : Int32, Int32.ofInt (2) = v ∧ v.toInt = 2 := ⟨_, rfl, by decide +kernel⟩
          refine lv_iconst hx hb dX10_beam_114 ev66 ?_
          refine lv_iadd hx hb dX10_beam_115 ?_
          refine lv_topi (fun v67 ev67 => ?_)
          have tv67 := nu_add ev67 (by omega) (by omega)
          refine lv_iload_n hx hb dX10_beam_116 rfl (lv_at hl36 4 rfl) ?_
          have b68 : nowB v67.toNatClampNeg = (-2147483648, 2147483647) := nb_o (by show v67.toInt.toNat < 4 ∨ (8 ≤ v67.toInt.toNat ∧ v67.toInt.toNat ≤ 18) ∨ (20 ≤ v67.toInt.toNat ∧ v67.toInt.toNat ≤ 43); omega)
          have b68 : (nowB v67.toNatClampNeg).1 ≤ a3.toInt ∧ a3.toInt ≤ (nowB v67.toNatClampNeg).2 := by rw [b68]; have := fb_rng a3; show -2147483648 ≤ a3.toInt ∧ a3.toInt ≤ 2147483647; omega
          refine tr_iastx Z.1 Z.2.2.2.1 S58.1 S58.2 hq32 tq32 rfl (by omega) (by omega) b68.1 b68.2 dX10_beam_117 (fun E68 H69 k70 W68 I68 P68 => ?_)
          have S68 : Now D TB cy (va_A (va_pl L E) sz) s L τ E68 H69 k70 := ⟨W68, I68⟩
          have F68 : Fr L τ (inW [(11, 0), (60, 0), (61, 0)]) E E68 := Fr.set F58 P68 tq32 rfl
          refine lv_aload_n hx hb dX10_beam_118 rfl (lv_at hl36 1 rfl) ?_
          refine tr_getr Z.1 Z.2.2.2.1 S68.1 S68.2 ha0 ta0 rfl rfl (fun _ h => List.mem_cons_of_mem _ (List.mem_append_right _ h)) 0 (by decide) rfl (hts _ (List.mem_of_getElem? (i := 2) rfl)) dX10_beam_119 (fun q71 eq71 hq71 tq71 => ?_)
          have tq71 : τ q71 = (60, 0) := tq71
          have uq71 : q32 = q71 := S68.2.2.2.2 _ hq32 _ hq71 (tq32.trans tq71.symm) (by rw [tq32]; rfl)
          subst uq71
          obtain ⟨v72, ev72, tv72⟩ : ∃ v : Int32, (Int8.ofInt (19)).toInt32 = v ∧ v.toInt = 19 := ⟨_, rfl, by decide +kernel⟩
          refine lv_bipush hx hb dX10_beam_122 ev72 ?_
          refine lv_dup2_11 hx hb dX10_beam_124 rfl rfl ?_
          refine tr_ialdx Z.1 Z.2.2.2.1 S68.1 S68.2 hq32 tq32 rfl (by omega) (by omega) dX10_beam_125 (fun v73 ev73 lv73 uv73 => ?_)
          have bv73 : nowB v72.toNatClampNeg = (0, 8) := nb_19 (by show v72.toInt.toNat = 19; omega)
          rw [bv73] at lv73 uv73
          have lv73 : 0 ≤ v73.toInt := lv73
          have uv73 : v73.toInt ≤ 8 := uv73
          have av73 : ai E68 q32 19 = v73 := ai_at ev73 (by omega)
          have wv73 : v73 = v34 := av73.symm.trans ((ai_setk P68 (by show (19 : Nat) ≠ v67.toInt.toNat; omega)).trans ((ai_setk P58 (by show (19 : Nat) ≠ v57.toInt.toNat; omega)).trans ((ai_setk P48 (by show (19 : Nat) ≠ v47.toInt.toNat; omega)).trans ((ai_fr G39 hq32 (by rw [tq32]; rfl)).trans av34))))
          have xv73 : v73.toInt = v34.toInt := by rw [wv73]
          obtain ⟨v74, ev74, tv74⟩ : ∃ v : Int32, Int32.ofInt (1) = v ∧ v.toInt = 1 := ⟨_, rfl, by decide +kernel⟩
          refine lv_iconst hx hb dX10_beam_126 ev74 ?_
          refine lv_iadd hx hb dX10_beam_127 ?_
          refine lv_topi (fun v75 ev75 => ?_)
          have tv75 := nu_add ev75 (by omega) (by omega)
          have b76 : nowB v72.toNatClampNeg = (0, 8) := nb_19 (by show v72.toInt.toNat = 19; omega)
          have b76 : (nowB v72.toNatClampNeg).1 ≤ v75.toInt ∧ v75.toInt ≤ (nowB v72.toNatClampNeg).2 := by rw [b76]; have := fb_rng v75; show 0 ≤ v75.toInt ∧ v75.toInt ≤ 8; omega
          refine tr_iastx Z.1 Z.2.2.2.1 S68.1 S68.2 hq32 tq32 rfl (by omega) (by omega) b76.1 b76.2 dX10_beam_128 (fun E76 H77 k78 W76 I76 P76 => ?_)
          have S76 : Now D TB cy (va_A (va_pl L E) sz) s L τ E76 H77 k78 := ⟨W76, I76⟩
          have F76 : Fr L τ (inW [(11, 0), (60, 0), (61, 0)]) E E76 := Fr.set F68 P76 tq32 rfl
          refine lv_iload hx hb dX10_beam_129 (lv_at hl36 0 rfl) ?_
          obtain ⟨v79, ev79, tv79⟩ : ∃ v : Int32, Int32.ofInt (1) = v ∧ v.toInt = 1 := ⟨_, rfl, by decide +kernel⟩
          refine lv_iconst hx hb dX10_beam_131 ev79 ?_
          refine lv_iadd hx hb dX10_beam_132 ?_
          refine lv_topi (fun v80 ev80 => ?_)
          have tv80 := nu_add ev80 (by omega) (by omega)
          rw [← hQ]
          exact en_i Z S76 F76 trivial dX10_beam_133
        · skip
          have tc38 := nu_eq c38
          refine lv_aload_n hx hb dX10_beam_65 rfl (lv_at hl36 1 rfl) ?_
          obtain ⟨v81, ev81, tv81⟩ : ∃ v : Int32, Int32.ofInt (3) = v ∧ v.toInt = 3 := ⟨_, rfl, by decide +kernel⟩
          refine lv_iconst hx hb dX10_beam_66 ev81 ?_
          refine tc_vi Z.1 Z.2.2.2.1 Z.2.2.2.2.1 Z.2.2.2.2.2 S27.1 S27.2 ha0 ta0 rfl rfl (k_X10_no l D cy S27.2 ha0 ta0 v81) (cwV 1 hts gX10_beam_X10_no rfl rfl rfl (by decide +kernel) ⟨Nat.le_of_ble_eq_true rfl, Nat.le_of_ble_eq_true rfl⟩) rfl hl36.1 rfl (Nat.le_of_ble_eq_true rfl) dX10_beam_67 ⟨Nat.zero_le _, Nat.zero_le _⟩ (fun v85 E82 H83 k84 W82 I82 G82 p82 => ?_)
          obtain ⟨p82_0, p82_1, p82_2⟩ := p82
          have S82 : Now D TB cy (va_A (va_pl L E) sz) s L τ E82 H83 k84 := ⟨W82, I82⟩
          have F82 : Fr L τ (inW [(11, 0), (60, 0), (61, 0)]) E E82 := F7.trans (G82.mono (inW_mono (by decide)))
          rw [← hQ]
          exact en_i Z S82 F82 trivial dX10_beam_70
      · skip
        have tc31 := nu_eq c31
        have uc31 : (0 : Int32).toInt = 0 := rfl
        exact J43 E7 H28 k29 ls S27 F7 (lv_sub hl [0] rfl)

theorem dX10_valueOf_0 : decode cX10_valueOf 0 = .ok (.iload_n 1, 1) := by decide +kernel
theorem dX10_valueOf_1 : decode cX10_valueOf 1 = .ok (.bipush 15, 2) := by decide +kernel
theorem dX10_valueOf_3 : decode cX10_valueOf 3 = .ok (.if_icmp .le 9, 3) := by decide +kernel
theorem dX10_valueOf_6 : decode cX10_valueOf 6 = .ok (.iload_n 2, 1) := by decide +kernel
theorem dX10_valueOf_7 : decode cX10_valueOf 7 = .ok (.iconst 1, 1) := by decide +kernel
theorem dX10_valueOf_8 : decode cX10_valueOf 8 = .ok (.iadd, 1) := by decide +kernel
theorem dX10_valueOf_9 : decode cX10_valueOf 9 = .ok (.goto 4, 3) := by decide +kernel
theorem dX10_valueOf_12 : decode cX10_valueOf 12 = .ok (.iload_n 2, 1) := by decide +kernel
theorem dX10_valueOf_13 : decode cX10_valueOf 13 = .ok (.istore_n 3, 1) := by decide +kernel
theorem dX10_valueOf_14 : decode cX10_valueOf 14 = .ok (.iload_n 1, 1) := by decide +kernel
theorem dX10_valueOf_15 : decode cX10_valueOf 15 = .ok (.bipush 16, 2) := by decide +kernel
theorem dX10_valueOf_17 : decode cX10_valueOf 17 = .ok (.irem, 1) := by decide +kernel
theorem dX10_valueOf_18 : decode cX10_valueOf 18 = .ok (.tableswitch 99 0 7 #[46, 53, 60, 67, 74, 81, 88, 92], 46) := by decide +kernel
theorem dX10_valueOf_64 : decode cX10_valueOf 64 = .ok (.aload_n 0, 1) := by decide +kernel
theorem dX10_valueOf_65 : decode cX10_valueOf 65 = .ok (.getfield 26, 3) := by decide +kernel
theorem dX10_valueOf_68 : decode cX10_valueOf 68 = .ok (.iload_n 3, 1) := by decide +kernel
theorem dX10_valueOf_69 : decode cX10_valueOf 69 = .ok (.iaload, 1) := by decide +kernel
theorem dX10_valueOf_70 : decode cX10_valueOf 70 = .ok (.ireturn, 1) := by decide +kernel
theorem dX10_valueOf_71 : decode cX10_valueOf 71 = .ok (.aload_n 0, 1) := by decide +kernel
theorem dX10_valueOf_72 : decode cX10_valueOf 72 = .ok (.getfield 32, 3) := by decide +kernel
theorem dX10_valueOf_75 : decode cX10_valueOf 75 = .ok (.iload_n 3, 1) := by decide +kernel
theorem dX10_valueOf_76 : decode cX10_valueOf 76 = .ok (.iaload, 1) := by decide +kernel
theorem dX10_valueOf_77 : decode cX10_valueOf 77 = .ok (.ireturn, 1) := by decide +kernel
theorem dX10_valueOf_78 : decode cX10_valueOf 78 = .ok (.aload_n 0, 1) := by decide +kernel
theorem dX10_valueOf_79 : decode cX10_valueOf 79 = .ok (.getfield 35, 3) := by decide +kernel
theorem dX10_valueOf_82 : decode cX10_valueOf 82 = .ok (.iload_n 3, 1) := by decide +kernel
theorem dX10_valueOf_83 : decode cX10_valueOf 83 = .ok (.iaload, 1) := by decide +kernel
theorem dX10_valueOf_84 : decode cX10_valueOf 84 = .ok (.ireturn, 1) := by decide +kernel
theorem dX10_valueOf_85 : decode cX10_valueOf 85 = .ok (.aload_n 0, 1) := by decide +kernel
theorem dX10_valueOf_86 : decode cX10_valueOf 86 = .ok (.getfield 41, 3) := by decide +kernel
theorem dX10_valueOf_89 : decode cX10_valueOf 89 = .ok (.iload_n 3, 1) := by decide +kernel
theorem dX10_valueOf_90 : decode cX10_valueOf 90 = .ok (.iaload, 1) := by decide +kernel
theorem dX10_valueOf_91 : decode cX10_valueOf 91 = .ok (.ireturn, 1) := by decide +kernel
theorem dX10_valueOf_92 : decode cX10_valueOf 92 = .ok (.aload_n 0, 1) := by decide +kernel
theorem dX10_valueOf_93 : decode cX10_valueOf 93 = .ok (.getfield 7, 3) := by decide +kernel
theorem dX10_valueOf_96 : decode cX10_valueOf 96 = .ok (.iconst 1, 1) := by decide +kernel
theorem dX10_valueOf_97 : decode cX10_valueOf 97 = .ok (.iaload, 1) := by decide +kernel
theorem dX10_valueOf_98 : decode cX10_valueOf 98 = .ok (.ireturn, 1) := by decide +kernel
theorem dX10_valueOf_99 : decode cX10_valueOf 99 = .ok (.aload_n 0, 1) := by decide +kernel
theorem dX10_valueOf_100 : decode cX10_valueOf 100 = .ok (.getfield 112, 3) := by decide +kernel
theorem dX10_valueOf_103 : decode cX10_valueOf 103 = .ok (.iconst 1, 1) := by decide +kernel
theorem dX10_valueOf_104 : decode cX10_valueOf 104 = .ok (.iadd, 1) := by decide +kernel
theorem dX10_valueOf_105 : decode cX10_valueOf 105 = .ok (.ireturn, 1) := by decide +kernel
theorem dX10_valueOf_106 : decode cX10_valueOf 106 = .ok (.iload_n 3, 1) := by decide +kernel
theorem dX10_valueOf_107 : decode cX10_valueOf 107 = .ok (.iconst 1, 1) := by decide +kernel
theorem dX10_valueOf_108 : decode cX10_valueOf 108 = .ok (.iadd, 1) := by decide +kernel
theorem dX10_valueOf_109 : decode cX10_valueOf 109 = .ok (.ireturn, 1) := by decide +kernel
theorem dX10_valueOf_110 : decode cX10_valueOf 110 = .ok (.aload_n 0, 1) := by decide +kernel
theorem dX10_valueOf_111 : decode cX10_valueOf 111 = .ok (.getfield 23, 3) := by decide +kernel
theorem dX10_valueOf_114 : decode cX10_valueOf 114 = .ok (.iload_n 3, 1) := by decide +kernel
theorem dX10_valueOf_115 : decode cX10_valueOf 115 = .ok (.iaload, 1) := by decide +kernel
theorem dX10_valueOf_116 : decode cX10_valueOf 116 = .ok (.ireturn, 1) := by decide +kernel
theorem dX10_valueOf_117 : decode cX10_valueOf 117 = .ok (.iconst 1, 1) := by decide +kernel
theorem dX10_valueOf_118 : decode cX10_valueOf 118 = .ok (.ireturn, 1) := by decide +kernel
set_option maxHeartbeats 4000000 in
set_option maxRecDepth 100000 in
theorem k_X10_valueOf (l : Launch) (D : va_G) (cy : Nat → ClassId) {L : List Nat} {τ : Nat → Ro} {E : Ec} (hI : Inv TB cy L τ E) {a0 : Nat} (ha0 : a0 ∈ L) (ta0 : τ a0 = (11, 0)) (a1 : Int32) (la1 : 0 ≤ a1.toInt) (ua1 : a1.toInt ≤ 24) (a2 : Int32) (la2 : 0 ≤ a2.toInt) (ua2 : a2.toInt ≤ 65) (hk : a2.toInt = 65 → a1.toInt ≤ 15) : CtI l yX10_valueOf wsX10_valueOf { frames := 0, cells := 0, slots := 0, locals := 0 } D TB cy L τ E [.ref a0, .int a1, .int a2] (inW []) (fun r E' => E' = E) := by
  intro sz
  refine sta (cc := cX10_valueOf) (maxL := 4) hI (by decide) rfl (Nat.le_of_ble_eq_true rfl) (fun p e s m args below meth c ls hsz Z S0 hl => ?_)
  have hx := Z.1.1
  have hb := Z.1.2.1
  have hts := Z.1.2.2.2.2
  have F0_ : Fr L τ (inW []) E E := Fr.refl
  have hl : lv_has ls 4 [(0, .ref a0), (1, .int a1), (2, .int a2)] := hl
  generalize hQ : MQ below _ args s 0 0 _ = QQ
  have J13 : ∀ (y0_13 : Int32) (H_13 : Heap) (k_13 : List Loc) (l_13 : Array Slot), Now D TB cy (va_A (va_pl L E) sz) s L τ E H_13 k_13 → (0 ≤ a1.toInt) → (a1.toInt ≤ 24) → (0 ≤ y0_13.toInt) → (y0_13.toInt ≤ 65) → lv_has l_13 4 [(0, .ref a0), (1, .int a1)] → W p l e { frames := 0, cells := 0, slots := 0, locals := 0 } s m args below meth c H_13 k_13 0 0 QQ (F0 m 13 l_13 [.int y0_13]) := by
    intro y0_13 H_13 k_13 l_13 S_13 z1 z2 z3 z4 hl_13
    refine lv_istore_n (lv' := [(3, .int y0_13), (0, .ref a0), (1, .int a1)]) hx hb dX10_valueOf_13 rfl hl_13 (by decide) rfl (fun l5 hl6 => ?_)
    refine lv_iload_n hx hb dX10_valueOf_14 rfl (lv_at hl6 2 rfl) ?_
    obtain ⟨v7, ev7, tv7⟩ : ∃ v : Int32, (Int8.ofInt (16)).toInt32 = v ∧ v.toInt = 16 := ⟨_, rfl, by decide +kernel⟩
    refine lv_bipush hx hb dX10_valueOf_15 ev7 ?_
    refine lv_irem hx hb dX10_valueOf_17 (fun q => by have := nu_eq0 q; omega) ?_
    refine lv_topi (fun v8 ev8 => ?_)
    have tv8 := nu_remc (16) ev8 (by omega) (by omega) (by omega)
    rcases (show (v8.toInt < 0 ∨ 7 < v8.toInt) ∨ v8.toInt = 0 ∨ v8.toInt = 1 ∨ v8.toInt = 2 ∨ v8.toInt = 3 ∨ v8.toInt = 4 ∨ v8.toInt = 5 ∨ v8.toInt = 6 ∨ v8.toInt = 7 from by omega) with c9 | c9 | c9 | c9 | c9 | c9 | c9 | c9 | c9
    · skip
      refine lv_tableOut (tgt := 117) hx hb dX10_valueOf_18 c9 (by decide) ?_
      obtain ⟨v10, ev10, tv10⟩ : ∃ v : Int32, Int32.ofInt (1) = v ∧ v.toInt = 1 := ⟨_, rfl, by decide +kernel⟩
      refine lv_iconst hx hb dX10_valueOf_117 ev10 ?_
      rw [← hQ]
      exact en_i Z S_13 F0_ rfl dX10_valueOf_118
    · skip
      refine lv_tableIn (tgt := 64) (off := 46) hx hb dX10_valueOf_18 (by omega) (by omega) (by rw [show (v8.toInt - 0).toNat = 0 from by omega]; rfl) (by decide) ?_
      refine lv_aload_n hx hb dX10_valueOf_64 rfl (lv_at hl6 1 rfl) ?_
      refine tr_getr Z.1 Z.2.2.2.1 S_13.1 S_13.2 ha0 ta0 rfl rfl (fun _ h => List.mem_cons_of_mem _ (List.mem_append_right _ h)) 10 (by decide) rfl (hts _ (List.mem_of_getElem? (i := 1) rfl)) dX10_valueOf_65 (fun q11 eq11 hq11 tq11 => ?_)
      have tq11 : τ q11 = (64, 0) := tq11
      refine lv_iload_n hx hb dX10_valueOf_68 rfl (lv_at hl6 0 rfl) ?_
      refine tr_iald Z.1 Z.2.2.2.1 S_13.1 S_13.2 hq11 tq11 rfl (by omega) (by omega) dX10_valueOf_69 (fun v12 ev12 lv12 uv12 => ?_)
      rw [← hQ]
      exact en_i Z S_13 F0_ rfl dX10_valueOf_70
    · skip
      refine lv_tableIn (tgt := 71) (off := 53) hx hb dX10_valueOf_18 (by omega) (by omega) (by rw [show (v8.toInt - 0).toNat = 1 from by omega]; rfl) (by decide) ?_
      refine lv_aload_n hx hb dX10_valueOf_71 rfl (lv_at hl6 1 rfl) ?_
      refine tr_getr Z.1 Z.2.2.2.1 S_13.1 S_13.2 ha0 ta0 rfl rfl (fun _ h => List.mem_cons_of_mem _ (List.mem_append_right _ h)) 12 (by decide) rfl (hts _ (List.mem_of_getElem? (i := 2) rfl)) dX10_valueOf_72 (fun q13 eq13 hq13 tq13 => ?_)
      have tq13 : τ q13 = (66, 0) := tq13
      refine lv_iload_n hx hb dX10_valueOf_75 rfl (lv_at hl6 0 rfl) ?_
      refine tr_iald Z.1 Z.2.2.2.1 S_13.1 S_13.2 hq13 tq13 rfl (by omega) (by omega) dX10_valueOf_76 (fun v14 ev14 lv14 uv14 => ?_)
      rw [← hQ]
      exact en_i Z S_13 F0_ rfl dX10_valueOf_77
    · skip
      refine lv_tableIn (tgt := 78) (off := 60) hx hb dX10_valueOf_18 (by omega) (by omega) (by rw [show (v8.toInt - 0).toNat = 2 from by omega]; rfl) (by decide) ?_
      refine lv_aload_n hx hb dX10_valueOf_78 rfl (lv_at hl6 1 rfl) ?_
      refine tr_getr Z.1 Z.2.2.2.1 S_13.1 S_13.2 ha0 ta0 rfl rfl (fun _ h => List.mem_cons_of_mem _ (List.mem_append_right _ h)) 13 (by decide) rfl (hts _ (List.mem_of_getElem? (i := 3) rfl)) dX10_valueOf_79 (fun q15 eq15 hq15 tq15 => ?_)
      have tq15 : τ q15 = (67, 0) := tq15
      refine lv_iload_n hx hb dX10_valueOf_82 rfl (lv_at hl6 0 rfl) ?_
      refine tr_iald Z.1 Z.2.2.2.1 S_13.1 S_13.2 hq15 tq15 rfl (by omega) (by omega) dX10_valueOf_83 (fun v16 ev16 lv16 uv16 => ?_)
      rw [← hQ]
      exact en_i Z S_13 F0_ rfl dX10_valueOf_84
    · skip
      refine lv_tableIn (tgt := 85) (off := 67) hx hb dX10_valueOf_18 (by omega) (by omega) (by rw [show (v8.toInt - 0).toNat = 3 from by omega]; rfl) (by decide) ?_
      refine lv_aload_n hx hb dX10_valueOf_85 rfl (lv_at hl6 1 rfl) ?_
      refine tr_getr Z.1 Z.2.2.2.1 S_13.1 S_13.2 ha0 ta0 rfl rfl (fun _ h => List.mem_cons_of_mem _ (List.mem_append_right _ h)) 15 (by decide) rfl (hts _ (List.mem_of_getElem? (i := 4) rfl)) dX10_valueOf_86 (fun q17 eq17 hq17 tq17 => ?_)
      have tq17 : τ q17 = (69, 0) := tq17
      refine lv_iload_n hx hb dX10_valueOf_89 rfl (lv_at hl6 0 rfl) ?_
      refine tr_iald Z.1 Z.2.2.2.1 S_13.1 S_13.2 hq17 tq17 rfl (by omega) (by omega) dX10_valueOf_90 (fun v18 ev18 lv18 uv18 => ?_)
      rw [← hQ]
      exact en_i Z S_13 F0_ rfl dX10_valueOf_91
    · skip
      refine lv_tableIn (tgt := 92) (off := 74) hx hb dX10_valueOf_18 (by omega) (by omega) (by rw [show (v8.toInt - 0).toNat = 4 from by omega]; rfl) (by decide) ?_
      refine lv_aload_n hx hb dX10_valueOf_92 rfl (lv_at hl6 1 rfl) ?_
      refine tr_getr Z.1 Z.2.2.2.1 S_13.1 S_13.2 ha0 ta0 rfl rfl (fun _ h => List.mem_cons_of_mem _ (List.mem_append_right _ h)) 0 (by decide) rfl (hts _ (List.mem_of_getElem? (i := 5) rfl)) dX10_valueOf_93 (fun q19 eq19 hq19 tq19 => ?_)
      have tq19 : τ q19 = (60, 0) := tq19
      obtain ⟨v20, ev20, tv20⟩ : ∃ v : Int32, Int32.ofInt (1) = v ∧ v.toInt = 1 := ⟨_, rfl, by decide +kernel⟩
      refine lv_iconst hx hb dX10_valueOf_96 ev20 ?_
      refine tr_ialdx Z.1 Z.2.2.2.1 S_13.1 S_13.2 hq19 tq19 rfl (by omega) (by omega) dX10_valueOf_97 (fun v21 ev21 lv21 uv21 => ?_)
      have bv21 : nowB v20.toNatClampNeg = (-2147483648, 2147483647) := nb_o (by show v20.toInt.toNat < 4 ∨ (8 ≤ v20.toInt.toNat ∧ v20.toInt.toNat ≤ 18) ∨ (20 ≤ v20.toInt.toNat ∧ v20.toInt.toNat ≤ 43); omega)
      rw [bv21] at lv21 uv21
      have lv21 : -2147483648 ≤ v21.toInt := lv21
      have uv21 : v21.toInt ≤ 2147483647 := uv21
      have av21 : ai E q19 1 = v21 := ai_at ev21 (by omega)
      rw [← hQ]
      exact en_i Z S_13 F0_ rfl dX10_valueOf_98
    · skip
      refine lv_tableIn (tgt := 99) (off := 81) hx hb dX10_valueOf_18 (by omega) (by omega) (by rw [show (v8.toInt - 0).toNat = 5 from by omega]; rfl) (by decide) ?_
      refine lv_aload_n hx hb dX10_valueOf_99 rfl (lv_at hl6 1 rfl) ?_
      refine tr_geti Z.1 Z.2.2.2.1 S_13.1 S_13.2 ha0 ta0 rfl rfl (fun _ h => List.mem_cons_of_mem _ (List.mem_append_right _ h)) 8 (by decide) rfl (hts _ (List.mem_of_getElem? (i := 6) rfl)) dX10_valueOf_100 (fun v22 ev22 lv22 uv22 => ?_)
      obtain ⟨v23, ev23, tv23⟩ : ∃ v : Int32, Int32.ofInt (1) = v ∧ v.toInt = 1 := ⟨_, rfl, by decide +kernel⟩
      refine lv_iconst hx hb dX10_valueOf_103 ev23 ?_
      refine lv_iadd hx hb dX10_valueOf_104 ?_
      refine lv_topi (fun v24 ev24 => ?_)
      have tv24 := nu_add ev24 (by omega) (by omega)
      rw [← hQ]
      exact en_i Z S_13 F0_ rfl dX10_valueOf_105
    · skip
      refine lv_tableIn (tgt := 106) (off := 88) hx hb dX10_valueOf_18 (by omega) (by omega) (by rw [show (v8.toInt - 0).toNat = 6 from by omega]; rfl) (by decide) ?_
      refine lv_iload_n hx hb dX10_valueOf_106 rfl (lv_at hl6 0 rfl) ?_
      obtain ⟨v25, ev25, tv25⟩ : ∃ v : Int32, Int32.ofInt (1) = v ∧ v.toInt = 1 := ⟨_, rfl, by decide +kernel⟩
      refine lv_iconst hx hb dX10_valueOf_107 ev25 ?_
      refine lv_iadd hx hb dX10_valueOf_108 ?_
      refine lv_topi (fun v26 ev26 => ?_)
      have tv26 := nu_add ev26 (by omega) (by omega)
      rw [← hQ]
      exact en_i Z S_13 F0_ rfl dX10_valueOf_109
    · skip
      refine lv_tableIn (tgt := 110) (off := 92) hx hb dX10_valueOf_18 (by omega) (by omega) (by rw [show (v8.toInt - 0).toNat = 7 from by omega]; rfl) (by decide) ?_
      refine lv_aload_n hx hb dX10_valueOf_110 rfl (lv_at hl6 1 rfl) ?_
      refine tr_getr Z.1 Z.2.2.2.1 S_13.1 S_13.2 ha0 ta0 rfl rfl (fun _ h => List.mem_cons_of_mem _ (List.mem_append_right _ h)) 9 (by decide) rfl (hts _ (List.mem_of_getElem? (i := 7) rfl)) dX10_valueOf_111 (fun q27 eq27 hq27 tq27 => ?_)
      have tq27 : τ q27 = (63, 0) := tq27
      refine lv_iload_n hx hb dX10_valueOf_114 rfl (lv_at hl6 0 rfl) ?_
      refine tr_iald Z.1 Z.2.2.2.1 S_13.1 S_13.2 hq27 tq27 rfl (by omega) (by omega) dX10_valueOf_115 (fun v28 ev28 lv28 uv28 => ?_)
      rw [← hQ]
      exact en_i Z S_13 F0_ rfl dX10_valueOf_116
  refine lv_iload_n hx hb dX10_valueOf_0 rfl (lv_at hl 1 rfl) ?_
  obtain ⟨v29, ev29, tv29⟩ : ∃ v : Int32, (Int8.ofInt (15)).toInt32 = v ∧ v.toInt = 15 := ⟨_, rfl, by decide +kernel⟩
  refine lv_bipush hx hb dX10_valueOf_1 ev29 ?_
  refine lv_icmp_le (tgt := 12) hx hb dX10_valueOf_3 (by decide) (fun c30 => ?_) (fun c30 => ?_)
  · skip
    have tc30 := nu_le c30
    refine lv_iload_n hx hb dX10_valueOf_12 rfl (lv_at hl 2 rfl) ?_
    exact J13 a2 s.heap [] ls S0 (by omega) (by omega) (by omega) (by omega) (lv_sub hl [0, 1] rfl)
  · skip
    have tc30 := nu_nle c30
    refine lv_iload_n hx hb dX10_valueOf_6 rfl (lv_at hl 2 rfl) ?_
    obtain ⟨v31, ev31, tv31⟩ : ∃ v : Int32, Int32.ofInt (1) = v ∧ v.toInt = 1 := ⟨_, rfl, by decide +kernel⟩
    refine lv_iconst hx hb dX10_valueOf_7 ev31 ?_
    refine lv_iadd hx hb dX10_valueOf_8 ?_
    refine lv_topi (fun v32 ev32 => ?_)
    have tv32 := nu_add ev32 (by omega) (by omega)
    refine lv_goto (tgt := 13) hx hb dX10_valueOf_9 (by decide) ?_
    exact J13 v32 s.heap [] ls S0 (by omega) (by omega) (by omega) (by omega) (lv_sub hl [0, 1] rfl)

theorem dX10_feed_0 : decode cX10_feed 0 = .ok (.aload_n 0, 1) := by decide +kernel
theorem dX10_feed_1 : decode cX10_feed 1 = .ok (.iconst 0, 1) := by decide +kernel
theorem dX10_feed_2 : decode cX10_feed 2 = .ok (.putfield 97, 3) := by decide +kernel
theorem dX10_feed_5 : decode cX10_feed 5 = .ok (.aload_n 0, 1) := by decide +kernel
theorem dX10_feed_6 : decode cX10_feed 6 = .ok (.getfield 148, 3) := by decide +kernel
theorem dX10_feed_9 : decode cX10_feed 9 = .ok (.bipush 20, 2) := by decide +kernel
theorem dX10_feed_11 : decode cX10_feed 11 = .ok (.iadd, 1) := by decide +kernel
theorem dX10_feed_12 : decode cX10_feed 12 = .ok (.bipush 120, 2) := by decide +kernel
theorem dX10_feed_14 : decode cX10_feed 14 = .ok (.if_icmp .le 5, 3) := by decide +kernel
theorem dX10_feed_17 : decode cX10_feed 17 = .ok (.iconst (-1), 1) := by decide +kernel
theorem dX10_feed_18 : decode cX10_feed 18 = .ok (.ireturn, 1) := by decide +kernel
theorem dX10_feed_19 : decode cX10_feed 19 = .ok (.iconst 0, 1) := by decide +kernel
theorem dX10_feed_20 : decode cX10_feed 20 = .ok (.istore 6, 2) := by decide +kernel
theorem dX10_feed_22 : decode cX10_feed 22 = .ok (.iload 6, 2) := by decide +kernel
theorem dX10_feed_24 : decode cX10_feed 24 = .ok (.bipush 20, 2) := by decide +kernel
theorem dX10_feed_26 : decode cX10_feed 26 = .ok (.if_icmp .ge 90, 3) := by decide +kernel
theorem dX10_feed_29 : decode cX10_feed 29 = .ok (.iload 6, 2) := by decide +kernel
theorem dX10_feed_31 : decode cX10_feed 31 = .ok (.iconst 4, 1) := by decide +kernel
theorem dX10_feed_32 : decode cX10_feed 32 = .ok (.if_icmp .ge 7, 3) := by decide +kernel
theorem dX10_feed_35 : decode cX10_feed 35 = .ok (.iload_n 1, 1) := by decide +kernel
theorem dX10_feed_36 : decode cX10_feed 36 = .ok (.goto 39, 3) := by decide +kernel
theorem dX10_feed_39 : decode cX10_feed 39 = .ok (.iload 6, 2) := by decide +kernel
theorem dX10_feed_41 : decode cX10_feed 41 = .ok (.bipush 8, 2) := by decide +kernel
theorem dX10_feed_43 : decode cX10_feed 43 = .ok (.if_icmp .ge 7, 3) := by decide +kernel
theorem dX10_feed_46 : decode cX10_feed 46 = .ok (.iload_n 2, 1) := by decide +kernel
theorem dX10_feed_47 : decode cX10_feed 47 = .ok (.goto 28, 3) := by decide +kernel
theorem dX10_feed_50 : decode cX10_feed 50 = .ok (.iload 6, 2) := by decide +kernel
theorem dX10_feed_52 : decode cX10_feed 52 = .ok (.bipush 12, 2) := by decide +kernel
theorem dX10_feed_54 : decode cX10_feed 54 = .ok (.if_icmp .ge 7, 3) := by decide +kernel
theorem dX10_feed_57 : decode cX10_feed 57 = .ok (.iload_n 3, 1) := by decide +kernel
theorem dX10_feed_58 : decode cX10_feed 58 = .ok (.goto 17, 3) := by decide +kernel
theorem dX10_feed_61 : decode cX10_feed 61 = .ok (.iload 6, 2) := by decide +kernel
theorem dX10_feed_63 : decode cX10_feed 63 = .ok (.bipush 16, 2) := by decide +kernel
theorem dX10_feed_65 : decode cX10_feed 65 = .ok (.if_icmp .ge 8, 3) := by decide +kernel
theorem dX10_feed_68 : decode cX10_feed 68 = .ok (.iload 4, 2) := by decide +kernel
theorem dX10_feed_70 : decode cX10_feed 70 = .ok (.goto 5, 3) := by decide +kernel
theorem dX10_feed_73 : decode cX10_feed 73 = .ok (.iload 5, 2) := by decide +kernel
theorem dX10_feed_75 : decode cX10_feed 75 = .ok (.istore 7, 2) := by decide +kernel
theorem dX10_feed_77 : decode cX10_feed 77 = .ok (.aload_n 0, 1) := by decide +kernel
theorem dX10_feed_78 : decode cX10_feed 78 = .ok (.getfield 50, 3) := by decide +kernel
theorem dX10_feed_81 : decode cX10_feed 81 = .ok (.aload_n 0, 1) := by decide +kernel
theorem dX10_feed_82 : decode cX10_feed 82 = .ok (.getfield 148, 3) := by decide +kernel
theorem dX10_feed_85 : decode cX10_feed 85 = .ok (.iload 7, 2) := by decide +kernel
theorem dX10_feed_87 : decode cX10_feed 87 = .ok (.bipush 24, 2) := by decide +kernel
theorem dX10_feed_89 : decode cX10_feed 89 = .ok (.bipush 8, 2) := by decide +kernel
theorem dX10_feed_91 : decode cX10_feed 91 = .ok (.iload 6, 2) := by decide +kernel
theorem dX10_feed_93 : decode cX10_feed 93 = .ok (.iconst 4, 1) := by decide +kernel
theorem dX10_feed_94 : decode cX10_feed 94 = .ok (.irem, 1) := by decide +kernel
theorem dX10_feed_95 : decode cX10_feed 95 = .ok (.imul, 1) := by decide +kernel
theorem dX10_feed_96 : decode cX10_feed 96 = .ok (.isub, 1) := by decide +kernel
theorem dX10_feed_97 : decode cX10_feed 97 = .ok (.ishr, 1) := by decide +kernel
theorem dX10_feed_98 : decode cX10_feed 98 = .ok (.i2b, 1) := by decide +kernel
theorem dX10_feed_99 : decode cX10_feed 99 = .ok (.bastore, 1) := by decide +kernel
theorem dX10_feed_100 : decode cX10_feed 100 = .ok (.aload_n 0, 1) := by decide +kernel
theorem dX10_feed_101 : decode cX10_feed 101 = .ok (.dup, 1) := by decide +kernel
theorem dX10_feed_102 : decode cX10_feed 102 = .ok (.getfield 148, 3) := by decide +kernel
theorem dX10_feed_105 : decode cX10_feed 105 = .ok (.iconst 1, 1) := by decide +kernel
theorem dX10_feed_106 : decode cX10_feed 106 = .ok (.iadd, 1) := by decide +kernel
theorem dX10_feed_107 : decode cX10_feed 107 = .ok (.putfield 148, 3) := by decide +kernel
theorem dX10_feed_110 : decode cX10_feed 110 = .ok (.iinc 6 1, 3) := by decide +kernel
theorem dX10_feed_113 : decode cX10_feed 113 = .ok (.goto (-91), 3) := by decide +kernel
theorem dX10_feed_116 : decode cX10_feed 116 = .ok (.aload_n 0, 1) := by decide +kernel
theorem dX10_feed_117 : decode cX10_feed 117 = .ok (.getfield 148, 3) := by decide +kernel
theorem dX10_feed_120 : decode cX10_feed 120 = .ok (.ireturn, 1) := by decide +kernel
set_option maxHeartbeats 4000000 in
set_option maxRecDepth 100000 in
theorem k_X10_feed (l : Launch) (D : va_G) (cy : Nat → ClassId) {L : List Nat} {τ : Nat → Ro} {E : Ec} (hI : Inv TB cy L τ E) {a0 : Nat} (ha0 : a0 ∈ L) (ta0 : τ a0 = (11, 0)) (a1 : Int32) (a2 : Int32) (a3 : Int32) (a4 : Int32) (a5 : Int32) : CtI l yX10_feed wsX10_feed { frames := 0, cells := 0, slots := 0, locals := 0 } D TB cy L τ E [.ref a0, .int a1, .int a2, .int a3, .int a4, .int a5] (inW [(11, 0), (72, 0)]) (fun r E' => True) := by
  intro sz
  refine sta (cc := cX10_feed) (maxL := 8) hI (by decide) rfl (Nat.le_of_ble_eq_true rfl) (fun p e s m args below meth c ls hsz Z S0 hl => ?_)
  have hx := Z.1.1
  have hb := Z.1.2.1
  have hts := Z.1.2.2.2.2
  have F0_ : Fr L τ (inW [(11, 0), (72, 0)]) E E := Fr.refl
  have hl : lv_has ls 8 [(0, .ref a0), (1, .int a1), (2, .int a2), (3, .int a3), (4, .int a4), (5, .int a5)] := hl
  generalize hQ : MQ below _ args s 0 0 _ = QQ
  have J22 : ∀ (n : Nat) (x6_22 : Int32) (E_22 : Ec) (H_22 : Heap) (k_22 : List Loc) (l_22 : Array Slot), Now D TB cy (va_A (va_pl L E) sz) s L τ E_22 H_22 k_22 → Fr L τ (inW [(11, 0), (72, 0)]) E E_22 → (0 ≤ x6_22.toInt) → (x6_22.toInt ≤ 20) → (0 ≤ (fi E_22 a0 20).toInt ∧ (fi E_22 a0 20).toInt ≤ 120 ∧ (fi E_22 a0 20).toInt ≤ 100 + x6_22.toInt) → (20 - x6_22.toInt).toNat < n → lv_has l_22 8 [(0, .ref a0), (1, .int a1), (2, .int a2), (3, .int a3), (4, .int a4), (5, .int a5), (6, .int x6_22)] → W p l e { frames := 0, cells := 0, slots := 0, locals := 0 } s m args below meth c H_22 k_22 0 0 QQ (F0 m 22 l_22 []) := by
    intro n
    induction n with
    | zero => intro x6_22 E_22 H_22 k_22 l_22 S_22 F_22 z1 z2 z3 hm hl_22; exact absurd hm (Nat.not_lt_zero _)
    | succ n ih =>
      intro x6_22 E_22 H_22 k_22 l_22 S_22 F_22 z1 z2 z3 hm hl_22
      have ih_22 := ih
      have J75 : ∀ (y0_75 : Int32) (E_75 : Ec) (H_75 : Heap) (k_75 : List Loc) (l_75 : Array Slot), Now D TB cy (va_A (va_pl L E) sz) s L τ E_75 H_75 k_75 → Fr L τ (inW [(11, 0), (72, 0)]) E E_75 → (0 ≤ x6_22.toInt) → (x6_22.toInt ≤ 19) → (0 ≤ (fi E_75 a0 20).toInt ∧ (fi E_75 a0 20).toInt ≤ 120 ∧ (fi E_75 a0 20).toInt ≤ 100 + x6_22.toInt) → lv_has l_75 8 [(0, .ref a0), (1, .int a1), (2, .int a2), (3, .int a3), (4, .int a4), (5, .int a5), (6, .int x6_22)] → W p l e { frames := 0, cells := 0, slots := 0, locals := 0 } s m args below meth c H_75 k_75 0 0 QQ (F0 m 75 l_75 [.int y0_75]) := by
        intro y0_75 E_75 H_75 k_75 l_75 S_75 F_75 z4 z5 z6 hl_75
        refine lv_istore (lv' := [(7, .int y0_75), (0, .ref a0), (1, .int a1), (2, .int a2), (3, .int a3), (4, .int a4), (5, .int a5), (6, .int x6_22)]) hx hb dX10_feed_75 hl_75 (by decide) rfl (fun l7 hl8 => ?_)
        refine lv_aload_n hx hb dX10_feed_77 rfl (lv_at hl8 1 rfl) ?_
        refine tr_getr Z.1 Z.2.2.2.1 S_75.1 S_75.2 ha0 ta0 rfl rfl (fun _ h => List.mem_cons_of_mem _ (List.mem_append_right _ h)) 18 (by decide) rfl (hts _ (List.mem_of_getElem? (i := 3) rfl)) dX10_feed_78 (fun q9 eq9 hq9 tq9 => ?_)
        have tq9 : τ q9 = (72, 0) := tq9
        refine lv_aload_n hx hb dX10_feed_81 rfl (lv_at hl8 1 rfl) ?_
        refine tr_geti Z.1 Z.2.2.2.1 S_75.1 S_75.2 ha0 ta0 rfl rfl (fun _ h => List.mem_cons_of_mem _ (List.mem_append_right _ h)) 20 (by decide) rfl (hts _ (List.mem_of_getElem? (i := 2) rfl)) dX10_feed_82 (fun v10 ev10 lv10 uv10 => ?_)
        have wv10 : v10 = (fi E_75 a0 20) := ev10.symm.trans rfl
        have xv10 : v10.toInt = (fi E_75 a0 20).toInt := by rw [wv10]
        refine lv_iload hx hb dX10_feed_85 (lv_at hl8 0 rfl) ?_
        obtain ⟨v11, ev11, tv11⟩ : ∃ v : Int32, (Int8.ofInt (24)).toInt32 = v ∧ v.toInt = 24 := ⟨_, rfl, by decide +kernel⟩
        refine lv_bipush hx hb dX10_feed_87 ev11 ?_
        obtain ⟨v12, ev12, tv12⟩ : ∃ v : Int32, (Int8.ofInt (8)).toInt32 = v ∧ v.toInt = 8 := ⟨_, rfl, by decide +kernel⟩
        refine lv_bipush hx hb dX10_feed_89 ev12 ?_
        refine lv_iload hx hb dX10_feed_91 (lv_at hl8 7 rfl) ?_
        obtain ⟨v13, ev13, tv13⟩ : ∃ v : Int32, Int32.ofInt (4) = v ∧ v.toInt = 4 := ⟨_, rfl, by decide +kernel⟩
        refine lv_iconst hx hb dX10_feed_93 ev13 ?_
        refine lv_irem hx hb dX10_feed_94 (fun q => by have := nu_eq0 q; omega) ?_
        refine lv_topi (fun v14 ev14 => ?_)
        have tv14 := nu_remc (4) ev14 (by omega) (by omega) (by omega)
        refine lv_imul hx hb dX10_feed_95 ?_
        refine lv_topi (fun v15 ev15 => ?_)
        have tv15 := nu_mulc' (8) ev15 (by omega) (by omega) (by omega)
        refine lv_isub hx hb dX10_feed_96 ?_
        refine lv_topi (fun v16 ev16 => ?_)
        have tv16 := nu_sub ev16 (by omega) (by omega)
        refine lv_ishr hx hb dX10_feed_97 ?_
        refine lv_topi (fun v17 ev17 => ?_)
        obtain ⟨v18, ev18⟩ : ∃ y : Int32, v17.toInt8.toInt32 = y := ⟨_, rfl⟩
        refine lv_i2b hx hb dX10_feed_98 ev18 ?_
        refine tr_bast Z.1 Z.2.2.2.1 S_75.1 S_75.2 hq9 tq9 rfl (by omega) (by omega) dX10_feed_99 (fun E19 H20 k21 W19 I19 P19 => ?_)
        have S19 : Now D TB cy (va_A (va_pl L E) sz) s L τ E19 H20 k21 := ⟨W19, I19⟩
        have F19 : Fr L τ (inW [(11, 0), (72, 0)]) E E19 := Fr.set F_75 P19 tq9 rfl
        refine lv_aload_n hx hb dX10_feed_100 rfl (lv_at hl8 1 rfl) ?_
        refine lv_dup hx hb dX10_feed_101 rfl ?_
        refine tr_geti Z.1 Z.2.2.2.1 S19.1 S19.2 ha0 ta0 rfl rfl (fun _ h => List.mem_cons_of_mem _ (List.mem_append_right _ h)) 20 (by decide) rfl (hts _ (List.mem_of_getElem? (i := 2) rfl)) dX10_feed_102 (fun v22 ev22 lv22 uv22 => ?_)
        have wv22 : v22 = v10 := ev22.symm.trans ((fi_set P19 (ne_ro ta0 tq9 (by decide))).trans ev10)
        have xv22 : v22.toInt = v10.toInt := by rw [wv22]
        obtain ⟨v23, ev23, tv23⟩ : ∃ v : Int32, Int32.ofInt (1) = v ∧ v.toInt = 1 := ⟨_, rfl, by decide +kernel⟩
        refine lv_iconst hx hb dX10_feed_105 ev23 ?_
        refine lv_iadd hx hb dX10_feed_106 ?_
        refine lv_topi (fun v24 ev24 => ?_)
        have tv24 := nu_add ev24 (by omega) (by omega)
        refine tr_puti Z.1 Z.2.2.2.1 S19.1 S19.2 ha0 ta0 rfl rfl (fun _ h => List.mem_cons_of_mem _ (List.mem_append_right _ h)) tyX10_ok nmX10 20 (by decide) rfl rfl rfl (hts _ (List.mem_of_getElem? (i := 2) rfl)) dX10_feed_107 (by omega) (by omega) (fun E25 H26 k27 W25 I25 P25 => ?_)
        have S25 : Now D TB cy (va_A (va_pl L E) sz) s L τ E25 H26 k27 := ⟨W25, I25⟩
        have F25 : Fr L τ (inW [(11, 0), (72, 0)]) E E25 := Fr.put F19 P25 ta0 rfl
        obtain ⟨v28, ev28⟩ : ∃ y : Int32, x6_22 + Int32.ofInt (1) = y := ⟨_, rfl⟩
        have tv28 : v28.toInt = x6_22.toInt + (1) := by rw [← ev28]; exact (fb_addI (by rw [show (Int32.ofInt (1)).toInt = 1 from by decide +kernel]; omega) (by rw [show (Int32.ofInt (1)).toInt = 1 from by decide +kernel]; omega)).trans (by rw [show (Int32.ofInt (1)).toInt = 1 from by decide +kernel])
        refine lv_iinc (v := v28) (lv' := [(6, .int v28), (7, .int y0_75), (0, .ref a0), (1, .int a1), (2, .int a2), (3, .int a3), (4, .int a4), (5, .int a5)]) hx hb dX10_feed_110 hl8 (k := 7) rfl ev28 (by decide) rfl (fun l29 hl30 => ?_)
        refine lv_goto (tgt := 22) hx hb dX10_feed_113 (by decide) ?_
        exact ih_22 v28 E25 H26 k27 l29 S25 F25 (by have := fb_rng y0_75; have := fb_rng a1; have := fb_rng a2; have := fb_rng a3; have := fb_rng a4; have := fb_rng a5; omega) (by have := fb_rng y0_75; have := fb_rng a1; have := fb_rng a2; have := fb_rng a3; have := fb_rng a4; have := fb_rng a5; omega) (by rw [(fi_at P25)]; have := fb_rng y0_75; have := fb_rng a1; have := fb_rng a2; have := fb_rng a3; have := fb_rng a4; have := fb_rng a5; omega) (by omega) (lv_sub hl30 [2, 3, 4, 5, 6, 7, 0] rfl)
      refine lv_iload hx hb dX10_feed_22 (lv_at hl_22 6 rfl) ?_
      obtain ⟨v31, ev31, tv31⟩ : ∃ v : Int32, (Int8.ofInt (20)).toInt32 = v ∧ v.toInt = 20 := ⟨_, rfl, by decide +kernel⟩
      refine lv_bipush hx hb dX10_feed_24 ev31 ?_
      refine lv_icmp_ge (tgt := 116) hx hb dX10_feed_26 (by decide) (fun c32 => ?_) (fun c32 => ?_)
      · skip
        have tc32 := nu_le c32
        refine lv_aload_n hx hb dX10_feed_116 rfl (lv_at hl_22 0 rfl) ?_
        refine tr_geti Z.1 Z.2.2.2.1 S_22.1 S_22.2 ha0 ta0 rfl rfl (fun _ h => List.mem_cons_of_mem _ (List.mem_append_right _ h)) 20 (by decide) rfl (hts _ (List.mem_of_getElem? (i := 2) rfl)) dX10_feed_117 (fun v33 ev33 lv33 uv33 => ?_)
        have wv33 : v33 = (fi E_22 a0 20) := ev33.symm.trans rfl
        have xv33 : v33.toInt = (fi E_22 a0 20).toInt := by rw [wv33]
        rw [← hQ]
        exact en_i Z S_22 F_22 trivial dX10_feed_120
      · skip
        have tc32 := nu_nle c32
        refine lv_iload hx hb dX10_feed_29 (lv_at hl_22 6 rfl) ?_
        obtain ⟨v34, ev34, tv34⟩ : ∃ v : Int32, Int32.ofInt (4) = v ∧ v.toInt = 4 := ⟨_, rfl, by decide +kernel⟩
        refine lv_iconst hx hb dX10_feed_31 ev34 ?_
        refine lv_icmp_ge (tgt := 39) hx hb dX10_feed_32 (by decide) (fun c35 => ?_) (fun c35 => ?_)
        · skip
          have tc35 := nu_le c35
          refine lv_iload hx hb dX10_feed_39 (lv_at hl_22 6 rfl) ?_
          obtain ⟨v36, ev36, tv36⟩ : ∃ v : Int32, (Int8.ofInt (8)).toInt32 = v ∧ v.toInt = 8 := ⟨_, rfl, by decide +kernel⟩
          refine lv_bipush hx hb dX10_feed_41 ev36 ?_
          refine lv_icmp_ge (tgt := 50) hx hb dX10_feed_43 (by decide) (fun c37 => ?_) (fun c37 => ?_)
          · skip
            have tc37 := nu_le c37
            refine lv_iload hx hb dX10_feed_50 (lv_at hl_22 6 rfl) ?_
            obtain ⟨v38, ev38, tv38⟩ : ∃ v : Int32, (Int8.ofInt (12)).toInt32 = v ∧ v.toInt = 12 := ⟨_, rfl, by decide +kernel⟩
            refine lv_bipush hx hb dX10_feed_52 ev38 ?_
            refine lv_icmp_ge (tgt := 61) hx hb dX10_feed_54 (by decide) (fun c39 => ?_) (fun c39 => ?_)
            · skip
              have tc39 := nu_le c39
              refine lv_iload hx hb dX10_feed_61 (lv_at hl_22 6 rfl) ?_
              obtain ⟨v40, ev40, tv40⟩ : ∃ v : Int32, (Int8.ofInt (16)).toInt32 = v ∧ v.toInt = 16 := ⟨_, rfl, by decide +kernel⟩
              refine lv_bipush hx hb dX10_feed_63 ev40 ?_
              refine lv_icmp_ge (tgt := 73) hx hb dX10_feed_65 (by decide) (fun c41 => ?_) (fun c41 => ?_)
              · skip
                have tc41 := nu_le c41
                refine lv_iload hx hb dX10_feed_73 (lv_at hl_22 5 rfl) ?_
                exact J75 a5 E_22 H_22 k_22 l_22 S_22 F_22 (by have := fb_rng a1; have := fb_rng a2; have := fb_rng a3; have := fb_rng a4; have := fb_rng a5; omega) (by have := fb_rng a1; have := fb_rng a2; have := fb_rng a3; have := fb_rng a4; have := fb_rng a5; omega) (by have := fb_rng a1; have := fb_rng a2; have := fb_rng a3; have := fb_rng a4; have := fb_rng a5; omega) (lv_sub hl_22 [0, 1, 2, 3, 4, 5, 6] rfl)
              · skip
                have tc41 := nu_nle c41
                refine lv_iload hx hb dX10_feed_68 (lv_at hl_22 4 rfl) ?_
                refine lv_goto (tgt := 75) hx hb dX10_feed_70 (by decide) ?_
                exact J75 a4 E_22 H_22 k_22 l_22 S_22 F_22 (by have := fb_rng a1; have := fb_rng a2; have := fb_rng a3; have := fb_rng a4; have := fb_rng a5; omega) (by have := fb_rng a1; have := fb_rng a2; have := fb_rng a3; have := fb_rng a4; have := fb_rng a5; omega) (by have := fb_rng a1; have := fb_rng a2; have := fb_rng a3; have := fb_rng a4; have := fb_rng a5; omega) (lv_sub hl_22 [0, 1, 2, 3, 4, 5, 6] rfl)
            · skip
              have tc39 := nu_nle c39
              refine lv_iload_n hx hb dX10_feed_57 rfl (lv_at hl_22 3 rfl) ?_
              refine lv_goto (tgt := 75) hx hb dX10_feed_58 (by decide) ?_
              exact J75 a3 E_22 H_22 k_22 l_22 S_22 F_22 (by have := fb_rng a1; have := fb_rng a2; have := fb_rng a3; have := fb_rng a4; have := fb_rng a5; omega) (by have := fb_rng a1; have := fb_rng a2; have := fb_rng a3; have := fb_rng a4; have := fb_rng a5; omega) (by have := fb_rng a1; have := fb_rng a2; have := fb_rng a3; have := fb_rng a4; have := fb_rng a5; omega) (lv_sub hl_22 [0, 1, 2, 3, 4, 5, 6] rfl)
          · skip
            have tc37 := nu_nle c37
            refine lv_iload_n hx hb dX10_feed_46 rfl (lv_at hl_22 2 rfl) ?_
            refine lv_goto (tgt := 75) hx hb dX10_feed_47 (by decide) ?_
            exact J75 a2 E_22 H_22 k_22 l_22 S_22 F_22 (by have := fb_rng a1; have := fb_rng a2; have := fb_rng a3; have := fb_rng a4; have := fb_rng a5; omega) (by have := fb_rng a1; have := fb_rng a2; have := fb_rng a3; have := fb_rng a4; have := fb_rng a5; omega) (by have := fb_rng a1; have := fb_rng a2; have := fb_rng a3; have := fb_rng a4; have := fb_rng a5; omega) (lv_sub hl_22 [0, 1, 2, 3, 4, 5, 6] rfl)
        · skip
          have tc35 := nu_nle c35
          refine lv_iload_n hx hb dX10_feed_35 rfl (lv_at hl_22 1 rfl) ?_
          refine lv_goto (tgt := 75) hx hb dX10_feed_36 (by decide) ?_
          exact J75 a1 E_22 H_22 k_22 l_22 S_22 F_22 (by have := fb_rng a1; have := fb_rng a2; have := fb_rng a3; have := fb_rng a4; have := fb_rng a5; omega) (by have := fb_rng a1; have := fb_rng a2; have := fb_rng a3; have := fb_rng a4; have := fb_rng a5; omega) (by have := fb_rng a1; have := fb_rng a2; have := fb_rng a3; have := fb_rng a4; have := fb_rng a5; omega) (lv_sub hl_22 [0, 1, 2, 3, 4, 5, 6] rfl)
  refine lv_aload_n hx hb dX10_feed_0 rfl (lv_at hl 0 rfl) ?_
  obtain ⟨v42, ev42, tv42⟩ : ∃ v : Int32, Int32.ofInt (0) = v ∧ v.toInt = 0 := ⟨_, rfl, by decide +kernel⟩
  refine lv_iconst hx hb dX10_feed_1 ev42 ?_
  refine tr_puti Z.1 Z.2.2.2.1 S0.1 S0.2 ha0 ta0 rfl rfl (fun _ h => List.mem_cons_of_mem _ (List.mem_append_right _ h)) tyX10_ok nmX10 4 (by decide) rfl rfl rfl (hts _ (List.mem_of_getElem? (i := 1) rfl)) dX10_feed_2 (by omega) (by omega) (fun E43 H44 k45 W43 I43 P43 => ?_)
  have S43 : Now D TB cy (va_A (va_pl L E) sz) s L τ E43 H44 k45 := ⟨W43, I43⟩
  have F43 : Fr L τ (inW [(11, 0), (72, 0)]) E E43 := Fr.put F0_ P43 ta0 rfl
  refine lv_aload_n hx hb dX10_feed_5 rfl (lv_at hl 0 rfl) ?_
  refine tr_geti Z.1 Z.2.2.2.1 S43.1 S43.2 ha0 ta0 rfl rfl (fun _ h => List.mem_cons_of_mem _ (List.mem_append_right _ h)) 20 (by decide) rfl (hts _ (List.mem_of_getElem? (i := 2) rfl)) dX10_feed_6 (fun v46 ev46 lv46 uv46 => ?_)
  obtain ⟨v47, ev47, tv47⟩ : ∃ v : Int32, (Int8.ofInt (20)).toInt32 = v ∧ v.toInt = 20 := ⟨_, rfl, by decide +kernel⟩
  refine lv_bipush hx hb dX10_feed_9 ev47 ?_
  refine lv_iadd hx hb dX10_feed_11 ?_
  refine lv_topi (fun v48 ev48 => ?_)
  have tv48 := nu_add ev48 (by omega) (by omega)
  obtain ⟨v49, ev49, tv49⟩ : ∃ v : Int32, (Int8.ofInt (120)).toInt32 = v ∧ v.toInt = 120 := ⟨_, rfl, by decide +kernel⟩
  refine lv_bipush hx hb dX10_feed_12 ev49 ?_
  refine lv_icmp_le (tgt := 19) hx hb dX10_feed_14 (by decide) (fun c50 => ?_) (fun c50 => ?_)
  · skip
    have tc50 := nu_le c50
    obtain ⟨v51, ev51, tv51⟩ : ∃ v : Int32, Int32.ofInt (0) = v ∧ v.toInt = 0 := ⟨_, rfl, by decide +kernel⟩
    refine lv_iconst hx hb dX10_feed_19 ev51 ?_
    refine lv_istore (lv' := [(6, .int v51), (0, .ref a0), (1, .int a1), (2, .int a2), (3, .int a3), (4, .int a4), (5, .int a5)]) hx hb dX10_feed_20 hl (by decide) rfl (fun l52 hl53 => ?_)
    exact J22 _ v51 E43 H44 k45 l52 S43 F43 (by have := fb_rng a1; have := fb_rng a2; have := fb_rng a3; have := fb_rng a4; have := fb_rng a5; omega) (by have := fb_rng a1; have := fb_rng a2; have := fb_rng a3; have := fb_rng a4; have := fb_rng a5; omega) (by rw [ev46]; have := fb_rng a1; have := fb_rng a2; have := fb_rng a3; have := fb_rng a4; have := fb_rng a5; omega) (Nat.lt_succ_self _) (lv_sub hl53 [1, 2, 3, 4, 5, 6, 0] rfl)
  · skip
    have tc50 := nu_nle c50
    obtain ⟨v54, ev54, tv54⟩ : ∃ v : Int32, Int32.ofInt (-1) = v ∧ v.toInt = -1 := ⟨_, rfl, by decide +kernel⟩
    refine lv_iconst hx hb dX10_feed_17 ev54 ?_
    rw [← hQ]
    exact en_i Z S43 F43 trivial dX10_feed_18

set_option maxRecDepth 20000 in
theorem ggX10_wordAt_X10_isSmall : GoodIn wsX10_wordAt wsX10_isSmall := goodIn_r _ [10] (by decide +kernel) (by decide +kernel)
set_option maxRecDepth 20000 in
theorem gX10_wordAt_X10_isSmall : GoodIn wsX10_wordAt (wsV RX10 163 RX10 yX10_isSmall wsX10_isSmall) := goodIn_app (goodIn_of _ (by decide +kernel)) ggX10_wordAt_X10_isSmall
theorem dX10_wordAt_0 : decode cX10_wordAt 0 = .ok (.lconst 0, 1) := by decide +kernel
theorem dX10_wordAt_1 : decode cX10_wordAt 1 = .ok (.lstore_n 1, 1) := by decide +kernel
theorem dX10_wordAt_2 : decode cX10_wordAt 2 = .ok (.aload_n 0, 1) := by decide +kernel
theorem dX10_wordAt_3 : decode cX10_wordAt 3 = .ok (.getfield 151, 3) := by decide +kernel
theorem dX10_wordAt_6 : decode cX10_wordAt 6 = .ok (.istore_n 3, 1) := by decide +kernel
theorem dX10_wordAt_7 : decode cX10_wordAt 7 = .ok (.iload_n 3, 1) := by decide +kernel
theorem dX10_wordAt_8 : decode cX10_wordAt 8 = .ok (.aload_n 0, 1) := by decide +kernel
theorem dX10_wordAt_9 : decode cX10_wordAt 9 = .ok (.getfield 154, 3) := by decide +kernel
theorem dX10_wordAt_12 : decode cX10_wordAt 12 = .ok (.if_icmp .ge 68, 3) := by decide +kernel
theorem dX10_wordAt_15 : decode cX10_wordAt 15 = .ok (.aload_n 0, 1) := by decide +kernel
theorem dX10_wordAt_16 : decode cX10_wordAt 16 = .ok (.aload_n 0, 1) := by decide +kernel
theorem dX10_wordAt_17 : decode cX10_wordAt 17 = .ok (.getfield 54, 3) := by decide +kernel
theorem dX10_wordAt_20 : decode cX10_wordAt 20 = .ok (.iload_n 3, 1) := by decide +kernel
theorem dX10_wordAt_21 : decode cX10_wordAt 21 = .ok (.baload, 1) := by decide +kernel
theorem dX10_wordAt_22 : decode cX10_wordAt 22 = .ok (.invokevirtual 163, 3) := by decide +kernel
theorem dX10_wordAt_25 : decode cX10_wordAt 25 = .ok (.ifCond .eq 55, 3) := by decide +kernel
theorem dX10_wordAt_28 : decode cX10_wordAt 28 = .ok (.iload_n 3, 1) := by decide +kernel
theorem dX10_wordAt_29 : decode cX10_wordAt 29 = .ok (.aload_n 0, 1) := by decide +kernel
theorem dX10_wordAt_30 : decode cX10_wordAt 30 = .ok (.getfield 151, 3) := by decide +kernel
theorem dX10_wordAt_33 : decode cX10_wordAt 33 = .ok (.isub, 1) := by decide +kernel
theorem dX10_wordAt_34 : decode cX10_wordAt 34 = .ok (.bipush 7, 2) := by decide +kernel
theorem dX10_wordAt_36 : decode cX10_wordAt 36 = .ok (.if_icmp .ge 23, 3) := by decide +kernel
theorem dX10_wordAt_39 : decode cX10_wordAt 39 = .ok (.lload_n 1, 1) := by decide +kernel
theorem dX10_wordAt_40 : decode cX10_wordAt 40 = .ok (.ldc2_w 166, 3) := by decide +kernel
theorem dX10_wordAt_43 : decode cX10_wordAt 43 = .ok (.lmul, 1) := by decide +kernel
theorem dX10_wordAt_44 : decode cX10_wordAt 44 = .ok (.aload_n 0, 1) := by decide +kernel
theorem dX10_wordAt_45 : decode cX10_wordAt 45 = .ok (.getfield 54, 3) := by decide +kernel
theorem dX10_wordAt_48 : decode cX10_wordAt 48 = .ok (.iload_n 3, 1) := by decide +kernel
theorem dX10_wordAt_49 : decode cX10_wordAt 49 = .ok (.baload, 1) := by decide +kernel
theorem dX10_wordAt_50 : decode cX10_wordAt 50 = .ok (.i2l, 1) := by decide +kernel
theorem dX10_wordAt_51 : decode cX10_wordAt 51 = .ok (.ladd, 1) := by decide +kernel
theorem dX10_wordAt_52 : decode cX10_wordAt 52 = .ok (.ldc2_w 168, 3) := by decide +kernel
theorem dX10_wordAt_55 : decode cX10_wordAt 55 = .ok (.lsub, 1) := by decide +kernel
theorem dX10_wordAt_56 : decode cX10_wordAt 56 = .ok (.goto 4, 3) := by decide +kernel
theorem dX10_wordAt_59 : decode cX10_wordAt 59 = .ok (.lconst 0, 1) := by decide +kernel
theorem dX10_wordAt_60 : decode cX10_wordAt 60 = .ok (.lstore_n 1, 1) := by decide +kernel
theorem dX10_wordAt_61 : decode cX10_wordAt 61 = .ok (.iload_n 3, 1) := by decide +kernel
theorem dX10_wordAt_62 : decode cX10_wordAt 62 = .ok (.aload_n 0, 1) := by decide +kernel
theorem dX10_wordAt_63 : decode cX10_wordAt 63 = .ok (.getfield 151, 3) := by decide +kernel
theorem dX10_wordAt_66 : decode cX10_wordAt 66 = .ok (.isub, 1) := by decide +kernel
theorem dX10_wordAt_67 : decode cX10_wordAt 67 = .ok (.bipush 7, 2) := by decide +kernel
theorem dX10_wordAt_69 : decode cX10_wordAt 69 = .ok (.if_icmp .lt 5, 3) := by decide +kernel
theorem dX10_wordAt_72 : decode cX10_wordAt 72 = .ok (.lconst 0, 1) := by decide +kernel
theorem dX10_wordAt_73 : decode cX10_wordAt 73 = .ok (.lreturn, 1) := by decide +kernel
theorem dX10_wordAt_74 : decode cX10_wordAt 74 = .ok (.iinc 3 1, 3) := by decide +kernel
theorem dX10_wordAt_77 : decode cX10_wordAt 77 = .ok (.goto (-70), 3) := by decide +kernel
theorem dX10_wordAt_80 : decode cX10_wordAt 80 = .ok (.lload_n 1, 1) := by decide +kernel
theorem dX10_wordAt_81 : decode cX10_wordAt 81 = .ok (.lreturn, 1) := by decide +kernel
set_option maxHeartbeats 4000000 in
set_option maxRecDepth 100000 in
theorem k_X10_wordAt (l : Launch) (D : va_G) (cy : Nat → ClassId) {L : List Nat} {τ : Nat → Ro} {E : Ec} (hI : Inv TB cy L τ E) {a0 : Nat} (ha0 : a0 ∈ L) (ta0 : τ a0 = (11, 0)) : CtL l yX10_wordAt wsX10_wordAt { frames := 1, cells := 0, slots := 0, locals := 21 } D TB cy L τ E [.ref a0] (inW []) (fun r E' => E' = E) := by
  intro sz
  refine sta (cc := cX10_wordAt) (maxL := 4) hI (by decide) rfl (Nat.le_of_ble_eq_true rfl) (fun p e s m args below meth c ls hsz Z S0 hl => ?_)
  have hx := Z.1.1
  have hb := Z.1.2.1
  have hts := Z.1.2.2.2.2
  have F0_ : Fr L τ (inW []) E E := Fr.refl
  have hl : lv_has ls 4 [(0, .ref a0)] := hl
  generalize hQ : MQ below _ args s 0 0 _ = QQ
  have J7 : ∀ (n : Nat) (x1_7 : Int64) (x3_7 : Int32) (H_7 : Heap) (k_7 : List Loc) (l_7 : Array Slot), Now D TB cy (va_A (va_pl L E) sz) s L τ E H_7 k_7 → (0 ≤ x3_7.toInt) → (x3_7.toInt ≤ 120) → (120 - x3_7.toInt).toNat < n → lv_has l_7 4 [(0, .ref a0), (1, .long x1_7), (3, .int x3_7)] → W p l e { frames := 1, cells := 0, slots := 0, locals := 21 } s m args below meth c H_7 k_7 0 0 QQ (F0 m 7 l_7 []) := by
    intro n
    induction n with
    | zero => intro x1_7 x3_7 H_7 k_7 l_7 S_7 z1 z2 hm hl_7; exact absurd hm (Nat.not_lt_zero _)
    | succ n ih =>
      intro x1_7 x3_7 H_7 k_7 l_7 S_7 z1 z2 hm hl_7
      have ih_7 := ih
      have J60 : ∀ (y0_60 : Int64) (H_60 : Heap) (k_60 : List Loc) (l_60 : Array Slot), Now D TB cy (va_A (va_pl L E) sz) s L τ E H_60 k_60 → (0 ≤ x3_7.toInt) → (x3_7.toInt ≤ 119) → lv_has l_60 4 [(0, .ref a0), (3, .int x3_7)] → W p l e { frames := 1, cells := 0, slots := 0, locals := 21 } s m args below meth c H_60 k_60 0 0 QQ (F0 m 60 l_60 [.long y0_60]) := by
        intro y0_60 H_60 k_60 l_60 S_60 z3 z4 hl_60
        refine lv_lstore_n (lv' := [(1, .long y0_60), (0, .ref a0), (3, .int x3_7)]) hx hb dX10_wordAt_60 rfl hl_60 (by decide) rfl (fun l5 hl6 => ?_)
        refine lv_iload_n hx hb dX10_wordAt_61 rfl (lv_at hl6 2 rfl) ?_
        refine lv_aload_n hx hb dX10_wordAt_62 rfl (lv_at hl6 1 rfl) ?_
        refine tr_geti Z.1 Z.2.2.2.1 S_60.1 S_60.2 ha0 ta0 rfl rfl (fun _ h => List.mem_cons_of_mem _ (List.mem_append_right _ h)) 22 (by decide) rfl (hts _ (List.mem_of_getElem? (i := 1) rfl)) dX10_wordAt_63 (fun v7 ev7 lv7 uv7 => ?_)
        refine lv_isub hx hb dX10_wordAt_66 ?_
        refine lv_topi (fun v8 ev8 => ?_)
        have tv8 := nu_sub ev8 (by omega) (by omega)
        obtain ⟨v9, ev9, tv9⟩ : ∃ v : Int32, (Int8.ofInt (7)).toInt32 = v ∧ v.toInt = 7 := ⟨_, rfl, by decide +kernel⟩
        refine lv_bipush hx hb dX10_wordAt_67 ev9 ?_
        refine lv_icmp_lt (tgt := 74) hx hb dX10_wordAt_69 (by decide) (fun c10 => ?_) (fun c10 => ?_)
        · skip
          have tc10 := nu_lt c10
          obtain ⟨v11, ev11⟩ : ∃ y : Int32, x3_7 + Int32.ofInt (1) = y := ⟨_, rfl⟩
          have tv11 : v11.toInt = x3_7.toInt + (1) := by rw [← ev11]; exact (fb_addI (by rw [show (Int32.ofInt (1)).toInt = 1 from by decide +kernel]; omega) (by rw [show (Int32.ofInt (1)).toInt = 1 from by decide +kernel]; omega)).trans (by rw [show (Int32.ofInt (1)).toInt = 1 from by decide +kernel])
          refine lv_iinc (v := v11) (lv' := [(3, .int v11), (1, .long y0_60), (0, .ref a0)]) hx hb dX10_wordAt_74 hl6 (k := 2) rfl ev11 (by decide) rfl (fun l12 hl13 => ?_)
          refine lv_goto (tgt := 7) hx hb dX10_wordAt_77 (by decide) ?_
          exact ih_7 y0_60 v11 H_60 k_60 l12 S_60 (by omega) (by omega) (by omega) (lv_sub hl13 [2, 1, 0] rfl)
        · skip
          have tc10 := nu_nlt c10
          refine lv_lconst (v := 0) hx hb dX10_wordAt_72 (by decide +kernel) ?_
          refine lv_topl (fun w14 ew14 => ?_)
          rw [← hQ]
          exact en_l Z S_60 F0_ rfl dX10_wordAt_73
      refine lv_iload_n hx hb dX10_wordAt_7 rfl (lv_at hl_7 2 rfl) ?_
      refine lv_aload_n hx hb dX10_wordAt_8 rfl (lv_at hl_7 0 rfl) ?_
      refine tr_geti Z.1 Z.2.2.2.1 S_7.1 S_7.2 ha0 ta0 rfl rfl (fun _ h => List.mem_cons_of_mem _ (List.mem_append_right _ h)) 21 (by decide) rfl (hts _ (List.mem_of_getElem? (i := 2) rfl)) dX10_wordAt_9 (fun v15 ev15 lv15 uv15 => ?_)
      refine lv_icmp_ge (tgt := 80) hx hb dX10_wordAt_12 (by decide) (fun c16 => ?_) (fun c16 => ?_)
      · skip
        have tc16 := nu_le c16
        refine lv_lload_n hx hb dX10_wordAt_80 rfl (lv_at hl_7 1 rfl) ?_
        rw [← hQ]
        exact en_l Z S_7 F0_ rfl dX10_wordAt_81
      · skip
        have tc16 := nu_nle c16
        refine lv_aload_n hx hb dX10_wordAt_15 rfl (lv_at hl_7 0 rfl) ?_
        refine lv_aload_n hx hb dX10_wordAt_16 rfl (lv_at hl_7 0 rfl) ?_
        refine tr_getr Z.1 Z.2.2.2.1 S_7.1 S_7.2 ha0 ta0 rfl rfl (fun _ h => List.mem_cons_of_mem _ (List.mem_append_right _ h)) 19 (by decide) rfl (hts _ (List.mem_of_getElem? (i := 3) rfl)) dX10_wordAt_17 (fun q17 eq17 hq17 tq17 => ?_)
        have tq17 : τ q17 = (73, 0) := tq17
        refine lv_iload_n hx hb dX10_wordAt_20 rfl (lv_at hl_7 2 rfl) ?_
        refine tr_bald Z.1 Z.2.2.2.1 S_7.1 S_7.2 hq17 tq17 rfl (by omega) (by omega) dX10_wordAt_21 (fun v18 ev18 lv18 uv18 => ?_)
        refine tc_vi Z.1 Z.2.2.2.1 Z.2.2.2.2.1 Z.2.2.2.2.2 S_7.1 S_7.2 ha0 ta0 rfl rfl (k_X10_isSmall l D cy S_7.2 ha0 ta0 v18) (cwV 1 hts gX10_wordAt_X10_isSmall rfl rfl rfl (by decide +kernel) ⟨Nat.le_of_ble_eq_true rfl, Nat.le_of_ble_eq_true rfl⟩) rfl hl_7.1 rfl (Nat.le_of_ble_eq_true rfl) dX10_wordAt_22 ⟨Nat.zero_le _, Nat.zero_le _⟩ (fun v22 E19 H20 k21 W19 I19 G19 p19 => ?_)
        obtain ⟨q19, p19_0, p19_1, p19_2⟩ := p19
        have q19 := q19.symm
        subst q19
        have S19 : Now D TB cy (va_A (va_pl L E) sz) s L τ E H20 k21 := ⟨W19, I19⟩
        refine lv_if_eq (tgt := 80) hx hb dX10_wordAt_25 (by decide) (fun c23 => ?_) (fun c23 => ?_)
        · skip
          have tc23 := nu_eq c23
          have uc23 : (0 : Int32).toInt = 0 := rfl
          refine lv_lload_n hx hb dX10_wordAt_80 rfl (lv_at hl_7 1 rfl) ?_
          rw [← hQ]
          exact en_l Z S19 F0_ rfl dX10_wordAt_81
        · skip
          have tc23 := nu_ne c23
          have uc23 : (0 : Int32).toInt = 0 := rfl
          refine lv_iload_n hx hb dX10_wordAt_28 rfl (lv_at hl_7 2 rfl) ?_
          refine lv_aload_n hx hb dX10_wordAt_29 rfl (lv_at hl_7 0 rfl) ?_
          refine tr_geti Z.1 Z.2.2.2.1 S19.1 S19.2 ha0 ta0 rfl rfl (fun _ h => List.mem_cons_of_mem _ (List.mem_append_right _ h)) 22 (by decide) rfl (hts _ (List.mem_of_getElem? (i := 1) rfl)) dX10_wordAt_30 (fun v24 ev24 lv24 uv24 => ?_)
          refine lv_isub hx hb dX10_wordAt_33 ?_
          refine lv_topi (fun v25 ev25 => ?_)
          have tv25 := nu_sub ev25 (by omega) (by omega)
          obtain ⟨v26, ev26, tv26⟩ : ∃ v : Int32, (Int8.ofInt (7)).toInt32 = v ∧ v.toInt = 7 := ⟨_, rfl, by decide +kernel⟩
          refine lv_bipush hx hb dX10_wordAt_34 ev26 ?_
          refine lv_icmp_ge (tgt := 59) hx hb dX10_wordAt_36 (by decide) (fun c27 => ?_) (fun c27 => ?_)
          · skip
            have tc27 := nu_le c27
            refine lv_lconst (v := 0) hx hb dX10_wordAt_59 (by decide +kernel) ?_
            refine lv_topl (fun w28 ew28 => ?_)
            exact J60 w28 H20 k21 l_7 S19 (by omega) (by omega) (lv_sub hl_7 [0, 2] rfl)
          · skip
            have tc27 := nu_nle c27
            refine lv_lload_n hx hb dX10_wordAt_39 rfl (lv_at hl_7 1 rfl) ?_
            refine lv_ldc2 (v := (32)) hx hb Z.1.2.2.2.1 (hts _ (List.mem_of_getElem? (i := 4) rfl)) dX10_wordAt_40 ?_
            refine lv_topl (fun w29 ew29 => ?_)
            refine lv_lmul hx hb dX10_wordAt_43 ?_
            refine lv_topl (fun w30 ew30 => ?_)
            refine lv_aload_n hx hb dX10_wordAt_44 rfl (lv_at hl_7 0 rfl) ?_
            refine tr_getr Z.1 Z.2.2.2.1 S19.1 S19.2 ha0 ta0 rfl rfl (fun _ h => List.mem_cons_of_mem _ (List.mem_append_right _ h)) 19 (by decide) rfl (hts _ (List.mem_of_getElem? (i := 3) rfl)) dX10_wordAt_45 (fun q31 eq31 hq31 tq31 => ?_)
            have tq31 : τ q31 = (73, 0) := tq31
            have uq31 : q17 = q31 := S19.2.2.2.2 _ hq17 _ hq31 (tq17.trans tq31.symm) (by rw [tq17]; rfl)
            subst uq31
            refine lv_iload_n hx hb dX10_wordAt_48 rfl (lv_at hl_7 2 rfl) ?_
            refine tr_bald Z.1 Z.2.2.2.1 S19.1 S19.2 hq17 tq17 rfl (by omega) (by omega) dX10_wordAt_49 (fun v32 ev32 lv32 uv32 => ?_)
            obtain ⟨w33, ew33⟩ : ∃ y : Int64, v32.toInt64 = y := ⟨_, rfl⟩
            refine lv_i2l hx hb dX10_wordAt_50 ew33 ?_
            refine lv_ladd hx hb dX10_wordAt_51 ?_
            refine lv_topl (fun w34 ew34 => ?_)
            refine lv_ldc2 (v := (96)) hx hb Z.1.2.2.2.1 (hts _ (List.mem_of_getElem? (i := 5) rfl)) dX10_wordAt_52 ?_
            refine lv_topl (fun w35 ew35 => ?_)
            refine lv_lsub hx hb dX10_wordAt_55 ?_
            refine lv_topl (fun w36 ew36 => ?_)
            refine lv_goto (tgt := 60) hx hb dX10_wordAt_56 (by decide) ?_
            exact J60 w36 H20 k21 l_7 S19 (by omega) (by omega) (lv_sub hl_7 [0, 2] rfl)
  refine lv_lconst (v := 0) hx hb dX10_wordAt_0 (by decide +kernel) ?_
  refine lv_topl (fun w37 ew37 => ?_)
  refine lv_lstore_n (lv' := [(1, .long w37), (0, .ref a0)]) hx hb dX10_wordAt_1 rfl hl (by decide) rfl (fun l38 hl39 => ?_)
  refine lv_aload_n hx hb dX10_wordAt_2 rfl (lv_at hl39 1 rfl) ?_
  refine tr_geti Z.1 Z.2.2.2.1 S0.1 S0.2 ha0 ta0 rfl rfl (fun _ h => List.mem_cons_of_mem _ (List.mem_append_right _ h)) 22 (by decide) rfl (hts _ (List.mem_of_getElem? (i := 1) rfl)) dX10_wordAt_3 (fun v40 ev40 lv40 uv40 => ?_)
  refine lv_istore_n (lv' := [(3, .int v40), (1, .long w37), (0, .ref a0)]) hx hb dX10_wordAt_6 rfl hl39 (by decide) rfl (fun l41 hl42 => ?_)
  exact J7 _ w37 v40 s.heap [] l41 S0 (by omega) (by omega) (Nat.lt_succ_self _) (lv_sub hl42 [2, 1, 0] rfl)

set_option maxRecDepth 20000 in
theorem ggX10_nameOf_X10_packed : GoodIn wsX10_nameOf wsX10_packed := goodIn_r _ [5, 6, 7] (by decide +kernel) (by decide +kernel)
set_option maxRecDepth 20000 in
theorem gX10_nameOf_X10_packed : GoodIn wsX10_nameOf (wsV RX10 170 RX10 yX10_packed wsX10_packed) := goodIn_app (goodIn_of _ (by decide +kernel)) ggX10_nameOf_X10_packed
theorem dX10_nameOf_0 : decode cX10_nameOf 0 = .ok (.lload_n 1, 1) := by decide +kernel
theorem dX10_nameOf_1 : decode cX10_nameOf 1 = .ok (.aload_n 0, 1) := by decide +kernel
theorem dX10_nameOf_2 : decode cX10_nameOf 2 = .ok (.bipush 114, 2) := by decide +kernel
theorem dX10_nameOf_4 : decode cX10_nameOf 4 = .ok (.bipush 105, 2) := by decide +kernel
theorem dX10_nameOf_6 : decode cX10_nameOf 6 = .ok (.bipush 115, 2) := by decide +kernel
theorem dX10_nameOf_8 : decode cX10_nameOf 8 = .ok (.bipush 101, 2) := by decide +kernel
theorem dX10_nameOf_10 : decode cX10_nameOf 10 = .ok (.bipush 114, 2) := by decide +kernel
theorem dX10_nameOf_12 : decode cX10_nameOf 12 = .ok (.iconst 0, 1) := by decide +kernel
theorem dX10_nameOf_13 : decode cX10_nameOf 13 = .ok (.invokevirtual 170, 3) := by decide +kernel
theorem dX10_nameOf_16 : decode cX10_nameOf 16 = .ok (.lcmp, 1) := by decide +kernel
theorem dX10_nameOf_17 : decode cX10_nameOf 17 = .ok (.ifCond .ne 5, 3) := by decide +kernel
theorem dX10_nameOf_20 : decode cX10_nameOf 20 = .ok (.iconst 0, 1) := by decide +kernel
theorem dX10_nameOf_21 : decode cX10_nameOf 21 = .ok (.ireturn, 1) := by decide +kernel
theorem dX10_nameOf_22 : decode cX10_nameOf 22 = .ok (.lload_n 1, 1) := by decide +kernel
theorem dX10_nameOf_23 : decode cX10_nameOf 23 = .ok (.aload_n 0, 1) := by decide +kernel
theorem dX10_nameOf_24 : decode cX10_nameOf 24 = .ok (.bipush 103, 2) := by decide +kernel
theorem dX10_nameOf_26 : decode cX10_nameOf 26 = .ok (.bipush 111, 2) := by decide +kernel
theorem dX10_nameOf_28 : decode cX10_nameOf 28 = .ok (.bipush 105, 2) := by decide +kernel
theorem dX10_nameOf_30 : decode cX10_nameOf 30 = .ok (.bipush 110, 2) := by decide +kernel
theorem dX10_nameOf_32 : decode cX10_nameOf 32 = .ok (.bipush 103, 2) := by decide +kernel
theorem dX10_nameOf_34 : decode cX10_nameOf 34 = .ok (.iconst 0, 1) := by decide +kernel
theorem dX10_nameOf_35 : decode cX10_nameOf 35 = .ok (.invokevirtual 170, 3) := by decide +kernel
theorem dX10_nameOf_38 : decode cX10_nameOf 38 = .ok (.lcmp, 1) := by decide +kernel
theorem dX10_nameOf_39 : decode cX10_nameOf 39 = .ok (.ifCond .ne 5, 3) := by decide +kernel
theorem dX10_nameOf_42 : decode cX10_nameOf 42 = .ok (.iconst 1, 1) := by decide +kernel
theorem dX10_nameOf_43 : decode cX10_nameOf 43 = .ok (.ireturn, 1) := by decide +kernel
theorem dX10_nameOf_44 : decode cX10_nameOf 44 = .ok (.lload_n 1, 1) := by decide +kernel
theorem dX10_nameOf_45 : decode cX10_nameOf 45 = .ok (.aload_n 0, 1) := by decide +kernel
theorem dX10_nameOf_46 : decode cX10_nameOf 46 = .ok (.bipush 110, 2) := by decide +kernel
theorem dX10_nameOf_48 : decode cX10_nameOf 48 = .ok (.bipush 97, 2) := by decide +kernel
theorem dX10_nameOf_50 : decode cX10_nameOf 50 = .ok (.bipush 114, 2) := by decide +kernel
theorem dX10_nameOf_52 : decode cX10_nameOf 52 = .ok (.bipush 114, 2) := by decide +kernel
theorem dX10_nameOf_54 : decode cX10_nameOf 54 = .ok (.bipush 111, 2) := by decide +kernel
theorem dX10_nameOf_56 : decode cX10_nameOf 56 = .ok (.bipush 119, 2) := by decide +kernel
theorem dX10_nameOf_58 : decode cX10_nameOf 58 = .ok (.invokevirtual 170, 3) := by decide +kernel
theorem dX10_nameOf_61 : decode cX10_nameOf 61 = .ok (.lcmp, 1) := by decide +kernel
theorem dX10_nameOf_62 : decode cX10_nameOf 62 = .ok (.ifCond .ne 5, 3) := by decide +kernel
theorem dX10_nameOf_65 : decode cX10_nameOf 65 = .ok (.iconst 2, 1) := by decide +kernel
theorem dX10_nameOf_66 : decode cX10_nameOf 66 = .ok (.ireturn, 1) := by decide +kernel
theorem dX10_nameOf_67 : decode cX10_nameOf 67 = .ok (.lload_n 1, 1) := by decide +kernel
theorem dX10_nameOf_68 : decode cX10_nameOf 68 = .ok (.aload_n 0, 1) := by decide +kernel
theorem dX10_nameOf_69 : decode cX10_nameOf 69 = .ok (.bipush 104, 2) := by decide +kernel
theorem dX10_nameOf_71 : decode cX10_nameOf 71 = .ok (.bipush 101, 2) := by decide +kernel
theorem dX10_nameOf_73 : decode cX10_nameOf 73 = .ok (.bipush 97, 2) := by decide +kernel
theorem dX10_nameOf_75 : decode cX10_nameOf 75 = .ok (.bipush 100, 2) := by decide +kernel
theorem dX10_nameOf_77 : decode cX10_nameOf 77 = .ok (.iconst 0, 1) := by decide +kernel
theorem dX10_nameOf_78 : decode cX10_nameOf 78 = .ok (.iconst 0, 1) := by decide +kernel
theorem dX10_nameOf_79 : decode cX10_nameOf 79 = .ok (.invokevirtual 170, 3) := by decide +kernel
theorem dX10_nameOf_82 : decode cX10_nameOf 82 = .ok (.lcmp, 1) := by decide +kernel
theorem dX10_nameOf_83 : decode cX10_nameOf 83 = .ok (.ifCond .ne 5, 3) := by decide +kernel
theorem dX10_nameOf_86 : decode cX10_nameOf 86 = .ok (.iconst 3, 1) := by decide +kernel
theorem dX10_nameOf_87 : decode cX10_nameOf 87 = .ok (.ireturn, 1) := by decide +kernel
theorem dX10_nameOf_88 : decode cX10_nameOf 88 = .ok (.lload_n 1, 1) := by decide +kernel
theorem dX10_nameOf_89 : decode cX10_nameOf 89 = .ok (.aload_n 0, 1) := by decide +kernel
theorem dX10_nameOf_90 : decode cX10_nameOf 90 = .ok (.bipush 119, 2) := by decide +kernel
theorem dX10_nameOf_92 : decode cX10_nameOf 92 = .ok (.bipush 105, 2) := by decide +kernel
theorem dX10_nameOf_94 : decode cX10_nameOf 94 = .ok (.bipush 100, 2) := by decide +kernel
theorem dX10_nameOf_96 : decode cX10_nameOf 96 = .ok (.bipush 101, 2) := by decide +kernel
theorem dX10_nameOf_98 : decode cX10_nameOf 98 = .ok (.iconst 0, 1) := by decide +kernel
theorem dX10_nameOf_99 : decode cX10_nameOf 99 = .ok (.iconst 0, 1) := by decide +kernel
theorem dX10_nameOf_100 : decode cX10_nameOf 100 = .ok (.invokevirtual 170, 3) := by decide +kernel
theorem dX10_nameOf_103 : decode cX10_nameOf 103 = .ok (.lcmp, 1) := by decide +kernel
theorem dX10_nameOf_104 : decode cX10_nameOf 104 = .ok (.ifCond .ne 5, 3) := by decide +kernel
theorem dX10_nameOf_107 : decode cX10_nameOf 107 = .ok (.iconst 4, 1) := by decide +kernel
theorem dX10_nameOf_108 : decode cX10_nameOf 108 = .ok (.ireturn, 1) := by decide +kernel
theorem dX10_nameOf_109 : decode cX10_nameOf 109 = .ok (.lload_n 1, 1) := by decide +kernel
theorem dX10_nameOf_110 : decode cX10_nameOf 110 = .ok (.aload_n 0, 1) := by decide +kernel
theorem dX10_nameOf_111 : decode cX10_nameOf 111 = .ok (.bipush 99, 2) := by decide +kernel
theorem dX10_nameOf_113 : decode cX10_nameOf 113 = .ok (.bipush 111, 2) := by decide +kernel
theorem dX10_nameOf_115 : decode cX10_nameOf 115 = .ok (.bipush 117, 2) := by decide +kernel
theorem dX10_nameOf_117 : decode cX10_nameOf 117 = .ok (.bipush 110, 2) := by decide +kernel
theorem dX10_nameOf_119 : decode cX10_nameOf 119 = .ok (.bipush 116, 2) := by decide +kernel
theorem dX10_nameOf_121 : decode cX10_nameOf 121 = .ok (.iconst 0, 1) := by decide +kernel
theorem dX10_nameOf_122 : decode cX10_nameOf 122 = .ok (.invokevirtual 170, 3) := by decide +kernel
theorem dX10_nameOf_125 : decode cX10_nameOf 125 = .ok (.lcmp, 1) := by decide +kernel
theorem dX10_nameOf_126 : decode cX10_nameOf 126 = .ok (.ifCond .ne 5, 3) := by decide +kernel
theorem dX10_nameOf_129 : decode cX10_nameOf 129 = .ok (.iconst 5, 1) := by decide +kernel
theorem dX10_nameOf_130 : decode cX10_nameOf 130 = .ok (.ireturn, 1) := by decide +kernel
theorem dX10_nameOf_131 : decode cX10_nameOf 131 = .ok (.lload_n 1, 1) := by decide +kernel
theorem dX10_nameOf_132 : decode cX10_nameOf 132 = .ok (.aload_n 0, 1) := by decide +kernel
theorem dX10_nameOf_133 : decode cX10_nameOf 133 = .ok (.bipush 110, 2) := by decide +kernel
theorem dX10_nameOf_135 : decode cX10_nameOf 135 = .ok (.bipush 117, 2) := by decide +kernel
theorem dX10_nameOf_137 : decode cX10_nameOf 137 = .ok (.bipush 109, 2) := by decide +kernel
theorem dX10_nameOf_139 : decode cX10_nameOf 139 = .ok (.bipush 98, 2) := by decide +kernel
theorem dX10_nameOf_141 : decode cX10_nameOf 141 = .ok (.bipush 101, 2) := by decide +kernel
theorem dX10_nameOf_143 : decode cX10_nameOf 143 = .ok (.bipush 114, 2) := by decide +kernel
theorem dX10_nameOf_145 : decode cX10_nameOf 145 = .ok (.invokevirtual 170, 3) := by decide +kernel
theorem dX10_nameOf_148 : decode cX10_nameOf 148 = .ok (.lcmp, 1) := by decide +kernel
theorem dX10_nameOf_149 : decode cX10_nameOf 149 = .ok (.ifCond .ne 6, 3) := by decide +kernel
theorem dX10_nameOf_152 : decode cX10_nameOf 152 = .ok (.bipush 6, 2) := by decide +kernel
theorem dX10_nameOf_154 : decode cX10_nameOf 154 = .ok (.ireturn, 1) := by decide +kernel
theorem dX10_nameOf_155 : decode cX10_nameOf 155 = .ok (.lload_n 1, 1) := by decide +kernel
theorem dX10_nameOf_156 : decode cX10_nameOf 156 = .ok (.aload_n 0, 1) := by decide +kernel
theorem dX10_nameOf_157 : decode cX10_nameOf 157 = .ok (.bipush 107, 2) := by decide +kernel
theorem dX10_nameOf_159 : decode cX10_nameOf 159 = .ok (.bipush 105, 2) := by decide +kernel
theorem dX10_nameOf_161 : decode cX10_nameOf 161 = .ok (.bipush 110, 2) := by decide +kernel
theorem dX10_nameOf_163 : decode cX10_nameOf 163 = .ok (.bipush 100, 2) := by decide +kernel
theorem dX10_nameOf_165 : decode cX10_nameOf 165 = .ok (.iconst 0, 1) := by decide +kernel
theorem dX10_nameOf_166 : decode cX10_nameOf 166 = .ok (.iconst 0, 1) := by decide +kernel
theorem dX10_nameOf_167 : decode cX10_nameOf 167 = .ok (.invokevirtual 170, 3) := by decide +kernel
theorem dX10_nameOf_170 : decode cX10_nameOf 170 = .ok (.lcmp, 1) := by decide +kernel
theorem dX10_nameOf_171 : decode cX10_nameOf 171 = .ok (.ifCond .ne 8, 3) := by decide +kernel
theorem dX10_nameOf_174 : decode cX10_nameOf 174 = .ok (.bipush 7, 2) := by decide +kernel
theorem dX10_nameOf_176 : decode cX10_nameOf 176 = .ok (.goto 4, 3) := by decide +kernel
theorem dX10_nameOf_179 : decode cX10_nameOf 179 = .ok (.iconst (-1), 1) := by decide +kernel
theorem dX10_nameOf_180 : decode cX10_nameOf 180 = .ok (.ireturn, 1) := by decide +kernel
set_option maxHeartbeats 4000000 in
set_option maxRecDepth 100000 in
theorem k_X10_nameOf (l : Launch) (D : va_G) (cy : Nat → ClassId) {L : List Nat} {τ : Nat → Ro} {E : Ec} (hI : Inv TB cy L τ E) {a0 : Nat} (ha0 : a0 ∈ L) (ta0 : τ a0 = (11, 0)) (a1 : Int64) : CtI l yX10_nameOf wsX10_nameOf { frames := 1, cells := 0, slots := 0, locals := 28 } D TB cy L τ E [.ref a0, .long a1] (inW []) (fun r E' => E' = E ∧ -1 ≤ r.toInt ∧ r.toInt ≤ 7) := by
  intro sz
  refine sta (cc := cX10_nameOf) (maxL := 3) hI (by decide) rfl (Nat.le_of_ble_eq_true rfl) (fun p e s m args below meth c ls hsz Z S0 hl => ?_)
  have hx := Z.1.1
  have hb := Z.1.2.1
  have hts := Z.1.2.2.2.2
  have F0_ : Fr L τ (inW []) E E := Fr.refl
  have hl : lv_has ls 3 [(0, .ref a0), (1, .long a1)] := hl
  generalize hQ : MQ below _ args s 0 0 _ = QQ
  refine lv_lload_n hx hb dX10_nameOf_0 rfl (lv_at hl 1 rfl) ?_
  refine lv_aload_n hx hb dX10_nameOf_1 rfl (lv_at hl 0 rfl) ?_
  obtain ⟨v1, ev1, tv1⟩ : ∃ v : Int32, (Int8.ofInt (114)).toInt32 = v ∧ v.toInt = 114 := ⟨_, rfl, by decide +kernel⟩
  refine lv_bipush hx hb dX10_nameOf_2 ev1 ?_
  obtain ⟨v2, ev2, tv2⟩ : ∃ v : Int32, (Int8.ofInt (105)).toInt32 = v ∧ v.toInt = 105 := ⟨_, rfl, by decide +kernel⟩
  refine lv_bipush hx hb dX10_nameOf_4 ev2 ?_
  obtain ⟨v3, ev3, tv3⟩ : ∃ v : Int32, (Int8.ofInt (115)).toInt32 = v ∧ v.toInt = 115 := ⟨_, rfl, by decide +kernel⟩
  refine lv_bipush hx hb dX10_nameOf_6 ev3 ?_
  obtain ⟨v4, ev4, tv4⟩ : ∃ v : Int32, (Int8.ofInt (101)).toInt32 = v ∧ v.toInt = 101 := ⟨_, rfl, by decide +kernel⟩
  refine lv_bipush hx hb dX10_nameOf_8 ev4 ?_
  obtain ⟨v5, ev5, tv5⟩ : ∃ v : Int32, (Int8.ofInt (114)).toInt32 = v ∧ v.toInt = 114 := ⟨_, rfl, by decide +kernel⟩
  refine lv_bipush hx hb dX10_nameOf_10 ev5 ?_
  obtain ⟨v6, ev6, tv6⟩ : ∃ v : Int32, Int32.ofInt (0) = v ∧ v.toInt = 0 := ⟨_, rfl, by decide +kernel⟩
  refine lv_iconst hx hb dX10_nameOf_12 ev6 ?_
  refine tc_vl Z.1 Z.2.2.2.1 Z.2.2.2.2.1 Z.2.2.2.2.2 S0.1 S0.2 ha0 ta0 rfl rfl (k_X10_packed l D cy S0.2 ha0 ta0 v1 v2 v3 v4 v5 v6) (cwV 6 hts gX10_nameOf_X10_packed rfl rfl rfl (by decide +kernel) ⟨Nat.le_of_ble_eq_true rfl, Nat.le_of_ble_eq_true rfl⟩) rfl hl.1 rfl (Nat.le_of_ble_eq_true rfl) dX10_nameOf_13 ⟨Nat.zero_le _, Nat.zero_le _⟩ (fun v10 E7 H8 k9 W7 I7 G7 p7 => ?_)
  have q7 := p7
  have q7 := q7.symm
  subst q7
  have S7 : Now D TB cy (va_A (va_pl L E) sz) s L τ E H8 k9 := ⟨W7, I7⟩
  refine W.lcmp hx hb dX10_nameOf_16 ?_
  refine lv_topi (fun v11 ev11 => ?_)
  refine lv_if_ne (tgt := 22) hx hb dX10_nameOf_17 (by decide) (fun c12 => ?_) (fun c12 => ?_)
  · skip
    have tc12 := nu_ne c12
    have uc12 : (0 : Int32).toInt = 0 := rfl
    refine lv_lload_n hx hb dX10_nameOf_22 rfl (lv_at hl 1 rfl) ?_
    refine lv_aload_n hx hb dX10_nameOf_23 rfl (lv_at hl 0 rfl) ?_
    obtain ⟨v13, ev13, tv13⟩ : ∃ v : Int32, (Int8.ofInt (103)).toInt32 = v ∧ v.toInt = 103 := ⟨_, rfl, by decide +kernel⟩
    refine lv_bipush hx hb dX10_nameOf_24 ev13 ?_
    obtain ⟨v14, ev14, tv14⟩ : ∃ v : Int32, (Int8.ofInt (111)).toInt32 = v ∧ v.toInt = 111 := ⟨_, rfl, by decide +kernel⟩
    refine lv_bipush hx hb dX10_nameOf_26 ev14 ?_
    obtain ⟨v15, ev15, tv15⟩ : ∃ v : Int32, (Int8.ofInt (105)).toInt32 = v ∧ v.toInt = 105 := ⟨_, rfl, by decide +kernel⟩
    refine lv_bipush hx hb dX10_nameOf_28 ev15 ?_
    obtain ⟨v16, ev16, tv16⟩ : ∃ v : Int32, (Int8.ofInt (110)).toInt32 = v ∧ v.toInt = 110 := ⟨_, rfl, by decide +kernel⟩
    refine lv_bipush hx hb dX10_nameOf_30 ev16 ?_
    obtain ⟨v17, ev17, tv17⟩ : ∃ v : Int32, (Int8.ofInt (103)).toInt32 = v ∧ v.toInt = 103 := ⟨_, rfl, by decide +kernel⟩
    refine lv_bipush hx hb dX10_nameOf_32 ev17 ?_
    obtain ⟨v18, ev18, tv18⟩ : ∃ v : Int32, Int32.ofInt (0) = v ∧ v.toInt = 0 := ⟨_, rfl, by decide +kernel⟩
    refine lv_iconst hx hb dX10_nameOf_34 ev18 ?_
    refine tc_vl Z.1 Z.2.2.2.1 Z.2.2.2.2.1 Z.2.2.2.2.2 S7.1 S7.2 ha0 ta0 rfl rfl (k_X10_packed l D cy S7.2 ha0 ta0 v13 v14 v15 v16 v17 v18) (cwV 6 hts gX10_nameOf_X10_packed rfl rfl rfl (by decide +kernel) ⟨Nat.le_of_ble_eq_true rfl, Nat.le_of_ble_eq_true rfl⟩) rfl hl.1 rfl (Nat.le_of_ble_eq_true rfl) dX10_nameOf_35 ⟨Nat.zero_le _, Nat.zero_le _⟩ (fun v22 E19 H20 k21 W19 I19 G19 p19 => ?_)
    have q19 := p19
    have q19 := q19.symm
    subst q19
    have S19 : Now D TB cy (va_A (va_pl L E) sz) s L τ E H20 k21 := ⟨W19, I19⟩
    refine W.lcmp hx hb dX10_nameOf_38 ?_
    refine lv_topi (fun v23 ev23 => ?_)
    refine lv_if_ne (tgt := 44) hx hb dX10_nameOf_39 (by decide) (fun c24 => ?_) (fun c24 => ?_)
    · skip
      have tc24 := nu_ne c24
      have uc24 : (0 : Int32).toInt = 0 := rfl
      refine lv_lload_n hx hb dX10_nameOf_44 rfl (lv_at hl 1 rfl) ?_
      refine lv_aload_n hx hb dX10_nameOf_45 rfl (lv_at hl 0 rfl) ?_
      obtain ⟨v25, ev25, tv25⟩ : ∃ v : Int32, (Int8.ofInt (110)).toInt32 = v ∧ v.toInt = 110 := ⟨_, rfl, by decide +kernel⟩
      refine lv_bipush hx hb dX10_nameOf_46 ev25 ?_
      obtain ⟨v26, ev26, tv26⟩ : ∃ v : Int32, (Int8.ofInt (97)).toInt32 = v ∧ v.toInt = 97 := ⟨_, rfl, by decide +kernel⟩
      refine lv_bipush hx hb dX10_nameOf_48 ev26 ?_
      obtain ⟨v27, ev27, tv27⟩ : ∃ v : Int32, (Int8.ofInt (114)).toInt32 = v ∧ v.toInt = 114 := ⟨_, rfl, by decide +kernel⟩
      refine lv_bipush hx hb dX10_nameOf_50 ev27 ?_
      obtain ⟨v28, ev28, tv28⟩ : ∃ v : Int32, (Int8.ofInt (114)).toInt32 = v ∧ v.toInt = 114 := ⟨_, rfl, by decide +kernel⟩
      refine lv_bipush hx hb dX10_nameOf_52 ev28 ?_
      obtain ⟨v29, ev29, tv29⟩ : ∃ v : Int32, (Int8.ofInt (111)).toInt32 = v ∧ v.toInt = 111 := ⟨_, rfl, by decide +kernel⟩
      refine lv_bipush hx hb dX10_nameOf_54 ev29 ?_
      obtain ⟨v30, ev30, tv30⟩ : ∃ v : Int32, (Int8.ofInt (119)).toInt32 = v ∧ v.toInt = 119 := ⟨_, rfl, by decide +kernel⟩
      refine lv_bipush hx hb dX10_nameOf_56 ev30 ?_
      refine tc_vl Z.1 Z.2.2.2.1 Z.2.2.2.2.1 Z.2.2.2.2.2 S19.1 S19.2 ha0 ta0 rfl rfl (k_X10_packed l D cy S19.2 ha0 ta0 v25 v26 v27 v28 v29 v30) (cwV 6 hts gX10_nameOf_X10_packed rfl rfl rfl (by decide +kernel) ⟨Nat.le_of_ble_eq_true rfl, Nat.le_of_ble_eq_true rfl⟩) rfl hl.1 rfl (Nat.le_of_ble_eq_true rfl) dX10_nameOf_58 ⟨Nat.zero_le _, Nat.zero_le _⟩ (fun v34 E31 H32 k33 W31 I31 G31 p31 => ?_)
      have q31 := p31
      have q31 := q31.symm
      subst q31
      have S31 : Now D TB cy (va_A (va_pl L E) sz) s L τ E H32 k33 := ⟨W31, I31⟩
      refine W.lcmp hx hb dX10_nameOf_61 ?_
      refine lv_topi (fun v35 ev35 => ?_)
      refine lv_if_ne (tgt := 67) hx hb dX10_nameOf_62 (by decide) (fun c36 => ?_) (fun c36 => ?_)
      · skip
        have tc36 := nu_ne c36
        have uc36 : (0 : Int32).toInt = 0 := rfl
        refine lv_lload_n hx hb dX10_nameOf_67 rfl (lv_at hl 1 rfl) ?_
        refine lv_aload_n hx hb dX10_nameOf_68 rfl (lv_at hl 0 rfl) ?_
        obtain ⟨v37, ev37, tv37⟩ : ∃ v : Int32, (Int8.ofInt (104)).toInt32 = v ∧ v.toInt = 104 := ⟨_, rfl, by decide +kernel⟩
        refine lv_bipush hx hb dX10_nameOf_69 ev37 ?_
        obtain ⟨v38, ev38, tv38⟩ : ∃ v : Int32, (Int8.ofInt (101)).toInt32 = v ∧ v.toInt = 101 := ⟨_, rfl, by decide +kernel⟩
        refine lv_bipush hx hb dX10_nameOf_71 ev38 ?_
        obtain ⟨v39, ev39, tv39⟩ : ∃ v : Int32, (Int8.ofInt (97)).toInt32 = v ∧ v.toInt = 97 := ⟨_, rfl, by decide +kernel⟩
        refine lv_bipush hx hb dX10_nameOf_73 ev39 ?_
        obtain ⟨v40, ev40, tv40⟩ : ∃ v : Int32, (Int8.ofInt (100)).toInt32 = v ∧ v.toInt = 100 := ⟨_, rfl, by decide +kernel⟩
        refine lv_bipush hx hb dX10_nameOf_75 ev40 ?_
        obtain ⟨v41, ev41, tv41⟩ : ∃ v : Int32, Int32.ofInt (0) = v ∧ v.toInt = 0 := ⟨_, rfl, by decide +kernel⟩
        refine lv_iconst hx hb dX10_nameOf_77 ev41 ?_
        obtain ⟨v42, ev42, tv42⟩ : ∃ v : Int32, Int32.ofInt (0) = v ∧ v.toInt = 0 := ⟨_, rfl, by decide +kernel⟩
        refine lv_iconst hx hb dX10_nameOf_78 ev42 ?_
        refine tc_vl Z.1 Z.2.2.2.1 Z.2.2.2.2.1 Z.2.2.2.2.2 S31.1 S31.2 ha0 ta0 rfl rfl (k_X10_packed l D cy S31.2 ha0 ta0 v37 v38 v39 v40 v41 v42) (cwV 6 hts gX10_nameOf_X10_packed rfl rfl rfl (by decide +kernel) ⟨Nat.le_of_ble_eq_true rfl, Nat.le_of_ble_eq_true rfl⟩) rfl hl.1 rfl (Nat.le_of_ble_eq_true rfl) dX10_nameOf_79 ⟨Nat.zero_le _, Nat.zero_le _⟩ (fun v46 E43 H44 k45 W43 I43 G43 p43 => ?_)
        have q43 := p43
        have q43 := q43.symm
        subst q43
        have S43 : Now D TB cy (va_A (va_pl L E) sz) s L τ E H44 k45 := ⟨W43, I43⟩
        refine W.lcmp hx hb dX10_nameOf_82 ?_
        refine lv_topi (fun v47 ev47 => ?_)
        refine lv_if_ne (tgt := 88) hx hb dX10_nameOf_83 (by decide) (fun c48 => ?_) (fun c48 => ?_)
        · skip
          have tc48 := nu_ne c48
          have uc48 : (0 : Int32).toInt = 0 := rfl
          refine lv_lload_n hx hb dX10_nameOf_88 rfl (lv_at hl 1 rfl) ?_
          refine lv_aload_n hx hb dX10_nameOf_89 rfl (lv_at hl 0 rfl) ?_
          obtain ⟨v49, ev49, tv49⟩ : ∃ v : Int32, (Int8.ofInt (119)).toInt32 = v ∧ v.toInt = 119 := ⟨_, rfl, by decide +kernel⟩
          refine lv_bipush hx hb dX10_nameOf_90 ev49 ?_
          obtain ⟨v50, ev50, tv50⟩ : ∃ v : Int32, (Int8.ofInt (105)).toInt32 = v ∧ v.toInt = 105 := ⟨_, rfl, by decide +kernel⟩
          refine lv_bipush hx hb dX10_nameOf_92 ev50 ?_
          obtain ⟨v51, ev51, tv51⟩ : ∃ v : Int32, (Int8.ofInt (100)).toInt32 = v ∧ v.toInt = 100 := ⟨_, rfl, by decide +kernel⟩
          refine lv_bipush hx hb dX10_nameOf_94 ev51 ?_
          obtain ⟨v52, ev52, tv52⟩ : ∃ v : Int32, (Int8.ofInt (101)).toInt32 = v ∧ v.toInt = 101 := ⟨_, rfl, by decide +kernel⟩
          refine lv_bipush hx hb dX10_nameOf_96 ev52 ?_
          obtain ⟨v53, ev53, tv53⟩ : ∃ v : Int32, Int32.ofInt (0) = v ∧ v.toInt = 0 := ⟨_, rfl, by decide +kernel⟩
          refine lv_iconst hx hb dX10_nameOf_98 ev53 ?_
          obtain ⟨v54, ev54, tv54⟩ : ∃ v : Int32, Int32.ofInt (0) = v ∧ v.toInt = 0 := ⟨_, rfl, by decide +kernel⟩
          refine lv_iconst hx hb dX10_nameOf_99 ev54 ?_
          refine tc_vl Z.1 Z.2.2.2.1 Z.2.2.2.2.1 Z.2.2.2.2.2 S43.1 S43.2 ha0 ta0 rfl rfl (k_X10_packed l D cy S43.2 ha0 ta0 v49 v50 v51 v52 v53 v54) (cwV 6 hts gX10_nameOf_X10_packed rfl rfl rfl (by decide +kernel) ⟨Nat.le_of_ble_eq_true rfl, Nat.le_of_ble_eq_true rfl⟩) rfl hl.1 rfl (Nat.le_of_ble_eq_true rfl) dX10_nameOf_100 ⟨Nat.zero_le _, Nat.zero_le _⟩ (fun v58 E55 H56 k57 W55 I55 G55 p55 => ?_)
          have q55 := p55
          have q55 := q55.symm
          subst q55
          have S55 : Now D TB cy (va_A (va_pl L E) sz) s L τ E H56 k57 := ⟨W55, I55⟩
          refine W.lcmp hx hb dX10_nameOf_103 ?_
          refine lv_topi (fun v59 ev59 => ?_)
          refine lv_if_ne (tgt := 109) hx hb dX10_nameOf_104 (by decide) (fun c60 => ?_) (fun c60 => ?_)
          · skip
            have tc60 := nu_ne c60
            have uc60 : (0 : Int32).toInt = 0 := rfl
            refine lv_lload_n hx hb dX10_nameOf_109 rfl (lv_at hl 1 rfl) ?_
            refine lv_aload_n hx hb dX10_nameOf_110 rfl (lv_at hl 0 rfl) ?_
            obtain ⟨v61, ev61, tv61⟩ : ∃ v : Int32, (Int8.ofInt (99)).toInt32 = v ∧ v.toInt = 99 := ⟨_, rfl, by decide +kernel⟩
            refine lv_bipush hx hb dX10_nameOf_111 ev61 ?_
            obtain ⟨v62, ev62, tv62⟩ : ∃ v : Int32, (Int8.ofInt (111)).toInt32 = v ∧ v.toInt = 111 := ⟨_, rfl, by decide +kernel⟩
            refine lv_bipush hx hb dX10_nameOf_113 ev62 ?_
            obtain ⟨v63, ev63, tv63⟩ : ∃ v : Int32, (Int8.ofInt (117)).toInt32 = v ∧ v.toInt = 117 := ⟨_, rfl, by decide +kernel⟩
            refine lv_bipush hx hb dX10_nameOf_115 ev63 ?_
            obtain ⟨v64, ev64, tv64⟩ : ∃ v : Int32, (Int8.ofInt (110)).toInt32 = v ∧ v.toInt = 110 := ⟨_, rfl, by decide +kernel⟩
            refine lv_bipush hx hb dX10_nameOf_117 ev64 ?_
            obtain ⟨v65, ev65, tv65⟩ : ∃ v : Int32, (Int8.ofInt (116)).toInt32 = v ∧ v.toInt = 116 := ⟨_, rfl, by decide +kernel⟩
            refine lv_bipush hx hb dX10_nameOf_119 ev65 ?_
            obtain ⟨v66, ev66, tv66⟩ : ∃ v : Int32, Int32.ofInt (0) = v ∧ v.toInt = 0 := ⟨_, rfl, by decide +kernel⟩
            refine lv_iconst hx hb dX10_nameOf_121 ev66 ?_
            refine tc_vl Z.1 Z.2.2.2.1 Z.2.2.2.2.1 Z.2.2.2.2.2 S55.1 S55.2 ha0 ta0 rfl rfl (k_X10_packed l D cy S55.2 ha0 ta0 v61 v62 v63 v64 v65 v66) (cwV 6 hts gX10_nameOf_X10_packed rfl rfl rfl (by decide +kernel) ⟨Nat.le_of_ble_eq_true rfl, Nat.le_of_ble_eq_true rfl⟩) rfl hl.1 rfl (Nat.le_of_ble_eq_true rfl) dX10_nameOf_122 ⟨Nat.zero_le _, Nat.zero_le _⟩ (fun v70 E67 H68 k69 W67 I67 G67 p67 => ?_)
            have q67 := p67
            have q67 := q67.symm
            subst q67
            have S67 : Now D TB cy (va_A (va_pl L E) sz) s L τ E H68 k69 := ⟨W67, I67⟩
            refine W.lcmp hx hb dX10_nameOf_125 ?_
            refine lv_topi (fun v71 ev71 => ?_)
            refine lv_if_ne (tgt := 131) hx hb dX10_nameOf_126 (by decide) (fun c72 => ?_) (fun c72 => ?_)
            · skip
              have tc72 := nu_ne c72
              have uc72 : (0 : Int32).toInt = 0 := rfl
              refine lv_lload_n hx hb dX10_nameOf_131 rfl (lv_at hl 1 rfl) ?_
              refine lv_aload_n hx hb dX10_nameOf_132 rfl (lv_at hl 0 rfl) ?_
              obtain ⟨v73, ev73, tv73⟩ : ∃ v : Int32, (Int8.ofInt (110)).toInt32 = v ∧ v.toInt = 110 := ⟨_, rfl, by decide +kernel⟩
              refine lv_bipush hx hb dX10_nameOf_133 ev73 ?_
              obtain ⟨v74, ev74, tv74⟩ : ∃ v : Int32, (Int8.ofInt (117)).toInt32 = v ∧ v.toInt = 117 := ⟨_, rfl, by decide +kernel⟩
              refine lv_bipush hx hb dX10_nameOf_135 ev74 ?_
              obtain ⟨v75, ev75, tv75⟩ : ∃ v : Int32, (Int8.ofInt (109)).toInt32 = v ∧ v.toInt = 109 := ⟨_, rfl, by decide +kernel⟩
              refine lv_bipush hx hb dX10_nameOf_137 ev75 ?_
              obtain ⟨v76, ev76, tv76⟩ : ∃ v : Int32, (Int8.ofInt (98)).toInt32 = v ∧ v.toInt = 98 := ⟨_, rfl, by decide +kernel⟩
              refine lv_bipush hx hb dX10_nameOf_139 ev76 ?_
              obtain ⟨v77, ev77, tv77⟩ : ∃ v : Int32, (Int8.ofInt (101)).toInt32 = v ∧ v.toInt = 101 := ⟨_, rfl, by decide +kernel⟩
              refine lv_bipush hx hb dX10_nameOf_141 ev77 ?_
              obtain ⟨v78, ev78, tv78⟩ : ∃ v : Int32, (Int8.ofInt (114)).toInt32 = v ∧ v.toInt = 114 := ⟨_, rfl, by decide +kernel⟩
              refine lv_bipush hx hb dX10_nameOf_143 ev78 ?_
              refine tc_vl Z.1 Z.2.2.2.1 Z.2.2.2.2.1 Z.2.2.2.2.2 S67.1 S67.2 ha0 ta0 rfl rfl (k_X10_packed l D cy S67.2 ha0 ta0 v73 v74 v75 v76 v77 v78) (cwV 6 hts gX10_nameOf_X10_packed rfl rfl rfl (by decide +kernel) ⟨Nat.le_of_ble_eq_true rfl, Nat.le_of_ble_eq_true rfl⟩) rfl hl.1 rfl (Nat.le_of_ble_eq_true rfl) dX10_nameOf_145 ⟨Nat.zero_le _, Nat.zero_le _⟩ (fun v82 E79 H80 k81 W79 I79 G79 p79 => ?_)
              have q79 := p79
              have q79 := q79.symm
              subst q79
              have S79 : Now D TB cy (va_A (va_pl L E) sz) s L τ E H80 k81 := ⟨W79, I79⟩
              refine W.lcmp hx hb dX10_nameOf_148 ?_
              refine lv_topi (fun v83 ev83 => ?_)
              refine lv_if_ne (tgt := 155) hx hb dX10_nameOf_149 (by decide) (fun c84 => ?_) (fun c84 => ?_)
              · skip
                have tc84 := nu_ne c84
                have uc84 : (0 : Int32).toInt = 0 := rfl
                refine lv_lload_n hx hb dX10_nameOf_155 rfl (lv_at hl 1 rfl) ?_
                refine lv_aload_n hx hb dX10_nameOf_156 rfl (lv_at hl 0 rfl) ?_
                obtain ⟨v85, ev85, tv85⟩ : ∃ v : Int32, (Int8.ofInt (107)).toInt32 = v ∧ v.toInt = 107 := ⟨_, rfl, by decide +kernel⟩
                refine lv_bipush hx hb dX10_nameOf_157 ev85 ?_
                obtain ⟨v86, ev86, tv86⟩ : ∃ v : Int32, (Int8.ofInt (105)).toInt32 = v ∧ v.toInt = 105 := ⟨_, rfl, by decide +kernel⟩
                refine lv_bipush hx hb dX10_nameOf_159 ev86 ?_
                obtain ⟨v87, ev87, tv87⟩ : ∃ v : Int32, (Int8.ofInt (110)).toInt32 = v ∧ v.toInt = 110 := ⟨_, rfl, by decide +kernel⟩
                refine lv_bipush hx hb dX10_nameOf_161 ev87 ?_
                obtain ⟨v88, ev88, tv88⟩ : ∃ v : Int32, (Int8.ofInt (100)).toInt32 = v ∧ v.toInt = 100 := ⟨_, rfl, by decide +kernel⟩
                refine lv_bipush hx hb dX10_nameOf_163 ev88 ?_
                obtain ⟨v89, ev89, tv89⟩ : ∃ v : Int32, Int32.ofInt (0) = v ∧ v.toInt = 0 := ⟨_, rfl, by decide +kernel⟩
                refine lv_iconst hx hb dX10_nameOf_165 ev89 ?_
                obtain ⟨v90, ev90, tv90⟩ : ∃ v : Int32, Int32.ofInt (0) = v ∧ v.toInt = 0 := ⟨_, rfl, by decide +kernel⟩
                refine lv_iconst hx hb dX10_nameOf_166 ev90 ?_
                refine tc_vl Z.1 Z.2.2.2.1 Z.2.2.2.2.1 Z.2.2.2.2.2 S79.1 S79.2 ha0 ta0 rfl rfl (k_X10_packed l D cy S79.2 ha0 ta0 v85 v86 v87 v88 v89 v90) (cwV 6 hts gX10_nameOf_X10_packed rfl rfl rfl (by decide +kernel) ⟨Nat.le_of_ble_eq_true rfl, Nat.le_of_ble_eq_true rfl⟩) rfl hl.1 rfl (Nat.le_of_ble_eq_true rfl) dX10_nameOf_167 ⟨Nat.zero_le _, Nat.zero_le _⟩ (fun v94 E91 H92 k93 W91 I91 G91 p91 => ?_)
                have q91 := p91
                have q91 := q91.symm
                subst q91
                have S91 : Now D TB cy (va_A (va_pl L E) sz) s L τ E H92 k93 := ⟨W91, I91⟩
                refine W.lcmp hx hb dX10_nameOf_170 ?_
                refine lv_topi (fun v95 ev95 => ?_)
                refine lv_if_ne (tgt := 179) hx hb dX10_nameOf_171 (by decide) (fun c96 => ?_) (fun c96 => ?_)
                · skip
                  have tc96 := nu_ne c96
                  have uc96 : (0 : Int32).toInt = 0 := rfl
                  obtain ⟨v97, ev97, tv97⟩ : ∃ v : Int32, Int32.ofInt (-1) = v ∧ v.toInt = -1 := ⟨_, rfl, by decide +kernel⟩
                  refine lv_iconst hx hb dX10_nameOf_179 ev97 ?_
                  rw [← hQ]
                  exact en_i Z S91 F0_ ⟨rfl, (by omega), (by omega)⟩ dX10_nameOf_180
                · skip
                  have tc96 := nu_eq c96
                  have uc96 : (0 : Int32).toInt = 0 := rfl
                  obtain ⟨v98, ev98, tv98⟩ : ∃ v : Int32, (Int8.ofInt (7)).toInt32 = v ∧ v.toInt = 7 := ⟨_, rfl, by decide +kernel⟩
                  refine lv_bipush hx hb dX10_nameOf_174 ev98 ?_
                  refine lv_goto (tgt := 180) hx hb dX10_nameOf_176 (by decide) ?_
                  rw [← hQ]
                  exact en_i Z S91 F0_ ⟨rfl, (by omega), (by omega)⟩ dX10_nameOf_180
              · skip
                have tc84 := nu_eq c84
                have uc84 : (0 : Int32).toInt = 0 := rfl
                obtain ⟨v99, ev99, tv99⟩ : ∃ v : Int32, (Int8.ofInt (6)).toInt32 = v ∧ v.toInt = 6 := ⟨_, rfl, by decide +kernel⟩
                refine lv_bipush hx hb dX10_nameOf_152 ev99 ?_
                rw [← hQ]
                exact en_i Z S79 F0_ ⟨rfl, (by omega), (by omega)⟩ dX10_nameOf_154
            · skip
              have tc72 := nu_eq c72
              have uc72 : (0 : Int32).toInt = 0 := rfl
              obtain ⟨v100, ev100, tv100⟩ : ∃ v : Int32, Int32.ofInt (5) = v ∧ v.toInt = 5 := ⟨_, rfl, by decide +kernel⟩
              refine lv_iconst hx hb dX10_nameOf_129 ev100 ?_
              rw [← hQ]
              exact en_i Z S67 F0_ ⟨rfl, (by omega), (by omega)⟩ dX10_nameOf_130
          · skip
            have tc60 := nu_eq c60
            have uc60 : (0 : Int32).toInt = 0 := rfl
            obtain ⟨v101, ev101, tv101⟩ : ∃ v : Int32, Int32.ofInt (4) = v ∧ v.toInt = 4 := ⟨_, rfl, by decide +kernel⟩
            refine lv_iconst hx hb dX10_nameOf_107 ev101 ?_
            rw [← hQ]
            exact en_i Z S55 F0_ ⟨rfl, (by omega), (by omega)⟩ dX10_nameOf_108
        · skip
          have tc48 := nu_eq c48
          have uc48 : (0 : Int32).toInt = 0 := rfl
          obtain ⟨v102, ev102, tv102⟩ : ∃ v : Int32, Int32.ofInt (3) = v ∧ v.toInt = 3 := ⟨_, rfl, by decide +kernel⟩
          refine lv_iconst hx hb dX10_nameOf_86 ev102 ?_
          rw [← hQ]
          exact en_i Z S43 F0_ ⟨rfl, (by omega), (by omega)⟩ dX10_nameOf_87
      · skip
        have tc36 := nu_eq c36
        have uc36 : (0 : Int32).toInt = 0 := rfl
        obtain ⟨v103, ev103, tv103⟩ : ∃ v : Int32, Int32.ofInt (2) = v ∧ v.toInt = 2 := ⟨_, rfl, by decide +kernel⟩
        refine lv_iconst hx hb dX10_nameOf_65 ev103 ?_
        rw [← hQ]
        exact en_i Z S31 F0_ ⟨rfl, (by omega), (by omega)⟩ dX10_nameOf_66
    · skip
      have tc24 := nu_eq c24
      have uc24 : (0 : Int32).toInt = 0 := rfl
      obtain ⟨v104, ev104, tv104⟩ : ∃ v : Int32, Int32.ofInt (1) = v ∧ v.toInt = 1 := ⟨_, rfl, by decide +kernel⟩
      refine lv_iconst hx hb dX10_nameOf_42 ev104 ?_
      rw [← hQ]
      exact en_i Z S19 F0_ ⟨rfl, (by omega), (by omega)⟩ dX10_nameOf_43
  · skip
    have tc12 := nu_eq c12
    have uc12 : (0 : Int32).toInt = 0 := rfl
    obtain ⟨v105, ev105, tv105⟩ : ∃ v : Int32, Int32.ofInt (0) = v ∧ v.toInt = 0 := ⟨_, rfl, by decide +kernel⟩
    refine lv_iconst hx hb dX10_nameOf_20 ev105 ?_
    rw [← hQ]
    exact en_i Z S7 F0_ ⟨rfl, (by omega), (by omega)⟩ dX10_nameOf_21

set_option maxRecDepth 20000 in
theorem ggX10_digits_X10_look : GoodIn wsX10_digits wsX10_look := goodIn_r _ [6, 1, 7, 8, 15, 16, 17, 18, 19, 20, 21, 22, 23, 24, 25, 26, 27, 28, 29, 30, 31, 32, 33, 34, 35, 36, 37, 38, 39, 40, 41, 42, 43, 44, 45, 46, 47, 48, 49, 50, 51, 52, 53, 54, 55, 56, 57, 58, 59, 60, 61, 62] (by decide +kernel) (by decide +kernel)
set_option maxRecDepth 20000 in
theorem gX10_digits_X10_look : GoodIn wsX10_digits (wsV RX10 157 RX10 yX10_look wsX10_look) := goodIn_app (goodIn_of _ (by decide +kernel)) ggX10_digits_X10_look
set_option maxRecDepth 20000 in
theorem ggX10_digits_X10_wrong : GoodIn wsX10_digits wsX10_wrong := goodIn_r _ [12, 13, 14, 15, 16, 17, 18, 19, 20, 21, 22, 23, 24, 25, 26, 27, 28, 29, 30, 31, 32, 33, 34, 35, 36, 37, 38, 39, 40, 41, 42, 43, 44, 45, 46, 47, 48, 49, 50, 51, 52, 53, 54, 55, 56, 57, 58, 59, 60, 61, 62] (by decide +kernel) (by decide +kernel)
set_option maxRecDepth 20000 in
theorem gX10_digits_X10_wrong : GoodIn wsX10_digits (wsV RX10 174 RX10 yX10_wrong wsX10_wrong) := goodIn_app (goodIn_of _ (by decide +kernel)) ggX10_digits_X10_wrong
theorem dX10_digits_0 : decode cX10_digits 0 = .ok (.aload_n 0, 1) := by decide +kernel
theorem dX10_digits_1 : decode cX10_digits 1 = .ok (.getfield 151, 3) := by decide +kernel
theorem dX10_digits_4 : decode cX10_digits 4 = .ok (.istore_n 1, 1) := by decide +kernel
theorem dX10_digits_5 : decode cX10_digits 5 = .ok (.iconst 0, 1) := by decide +kernel
theorem dX10_digits_6 : decode cX10_digits 6 = .ok (.istore_n 2, 1) := by decide +kernel
theorem dX10_digits_7 : decode cX10_digits 7 = .ok (.aload_n 0, 1) := by decide +kernel
theorem dX10_digits_8 : decode cX10_digits 8 = .ok (.invokevirtual 157, 3) := by decide +kernel
theorem dX10_digits_11 : decode cX10_digits 11 = .ok (.bipush 48, 2) := by decide +kernel
theorem dX10_digits_13 : decode cX10_digits 13 = .ok (.if_icmp .lt 49, 3) := by decide +kernel
theorem dX10_digits_16 : decode cX10_digits 16 = .ok (.aload_n 0, 1) := by decide +kernel
theorem dX10_digits_17 : decode cX10_digits 17 = .ok (.invokevirtual 157, 3) := by decide +kernel
theorem dX10_digits_20 : decode cX10_digits 20 = .ok (.bipush 57, 2) := by decide +kernel
theorem dX10_digits_22 : decode cX10_digits 22 = .ok (.if_icmp .gt 40, 3) := by decide +kernel
theorem dX10_digits_25 : decode cX10_digits 25 = .ok (.iload_n 2, 1) := by decide +kernel
theorem dX10_digits_26 : decode cX10_digits 26 = .ok (.sipush 9999, 3) := by decide +kernel
theorem dX10_digits_29 : decode cX10_digits 29 = .ok (.if_icmp .le 7, 3) := by decide +kernel
theorem dX10_digits_32 : decode cX10_digits 32 = .ok (.iload_n 2, 1) := by decide +kernel
theorem dX10_digits_33 : decode cX10_digits 33 = .ok (.goto 15, 3) := by decide +kernel
theorem dX10_digits_36 : decode cX10_digits 36 = .ok (.bipush 10, 2) := by decide +kernel
theorem dX10_digits_38 : decode cX10_digits 38 = .ok (.iload_n 2, 1) := by decide +kernel
theorem dX10_digits_39 : decode cX10_digits 39 = .ok (.imul, 1) := by decide +kernel
theorem dX10_digits_40 : decode cX10_digits 40 = .ok (.aload_n 0, 1) := by decide +kernel
theorem dX10_digits_41 : decode cX10_digits 41 = .ok (.invokevirtual 157, 3) := by decide +kernel
theorem dX10_digits_44 : decode cX10_digits 44 = .ok (.iadd, 1) := by decide +kernel
theorem dX10_digits_45 : decode cX10_digits 45 = .ok (.bipush 48, 2) := by decide +kernel
theorem dX10_digits_47 : decode cX10_digits 47 = .ok (.isub, 1) := by decide +kernel
theorem dX10_digits_48 : decode cX10_digits 48 = .ok (.istore_n 2, 1) := by decide +kernel
theorem dX10_digits_49 : decode cX10_digits 49 = .ok (.aload_n 0, 1) := by decide +kernel
theorem dX10_digits_50 : decode cX10_digits 50 = .ok (.dup, 1) := by decide +kernel
theorem dX10_digits_51 : decode cX10_digits 51 = .ok (.getfield 151, 3) := by decide +kernel
theorem dX10_digits_54 : decode cX10_digits 54 = .ok (.iconst 1, 1) := by decide +kernel
theorem dX10_digits_55 : decode cX10_digits 55 = .ok (.iadd, 1) := by decide +kernel
theorem dX10_digits_56 : decode cX10_digits 56 = .ok (.putfield 151, 3) := by decide +kernel
theorem dX10_digits_59 : decode cX10_digits 59 = .ok (.goto (-52), 3) := by decide +kernel
theorem dX10_digits_62 : decode cX10_digits 62 = .ok (.iload_n 2, 1) := by decide +kernel
theorem dX10_digits_63 : decode cX10_digits 63 = .ok (.sipush 9999, 3) := by decide +kernel
theorem dX10_digits_66 : decode cX10_digits 66 = .ok (.if_icmp .le 9, 3) := by decide +kernel
theorem dX10_digits_69 : decode cX10_digits 69 = .ok (.aload_n 0, 1) := by decide +kernel
theorem dX10_digits_70 : decode cX10_digits 70 = .ok (.iconst 2, 1) := by decide +kernel
theorem dX10_digits_71 : decode cX10_digits 71 = .ok (.iload_n 1, 1) := by decide +kernel
theorem dX10_digits_72 : decode cX10_digits 72 = .ok (.invokevirtual 174, 3) := by decide +kernel
theorem dX10_digits_75 : decode cX10_digits 75 = .ok (.iload_n 2, 1) := by decide +kernel
theorem dX10_digits_76 : decode cX10_digits 76 = .ok (.ireturn, 1) := by decide +kernel
set_option maxHeartbeats 4000000 in
set_option maxRecDepth 100000 in
theorem k_X10_digits (l : Launch) (D : va_G) (cy : Nat → ClassId) {L : List Nat} {τ : Nat → Ro} {E : Ec} (hI : Inv TB cy L τ E) {a0 : Nat} (ha0 : a0 ∈ L) (ta0 : τ a0 = (11, 0)) : CtI l yX10_digits wsX10_digits { frames := 1, cells := 0, slots := 0, locals := 22 } D TB cy L τ E [.ref a0] (inW [(11, 0)]) (fun r E' => True) := by
  intro sz
  refine sta (cc := cX10_digits) (maxL := 3) hI (by decide) rfl (Nat.le_of_ble_eq_true rfl) (fun p e s m args below meth c ls hsz Z S0 hl => ?_)
  have hx := Z.1.1
  have hb := Z.1.2.1
  have hts := Z.1.2.2.2.2
  have F0_ : Fr L τ (inW [(11, 0)]) E E := Fr.refl
  have hl : lv_has ls 3 [(0, .ref a0)] := hl
  generalize hQ : MQ below _ args s 0 0 _ = QQ
  have J62 : ∀ (x1_62 : Int32) (x2_62 : Int32) (E_62 : Ec) (H_62 : Heap) (k_62 : List Loc) (l_62 : Array Slot), Now D TB cy (va_A (va_pl L E) sz) s L τ E_62 H_62 k_62 → Fr L τ (inW [(11, 0)]) E E_62 → (0 ≤ x1_62.toInt) → (x1_62.toInt ≤ 120) → lv_has l_62 3 [(0, .ref a0), (1, .int x1_62), (2, .int x2_62)] → W p l e { frames := 1, cells := 0, slots := 0, locals := 22 } s m args below meth c H_62 k_62 0 0 QQ (F0 m 62 l_62 []) := by
    intro x1_62 x2_62 E_62 H_62 k_62 l_62 S_62 F_62 z1 z2 hl_62
    refine lv_iload_n hx hb dX10_digits_62 rfl (lv_at hl_62 2 rfl) ?_
    obtain ⟨v3, ev3, tv3⟩ : ∃ v : Int32, (Int16.ofInt (9999)).toInt32 = v ∧ v.toInt = 9999 := ⟨_, rfl, by decide +kernel⟩
    refine lv_sipush hx hb dX10_digits_63 ev3 ?_
    refine lv_icmp_le (tgt := 75) hx hb dX10_digits_66 (by decide) (fun c4 => ?_) (fun c4 => ?_)
    · skip
      have tc4 := nu_le c4
      refine lv_iload_n hx hb dX10_digits_75 rfl (lv_at hl_62 2 rfl) ?_
      rw [← hQ]
      exact en_i Z S_62 F_62 trivial dX10_digits_76
    · skip
      have tc4 := nu_nle c4
      refine lv_aload_n hx hb dX10_digits_69 rfl (lv_at hl_62 0 rfl) ?_
      obtain ⟨v5, ev5, tv5⟩ : ∃ v : Int32, Int32.ofInt (2) = v ∧ v.toInt = 2 := ⟨_, rfl, by decide +kernel⟩
      refine lv_iconst hx hb dX10_digits_70 ev5 ?_
      refine lv_iload_n hx hb dX10_digits_71 rfl (lv_at hl_62 1 rfl) ?_
      refine tc_vv Z.1 Z.2.2.2.1 Z.2.2.2.2.1 Z.2.2.2.2.2 S_62.1 S_62.2 ha0 ta0 rfl rfl (k_X10_wrong l D cy S_62.2 ha0 ta0 v5 x1_62) (cwV 2 hts gX10_digits_X10_wrong rfl rfl rfl (by decide +kernel) ⟨Nat.le_of_ble_eq_true rfl, Nat.le_of_ble_eq_true rfl⟩) rfl hl_62.1 rfl (Nat.le_of_ble_eq_true rfl) dX10_digits_72 ⟨Nat.zero_le _, Nat.zero_le _⟩ (fun E6 H7 k8 W6 I6 G6 p6 => ?_)
      have p6_0 := p6
      have S6 : Now D TB cy (va_A (va_pl L E) sz) s L τ E6 H7 k8 := ⟨W6, I6⟩
      have F6 : Fr L τ (inW [(11, 0)]) E E6 := F_62.trans (G6.mono (inW_mono (by decide)))
      refine lv_iload_n hx hb dX10_digits_75 rfl (lv_at hl_62 2 rfl) ?_
      rw [← hQ]
      exact en_i Z S6 F6 trivial dX10_digits_76
  have J7 : ∀ (n : Nat) (x1_7 : Int32) (x2_7 : Int32) (E_7 : Ec) (H_7 : Heap) (k_7 : List Loc) (l_7 : Array Slot), Now D TB cy (va_A (va_pl L E) sz) s L τ E_7 H_7 k_7 → Fr L τ (inW [(11, 0)]) E E_7 → (0 ≤ x1_7.toInt) → (x1_7.toInt ≤ 120) → (0 ≤ (fi E_7 a0 22).toInt ∧ (fi E_7 a0 22).toInt ≤ 120) → (120 - (fi E_7 a0 22).toInt).toNat < n → lv_has l_7 3 [(0, .ref a0), (1, .int x1_7), (2, .int x2_7)] → W p l e { frames := 1, cells := 0, slots := 0, locals := 22 } s m args below meth c H_7 k_7 0 0 QQ (F0 m 7 l_7 []) := by
    intro n
    induction n with
    | zero => intro x1_7 x2_7 E_7 H_7 k_7 l_7 S_7 F_7 z10 z11 z12 hm hl_7; exact absurd hm (Nat.not_lt_zero _)
    | succ n ih =>
      intro x1_7 x2_7 E_7 H_7 k_7 l_7 S_7 F_7 z10 z11 z12 hm hl_7
      have ih_7 := ih
      have J48 : ∀ (y0_48 : Int32) (E_48 : Ec) (H_48 : Heap) (k_48 : List Loc) (l_48 : Array Slot), Now D TB cy (va_A (va_pl L E) sz) s L τ E_48 H_48 k_48 → Fr L τ (inW [(11, 0)]) E E_48 → (0 ≤ x1_7.toInt) → (x1_7.toInt ≤ 120) → (0 ≤ (fi E_48 a0 22).toInt ∧ (fi E_48 a0 22).toInt ≤ 119 ∧ (fi E_48 a0 22).toInt = (fi E_7 a0 22).toInt) → lv_has l_48 3 [(0, .ref a0), (1, .int x1_7)] → W p l e { frames := 1, cells := 0, slots := 0, locals := 22 } s m args below meth c H_48 k_48 0 0 QQ (F0 m 48 l_48 [.int y0_48]) := by
        intro y0_48 E_48 H_48 k_48 l_48 S_48 F_48 z13 z14 z15 hl_48
        refine lv_istore_n (lv' := [(2, .int y0_48), (0, .ref a0), (1, .int x1_7)]) hx hb dX10_digits_48 rfl hl_48 (by decide) rfl (fun l16 hl17 => ?_)
        refine lv_aload_n hx hb dX10_digits_49 rfl (lv_at hl17 1 rfl) ?_
        refine lv_dup hx hb dX10_digits_50 rfl ?_
        refine tr_geti Z.1 Z.2.2.2.1 S_48.1 S_48.2 ha0 ta0 rfl rfl (fun _ h => List.mem_cons_of_mem _ (List.mem_append_right _ h)) 22 (by decide) rfl (hts _ (List.mem_of_getElem? (i := 1) rfl)) dX10_digits_51 (fun v18 ev18 lv18 uv18 => ?_)
        have wv18 : v18 = (fi E_48 a0 22) := ev18.symm.trans rfl
        have xv18 : v18.toInt = (fi E_48 a0 22).toInt := by rw [wv18]
        obtain ⟨v19, ev19, tv19⟩ : ∃ v : Int32, Int32.ofInt (1) = v ∧ v.toInt = 1 := ⟨_, rfl, by decide +kernel⟩
        refine lv_iconst hx hb dX10_digits_54 ev19 ?_
        refine lv_iadd hx hb dX10_digits_55 ?_
        refine lv_topi (fun v20 ev20 => ?_)
        have tv20 := nu_add ev20 (by omega) (by omega)
        refine tr_puti Z.1 Z.2.2.2.1 S_48.1 S_48.2 ha0 ta0 rfl rfl (fun _ h => List.mem_cons_of_mem _ (List.mem_append_right _ h)) tyX10_ok nmX10 22 (by decide) rfl rfl rfl (hts _ (List.mem_of_getElem? (i := 1) rfl)) dX10_digits_56 (by omega) (by omega) (fun E21 H22 k23 W21 I21 P21 => ?_)
        have S21 : Now D TB cy (va_A (va_pl L E) sz) s L τ E21 H22 k23 := ⟨W21, I21⟩
        have F21 : Fr L τ (inW [(11, 0)]) E E21 := Fr.put F_48 P21 ta0 rfl
        refine lv_goto (tgt := 7) hx hb dX10_digits_59 (by decide) ?_
        exact ih_7 x1_7 y0_48 E21 H22 k23 l16 S21 F21 (by have := fb_rng y0_48; omega) (by have := fb_rng y0_48; omega) (by rw [(fi_at P21)]; have := fb_rng y0_48; omega) (by rw [(fi_at P21)]; omega) (lv_sub hl17 [1, 2, 0] rfl)
      refine lv_aload_n hx hb dX10_digits_7 rfl (lv_at hl_7 0 rfl) ?_
      refine tc_vi Z.1 Z.2.2.2.1 Z.2.2.2.2.1 Z.2.2.2.2.2 S_7.1 S_7.2 ha0 ta0 rfl rfl (k_X10_look l D cy S_7.2 ha0 ta0) (cwV 0 hts gX10_digits_X10_look rfl rfl rfl (by decide +kernel) ⟨Nat.le_of_ble_eq_true rfl, Nat.le_of_ble_eq_true rfl⟩) rfl hl_7.1 rfl (Nat.le_of_ble_eq_true rfl) dX10_digits_8 ⟨Nat.zero_le _, Nat.zero_le _⟩ (fun v27 E24 H25 k26 W24 I24 G24 p24 => ?_)
      obtain ⟨q24, p24_0, p24_1, p24_2⟩ := p24
      have q24 := q24.symm
      subst q24
      have S24 : Now D TB cy (va_A (va_pl L E) sz) s L τ E_7 H25 k26 := ⟨W24, I24⟩
      obtain ⟨v28, ev28, tv28⟩ : ∃ v : Int32, (Int8.ofInt (48)).toInt32 = v ∧ v.toInt = 48 := ⟨_, rfl, by decide +kernel⟩
      refine lv_bipush hx hb dX10_digits_11 ev28 ?_
      refine lv_icmp_lt (tgt := 62) hx hb dX10_digits_13 (by decide) (fun c29 => ?_) (fun c29 => ?_)
      · skip
        have tc29 := nu_lt c29
        exact J62 x1_7 x2_7 E_7 H25 k26 l_7 S24 F_7 (by have := fb_rng x2_7; omega) (by have := fb_rng x2_7; omega) (lv_sub hl_7 [0, 1, 2] rfl)
      · skip
        have tc29 := nu_nlt c29
        refine lv_aload_n hx hb dX10_digits_16 rfl (lv_at hl_7 0 rfl) ?_
        refine tc_vi Z.1 Z.2.2.2.1 Z.2.2.2.2.1 Z.2.2.2.2.2 S24.1 S24.2 ha0 ta0 rfl rfl (k_X10_look l D cy S24.2 ha0 ta0) (cwV 0 hts gX10_digits_X10_look rfl rfl rfl (by decide +kernel) ⟨Nat.le_of_ble_eq_true rfl, Nat.le_of_ble_eq_true rfl⟩) rfl hl_7.1 rfl (Nat.le_of_ble_eq_true rfl) dX10_digits_17 ⟨Nat.zero_le _, Nat.zero_le _⟩ (fun v33 E30 H31 k32 W30 I30 G30 p30 => ?_)
        obtain ⟨q30, p30_0, p30_1, p30_2⟩ := p30
        have q30 := q30.symm
        subst q30
        have S30 : Now D TB cy (va_A (va_pl L E) sz) s L τ E_7 H31 k32 := ⟨W30, I30⟩
        obtain ⟨v34, ev34, tv34⟩ : ∃ v : Int32, (Int8.ofInt (57)).toInt32 = v ∧ v.toInt = 57 := ⟨_, rfl, by decide +kernel⟩
        refine lv_bipush hx hb dX10_digits_20 ev34 ?_
        refine lv_icmp_gt (tgt := 62) hx hb dX10_digits_22 (by decide) (fun c35 => ?_) (fun c35 => ?_)
        · skip
          have tc35 := nu_lt c35
          exact J62 x1_7 x2_7 E_7 H31 k32 l_7 S30 F_7 (by have := fb_rng x2_7; omega) (by have := fb_rng x2_7; omega) (lv_sub hl_7 [0, 1, 2] rfl)
        · skip
          have tc35 := nu_nlt c35
          refine lv_iload_n hx hb dX10_digits_25 rfl (lv_at hl_7 2 rfl) ?_
          obtain ⟨v36, ev36, tv36⟩ : ∃ v : Int32, (Int16.ofInt (9999)).toInt32 = v ∧ v.toInt = 9999 := ⟨_, rfl, by decide +kernel⟩
          refine lv_sipush hx hb dX10_digits_26 ev36 ?_
          refine lv_icmp_le (tgt := 36) hx hb dX10_digits_29 (by decide) (fun c37 => ?_) (fun c37 => ?_)
          · skip
            have tc37 := nu_le c37
            obtain ⟨v38, ev38, tv38⟩ : ∃ v : Int32, (Int8.ofInt (10)).toInt32 = v ∧ v.toInt = 10 := ⟨_, rfl, by decide +kernel⟩
            refine lv_bipush hx hb dX10_digits_36 ev38 ?_
            refine lv_iload_n hx hb dX10_digits_38 rfl (lv_at hl_7 2 rfl) ?_
            refine lv_imul hx hb dX10_digits_39 ?_
            refine lv_topi (fun v39 ev39 => ?_)
            refine lv_aload_n hx hb dX10_digits_40 rfl (lv_at hl_7 0 rfl) ?_
            refine tc_vi Z.1 Z.2.2.2.1 Z.2.2.2.2.1 Z.2.2.2.2.2 S30.1 S30.2 ha0 ta0 rfl rfl (k_X10_look l D cy S30.2 ha0 ta0) (cwV 0 hts gX10_digits_X10_look rfl rfl rfl (by decide +kernel) ⟨Nat.le_of_ble_eq_true rfl, Nat.le_of_ble_eq_true rfl⟩) rfl hl_7.1 rfl (Nat.le_of_ble_eq_true rfl) dX10_digits_41 ⟨Nat.zero_le _, Nat.zero_le _⟩ (fun v43 E40 H41 k42 W40 I40 G40 p40 => ?_)
            obtain ⟨q40, p40_0, p40_1, p40_2⟩ := p40
            have q40 := q40.symm
            subst q40
            have S40 : Now D TB cy (va_A (va_pl L E) sz) s L τ E_7 H41 k42 := ⟨W40, I40⟩
            refine lv_iadd hx hb dX10_digits_44 ?_
            refine lv_topi (fun v44 ev44 => ?_)
            obtain ⟨v45, ev45, tv45⟩ : ∃ v : Int32, (Int8.ofInt (48)).toInt32 = v ∧ v.toInt = 48 := ⟨_, rfl, by decide +kernel⟩
            refine lv_bipush hx hb dX10_digits_45 ev45 ?_
            refine lv_isub hx hb dX10_digits_47 ?_
            refine lv_topi (fun v46 ev46 => ?_)
            exact J48 v46 E_7 H41 k42 l_7 S40 F_7 (by have := fb_rng x2_7; omega) (by have := fb_rng x2_7; omega) (by have := fb_rng x2_7; omega) (lv_sub hl_7 [0, 1] rfl)
          · skip
            have tc37 := nu_nle c37
            refine lv_iload_n hx hb dX10_digits_32 rfl (lv_at hl_7 2 rfl) ?_
            refine lv_goto (tgt := 48) hx hb dX10_digits_33 (by decide) ?_
            exact J48 x2_7 E_7 H31 k32 l_7 S30 F_7 (by have := fb_rng x2_7; omega) (by have := fb_rng x2_7; omega) (by have := fb_rng x2_7; omega) (lv_sub hl_7 [0, 1] rfl)
  refine lv_aload_n hx hb dX10_digits_0 rfl (lv_at hl 0 rfl) ?_
  refine tr_geti Z.1 Z.2.2.2.1 S0.1 S0.2 ha0 ta0 rfl rfl (fun _ h => List.mem_cons_of_mem _ (List.mem_append_right _ h)) 22 (by decide) rfl (hts _ (List.mem_of_getElem? (i := 1) rfl)) dX10_digits_1 (fun v47 ev47 lv47 uv47 => ?_)
  refine lv_istore_n (lv' := [(1, .int v47), (0, .ref a0)]) hx hb dX10_digits_4 rfl hl (by decide) rfl (fun l48 hl49 => ?_)
  obtain ⟨v50, ev50, tv50⟩ : ∃ v : Int32, Int32.ofInt (0) = v ∧ v.toInt = 0 := ⟨_, rfl, by decide +kernel⟩
  refine lv_iconst hx hb dX10_digits_5 ev50 ?_
  refine lv_istore_n (lv' := [(2, .int v50), (1, .int v47), (0, .ref a0)]) hx hb dX10_digits_6 rfl hl49 (by decide) rfl (fun l51 hl52 => ?_)
  exact J7 _ v47 v50 E s.heap [] l51 S0 F0_ (by omega) (by omega) (by rw [ev47]; omega) (Nat.lt_succ_self _) (lv_sub hl52 [2, 1, 0] rfl)

set_option maxRecDepth 20000 in
theorem ggX10_boards_X10_in : GoodIn wsX10_boards wsX10_in := goodIn_r _ [10] (by decide +kernel) (by decide +kernel)
set_option maxRecDepth 20000 in
theorem gX10_boards_X10_in : GoodIn wsX10_boards (wsV RX10 123 RX10 yX10_in wsX10_in) := goodIn_app (goodIn_of _ (by decide +kernel)) ggX10_boards_X10_in
set_option maxRecDepth 20000 in
theorem ggX10_boards_X10_no : GoodIn wsX10_boards wsX10_no := goodIn_r _ [14, 15, 16, 21, 22, 23, 24, 25, 26, 27, 28, 29, 30, 31, 32, 33, 34, 35, 36, 37, 38, 39, 40, 41, 42, 43, 44, 45, 46, 47, 48, 49, 50, 51, 52, 53, 54, 55, 56, 57, 58, 59, 60, 61, 62, 63, 64, 65, 66, 67, 68] (by decide +kernel) (by decide +kernel)
set_option maxRecDepth 20000 in
theorem gX10_boards_X10_no : GoodIn wsX10_boards (wsV RX10 144 RX10 yX10_no wsX10_no) := goodIn_app (goodIn_of _ (by decide +kernel)) ggX10_boards_X10_no
set_option maxRecDepth 20000 in
theorem ggX10_boards_X10_good : GoodIn wsX10_boards wsX10_good := goodIn_r _ [20, 15, 16, 21, 22, 23, 24, 25, 26, 27, 28, 29, 30, 31, 32, 33, 34, 35, 36, 37, 38, 39, 40, 41, 42, 43, 44, 45, 46, 47, 48, 49, 50, 51, 52, 53, 54, 55, 56, 57, 58, 59, 60, 61, 62, 63, 64, 65, 66, 67, 68] (by decide +kernel) (by decide +kernel)
set_option maxRecDepth 20000 in
theorem gX10_boards_X10_good : GoodIn wsX10_boards (wsV RX10 106 RX10 yX10_good wsX10_good) := goodIn_app (goodIn_of _ (by decide +kernel)) ggX10_boards_X10_good
theorem dX10_boards_0 : decode cX10_boards 0 = .ok (.aload_n 0, 1) := by decide +kernel
theorem dX10_boards_1 : decode cX10_boards 1 = .ok (.iconst 0, 1) := by decide +kernel
theorem dX10_boards_2 : decode cX10_boards 2 = .ok (.putfield 97, 3) := by decide +kernel
theorem dX10_boards_5 : decode cX10_boards 5 = .ok (.aload_n 0, 1) := by decide +kernel
theorem dX10_boards_6 : decode cX10_boards 6 = .ok (.iload_n 1, 1) := by decide +kernel
theorem dX10_boards_7 : decode cX10_boards 7 = .ok (.iconst 1, 1) := by decide +kernel
theorem dX10_boards_8 : decode cX10_boards 8 = .ok (.sipush 10000, 3) := by decide +kernel
theorem dX10_boards_11 : decode cX10_boards 11 = .ok (.invokevirtual 123, 3) := by decide +kernel
theorem dX10_boards_14 : decode cX10_boards 14 = .ok (.ifCond .ne 9, 3) := by decide +kernel
theorem dX10_boards_17 : decode cX10_boards 17 = .ok (.aload_n 0, 1) := by decide +kernel
theorem dX10_boards_18 : decode cX10_boards 18 = .ok (.iconst 1, 1) := by decide +kernel
theorem dX10_boards_19 : decode cX10_boards 19 = .ok (.invokevirtual 144, 3) := by decide +kernel
theorem dX10_boards_22 : decode cX10_boards 22 = .ok (.ireturn, 1) := by decide +kernel
theorem dX10_boards_23 : decode cX10_boards 23 = .ok (.aload_n 0, 1) := by decide +kernel
theorem dX10_boards_24 : decode cX10_boards 24 = .ok (.invokevirtual 106, 3) := by decide +kernel
theorem dX10_boards_27 : decode cX10_boards 27 = .ok (.iconst 0, 1) := by decide +kernel
theorem dX10_boards_28 : decode cX10_boards 28 = .ok (.istore_n 2, 1) := by decide +kernel
theorem dX10_boards_29 : decode cX10_boards 29 = .ok (.iload_n 2, 1) := by decide +kernel
theorem dX10_boards_30 : decode cX10_boards 30 = .ok (.aload_n 0, 1) := by decide +kernel
theorem dX10_boards_31 : decode cX10_boards 31 = .ok (.getfield 141, 3) := by decide +kernel
theorem dX10_boards_34 : decode cX10_boards 34 = .ok (.if_icmp .ge 22, 3) := by decide +kernel
theorem dX10_boards_37 : decode cX10_boards 37 = .ok (.aload_n 0, 1) := by decide +kernel
theorem dX10_boards_38 : decode cX10_boards 38 = .ok (.getfield 85, 3) := by decide +kernel
theorem dX10_boards_41 : decode cX10_boards 41 = .ok (.iload_n 2, 1) := by decide +kernel
theorem dX10_boards_42 : decode cX10_boards 42 = .ok (.iaload, 1) := by decide +kernel
theorem dX10_boards_43 : decode cX10_boards 43 = .ok (.iload_n 1, 1) := by decide +kernel
theorem dX10_boards_44 : decode cX10_boards 44 = .ok (.if_icmp .le 6, 3) := by decide +kernel
theorem dX10_boards_47 : decode cX10_boards 47 = .ok (.bipush (-2), 2) := by decide +kernel
theorem dX10_boards_49 : decode cX10_boards 49 = .ok (.ireturn, 1) := by decide +kernel
theorem dX10_boards_50 : decode cX10_boards 50 = .ok (.iinc 2 1, 3) := by decide +kernel
theorem dX10_boards_53 : decode cX10_boards 53 = .ok (.goto (-24), 3) := by decide +kernel
theorem dX10_boards_56 : decode cX10_boards 56 = .ok (.aload_n 0, 1) := by decide +kernel
theorem dX10_boards_57 : decode cX10_boards 57 = .ok (.getfield 88, 3) := by decide +kernel
theorem dX10_boards_60 : decode cX10_boards 60 = .ok (.iconst 0, 1) := by decide +kernel
theorem dX10_boards_61 : decode cX10_boards 61 = .ok (.iconst 0, 1) := by decide +kernel
theorem dX10_boards_62 : decode cX10_boards 62 = .ok (.iastore, 1) := by decide +kernel
theorem dX10_boards_63 : decode cX10_boards 63 = .ok (.aload_n 0, 1) := by decide +kernel
theorem dX10_boards_64 : decode cX10_boards 64 = .ok (.getfield 91, 3) := by decide +kernel
theorem dX10_boards_67 : decode cX10_boards 67 = .ok (.iconst 0, 1) := by decide +kernel
theorem dX10_boards_68 : decode cX10_boards 68 = .ok (.iload_n 1, 1) := by decide +kernel
theorem dX10_boards_69 : decode cX10_boards 69 = .ok (.iastore, 1) := by decide +kernel
theorem dX10_boards_70 : decode cX10_boards 70 = .ok (.iconst 1, 1) := by decide +kernel
theorem dX10_boards_71 : decode cX10_boards 71 = .ok (.istore_n 2, 1) := by decide +kernel
theorem dX10_boards_72 : decode cX10_boards 72 = .ok (.iload_n 2, 1) := by decide +kernel
theorem dX10_boards_73 : decode cX10_boards 73 = .ok (.iconst 1, 1) := by decide +kernel
theorem dX10_boards_74 : decode cX10_boards 74 = .ok (.aload_n 0, 1) := by decide +kernel
theorem dX10_boards_75 : decode cX10_boards 75 = .ok (.getfield 141, 3) := by decide +kernel
theorem dX10_boards_78 : decode cX10_boards 78 = .ok (.ishl, 1) := by decide +kernel
theorem dX10_boards_79 : decode cX10_boards 79 = .ok (.if_icmp .ge 191, 3) := by decide +kernel
theorem dX10_boards_82 : decode cX10_boards 82 = .ok (.aload_n 0, 1) := by decide +kernel
theorem dX10_boards_83 : decode cX10_boards 83 = .ok (.getfield 88, 3) := by decide +kernel
theorem dX10_boards_86 : decode cX10_boards 86 = .ok (.iload_n 2, 1) := by decide +kernel
theorem dX10_boards_87 : decode cX10_boards 87 = .ok (.bipush 100, 2) := by decide +kernel
theorem dX10_boards_89 : decode cX10_boards 89 = .ok (.iastore, 1) := by decide +kernel
theorem dX10_boards_90 : decode cX10_boards 90 = .ok (.aload_n 0, 1) := by decide +kernel
theorem dX10_boards_91 : decode cX10_boards 91 = .ok (.getfield 91, 3) := by decide +kernel
theorem dX10_boards_94 : decode cX10_boards 94 = .ok (.iload_n 2, 1) := by decide +kernel
theorem dX10_boards_95 : decode cX10_boards 95 = .ok (.iconst 0, 1) := by decide +kernel
theorem dX10_boards_96 : decode cX10_boards 96 = .ok (.iastore, 1) := by decide +kernel
theorem dX10_boards_97 : decode cX10_boards 97 = .ok (.iconst 0, 1) := by decide +kernel
theorem dX10_boards_98 : decode cX10_boards 98 = .ok (.istore_n 3, 1) := by decide +kernel
theorem dX10_boards_99 : decode cX10_boards 99 = .ok (.iload_n 3, 1) := by decide +kernel
theorem dX10_boards_100 : decode cX10_boards 100 = .ok (.aload_n 0, 1) := by decide +kernel
theorem dX10_boards_101 : decode cX10_boards 101 = .ok (.getfield 141, 3) := by decide +kernel
theorem dX10_boards_104 : decode cX10_boards 104 = .ok (.if_icmp .ge 160, 3) := by decide +kernel
theorem dX10_boards_107 : decode cX10_boards 107 = .ok (.iload_n 2, 1) := by decide +kernel
theorem dX10_boards_108 : decode cX10_boards 108 = .ok (.iload_n 3, 1) := by decide +kernel
theorem dX10_boards_109 : decode cX10_boards 109 = .ok (.ishr, 1) := by decide +kernel
theorem dX10_boards_110 : decode cX10_boards 110 = .ok (.iconst 1, 1) := by decide +kernel
theorem dX10_boards_111 : decode cX10_boards 111 = .ok (.iand, 1) := by decide +kernel
theorem dX10_boards_112 : decode cX10_boards 112 = .ok (.ifCond .ne 6, 3) := by decide +kernel
theorem dX10_boards_115 : decode cX10_boards 115 = .ok (.goto 143, 3) := by decide +kernel
theorem dX10_boards_118 : decode cX10_boards 118 = .ok (.iload_n 2, 1) := by decide +kernel
theorem dX10_boards_119 : decode cX10_boards 119 = .ok (.iconst 1, 1) := by decide +kernel
theorem dX10_boards_120 : decode cX10_boards 120 = .ok (.iload_n 3, 1) := by decide +kernel
theorem dX10_boards_121 : decode cX10_boards 121 = .ok (.ishl, 1) := by decide +kernel
theorem dX10_boards_122 : decode cX10_boards 122 = .ok (.ixor, 1) := by decide +kernel
theorem dX10_boards_123 : decode cX10_boards 123 = .ok (.istore 4, 2) := by decide +kernel
theorem dX10_boards_125 : decode cX10_boards 125 = .ok (.aload_n 0, 1) := by decide +kernel
theorem dX10_boards_126 : decode cX10_boards 126 = .ok (.getfield 91, 3) := by decide +kernel
theorem dX10_boards_129 : decode cX10_boards 129 = .ok (.iload 4, 2) := by decide +kernel
theorem dX10_boards_131 : decode cX10_boards 131 = .ok (.iaload, 1) := by decide +kernel
theorem dX10_boards_132 : decode cX10_boards 132 = .ok (.aload_n 0, 1) := by decide +kernel
theorem dX10_boards_133 : decode cX10_boards 133 = .ok (.getfield 85, 3) := by decide +kernel
theorem dX10_boards_136 : decode cX10_boards 136 = .ok (.iload_n 3, 1) := by decide +kernel
theorem dX10_boards_137 : decode cX10_boards 137 = .ok (.iaload, 1) := by decide +kernel
theorem dX10_boards_138 : decode cX10_boards 138 = .ok (.iadd, 1) := by decide +kernel
theorem dX10_boards_139 : decode cX10_boards 139 = .ok (.iload_n 1, 1) := by decide +kernel
theorem dX10_boards_140 : decode cX10_boards 140 = .ok (.if_icmp .gt 7, 3) := by decide +kernel
theorem dX10_boards_143 : decode cX10_boards 143 = .ok (.iconst 1, 1) := by decide +kernel
theorem dX10_boards_144 : decode cX10_boards 144 = .ok (.goto 4, 3) := by decide +kernel
theorem dX10_boards_147 : decode cX10_boards 147 = .ok (.iconst 0, 1) := by decide +kernel
theorem dX10_boards_148 : decode cX10_boards 148 = .ok (.istore 5, 2) := by decide +kernel
theorem dX10_boards_150 : decode cX10_boards 150 = .ok (.iload 5, 2) := by decide +kernel
theorem dX10_boards_152 : decode cX10_boards 152 = .ok (.ifCond .eq 13, 3) := by decide +kernel
theorem dX10_boards_155 : decode cX10_boards 155 = .ok (.aload_n 0, 1) := by decide +kernel
theorem dX10_boards_156 : decode cX10_boards 156 = .ok (.getfield 88, 3) := by decide +kernel
theorem dX10_boards_159 : decode cX10_boards 159 = .ok (.iload 4, 2) := by decide +kernel
theorem dX10_boards_161 : decode cX10_boards 161 = .ok (.iaload, 1) := by decide +kernel
theorem dX10_boards_162 : decode cX10_boards 162 = .ok (.goto 12, 3) := by decide +kernel
theorem dX10_boards_165 : decode cX10_boards 165 = .ok (.aload_n 0, 1) := by decide +kernel
theorem dX10_boards_166 : decode cX10_boards 166 = .ok (.getfield 88, 3) := by decide +kernel
theorem dX10_boards_169 : decode cX10_boards 169 = .ok (.iload 4, 2) := by decide +kernel
theorem dX10_boards_171 : decode cX10_boards 171 = .ok (.iaload, 1) := by decide +kernel
theorem dX10_boards_172 : decode cX10_boards 172 = .ok (.iconst 1, 1) := by decide +kernel
theorem dX10_boards_173 : decode cX10_boards 173 = .ok (.iadd, 1) := by decide +kernel
theorem dX10_boards_174 : decode cX10_boards 174 = .ok (.istore 6, 2) := by decide +kernel
theorem dX10_boards_176 : decode cX10_boards 176 = .ok (.iload 5, 2) := by decide +kernel
theorem dX10_boards_178 : decode cX10_boards 178 = .ok (.ifCond .eq 20, 3) := by decide +kernel
theorem dX10_boards_181 : decode cX10_boards 181 = .ok (.aload_n 0, 1) := by decide +kernel
theorem dX10_boards_182 : decode cX10_boards 182 = .ok (.getfield 91, 3) := by decide +kernel
theorem dX10_boards_185 : decode cX10_boards 185 = .ok (.iload 4, 2) := by decide +kernel
theorem dX10_boards_187 : decode cX10_boards 187 = .ok (.iaload, 1) := by decide +kernel
theorem dX10_boards_188 : decode cX10_boards 188 = .ok (.aload_n 0, 1) := by decide +kernel
theorem dX10_boards_189 : decode cX10_boards 189 = .ok (.getfield 85, 3) := by decide +kernel
theorem dX10_boards_192 : decode cX10_boards 192 = .ok (.iload_n 3, 1) := by decide +kernel
theorem dX10_boards_193 : decode cX10_boards 193 = .ok (.iaload, 1) := by decide +kernel
theorem dX10_boards_194 : decode cX10_boards 194 = .ok (.iadd, 1) := by decide +kernel
theorem dX10_boards_195 : decode cX10_boards 195 = .ok (.goto 9, 3) := by decide +kernel
theorem dX10_boards_198 : decode cX10_boards 198 = .ok (.aload_n 0, 1) := by decide +kernel
theorem dX10_boards_199 : decode cX10_boards 199 = .ok (.getfield 85, 3) := by decide +kernel
theorem dX10_boards_202 : decode cX10_boards 202 = .ok (.iload_n 3, 1) := by decide +kernel
theorem dX10_boards_203 : decode cX10_boards 203 = .ok (.iaload, 1) := by decide +kernel
theorem dX10_boards_204 : decode cX10_boards 204 = .ok (.istore 7, 2) := by decide +kernel
theorem dX10_boards_206 : decode cX10_boards 206 = .ok (.iload 6, 2) := by decide +kernel
theorem dX10_boards_208 : decode cX10_boards 208 = .ok (.aload_n 0, 1) := by decide +kernel
theorem dX10_boards_209 : decode cX10_boards 209 = .ok (.getfield 88, 3) := by decide +kernel
theorem dX10_boards_212 : decode cX10_boards 212 = .ok (.iload_n 2, 1) := by decide +kernel
theorem dX10_boards_213 : decode cX10_boards 213 = .ok (.iaload, 1) := by decide +kernel
theorem dX10_boards_214 : decode cX10_boards 214 = .ok (.if_icmp .gt 44, 3) := by decide +kernel
theorem dX10_boards_217 : decode cX10_boards 217 = .ok (.iload 6, 2) := by decide +kernel
theorem dX10_boards_219 : decode cX10_boards 219 = .ok (.aload_n 0, 1) := by decide +kernel
theorem dX10_boards_220 : decode cX10_boards 220 = .ok (.getfield 88, 3) := by decide +kernel
theorem dX10_boards_223 : decode cX10_boards 223 = .ok (.iload_n 2, 1) := by decide +kernel
theorem dX10_boards_224 : decode cX10_boards 224 = .ok (.iaload, 1) := by decide +kernel
theorem dX10_boards_225 : decode cX10_boards 225 = .ok (.if_icmp .ne 17, 3) := by decide +kernel
theorem dX10_boards_228 : decode cX10_boards 228 = .ok (.iload 7, 2) := by decide +kernel
theorem dX10_boards_230 : decode cX10_boards 230 = .ok (.aload_n 0, 1) := by decide +kernel
theorem dX10_boards_231 : decode cX10_boards 231 = .ok (.getfield 91, 3) := by decide +kernel
theorem dX10_boards_234 : decode cX10_boards 234 = .ok (.iload_n 2, 1) := by decide +kernel
theorem dX10_boards_235 : decode cX10_boards 235 = .ok (.iaload, 1) := by decide +kernel
theorem dX10_boards_236 : decode cX10_boards 236 = .ok (.if_icmp .lt 6, 3) := by decide +kernel
theorem dX10_boards_239 : decode cX10_boards 239 = .ok (.goto 19, 3) := by decide +kernel
theorem dX10_boards_242 : decode cX10_boards 242 = .ok (.aload_n 0, 1) := by decide +kernel
theorem dX10_boards_243 : decode cX10_boards 243 = .ok (.getfield 88, 3) := by decide +kernel
theorem dX10_boards_246 : decode cX10_boards 246 = .ok (.iload_n 2, 1) := by decide +kernel
theorem dX10_boards_247 : decode cX10_boards 247 = .ok (.iload 6, 2) := by decide +kernel
theorem dX10_boards_249 : decode cX10_boards 249 = .ok (.iastore, 1) := by decide +kernel
theorem dX10_boards_250 : decode cX10_boards 250 = .ok (.aload_n 0, 1) := by decide +kernel
theorem dX10_boards_251 : decode cX10_boards 251 = .ok (.getfield 91, 3) := by decide +kernel
theorem dX10_boards_254 : decode cX10_boards 254 = .ok (.iload_n 2, 1) := by decide +kernel
theorem dX10_boards_255 : decode cX10_boards 255 = .ok (.iload 7, 2) := by decide +kernel
theorem dX10_boards_257 : decode cX10_boards 257 = .ok (.iastore, 1) := by decide +kernel
theorem dX10_boards_258 : decode cX10_boards 258 = .ok (.iinc 3 1, 3) := by decide +kernel
theorem dX10_boards_261 : decode cX10_boards 261 = .ok (.goto (-162), 3) := by decide +kernel
theorem dX10_boards_264 : decode cX10_boards 264 = .ok (.iinc 2 1, 3) := by decide +kernel
theorem dX10_boards_267 : decode cX10_boards 267 = .ok (.goto (-195), 3) := by decide +kernel
theorem dX10_boards_270 : decode cX10_boards 270 = .ok (.aload_n 0, 1) := by decide +kernel
theorem dX10_boards_271 : decode cX10_boards 271 = .ok (.getfield 88, 3) := by decide +kernel
theorem dX10_boards_274 : decode cX10_boards 274 = .ok (.iconst 1, 1) := by decide +kernel
theorem dX10_boards_275 : decode cX10_boards 275 = .ok (.aload_n 0, 1) := by decide +kernel
theorem dX10_boards_276 : decode cX10_boards 276 = .ok (.getfield 141, 3) := by decide +kernel
theorem dX10_boards_279 : decode cX10_boards 279 = .ok (.ishl, 1) := by decide +kernel
theorem dX10_boards_280 : decode cX10_boards 280 = .ok (.iconst 1, 1) := by decide +kernel
theorem dX10_boards_281 : decode cX10_boards 281 = .ok (.isub, 1) := by decide +kernel
theorem dX10_boards_282 : decode cX10_boards 282 = .ok (.iaload, 1) := by decide +kernel
theorem dX10_boards_283 : decode cX10_boards 283 = .ok (.ireturn, 1) := by decide +kernel
set_option maxHeartbeats 4000000 in
set_option maxRecDepth 100000 in
theorem k_X10_boards (l : Launch) (D : va_G) (cy : Nat → ClassId) {L : List Nat} {τ : Nat → Ro} {E : Ec} (hI : Inv TB cy L τ E) {a0 : Nat} (ha0 : a0 ∈ L) (ta0 : τ a0 = (11, 0)) (a1 : Int32) : CtI l yX10_boards wsX10_boards { frames := 1, cells := 0, slots := 0, locals := 23 } D TB cy L τ E [.ref a0, .int a1] (inW [(11, 0), (84, 0), (85, 0)]) (fun r E' => True) := by
  intro sz
  refine sta (cc := cX10_boards) (maxL := 8) hI (by decide) rfl (Nat.le_of_ble_eq_true rfl) (fun p e s m args below meth c ls hsz Z S0 hl => ?_)
  have hx := Z.1.1
  have hb := Z.1.2.1
  have hts := Z.1.2.2.2.2
  have F0_ : Fr L τ (inW [(11, 0), (84, 0), (85, 0)]) E E := Fr.refl
  have hl : lv_has ls 8 [(0, .ref a0), (1, .int a1)] := hl
  generalize hQ : MQ below _ args s 0 0 _ = QQ
  have J72 : ∀ (n : Nat) (x2_72 : Int32) (E_72 : Ec) (H_72 : Heap) (k_72 : List Loc) (l_72 : Array Slot), Now D TB cy (va_A (va_pl L E) sz) s L τ E_72 H_72 k_72 → Fr L τ (inW [(11, 0), (84, 0), (85, 0)]) E E_72 → (1 ≤ a1.toInt) → (a1.toInt ≤ 10000) → (1 ≤ x2_72.toInt) → (x2_72.toInt ≤ 4096) → (4096 - x2_72.toInt).toNat < n → lv_has l_72 8 [(0, .ref a0), (1, .int a1), (2, .int x2_72)] → W p l e { frames := 1, cells := 0, slots := 0, locals := 23 } s m args below meth c H_72 k_72 0 0 QQ (F0 m 72 l_72 []) := by
    intro n
    induction n with
    | zero => intro x2_72 E_72 H_72 k_72 l_72 S_72 F_72 z1 z2 z3 z4 hm hl_72; exact absurd hm (Nat.not_lt_zero _)
    | succ n ih =>
      intro x2_72 E_72 H_72 k_72 l_72 S_72 F_72 z1 z2 z3 z4 hm hl_72
      have ih_72 := ih
      have J99 : ∀ (n : Nat) (x3_99 : Int32) (E_99 : Ec) (H_99 : Heap) (k_99 : List Loc) (l_99 : Array Slot), Now D TB cy (va_A (va_pl L E) sz) s L τ E_99 H_99 k_99 → Fr L τ (inW [(11, 0), (84, 0), (85, 0)]) E E_99 → (1 ≤ a1.toInt) → (a1.toInt ≤ 10000) → (1 ≤ x2_72.toInt) → (x2_72.toInt ≤ 4095) → (0 ≤ x3_99.toInt) → (x3_99.toInt ≤ 12) → (12 - x3_99.toInt).toNat < n → lv_has l_99 8 [(0, .ref a0), (1, .int a1), (2, .int x2_72), (3, .int x3_99)] → W p l e { frames := 1, cells := 0, slots := 0, locals := 23 } s m args below meth c H_99 k_99 0 0 QQ (F0 m 99 l_99 []) := by
        intro n
        induction n with
        | zero => intro x3_99 E_99 H_99 k_99 l_99 S_99 F_99 z5 z6 z7 z8 z9 z10 hm hl_99; exact absurd hm (Nat.not_lt_zero _)
        | succ n ih =>
          intro x3_99 E_99 H_99 k_99 l_99 S_99 F_99 z5 z6 z7 z8 z9 z10 hm hl_99
          have ih_99 := ih
          have J258 : ∀  (E_258 : Ec) (H_258 : Heap) (k_258 : List Loc) (l_258 : Array Slot), Now D TB cy (va_A (va_pl L E) sz) s L τ E_258 H_258 k_258 → Fr L τ (inW [(11, 0), (84, 0), (85, 0)]) E E_258 → (1 ≤ a1.toInt) → (a1.toInt ≤ 10000) → (1 ≤ x2_72.toInt) → (x2_72.toInt ≤ 4095) → (0 ≤ x3_99.toInt) → (x3_99.toInt ≤ 11) → lv_has l_258 8 [(0, .ref a0), (1, .int a1), (2, .int x2_72), (3, .int x3_99)] → W p l e { frames := 1, cells := 0, slots := 0, locals := 23 } s m args below meth c H_258 k_258 0 0 QQ (F0 m 258 l_258 []) := by
            intro  E_258 H_258 k_258 l_258 S_258 F_258 z11 z12 z13 z14 z15 z16 hl_258
            obtain ⟨v17, ev17⟩ : ∃ y : Int32, x3_99 + Int32.ofInt (1) = y := ⟨_, rfl⟩
            have tv17 : v17.toInt = x3_99.toInt + (1) := by rw [← ev17]; exact (fb_addI (by rw [show (Int32.ofInt (1)).toInt = 1 from by decide +kernel]; omega) (by rw [show (Int32.ofInt (1)).toInt = 1 from by decide +kernel]; omega)).trans (by rw [show (Int32.ofInt (1)).toInt = 1 from by decide +kernel])
            refine lv_iinc (v := v17) (lv' := [(3, .int v17), (0, .ref a0), (1, .int a1), (2, .int x2_72)]) hx hb dX10_boards_258 hl_258 (k := 3) rfl ev17 (by decide) rfl (fun l18 hl19 => ?_)
            refine lv_goto (tgt := 99) hx hb dX10_boards_261 (by decide) ?_
            exact ih_99 v17 E_258 H_258 k_258 l18 S_258 F_258 (by omega) (by omega) (by omega) (by omega) (by omega) (by omega) (by omega) (lv_sub hl19 [1, 2, 3, 0] rfl)
          have J242 : ∀ (x6_242 : Int32) (x7_242 : Int32) (E_242 : Ec) (H_242 : Heap) (k_242 : List Loc) (l_242 : Array Slot), Now D TB cy (va_A (va_pl L E) sz) s L τ E_242 H_242 k_242 → Fr L τ (inW [(11, 0), (84, 0), (85, 0)]) E E_242 → (1 ≤ a1.toInt) → (a1.toInt ≤ 10000) → (1 ≤ x2_72.toInt) → (x2_72.toInt ≤ 4095) → (0 ≤ x3_99.toInt) → (x3_99.toInt ≤ 11) → lv_has l_242 8 [(0, .ref a0), (1, .int a1), (2, .int x2_72), (3, .int x3_99), (6, .int x6_242), (7, .int x7_242)] → W p l e { frames := 1, cells := 0, slots := 0, locals := 23 } s m args below meth c H_242 k_242 0 0 QQ (F0 m 242 l_242 []) := by
            intro x6_242 x7_242 E_242 H_242 k_242 l_242 S_242 F_242 z20 z21 z22 z23 z24 z25 hl_242
            refine lv_aload_n hx hb dX10_boards_242 rfl (lv_at hl_242 0 rfl) ?_
            refine tr_getr Z.1 Z.2.2.2.1 S_242.1 S_242.2 ha0 ta0 rfl rfl (fun _ h => List.mem_cons_of_mem _ (List.mem_append_right _ h)) 43 (by decide) rfl (hts _ (List.mem_of_getElem? (i := 4) rfl)) dX10_boards_243 (fun q26 eq26 hq26 tq26 => ?_)
            have tq26 : τ q26 = (84, 0) := tq26
            refine lv_iload_n hx hb dX10_boards_246 rfl (lv_at hl_242 2 rfl) ?_
            refine lv_iload hx hb dX10_boards_247 (lv_at hl_242 4 rfl) ?_
            refine tr_iast Z.1 Z.2.2.2.1 S_242.1 S_242.2 hq26 tq26 rfl (by omega) (by omega) (by have := fb_rng x6_242; omega) (by have := fb_rng x6_242; omega) dX10_boards_249 (fun E27 H28 k29 W27 I27 P27 => ?_)
            have S27 : Now D TB cy (va_A (va_pl L E) sz) s L τ E27 H28 k29 := ⟨W27, I27⟩
            have F27 : Fr L τ (inW [(11, 0), (84, 0), (85, 0)]) E E27 := Fr.set F_242 P27 tq26 rfl
            refine lv_aload_n hx hb dX10_boards_250 rfl (lv_at hl_242 0 rfl) ?_
            refine tr_getr Z.1 Z.2.2.2.1 S27.1 S27.2 ha0 ta0 rfl rfl (fun _ h => List.mem_cons_of_mem _ (List.mem_append_right _ h)) 44 (by decide) rfl (hts _ (List.mem_of_getElem? (i := 5) rfl)) dX10_boards_251 (fun q30 eq30 hq30 tq30 => ?_)
            have tq30 : τ q30 = (85, 0) := tq30
            refine lv_iload_n hx hb dX10_boards_254 rfl (lv_at hl_242 2 rfl) ?_
            refine lv_iload hx hb dX10_boards_255 (lv_at hl_242 5 rfl) ?_
            refine tr_iast Z.1 Z.2.2.2.1 S27.1 S27.2 hq30 tq30 rfl (by omega) (by omega) (by have := fb_rng x7_242; omega) (by have := fb_rng x7_242; omega) dX10_boards_257 (fun E31 H32 k33 W31 I31 P31 => ?_)
            have S31 : Now D TB cy (va_A (va_pl L E) sz) s L τ E31 H32 k33 := ⟨W31, I31⟩
            have F31 : Fr L τ (inW [(11, 0), (84, 0), (85, 0)]) E E31 := Fr.set F27 P31 tq30 rfl
            exact J258 E31 H32 k33 l_242 S31 F31 (by have := fb_rng x6_242; have := fb_rng x7_242; omega) (by have := fb_rng x6_242; have := fb_rng x7_242; omega) (by have := fb_rng x6_242; have := fb_rng x7_242; omega) (by have := fb_rng x6_242; have := fb_rng x7_242; omega) (by have := fb_rng x6_242; have := fb_rng x7_242; omega) (by have := fb_rng x6_242; have := fb_rng x7_242; omega) (lv_sub hl_242 [0, 1, 2, 3] rfl)
          have J204 : ∀ (x6_204 : Int32) (y0_204 : Int32) (E_204 : Ec) (H_204 : Heap) (k_204 : List Loc) (l_204 : Array Slot), Now D TB cy (va_A (va_pl L E) sz) s L τ E_204 H_204 k_204 → Fr L τ (inW [(11, 0), (84, 0), (85, 0)]) E E_204 → (1 ≤ a1.toInt) → (a1.toInt ≤ 10000) → (1 ≤ x2_72.toInt) → (x2_72.toInt ≤ 4095) → (0 ≤ x3_99.toInt) → (x3_99.toInt ≤ 11) → lv_has l_204 8 [(0, .ref a0), (1, .int a1), (2, .int x2_72), (3, .int x3_99), (6, .int x6_204)] → W p l e { frames := 1, cells := 0, slots := 0, locals := 23 } s m args below meth c H_204 k_204 0 0 QQ (F0 m 204 l_204 [.int y0_204]) := by
            intro x6_204 y0_204 E_204 H_204 k_204 l_204 S_204 F_204 z34 z35 z36 z37 z38 z39 hl_204
            refine lv_istore (lv' := [(7, .int y0_204), (0, .ref a0), (1, .int a1), (2, .int x2_72), (3, .int x3_99), (6, .int x6_204)]) hx hb dX10_boards_204 hl_204 (by decide) rfl (fun l40 hl41 => ?_)
            refine lv_iload hx hb dX10_boards_206 (lv_at hl41 5 rfl) ?_
            refine lv_aload_n hx hb dX10_boards_208 rfl (lv_at hl41 1 rfl) ?_
            refine tr_getr Z.1 Z.2.2.2.1 S_204.1 S_204.2 ha0 ta0 rfl rfl (fun _ h => List.mem_cons_of_mem _ (List.mem_append_right _ h)) 43 (by decide) rfl (hts _ (List.mem_of_getElem? (i := 4) rfl)) dX10_boards_209 (fun q42 eq42 hq42 tq42 => ?_)
            have tq42 : τ q42 = (84, 0) := tq42
            refine lv_iload_n hx hb dX10_boards_212 rfl (lv_at hl41 3 rfl) ?_
            refine tr_iald Z.1 Z.2.2.2.1 S_204.1 S_204.2 hq42 tq42 rfl (by omega) (by omega) dX10_boards_213 (fun v43 ev43 lv43 uv43 => ?_)
            refine lv_icmp_gt (tgt := 258) hx hb dX10_boards_214 (by decide) (fun c44 => ?_) (fun c44 => ?_)
            · skip
              have tc44 := nu_lt c44
              exact J258 E_204 H_204 k_204 l40 S_204 F_204 (by have := fb_rng y0_204; have := fb_rng x6_204; omega) (by have := fb_rng y0_204; have := fb_rng x6_204; omega) (by have := fb_rng y0_204; have := fb_rng x6_204; omega) (by have := fb_rng y0_204; have := fb_rng x6_204; omega) (by have := fb_rng y0_204; have := fb_rng x6_204; omega) (by have := fb_rng y0_204; have := fb_rng x6_204; omega) (lv_sub hl41 [1, 2, 3, 4] rfl)
            · skip
              have tc44 := nu_nlt c44
              refine lv_iload hx hb dX10_boards_217 (lv_at hl41 5 rfl) ?_
              refine lv_aload_n hx hb dX10_boards_219 rfl (lv_at hl41 1 rfl) ?_
              refine tr_getr Z.1 Z.2.2.2.1 S_204.1 S_204.2 ha0 ta0 rfl rfl (fun _ h => List.mem_cons_of_mem _ (List.mem_append_right _ h)) 43 (by decide) rfl (hts _ (List.mem_of_getElem? (i := 4) rfl)) dX10_boards_220 (fun q45 eq45 hq45 tq45 => ?_)
              have tq45 : τ q45 = (84, 0) := tq45
              have uq45 : q42 = q45 := S_204.2.2.2.2 _ hq42 _ hq45 (tq42.trans tq45.symm) (by rw [tq42]; rfl)
              subst uq45
              refine lv_iload_n hx hb dX10_boards_223 rfl (lv_at hl41 3 rfl) ?_
              refine tr_iald Z.1 Z.2.2.2.1 S_204.1 S_204.2 hq42 tq42 rfl (by omega) (by omega) dX10_boards_224 (fun v46 ev46 lv46 uv46 => ?_)
              refine lv_icmp_ne (tgt := 242) hx hb dX10_boards_225 (by decide) (fun c47 => ?_) (fun c47 => ?_)
              · skip
                have tc47 := nu_ne c47
                exact J242 x6_204 y0_204 E_204 H_204 k_204 l40 S_204 F_204 (by have := fb_rng y0_204; have := fb_rng x6_204; omega) (by have := fb_rng y0_204; have := fb_rng x6_204; omega) (by have := fb_rng y0_204; have := fb_rng x6_204; omega) (by have := fb_rng y0_204; have := fb_rng x6_204; omega) (by have := fb_rng y0_204; have := fb_rng x6_204; omega) (by have := fb_rng y0_204; have := fb_rng x6_204; omega) (lv_sub hl41 [1, 2, 3, 4, 5, 0] rfl)
              · skip
                have tc47 := nu_eq c47
                refine lv_iload hx hb dX10_boards_228 (lv_at hl41 0 rfl) ?_
                refine lv_aload_n hx hb dX10_boards_230 rfl (lv_at hl41 1 rfl) ?_
                refine tr_getr Z.1 Z.2.2.2.1 S_204.1 S_204.2 ha0 ta0 rfl rfl (fun _ h => List.mem_cons_of_mem _ (List.mem_append_right _ h)) 44 (by decide) rfl (hts _ (List.mem_of_getElem? (i := 5) rfl)) dX10_boards_231 (fun q48 eq48 hq48 tq48 => ?_)
                have tq48 : τ q48 = (85, 0) := tq48
                refine lv_iload_n hx hb dX10_boards_234 rfl (lv_at hl41 3 rfl) ?_
                refine tr_iald Z.1 Z.2.2.2.1 S_204.1 S_204.2 hq48 tq48 rfl (by omega) (by omega) dX10_boards_235 (fun v49 ev49 lv49 uv49 => ?_)
                refine lv_icmp_lt (tgt := 242) hx hb dX10_boards_236 (by decide) (fun c50 => ?_) (fun c50 => ?_)
                · skip
                  have tc50 := nu_lt c50
                  exact J242 x6_204 y0_204 E_204 H_204 k_204 l40 S_204 F_204 (by have := fb_rng y0_204; have := fb_rng x6_204; omega) (by have := fb_rng y0_204; have := fb_rng x6_204; omega) (by have := fb_rng y0_204; have := fb_rng x6_204; omega) (by have := fb_rng y0_204; have := fb_rng x6_204; omega) (by have := fb_rng y0_204; have := fb_rng x6_204; omega) (by have := fb_rng y0_204; have := fb_rng x6_204; omega) (lv_sub hl41 [1, 2, 3, 4, 5, 0] rfl)
                · skip
                  have tc50 := nu_nlt c50
                  refine lv_goto (tgt := 258) hx hb dX10_boards_239 (by decide) ?_
                  exact J258 E_204 H_204 k_204 l40 S_204 F_204 (by have := fb_rng y0_204; have := fb_rng x6_204; omega) (by have := fb_rng y0_204; have := fb_rng x6_204; omega) (by have := fb_rng y0_204; have := fb_rng x6_204; omega) (by have := fb_rng y0_204; have := fb_rng x6_204; omega) (by have := fb_rng y0_204; have := fb_rng x6_204; omega) (by have := fb_rng y0_204; have := fb_rng x6_204; omega) (lv_sub hl41 [1, 2, 3, 4] rfl)
          have J174 : ∀ (x4_174 : Int32) (x5_174 : Int32) (y0_174 : Int32) (E_174 : Ec) (H_174 : Heap) (k_174 : List Loc) (l_174 : Array Slot), Now D TB cy (va_A (va_pl L E) sz) s L τ E_174 H_174 k_174 → Fr L τ (inW [(11, 0), (84, 0), (85, 0)]) E E_174 → (1 ≤ a1.toInt) → (a1.toInt ≤ 10000) → (1 ≤ x2_72.toInt) → (x2_72.toInt ≤ 4095) → (0 ≤ x3_99.toInt) → (x3_99.toInt ≤ 11) → (0 ≤ x4_174.toInt) → (x4_174.toInt ≤ 4095) → (0 ≤ x5_174.toInt) → (x5_174.toInt ≤ 1) → lv_has l_174 8 [(0, .ref a0), (1, .int a1), (2, .int x2_72), (3, .int x3_99), (4, .int x4_174), (5, .int x5_174)] → W p l e { frames := 1, cells := 0, slots := 0, locals := 23 } s m args below meth c H_174 k_174 0 0 QQ (F0 m 174 l_174 [.int y0_174]) := by
            intro x4_174 x5_174 y0_174 E_174 H_174 k_174 l_174 S_174 F_174 z51 z52 z53 z54 z55 z56 z57 z58 z59 z60 hl_174
            refine lv_istore (lv' := [(6, .int y0_174), (0, .ref a0), (1, .int a1), (2, .int x2_72), (3, .int x3_99), (4, .int x4_174), (5, .int x5_174)]) hx hb dX10_boards_174 hl_174 (by decide) rfl (fun l61 hl62 => ?_)
            refine lv_iload hx hb dX10_boards_176 (lv_at hl62 6 rfl) ?_
            refine lv_if_eq (tgt := 198) hx hb dX10_boards_178 (by decide) (fun c63 => ?_) (fun c63 => ?_)
            · skip
              have tc63 := nu_eq c63
              have uc63 : (0 : Int32).toInt = 0 := rfl
              refine lv_aload_n hx hb dX10_boards_198 rfl (lv_at hl62 1 rfl) ?_
              refine tr_getr Z.1 Z.2.2.2.1 S_174.1 S_174.2 ha0 ta0 rfl rfl (fun _ h => List.mem_cons_of_mem _ (List.mem_append_right _ h)) 42 (by decide) rfl (hts _ (List.mem_of_getElem? (i := 3) rfl)) dX10_boards_199 (fun q64 eq64 hq64 tq64 => ?_)
              have tq64 : τ q64 = (83, 0) := tq64
              refine lv_iload_n hx hb dX10_boards_202 rfl (lv_at hl62 4 rfl) ?_
              refine tr_iald Z.1 Z.2.2.2.1 S_174.1 S_174.2 hq64 tq64 rfl (by omega) (by omega) dX10_boards_203 (fun v65 ev65 lv65 uv65 => ?_)
              exact J204 y0_174 v65 E_174 H_174 k_174 l61 S_174 F_174 (by have := fb_rng y0_174; omega) (by have := fb_rng y0_174; omega) (by have := fb_rng y0_174; omega) (by have := fb_rng y0_174; omega) (by have := fb_rng y0_174; omega) (by have := fb_rng y0_174; omega) (lv_sub hl62 [1, 2, 3, 4, 0] rfl)
            · skip
              have tc63 := nu_ne c63
              have uc63 : (0 : Int32).toInt = 0 := rfl
              refine lv_aload_n hx hb dX10_boards_181 rfl (lv_at hl62 1 rfl) ?_
              refine tr_getr Z.1 Z.2.2.2.1 S_174.1 S_174.2 ha0 ta0 rfl rfl (fun _ h => List.mem_cons_of_mem _ (List.mem_append_right _ h)) 44 (by decide) rfl (hts _ (List.mem_of_getElem? (i := 5) rfl)) dX10_boards_182 (fun q66 eq66 hq66 tq66 => ?_)
              have tq66 : τ q66 = (85, 0) := tq66
              refine lv_iload hx hb dX10_boards_185 (lv_at hl62 5 rfl) ?_
              refine tr_iald Z.1 Z.2.2.2.1 S_174.1 S_174.2 hq66 tq66 rfl (by omega) (by omega) dX10_boards_187 (fun v67 ev67 lv67 uv67 => ?_)
              refine lv_aload_n hx hb dX10_boards_188 rfl (lv_at hl62 1 rfl) ?_
              refine tr_getr Z.1 Z.2.2.2.1 S_174.1 S_174.2 ha0 ta0 rfl rfl (fun _ h => List.mem_cons_of_mem _ (List.mem_append_right _ h)) 42 (by decide) rfl (hts _ (List.mem_of_getElem? (i := 3) rfl)) dX10_boards_189 (fun q68 eq68 hq68 tq68 => ?_)
              have tq68 : τ q68 = (83, 0) := tq68
              refine lv_iload_n hx hb dX10_boards_192 rfl (lv_at hl62 4 rfl) ?_
              refine tr_iald Z.1 Z.2.2.2.1 S_174.1 S_174.2 hq68 tq68 rfl (by omega) (by omega) dX10_boards_193 (fun v69 ev69 lv69 uv69 => ?_)
              refine lv_iadd hx hb dX10_boards_194 ?_
              refine lv_topi (fun v70 ev70 => ?_)
              refine lv_goto (tgt := 204) hx hb dX10_boards_195 (by decide) ?_
              exact J204 y0_174 v70 E_174 H_174 k_174 l61 S_174 F_174 (by have := fb_rng y0_174; omega) (by have := fb_rng y0_174; omega) (by have := fb_rng y0_174; omega) (by have := fb_rng y0_174; omega) (by have := fb_rng y0_174; omega) (by have := fb_rng y0_174; omega) (lv_sub hl62 [1, 2, 3, 4, 0] rfl)
          have J148 : ∀ (x4_148 : Int32) (y0_148 : Int32) (E_148 : Ec) (H_148 : Heap) (k_148 : List Loc) (l_148 : Array Slot), Now D TB cy (va_A (va_pl L E) sz) s L τ E_148 H_148 k_148 → Fr L τ (inW [(11, 0), (84, 0), (85, 0)]) E E_148 → (1 ≤ a1.toInt) → (a1.toInt ≤ 10000) → (1 ≤ x2_72.toInt) → (x2_72.toInt ≤ 4095) → (0 ≤ x3_99.toInt) → (x3_99.toInt ≤ 11) → (0 ≤ x4_148.toInt) → (x4_148.toInt ≤ 4095) → (0 ≤ y0_148.toInt) → (y0_148.toInt ≤ 1) → lv_has l_148 8 [(0, .ref a0), (1, .int a1), (2, .int x2_72), (3, .int x3_99), (4, .int x4_148)] → W p l e { frames := 1, cells := 0, slots := 0, locals := 23 } s m args below meth c H_148 k_148 0 0 QQ (F0 m 148 l_148 [.int y0_148]) := by
            intro x4_148 y0_148 E_148 H_148 k_148 l_148 S_148 F_148 z71 z72 z73 z74 z75 z76 z77 z78 z79 z80 hl_148
            refine lv_istore (lv' := [(5, .int y0_148), (0, .ref a0), (1, .int a1), (2, .int x2_72), (3, .int x3_99), (4, .int x4_148)]) hx hb dX10_boards_148 hl_148 (by decide) rfl (fun l81 hl82 => ?_)
            refine lv_iload hx hb dX10_boards_150 (lv_at hl82 0 rfl) ?_
            refine lv_if_eq (tgt := 165) hx hb dX10_boards_152 (by decide) (fun c83 => ?_) (fun c83 => ?_)
            · skip
              have tc83 := nu_eq c83
              have uc83 : (0 : Int32).toInt = 0 := rfl
              refine lv_aload_n hx hb dX10_boards_165 rfl (lv_at hl82 1 rfl) ?_
              refine tr_getr Z.1 Z.2.2.2.1 S_148.1 S_148.2 ha0 ta0 rfl rfl (fun _ h => List.mem_cons_of_mem _ (List.mem_append_right _ h)) 43 (by decide) rfl (hts _ (List.mem_of_getElem? (i := 4) rfl)) dX10_boards_166 (fun q84 eq84 hq84 tq84 => ?_)
              have tq84 : τ q84 = (84, 0) := tq84
              refine lv_iload hx hb dX10_boards_169 (lv_at hl82 5 rfl) ?_
              refine tr_iald Z.1 Z.2.2.2.1 S_148.1 S_148.2 hq84 tq84 rfl (by omega) (by omega) dX10_boards_171 (fun v85 ev85 lv85 uv85 => ?_)
              obtain ⟨v86, ev86, tv86⟩ : ∃ v : Int32, Int32.ofInt (1) = v ∧ v.toInt = 1 := ⟨_, rfl, by decide +kernel⟩
              refine lv_iconst hx hb dX10_boards_172 ev86 ?_
              refine lv_iadd hx hb dX10_boards_173 ?_
              refine lv_topi (fun v87 ev87 => ?_)
              exact J174 x4_148 y0_148 v87 E_148 H_148 k_148 l81 S_148 F_148 (by omega) (by omega) (by omega) (by omega) (by omega) (by omega) (by omega) (by omega) (by omega) (by omega) (lv_sub hl82 [1, 2, 3, 4, 5, 0] rfl)
            · skip
              have tc83 := nu_ne c83
              have uc83 : (0 : Int32).toInt = 0 := rfl
              refine lv_aload_n hx hb dX10_boards_155 rfl (lv_at hl82 1 rfl) ?_
              refine tr_getr Z.1 Z.2.2.2.1 S_148.1 S_148.2 ha0 ta0 rfl rfl (fun _ h => List.mem_cons_of_mem _ (List.mem_append_right _ h)) 43 (by decide) rfl (hts _ (List.mem_of_getElem? (i := 4) rfl)) dX10_boards_156 (fun q88 eq88 hq88 tq88 => ?_)
              have tq88 : τ q88 = (84, 0) := tq88
              refine lv_iload hx hb dX10_boards_159 (lv_at hl82 5 rfl) ?_
              refine tr_iald Z.1 Z.2.2.2.1 S_148.1 S_148.2 hq88 tq88 rfl (by omega) (by omega) dX10_boards_161 (fun v89 ev89 lv89 uv89 => ?_)
              refine lv_goto (tgt := 174) hx hb dX10_boards_162 (by decide) ?_
              exact J174 x4_148 y0_148 v89 E_148 H_148 k_148 l81 S_148 F_148 (by omega) (by omega) (by omega) (by omega) (by omega) (by omega) (by omega) (by omega) (by omega) (by omega) (lv_sub hl82 [1, 2, 3, 4, 5, 0] rfl)
          refine lv_iload_n hx hb dX10_boards_99 rfl (lv_at hl_99 3 rfl) ?_
          refine lv_aload_n hx hb dX10_boards_100 rfl (lv_at hl_99 0 rfl) ?_
          refine tr_geti Z.1 Z.2.2.2.1 S_99.1 S_99.2 ha0 ta0 rfl rfl (fun _ h => List.mem_cons_of_mem _ (List.mem_append_right _ h)) 45 (by decide) rfl (hts _ (List.mem_of_getElem? (i := 2) rfl)) dX10_boards_101 (fun v90 ev90 lv90 uv90 => ?_)
          refine lv_icmp_ge (tgt := 264) hx hb dX10_boards_104 (by decide) (fun c91 => ?_) (fun c91 => ?_)
          · skip
            have tc91 := nu_le c91
            obtain ⟨v92, ev92⟩ : ∃ y : Int32, x2_72 + Int32.ofInt (1) = y := ⟨_, rfl⟩
            have tv92 : v92.toInt = x2_72.toInt + (1) := by rw [← ev92]; exact (fb_addI (by rw [show (Int32.ofInt (1)).toInt = 1 from by decide +kernel]; omega) (by rw [show (Int32.ofInt (1)).toInt = 1 from by decide +kernel]; omega)).trans (by rw [show (Int32.ofInt (1)).toInt = 1 from by decide +kernel])
            refine lv_iinc (v := v92) (lv' := [(2, .int v92), (0, .ref a0), (1, .int a1), (3, .int x3_99)]) hx hb dX10_boards_264 hl_99 (k := 2) rfl ev92 (by decide) rfl (fun l93 hl94 => ?_)
            refine lv_goto (tgt := 72) hx hb dX10_boards_267 (by decide) ?_
            exact ih_72 v92 E_99 H_99 k_99 l93 S_99 F_99 (by omega) (by omega) (by omega) (by omega) (by omega) (lv_sub hl94 [1, 2, 0] rfl)
          · skip
            have tc91 := nu_nle c91
            refine lv_iload_n hx hb dX10_boards_107 rfl (lv_at hl_99 2 rfl) ?_
            refine lv_iload_n hx hb dX10_boards_108 rfl (lv_at hl_99 3 rfl) ?_
            refine lv_ishr hx hb dX10_boards_109 ?_
            refine lv_topi (fun v95 ev95 => ?_)
            obtain ⟨v96, ev96, tv96⟩ : ∃ v : Int32, Int32.ofInt (1) = v ∧ v.toInt = 1 := ⟨_, rfl, by decide +kernel⟩
            refine lv_iconst hx hb dX10_boards_110 ev96 ?_
            refine lv_iand hx hb dX10_boards_111 ?_
            refine lv_topi (fun v97 ev97 => ?_)
            refine lv_if_ne (tgt := 118) hx hb dX10_boards_112 (by decide) (fun c98 => ?_) (fun c98 => ?_)
            · skip
              have tc98 := nu_ne c98
              have uc98 : (0 : Int32).toInt = 0 := rfl
              refine lv_iload_n hx hb dX10_boards_118 rfl (lv_at hl_99 2 rfl) ?_
              obtain ⟨v99, ev99, tv99⟩ : ∃ v : Int32, Int32.ofInt (1) = v ∧ v.toInt = 1 := ⟨_, rfl, by decide +kernel⟩
              refine lv_iconst hx hb dX10_boards_119 ev99 ?_
              refine lv_iload_n hx hb dX10_boards_120 rfl (lv_at hl_99 3 rfl) ?_
              refine lv_ishl hx hb dX10_boards_121 ?_
              refine lv_topi (fun v100 ev100 => ?_)
              have tv100 := nu_sh1 ev100 (by omega) (by omega) (by omega)
              refine lv_ixor hx hb dX10_boards_122 ?_
              refine lv_topi (fun v101 ev101 => ?_)
              have tv101 := nu_xor ev101 (by omega) (by omega) (by omega) (by omega)
              refine lv_istore (lv' := [(4, .int v101), (0, .ref a0), (1, .int a1), (2, .int x2_72), (3, .int x3_99)]) hx hb dX10_boards_123 hl_99 (by decide) rfl (fun l102 hl103 => ?_)
              refine lv_aload_n hx hb dX10_boards_125 rfl (lv_at hl103 1 rfl) ?_
              refine tr_getr Z.1 Z.2.2.2.1 S_99.1 S_99.2 ha0 ta0 rfl rfl (fun _ h => List.mem_cons_of_mem _ (List.mem_append_right _ h)) 44 (by decide) rfl (hts _ (List.mem_of_getElem? (i := 5) rfl)) dX10_boards_126 (fun q104 eq104 hq104 tq104 => ?_)
              have tq104 : τ q104 = (85, 0) := tq104
              refine lv_iload hx hb dX10_boards_129 (lv_at hl103 0 rfl) ?_
              refine tr_iald Z.1 Z.2.2.2.1 S_99.1 S_99.2 hq104 tq104 rfl (by omega) (by omega) dX10_boards_131 (fun v105 ev105 lv105 uv105 => ?_)
              refine lv_aload_n hx hb dX10_boards_132 rfl (lv_at hl103 1 rfl) ?_
              refine tr_getr Z.1 Z.2.2.2.1 S_99.1 S_99.2 ha0 ta0 rfl rfl (fun _ h => List.mem_cons_of_mem _ (List.mem_append_right _ h)) 42 (by decide) rfl (hts _ (List.mem_of_getElem? (i := 3) rfl)) dX10_boards_133 (fun q106 eq106 hq106 tq106 => ?_)
              have tq106 : τ q106 = (83, 0) := tq106
              refine lv_iload_n hx hb dX10_boards_136 rfl (lv_at hl103 4 rfl) ?_
              refine tr_iald Z.1 Z.2.2.2.1 S_99.1 S_99.2 hq106 tq106 rfl (by omega) (by omega) dX10_boards_137 (fun v107 ev107 lv107 uv107 => ?_)
              refine lv_iadd hx hb dX10_boards_138 ?_
              refine lv_topi (fun v108 ev108 => ?_)
              refine lv_iload_n hx hb dX10_boards_139 rfl (lv_at hl103 2 rfl) ?_
              refine lv_icmp_gt (tgt := 147) hx hb dX10_boards_140 (by decide) (fun c109 => ?_) (fun c109 => ?_)
              · skip
                have tc109 := nu_lt c109
                obtain ⟨v110, ev110, tv110⟩ : ∃ v : Int32, Int32.ofInt (0) = v ∧ v.toInt = 0 := ⟨_, rfl, by decide +kernel⟩
                refine lv_iconst hx hb dX10_boards_147 ev110 ?_
                exact J148 v101 v110 E_99 H_99 k_99 l102 S_99 F_99 (by omega) (by omega) (by omega) (by omega) (by omega) (by omega) (by omega) (by omega) (by omega) (by omega) (lv_sub hl103 [1, 2, 3, 4, 0] rfl)
              · skip
                have tc109 := nu_nlt c109
                obtain ⟨v111, ev111, tv111⟩ : ∃ v : Int32, Int32.ofInt (1) = v ∧ v.toInt = 1 := ⟨_, rfl, by decide +kernel⟩
                refine lv_iconst hx hb dX10_boards_143 ev111 ?_
                refine lv_goto (tgt := 148) hx hb dX10_boards_144 (by decide) ?_
                exact J148 v101 v111 E_99 H_99 k_99 l102 S_99 F_99 (by omega) (by omega) (by omega) (by omega) (by omega) (by omega) (by omega) (by omega) (by omega) (by omega) (lv_sub hl103 [1, 2, 3, 4, 0] rfl)
            · skip
              have tc98 := nu_eq c98
              have uc98 : (0 : Int32).toInt = 0 := rfl
              refine lv_goto (tgt := 258) hx hb dX10_boards_115 (by decide) ?_
              exact J258 E_99 H_99 k_99 l_99 S_99 F_99 (by omega) (by omega) (by omega) (by omega) (by omega) (by omega) (lv_sub hl_99 [0, 1, 2, 3] rfl)
      refine lv_iload_n hx hb dX10_boards_72 rfl (lv_at hl_72 2 rfl) ?_
      obtain ⟨v112, ev112, tv112⟩ : ∃ v : Int32, Int32.ofInt (1) = v ∧ v.toInt = 1 := ⟨_, rfl, by decide +kernel⟩
      refine lv_iconst hx hb dX10_boards_73 ev112 ?_
      refine lv_aload_n hx hb dX10_boards_74 rfl (lv_at hl_72 0 rfl) ?_
      refine tr_geti Z.1 Z.2.2.2.1 S_72.1 S_72.2 ha0 ta0 rfl rfl (fun _ h => List.mem_cons_of_mem _ (List.mem_append_right _ h)) 45 (by decide) rfl (hts _ (List.mem_of_getElem? (i := 2) rfl)) dX10_boards_75 (fun v113 ev113 lv113 uv113 => ?_)
      refine lv_ishl hx hb dX10_boards_78 ?_
      refine lv_topi (fun v114 ev114 => ?_)
      have tv114 := nu_sh1 ev114 (by omega) (by omega) (by omega)
      refine lv_icmp_ge (tgt := 270) hx hb dX10_boards_79 (by decide) (fun c115 => ?_) (fun c115 => ?_)
      · skip
        have tc115 := nu_le c115
        refine lv_aload_n hx hb dX10_boards_270 rfl (lv_at hl_72 0 rfl) ?_
        refine tr_getr Z.1 Z.2.2.2.1 S_72.1 S_72.2 ha0 ta0 rfl rfl (fun _ h => List.mem_cons_of_mem _ (List.mem_append_right _ h)) 43 (by decide) rfl (hts _ (List.mem_of_getElem? (i := 4) rfl)) dX10_boards_271 (fun q116 eq116 hq116 tq116 => ?_)
        have tq116 : τ q116 = (84, 0) := tq116
        obtain ⟨v117, ev117, tv117⟩ : ∃ v : Int32, Int32.ofInt (1) = v ∧ v.toInt = 1 := ⟨_, rfl, by decide +kernel⟩
        refine lv_iconst hx hb dX10_boards_274 ev117 ?_
        refine lv_aload_n hx hb dX10_boards_275 rfl (lv_at hl_72 0 rfl) ?_
        refine tr_geti Z.1 Z.2.2.2.1 S_72.1 S_72.2 ha0 ta0 rfl rfl (fun _ h => List.mem_cons_of_mem _ (List.mem_append_right _ h)) 45 (by decide) rfl (hts _ (List.mem_of_getElem? (i := 2) rfl)) dX10_boards_276 (fun v118 ev118 lv118 uv118 => ?_)
        have wv118 : v118 = v113 := ev118.symm.trans ev113
        have xv118 : v118.toInt = v113.toInt := by rw [wv118]
        refine lv_ishl hx hb dX10_boards_279 ?_
        refine lv_topi (fun v119 ev119 => ?_)
        have tv119 := nu_sh1 ev119 (by omega) (by omega) (by omega)
        obtain ⟨v120, ev120, tv120⟩ : ∃ v : Int32, Int32.ofInt (1) = v ∧ v.toInt = 1 := ⟨_, rfl, by decide +kernel⟩
        refine lv_iconst hx hb dX10_boards_280 ev120 ?_
        refine lv_isub hx hb dX10_boards_281 ?_
        refine lv_topi (fun v121 ev121 => ?_)
        have tv121 := nu_sub ev121 (by omega) (by omega)
        refine tr_iald Z.1 Z.2.2.2.1 S_72.1 S_72.2 hq116 tq116 rfl (by omega) (by omega) dX10_boards_282 (fun v122 ev122 lv122 uv122 => ?_)
        rw [← hQ]
        exact en_i Z S_72 F_72 trivial dX10_boards_283
      · skip
        have tc115 := nu_nle c115
        refine lv_aload_n hx hb dX10_boards_82 rfl (lv_at hl_72 0 rfl) ?_
        refine tr_getr Z.1 Z.2.2.2.1 S_72.1 S_72.2 ha0 ta0 rfl rfl (fun _ h => List.mem_cons_of_mem _ (List.mem_append_right _ h)) 43 (by decide) rfl (hts _ (List.mem_of_getElem? (i := 4) rfl)) dX10_boards_83 (fun q123 eq123 hq123 tq123 => ?_)
        have tq123 : τ q123 = (84, 0) := tq123
        refine lv_iload_n hx hb dX10_boards_86 rfl (lv_at hl_72 2 rfl) ?_
        obtain ⟨v124, ev124, tv124⟩ : ∃ v : Int32, (Int8.ofInt (100)).toInt32 = v ∧ v.toInt = 100 := ⟨_, rfl, by decide +kernel⟩
        refine lv_bipush hx hb dX10_boards_87 ev124 ?_
        refine tr_iast Z.1 Z.2.2.2.1 S_72.1 S_72.2 hq123 tq123 rfl (by omega) (by omega) (by have := fb_rng v124; omega) (by have := fb_rng v124; omega) dX10_boards_89 (fun E125 H126 k127 W125 I125 P125 => ?_)
        have S125 : Now D TB cy (va_A (va_pl L E) sz) s L τ E125 H126 k127 := ⟨W125, I125⟩
        have F125 : Fr L τ (inW [(11, 0), (84, 0), (85, 0)]) E E125 := Fr.set F_72 P125 tq123 rfl
        refine lv_aload_n hx hb dX10_boards_90 rfl (lv_at hl_72 0 rfl) ?_
        refine tr_getr Z.1 Z.2.2.2.1 S125.1 S125.2 ha0 ta0 rfl rfl (fun _ h => List.mem_cons_of_mem _ (List.mem_append_right _ h)) 44 (by decide) rfl (hts _ (List.mem_of_getElem? (i := 5) rfl)) dX10_boards_91 (fun q128 eq128 hq128 tq128 => ?_)
        have tq128 : τ q128 = (85, 0) := tq128
        refine lv_iload_n hx hb dX10_boards_94 rfl (lv_at hl_72 2 rfl) ?_
        obtain ⟨v129, ev129, tv129⟩ : ∃ v : Int32, Int32.ofInt (0) = v ∧ v.toInt = 0 := ⟨_, rfl, by decide +kernel⟩
        refine lv_iconst hx hb dX10_boards_95 ev129 ?_
        refine tr_iast Z.1 Z.2.2.2.1 S125.1 S125.2 hq128 tq128 rfl (by omega) (by omega) (by have := fb_rng v129; omega) (by have := fb_rng v129; omega) dX10_boards_96 (fun E130 H131 k132 W130 I130 P130 => ?_)
        have S130 : Now D TB cy (va_A (va_pl L E) sz) s L τ E130 H131 k132 := ⟨W130, I130⟩
        have F130 : Fr L τ (inW [(11, 0), (84, 0), (85, 0)]) E E130 := Fr.set F125 P130 tq128 rfl
        obtain ⟨v133, ev133, tv133⟩ : ∃ v : Int32, Int32.ofInt (0) = v ∧ v.toInt = 0 := ⟨_, rfl, by decide +kernel⟩
        refine lv_iconst hx hb dX10_boards_97 ev133 ?_
        refine lv_istore_n (lv' := [(3, .int v133), (0, .ref a0), (1, .int a1), (2, .int x2_72)]) hx hb dX10_boards_98 rfl hl_72 (by decide) rfl (fun l134 hl135 => ?_)
        exact J99 _ v133 E130 H131 k132 l134 S130 F130 (by omega) (by omega) (by omega) (by omega) (by omega) (by omega) (Nat.lt_succ_self _) (lv_sub hl135 [1, 2, 3, 0] rfl)
  have J29 : ∀ (n : Nat) (x2_29 : Int32) (E_29 : Ec) (H_29 : Heap) (k_29 : List Loc) (l_29 : Array Slot), Now D TB cy (va_A (va_pl L E) sz) s L τ E_29 H_29 k_29 → Fr L τ (inW [(11, 0), (84, 0), (85, 0)]) E E_29 → (1 ≤ a1.toInt) → (a1.toInt ≤ 10000) → (0 ≤ x2_29.toInt) → (x2_29.toInt ≤ 12) → (12 - x2_29.toInt).toNat < n → lv_has l_29 8 [(0, .ref a0), (1, .int a1), (2, .int x2_29)] → W p l e { frames := 1, cells := 0, slots := 0, locals := 23 } s m args below meth c H_29 k_29 0 0 QQ (F0 m 29 l_29 []) := by
    intro n
    induction n with
    | zero => intro x2_29 E_29 H_29 k_29 l_29 S_29 F_29 z136 z137 z138 z139 hm hl_29; exact absurd hm (Nat.not_lt_zero _)
    | succ n ih =>
      intro x2_29 E_29 H_29 k_29 l_29 S_29 F_29 z136 z137 z138 z139 hm hl_29
      have ih_29 := ih
      refine lv_iload_n hx hb dX10_boards_29 rfl (lv_at hl_29 2 rfl) ?_
      refine lv_aload_n hx hb dX10_boards_30 rfl (lv_at hl_29 0 rfl) ?_
      refine tr_geti Z.1 Z.2.2.2.1 S_29.1 S_29.2 ha0 ta0 rfl rfl (fun _ h => List.mem_cons_of_mem _ (List.mem_append_right _ h)) 45 (by decide) rfl (hts _ (List.mem_of_getElem? (i := 2) rfl)) dX10_boards_31 (fun v140 ev140 lv140 uv140 => ?_)
      refine lv_icmp_ge (tgt := 56) hx hb dX10_boards_34 (by decide) (fun c141 => ?_) (fun c141 => ?_)
      · skip
        have tc141 := nu_le c141
        refine lv_aload_n hx hb dX10_boards_56 rfl (lv_at hl_29 0 rfl) ?_
        refine tr_getr Z.1 Z.2.2.2.1 S_29.1 S_29.2 ha0 ta0 rfl rfl (fun _ h => List.mem_cons_of_mem _ (List.mem_append_right _ h)) 43 (by decide) rfl (hts _ (List.mem_of_getElem? (i := 4) rfl)) dX10_boards_57 (fun q142 eq142 hq142 tq142 => ?_)
        have tq142 : τ q142 = (84, 0) := tq142
        obtain ⟨v143, ev143, tv143⟩ : ∃ v : Int32, Int32.ofInt (0) = v ∧ v.toInt = 0 := ⟨_, rfl, by decide +kernel⟩
        refine lv_iconst hx hb dX10_boards_60 ev143 ?_
        obtain ⟨v144, ev144, tv144⟩ : ∃ v : Int32, Int32.ofInt (0) = v ∧ v.toInt = 0 := ⟨_, rfl, by decide +kernel⟩
        refine lv_iconst hx hb dX10_boards_61 ev144 ?_
        refine tr_iast Z.1 Z.2.2.2.1 S_29.1 S_29.2 hq142 tq142 rfl (by omega) (by omega) (by have := fb_rng v144; omega) (by have := fb_rng v144; omega) dX10_boards_62 (fun E145 H146 k147 W145 I145 P145 => ?_)
        have S145 : Now D TB cy (va_A (va_pl L E) sz) s L τ E145 H146 k147 := ⟨W145, I145⟩
        have F145 : Fr L τ (inW [(11, 0), (84, 0), (85, 0)]) E E145 := Fr.set F_29 P145 tq142 rfl
        refine lv_aload_n hx hb dX10_boards_63 rfl (lv_at hl_29 0 rfl) ?_
        refine tr_getr Z.1 Z.2.2.2.1 S145.1 S145.2 ha0 ta0 rfl rfl (fun _ h => List.mem_cons_of_mem _ (List.mem_append_right _ h)) 44 (by decide) rfl (hts _ (List.mem_of_getElem? (i := 5) rfl)) dX10_boards_64 (fun q148 eq148 hq148 tq148 => ?_)
        have tq148 : τ q148 = (85, 0) := tq148
        obtain ⟨v149, ev149, tv149⟩ : ∃ v : Int32, Int32.ofInt (0) = v ∧ v.toInt = 0 := ⟨_, rfl, by decide +kernel⟩
        refine lv_iconst hx hb dX10_boards_67 ev149 ?_
        refine lv_iload_n hx hb dX10_boards_68 rfl (lv_at hl_29 1 rfl) ?_
        refine tr_iast Z.1 Z.2.2.2.1 S145.1 S145.2 hq148 tq148 rfl (by omega) (by omega) (by have := fb_rng a1; omega) (by have := fb_rng a1; omega) dX10_boards_69 (fun E150 H151 k152 W150 I150 P150 => ?_)
        have S150 : Now D TB cy (va_A (va_pl L E) sz) s L τ E150 H151 k152 := ⟨W150, I150⟩
        have F150 : Fr L τ (inW [(11, 0), (84, 0), (85, 0)]) E E150 := Fr.set F145 P150 tq148 rfl
        obtain ⟨v153, ev153, tv153⟩ : ∃ v : Int32, Int32.ofInt (1) = v ∧ v.toInt = 1 := ⟨_, rfl, by decide +kernel⟩
        refine lv_iconst hx hb dX10_boards_70 ev153 ?_
        refine lv_istore_n (lv' := [(2, .int v153), (0, .ref a0), (1, .int a1)]) hx hb dX10_boards_71 rfl hl_29 (by decide) rfl (fun l154 hl155 => ?_)
        exact J72 _ v153 E150 H151 k152 l154 S150 F150 (by omega) (by omega) (by omega) (by omega) (Nat.lt_succ_self _) (lv_sub hl155 [1, 2, 0] rfl)
      · skip
        have tc141 := nu_nle c141
        refine lv_aload_n hx hb dX10_boards_37 rfl (lv_at hl_29 0 rfl) ?_
        refine tr_getr Z.1 Z.2.2.2.1 S_29.1 S_29.2 ha0 ta0 rfl rfl (fun _ h => List.mem_cons_of_mem _ (List.mem_append_right _ h)) 42 (by decide) rfl (hts _ (List.mem_of_getElem? (i := 3) rfl)) dX10_boards_38 (fun q156 eq156 hq156 tq156 => ?_)
        have tq156 : τ q156 = (83, 0) := tq156
        refine lv_iload_n hx hb dX10_boards_41 rfl (lv_at hl_29 2 rfl) ?_
        refine tr_iald Z.1 Z.2.2.2.1 S_29.1 S_29.2 hq156 tq156 rfl (by omega) (by omega) dX10_boards_42 (fun v157 ev157 lv157 uv157 => ?_)
        refine lv_iload_n hx hb dX10_boards_43 rfl (lv_at hl_29 1 rfl) ?_
        refine lv_icmp_le (tgt := 50) hx hb dX10_boards_44 (by decide) (fun c158 => ?_) (fun c158 => ?_)
        · skip
          have tc158 := nu_le c158
          obtain ⟨v159, ev159⟩ : ∃ y : Int32, x2_29 + Int32.ofInt (1) = y := ⟨_, rfl⟩
          have tv159 : v159.toInt = x2_29.toInt + (1) := by rw [← ev159]; exact (fb_addI (by rw [show (Int32.ofInt (1)).toInt = 1 from by decide +kernel]; omega) (by rw [show (Int32.ofInt (1)).toInt = 1 from by decide +kernel]; omega)).trans (by rw [show (Int32.ofInt (1)).toInt = 1 from by decide +kernel])
          refine lv_iinc (v := v159) (lv' := [(2, .int v159), (0, .ref a0), (1, .int a1)]) hx hb dX10_boards_50 hl_29 (k := 2) rfl ev159 (by decide) rfl (fun l160 hl161 => ?_)
          refine lv_goto (tgt := 29) hx hb dX10_boards_53 (by decide) ?_
          exact ih_29 v159 E_29 H_29 k_29 l160 S_29 F_29 (by omega) (by omega) (by omega) (by omega) (by omega) (lv_sub hl161 [1, 2, 0] rfl)
        · skip
          have tc158 := nu_nle c158
          obtain ⟨v162, ev162, tv162⟩ : ∃ v : Int32, (Int8.ofInt (-2)).toInt32 = v ∧ v.toInt = -2 := ⟨_, rfl, by decide +kernel⟩
          refine lv_bipush hx hb dX10_boards_47 ev162 ?_
          rw [← hQ]
          exact en_i Z S_29 F_29 trivial dX10_boards_49
  refine lv_aload_n hx hb dX10_boards_0 rfl (lv_at hl 0 rfl) ?_
  obtain ⟨v163, ev163, tv163⟩ : ∃ v : Int32, Int32.ofInt (0) = v ∧ v.toInt = 0 := ⟨_, rfl, by decide +kernel⟩
  refine lv_iconst hx hb dX10_boards_1 ev163 ?_
  refine tr_puti Z.1 Z.2.2.2.1 S0.1 S0.2 ha0 ta0 rfl rfl (fun _ h => List.mem_cons_of_mem _ (List.mem_append_right _ h)) tyX10_ok nmX10 4 (by decide) rfl rfl rfl (hts _ (List.mem_of_getElem? (i := 1) rfl)) dX10_boards_2 (by omega) (by omega) (fun E164 H165 k166 W164 I164 P164 => ?_)
  have S164 : Now D TB cy (va_A (va_pl L E) sz) s L τ E164 H165 k166 := ⟨W164, I164⟩
  have F164 : Fr L τ (inW [(11, 0), (84, 0), (85, 0)]) E E164 := Fr.put F0_ P164 ta0 rfl
  refine lv_aload_n hx hb dX10_boards_5 rfl (lv_at hl 0 rfl) ?_
  refine lv_iload_n hx hb dX10_boards_6 rfl (lv_at hl 1 rfl) ?_
  obtain ⟨v167, ev167, tv167⟩ : ∃ v : Int32, Int32.ofInt (1) = v ∧ v.toInt = 1 := ⟨_, rfl, by decide +kernel⟩
  refine lv_iconst hx hb dX10_boards_7 ev167 ?_
  obtain ⟨v168, ev168, tv168⟩ : ∃ v : Int32, (Int16.ofInt (10000)).toInt32 = v ∧ v.toInt = 10000 := ⟨_, rfl, by decide +kernel⟩
  refine lv_sipush hx hb dX10_boards_8 ev168 ?_
  refine tc_vi Z.1 Z.2.2.2.1 Z.2.2.2.2.1 Z.2.2.2.2.2 S164.1 S164.2 ha0 ta0 rfl rfl (k_X10_in l D cy S164.2 ha0 ta0 a1 v167 v168) (cwV 3 hts gX10_boards_X10_in rfl rfl rfl (by decide +kernel) ⟨Nat.le_of_ble_eq_true rfl, Nat.le_of_ble_eq_true rfl⟩) rfl hl.1 rfl (Nat.le_of_ble_eq_true rfl) dX10_boards_11 ⟨Nat.zero_le _, Nat.zero_le _⟩ (fun v172 E169 H170 k171 W169 I169 G169 p169 => ?_)
  obtain ⟨q169, p169_0, p169_1, p169_2⟩ := p169
  have q169 := q169.symm
  subst q169
  have S169 : Now D TB cy (va_A (va_pl L E) sz) s L τ E164 H170 k171 := ⟨W169, I169⟩
  refine lv_if_ne (tgt := 23) hx hb dX10_boards_14 (by decide) (fun c173 => ?_) (fun c173 => ?_)
  · skip
    have tc173 := nu_ne c173
    have uc173 : (0 : Int32).toInt = 0 := rfl
    refine lv_aload_n hx hb dX10_boards_23 rfl (lv_at hl 0 rfl) ?_
    refine tc_vv Z.1 Z.2.2.2.1 Z.2.2.2.2.1 Z.2.2.2.2.2 S169.1 S169.2 ha0 ta0 rfl rfl (k_X10_good l D cy S169.2 ha0 ta0) (cwV 0 hts gX10_boards_X10_good rfl rfl rfl (by decide +kernel) ⟨Nat.le_of_ble_eq_true rfl, Nat.le_of_ble_eq_true rfl⟩) rfl hl.1 rfl (Nat.le_of_ble_eq_true rfl) dX10_boards_24 ⟨Nat.zero_le _, Nat.zero_le _⟩ (fun E174 H175 k176 W174 I174 G174 p174 => ?_)
    have p174_0 := p174
    have S174 : Now D TB cy (va_A (va_pl L E) sz) s L τ E174 H175 k176 := ⟨W174, I174⟩
    have F174 : Fr L τ (inW [(11, 0), (84, 0), (85, 0)]) E E174 := F164.trans (G174.mono (inW_mono (by decide)))
    obtain ⟨v178, ev178, tv178⟩ : ∃ v : Int32, Int32.ofInt (0) = v ∧ v.toInt = 0 := ⟨_, rfl, by decide +kernel⟩
    refine lv_iconst hx hb dX10_boards_27 ev178 ?_
    refine lv_istore_n (lv' := [(2, .int v178), (0, .ref a0), (1, .int a1)]) hx hb dX10_boards_28 rfl hl (by decide) rfl (fun l179 hl180 => ?_)
    exact J29 _ v178 E174 H175 k176 l179 S174 F174 (by omega) (by omega) (by omega) (by omega) (Nat.lt_succ_self _) (lv_sub hl180 [1, 2, 0] rfl)
  · skip
    have tc173 := nu_eq c173
    have uc173 : (0 : Int32).toInt = 0 := rfl
    refine lv_aload_n hx hb dX10_boards_17 rfl (lv_at hl 0 rfl) ?_
    obtain ⟨v181, ev181, tv181⟩ : ∃ v : Int32, Int32.ofInt (1) = v ∧ v.toInt = 1 := ⟨_, rfl, by decide +kernel⟩
    refine lv_iconst hx hb dX10_boards_18 ev181 ?_
    refine tc_vi Z.1 Z.2.2.2.1 Z.2.2.2.2.1 Z.2.2.2.2.2 S169.1 S169.2 ha0 ta0 rfl rfl (k_X10_no l D cy S169.2 ha0 ta0 v181) (cwV 1 hts gX10_boards_X10_no rfl rfl rfl (by decide +kernel) ⟨Nat.le_of_ble_eq_true rfl, Nat.le_of_ble_eq_true rfl⟩) rfl hl.1 rfl (Nat.le_of_ble_eq_true rfl) dX10_boards_19 ⟨Nat.zero_le _, Nat.zero_le _⟩ (fun v185 E182 H183 k184 W182 I182 G182 p182 => ?_)
    obtain ⟨p182_0, p182_1, p182_2⟩ := p182
    have S182 : Now D TB cy (va_A (va_pl L E) sz) s L τ E182 H183 k184 := ⟨W182, I182⟩
    have F182 : Fr L τ (inW [(11, 0), (84, 0), (85, 0)]) E E182 := F164.trans (G182.mono (inW_mono (by decide)))
    rw [← hQ]
    exact en_i Z S182 F182 trivial dX10_boards_22

