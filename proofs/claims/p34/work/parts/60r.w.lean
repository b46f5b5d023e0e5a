set_option maxHeartbeats 4000000 in
set_option maxRecDepth 100000 in
theorem k_X10_broken_vw (l : Launch) (D : va_G) (cy : Nat → ClassId) {L : List Nat} {τ : Nat → Ro} {E : Ec} (hI : Inv TB cy L τ E) {a0 : Nat} (ha0 : a0 ∈ L) (ta0 : τ a0 = (11, 0)) (a1 : Int32) (a2 : Int32) (hS : SlotOK L τ E) : CtI l yX10_broken wsX10_broken { frames := 4, cells := 0, slots := 0, locals := 95 } D TB cy L τ E [.ref a0, .int a1, .int a2] (inW [(11, 0), (62, 0), (63, 0), (64, 0), (65, 0), (66, 0), (67, 0), (68, 0), (69, 0), (70, 0), (71, 0)]) (fun r E' => ((fi E' a0 3).toInt ≠ 2) ∧ (∀ k : Nat, k ∉ ([3, 4, 6, 8, 30, 31, 32] : List Nat) → fi E' a0 k = fi E a0 k)) := by
  intro sz
  refine sta (cc := cX10_broken) (maxL := 4) hI (by decide) rfl (Nat.le_of_ble_eq_true rfl) (fun p e s m args below meth c ls hsz Z S0 hl => ?_)
  have hx := Z.1.1
  have hb := Z.1.2.1
  have hts := Z.1.2.2.2.2
  have F0_ : Fr L τ (inW [(11, 0), (62, 0), (63, 0), (64, 0), (65, 0), (66, 0), (67, 0), (68, 0), (69, 0), (70, 0), (71, 0)]) E E := Fr.refl
  have hl : lv_has ls 4 [(0, .ref a0), (1, .int a1), (2, .int a2)] := hl
  generalize hQ : MQ below _ args s 0 0 _ = QQ
  refine lv_aload_n hx hb dX10_broken_0 rfl (lv_at hl 0 rfl) ?_
  obtain ⟨v1, ev1, tv1⟩ : ∃ v : Int32, Int32.ofInt (0) = v ∧ v.toInt = 0 := ⟨_, rfl, by decide +kernel⟩
  refine lv_iconst hx hb dX10_broken_1 ev1 ?_
  refine tr_puti Z.1 Z.2.2.2.1 S0.1 S0.2 ha0 ta0 rfl rfl (fun _ h => List.mem_cons_of_mem _ (List.mem_append_right _ h)) tyX10_ok nmX10 4 (by decide) rfl rfl rfl (hts _ (List.mem_of_getElem? (i := 1) rfl)) dX10_broken_2 (by omega) (by omega) (fun E2 H3 k4 W2 I2 P2 => ?_)
  have S2 : Now D TB cy (va_A (va_pl L E) sz) s L τ E2 H3 k4 := ⟨W2, I2⟩
  have F2 : Fr L τ (inW [(11, 0), (62, 0), (63, 0), (64, 0), (65, 0), (66, 0), (67, 0), (68, 0), (69, 0), (70, 0), (71, 0)]) E E2 := Fr.put F0_ P2 ta0 rfl
  refine lv_aload_n hx hb dX10_broken_5 rfl (lv_at hl 0 rfl) ?_
  refine lv_iload_n hx hb dX10_broken_6 rfl (lv_at hl 1 rfl) ?_
  obtain ⟨v5, ev5, tv5⟩ : ∃ v : Int32, Int32.ofInt (0) = v ∧ v.toInt = 0 := ⟨_, rfl, by decide +kernel⟩
  refine lv_iconst hx hb dX10_broken_7 ev5 ?_
  refine lv_aload_n hx hb dX10_broken_8 rfl (lv_at hl 0 rfl) ?_
  refine tr_getr Z.1 Z.2.2.2.1 S2.1 S2.2 ha0 ta0 rfl rfl (fun _ h => List.mem_cons_of_mem _ (List.mem_append_right _ h)) 0 (by decide) rfl (hts _ (List.mem_of_getElem? (i := 2) rfl)) dX10_broken_9 (fun q6 eq6 hq6 tq6 => ?_)
  have tq6 : τ q6 = (60, 0) := tq6
  obtain ⟨v7, ev7, tv7⟩ : ∃ v : Int32, (Int8.ofInt (44)).toInt32 = v ∧ v.toInt = 44 := ⟨_, rfl, by decide +kernel⟩
  refine lv_bipush hx hb dX10_broken_12 ev7 ?_
  refine tr_ialdx Z.1 Z.2.2.2.1 S2.1 S2.2 hq6 tq6 rfl (by omega) (by omega) dX10_broken_14 (fun v8 ev8 lv8 uv8 => ?_)
  have bv8 : nowB v7.toNatClampNeg = (0, 8) := nb_44 (by show v7.toInt.toNat = 44; omega)
  rw [bv8] at lv8 uv8
  have lv8 : 0 ≤ v8.toInt := lv8
  have uv8 : v8.toInt ≤ 8 := uv8
  have av8 : ai E2 q6 44 = v8 := ai_at ev8 (by omega)
  obtain ⟨v9, ev9, tv9⟩ : ∃ v : Int32, Int32.ofInt (1) = v ∧ v.toInt = 1 := ⟨_, rfl, by decide +kernel⟩
  refine lv_iconst hx hb dX10_broken_15 ev9 ?_
  refine lv_isub hx hb dX10_broken_16 ?_
  refine lv_topi (fun v10 ev10 => ?_)
  have tv10 := nu_sub ev10 (by omega) (by omega)
  refine tc_vi Z.1 Z.2.2.2.1 Z.2.2.2.2.1 Z.2.2.2.2.2 S2.1 S2.2 ha0 ta0 rfl rfl (k_X10_in l D cy S2.2 ha0 ta0 a1 v5 v10) (cwV 3 hts gX10_broken_X10_in rfl rfl rfl (by decide +kernel) ⟨Nat.le_of_ble_eq_true rfl, Nat.le_of_ble_eq_true rfl⟩) rfl hl.1 rfl (Nat.le_of_ble_eq_true rfl) dX10_broken_17 ⟨Nat.zero_le _, Nat.zero_le _⟩ (fun v14 E11 H12 k13 W11 I11 G11 p11 => ?_)
  obtain ⟨q11, p11_0, p11_1, p11_2⟩ := p11
  have q11 := q11.symm
  subst q11
  have S11 : Now D TB cy (va_A (va_pl L E) sz) s L τ E2 H12 k13 := ⟨W11, I11⟩
  refine lv_if_ne (tgt := 29) hx hb dX10_broken_20 (by decide) (fun c15 => ?_) (fun c15 => ?_)
  · skip
    have tc15 := nu_ne c15
    have uc15 : (0 : Int32).toInt = 0 := rfl
    refine lv_aload_n hx hb dX10_broken_29 rfl (lv_at hl 0 rfl) ?_
    refine lv_iload_n hx hb dX10_broken_30 rfl (lv_at hl 2 rfl) ?_
    obtain ⟨v16, ev16, tv16⟩ : ∃ v : Int32, Int32.ofInt (0) = v ∧ v.toInt = 0 := ⟨_, rfl, by decide +kernel⟩
    refine lv_iconst hx hb dX10_broken_31 ev16 ?_
    obtain ⟨v17, ev17, tv17⟩ : ∃ v : Int32, Int32.ofInt (3) = v ∧ v.toInt = 3 := ⟨_, rfl, by decide +kernel⟩
    refine lv_iconst hx hb dX10_broken_32 ev17 ?_
    refine tc_vi Z.1 Z.2.2.2.1 Z.2.2.2.2.1 Z.2.2.2.2.2 S11.1 S11.2 ha0 ta0 rfl rfl (k_X10_in l D cy S11.2 ha0 ta0 a2 v16 v17) (cwV 3 hts gX10_broken_X10_in rfl rfl rfl (by decide +kernel) ⟨Nat.le_of_ble_eq_true rfl, Nat.le_of_ble_eq_true rfl⟩) rfl hl.1 rfl (Nat.le_of_ble_eq_true rfl) dX10_broken_33 ⟨Nat.zero_le _, Nat.zero_le _⟩ (fun v21 E18 H19 k20 W18 I18 G18 p18 => ?_)
    obtain ⟨q18, p18_0, p18_1, p18_2⟩ := p18
    have q18 := q18.symm
    subst q18
    have S18 : Now D TB cy (va_A (va_pl L E) sz) s L τ E2 H19 k20 := ⟨W18, I18⟩
    refine lv_if_ne (tgt := 45) hx hb dX10_broken_36 (by decide) (fun c22 => ?_) (fun c22 => ?_)
    · skip
      have tc22 := nu_ne c22
      have uc22 : (0 : Int32).toInt = 0 := rfl
      refine lv_aload_n hx hb dX10_broken_45 rfl (lv_at hl 0 rfl) ?_
      refine tc_vv Z.1 Z.2.2.2.1 Z.2.2.2.2.1 Z.2.2.2.2.2 S18.1 S18.2 ha0 ta0 rfl rfl (k_X10_good_vw l D cy S18.2 ha0 ta0) (cwV 0 hts gX10_broken_X10_good rfl rfl rfl (by decide +kernel) ⟨Nat.le_of_ble_eq_true rfl, Nat.le_of_ble_eq_true rfl⟩) rfl hl.1 rfl (Nat.le_of_ble_eq_true rfl) dX10_broken_46 ⟨Nat.zero_le _, Nat.zero_le _⟩ (fun E23 H24 k25 W23 I23 G23 p23 => ?_)
      obtain ⟨p23_0, p23_1⟩ := p23
      have S23 : Now D TB cy (va_A (va_pl L E) sz) s L τ E23 H24 k25 := ⟨W23, I23⟩
      have F23 : Fr L τ (inW [(11, 0), (62, 0), (63, 0), (64, 0), (65, 0), (66, 0), (67, 0), (68, 0), (69, 0), (70, 0), (71, 0)]) E E23 := F2.trans (G23.mono (inW_mono (by decide)))
      have kz23_3 := fi_rng (k := 3) S23.2 ha0 ta0 rfl rfl
      refine lv_aload_n hx hb dX10_broken_49 rfl (lv_at hl 0 rfl) ?_
      refine tc_vv Z.1 Z.2.2.2.1 Z.2.2.2.2.1 Z.2.2.2.2.2 S23.1 S23.2 ha0 ta0 rfl rfl (k_X10_asTold l D cy S23.2 ha0 ta0) (cwV 0 hts gX10_broken_X10_asTold rfl rfl rfl (by decide +kernel) ⟨Nat.le_of_ble_eq_true rfl, Nat.le_of_ble_eq_true rfl⟩) rfl hl.1 rfl (Nat.le_of_ble_eq_true rfl) dX10_broken_50 ⟨Nat.zero_le _, Nat.zero_le _⟩ (fun E27 H28 k29 W27 I27 G27 p27 => ?_)
      have p27_0 := p27
      have S27 : Now D TB cy (va_A (va_pl L E) sz) s L τ E27 H28 k29 := ⟨W27, I27⟩
      have F27 : Fr L τ (inW [(11, 0), (62, 0), (63, 0), (64, 0), (65, 0), (66, 0), (67, 0), (68, 0), (69, 0), (70, 0), (71, 0)]) E E27 := F23.trans (G27.mono (inW_mono (by decide)))
      refine lv_aload_n hx hb dX10_broken_53 rfl (lv_at hl 0 rfl) ?_
      refine lv_aload_n hx hb dX10_broken_54 rfl (lv_at hl 0 rfl) ?_
      refine tr_getr Z.1 Z.2.2.2.1 S27.1 S27.2 ha0 ta0 rfl rfl (fun _ h => List.mem_cons_of_mem _ (List.mem_append_right _ h)) 0 (by decide) rfl (hts _ (List.mem_of_getElem? (i := 2) rfl)) dX10_broken_55 (fun q31 eq31 hq31 tq31 => ?_)
      have tq31 : τ q31 = (60, 0) := tq31
      have uq31 : q6 = q31 := S27.2.2.2.2 _ hq6 _ hq31 (tq6.trans tq31.symm) (by rw [tq6]; rfl)
      subst uq31
      obtain ⟨v32, ev32, tv32⟩ : ∃ v : Int32, (Int8.ofInt (45)).toInt32 = v ∧ v.toInt = 45 := ⟨_, rfl, by decide +kernel⟩
      refine lv_bipush hx hb dX10_broken_58 ev32 ?_
      refine lv_iload_n hx hb dX10_broken_60 rfl (lv_at hl 1 rfl) ?_
      refine lv_iadd hx hb dX10_broken_61 ?_
      refine lv_topi (fun v33 ev33 => ?_)
      have tv33 := nu_add ev33 (by omega) (by omega)
      refine tr_ialdx Z.1 Z.2.2.2.1 S27.1 S27.2 hq6 tq6 rfl (by omega) (by omega) dX10_broken_62 (fun v34 ev34 lv34 uv34 => ?_)
      have bv34 : nowB v33.toNatClampNeg = (0, 49) := nb_45 (by show 45 ≤ v33.toInt.toNat ∧ v33.toInt.toNat ≤ 52; omega)
      rw [bv34] at lv34 uv34
      have lv34 : 0 ≤ v34.toInt := lv34
      have uv34 : v34.toInt ≤ 49 := uv34
      refine tc_vi Z.1 Z.2.2.2.1 Z.2.2.2.2.1 Z.2.2.2.2.2 S27.1 S27.2 ha0 ta0 rfl rfl (k_X10_isBroken l D cy S27.2 ha0 ta0 v34 (by omega) (by omega) (SlotOK.fr F27 rfl rfl rfl rfl hS)) (cwV 1 hts gX10_broken_X10_isBroken rfl rfl rfl (by decide +kernel) ⟨Nat.le_of_ble_eq_true rfl, Nat.le_of_ble_eq_true rfl⟩) rfl hl.1 rfl (Nat.le_of_ble_eq_true rfl) dX10_broken_63 ⟨Nat.zero_le _, Nat.zero_le _⟩ (fun v38 E35 H36 k37 W35 I35 G35 p35 => ?_)
      obtain ⟨p35_0, p35_1, p35_2⟩ := p35
      have S35 : Now D TB cy (va_A (va_pl L E) sz) s L τ E35 H36 k37 := ⟨W35, I35⟩
      have F35 : Fr L τ (inW [(11, 0), (62, 0), (63, 0), (64, 0), (65, 0), (66, 0), (67, 0), (68, 0), (69, 0), (70, 0), (71, 0)]) E E35 := F27.trans (G35.mono (inW_mono (by decide)))
      refine lv_istore_n (lv' := [(3, .int v38), (0, .ref a0), (1, .int a1), (2, .int a2)]) hx hb dX10_broken_66 rfl hl (by decide) rfl (fun l39 hl40 => ?_)
      refine lv_iload_n hx hb dX10_broken_67 rfl (lv_at hl40 3 rfl) ?_
      refine lv_if_ne (tgt := 83) hx hb dX10_broken_68 (by decide) (fun c41 => ?_) (fun c41 => ?_)
      · skip
        have tc41 := nu_ne c41
        have uc41 : (0 : Int32).toInt = 0 := rfl
        refine lv_iload_n hx hb dX10_broken_83 rfl (lv_at hl40 3 rfl) ?_
        obtain ⟨v42, ev42, tv42⟩ : ∃ v : Int32, Int32.ofInt (3) = v ∧ v.toInt = 3 := ⟨_, rfl, by decide +kernel⟩
        refine lv_iconst hx hb dX10_broken_84 ev42 ?_
        refine lv_icmp_ne (tgt := 103) hx hb dX10_broken_85 (by decide) (fun c43 => ?_) (fun c43 => ?_)
        · skip
          have tc43 := nu_ne c43
          refine lv_iload_n hx hb dX10_broken_103 rfl (lv_at hl40 0 rfl) ?_
          refine lv_if_ne (tgt := 111) hx hb dX10_broken_104 (by decide) (fun c44 => ?_) (fun c44 => ?_)
          · skip
            have tc44 := nu_ne c44
            have uc44 : (0 : Int32).toInt = 0 := rfl
            refine lv_iload_n hx hb dX10_broken_111 rfl (lv_at hl40 3 rfl) ?_
            obtain ⟨v45, ev45, tv45⟩ : ∃ v : Int32, Int32.ofInt (1) = v ∧ v.toInt = 1 := ⟨_, rfl, by decide +kernel⟩
            refine lv_iconst hx hb dX10_broken_112 ev45 ?_
            refine lv_icmp_ne (tgt := 123) hx hb dX10_broken_113 (by decide) (fun c46 => ?_) (fun c46 => ?_)
            · skip
              have tc46 := nu_ne c46
              refine lv_aload_n hx hb dX10_broken_123 rfl (lv_at hl40 1 rfl) ?_
              refine tr_geti Z.1 Z.2.2.2.1 S35.1 S35.2 ha0 ta0 rfl rfl (fun _ h => List.mem_cons_of_mem _ (List.mem_append_right _ h)) 31 (by decide) rfl (hts _ (List.mem_of_getElem? (i := 5) rfl)) dX10_broken_124 (fun v47 ev47 lv47 uv47 => ?_)
              rw [← hQ]
              exact en_i Z S35 F35 ⟨(by rw [((p35_2 3 (by decide)).trans ((p27_0 3 (by decide)).trans rfl))]; omega), (fun k hk => ((p35_2 k (fw_sub (by decide) hk)).trans ((p27_0 k (fw_sub (by decide) hk)).trans ((p23_1 k (fw_sub (by decide) hk)).trans ((fi_put P2 (Or.inr (fw_ne (by decide) hk))).trans ((fun k hk => rfl) k hk))))))⟩ dX10_broken_127
            · skip
              have tc46 := nu_eq c46
              refine lv_aload_n hx hb dX10_broken_116 rfl (lv_at hl40 1 rfl) ?_
              refine tr_geti Z.1 Z.2.2.2.1 S35.1 S35.2 ha0 ta0 rfl rfl (fun _ h => List.mem_cons_of_mem _ (List.mem_append_right _ h)) 30 (by decide) rfl (hts _ (List.mem_of_getElem? (i := 4) rfl)) dX10_broken_117 (fun v48 ev48 lv48 uv48 => ?_)
              refine lv_goto (tgt := 127) hx hb dX10_broken_120 (by decide) ?_
              rw [← hQ]
              exact en_i Z S35 F35 ⟨(by rw [((p35_2 3 (by decide)).trans ((p27_0 3 (by decide)).trans rfl))]; omega), (fun k hk => ((p35_2 k (fw_sub (by decide) hk)).trans ((p27_0 k (fw_sub (by decide) hk)).trans ((p23_1 k (fw_sub (by decide) hk)).trans ((fi_put P2 (Or.inr (fw_ne (by decide) hk))).trans ((fun k hk => rfl) k hk))))))⟩ dX10_broken_127
          · skip
            have tc44 := nu_eq c44
            have uc44 : (0 : Int32).toInt = 0 := rfl
            obtain ⟨v49, ev49, tv49⟩ : ∃ v : Int32, Int32.ofInt (-1) = v ∧ v.toInt = -1 := ⟨_, rfl, by decide +kernel⟩
            refine lv_iconst hx hb dX10_broken_107 ev49 ?_
            refine lv_goto (tgt := 127) hx hb dX10_broken_108 (by decide) ?_
            rw [← hQ]
            exact en_i Z S35 F35 ⟨(by rw [((p35_2 3 (by decide)).trans ((p27_0 3 (by decide)).trans rfl))]; omega), (fun k hk => ((p35_2 k (fw_sub (by decide) hk)).trans ((p27_0 k (fw_sub (by decide) hk)).trans ((p23_1 k (fw_sub (by decide) hk)).trans ((fi_put P2 (Or.inr (fw_ne (by decide) hk))).trans ((fun k hk => rfl) k hk))))))⟩ dX10_broken_127
        · skip
          have tc43 := nu_eq c43
          refine lv_iload_n hx hb dX10_broken_88 rfl (lv_at hl40 0 rfl) ?_
          refine lv_if_eq (tgt := 99) hx hb dX10_broken_89 (by decide) (fun c50 => ?_) (fun c50 => ?_)
          · skip
            have tc50 := nu_eq c50
            have uc50 : (0 : Int32).toInt = 0 := rfl
            obtain ⟨v51, ev51, tv51⟩ : ∃ v : Int32, Int32.ofInt (0) = v ∧ v.toInt = 0 := ⟨_, rfl, by decide +kernel⟩
            refine lv_iconst hx hb dX10_broken_99 ev51 ?_
            refine lv_goto (tgt := 127) hx hb dX10_broken_100 (by decide) ?_
            rw [← hQ]
            exact en_i Z S35 F35 ⟨(by rw [((p35_2 3 (by decide)).trans ((p27_0 3 (by decide)).trans rfl))]; omega), (fun k hk => ((p35_2 k (fw_sub (by decide) hk)).trans ((p27_0 k (fw_sub (by decide) hk)).trans ((p23_1 k (fw_sub (by decide) hk)).trans ((fi_put P2 (Or.inr (fw_ne (by decide) hk))).trans ((fun k hk => rfl) k hk))))))⟩ dX10_broken_127
          · skip
            have tc50 := nu_ne c50
            have uc50 : (0 : Int32).toInt = 0 := rfl
            refine lv_aload_n hx hb dX10_broken_92 rfl (lv_at hl40 1 rfl) ?_
            refine tr_geti Z.1 Z.2.2.2.1 S35.1 S35.2 ha0 ta0 rfl rfl (fun _ h => List.mem_cons_of_mem _ (List.mem_append_right _ h)) 32 (by decide) rfl (hts _ (List.mem_of_getElem? (i := 3) rfl)) dX10_broken_93 (fun v52 ev52 lv52 uv52 => ?_)
            refine lv_goto (tgt := 127) hx hb dX10_broken_96 (by decide) ?_
            rw [← hQ]
            exact en_i Z S35 F35 ⟨(by rw [((p35_2 3 (by decide)).trans ((p27_0 3 (by decide)).trans rfl))]; omega), (fun k hk => ((p35_2 k (fw_sub (by decide) hk)).trans ((p27_0 k (fw_sub (by decide) hk)).trans ((p23_1 k (fw_sub (by decide) hk)).trans ((fi_put P2 (Or.inr (fw_ne (by decide) hk))).trans ((fun k hk => rfl) k hk))))))⟩ dX10_broken_127
      · skip
        have tc41 := nu_eq c41
        have uc41 : (0 : Int32).toInt = 0 := rfl
        refine lv_iload_n hx hb dX10_broken_71 rfl (lv_at hl40 0 rfl) ?_
        refine lv_if_eq (tgt := 79) hx hb dX10_broken_72 (by decide) (fun c53 => ?_) (fun c53 => ?_)
        · skip
          have tc53 := nu_eq c53
          have uc53 : (0 : Int32).toInt = 0 := rfl
          obtain ⟨v54, ev54, tv54⟩ : ∃ v : Int32, Int32.ofInt (0) = v ∧ v.toInt = 0 := ⟨_, rfl, by decide +kernel⟩
          refine lv_iconst hx hb dX10_broken_79 ev54 ?_
          refine lv_goto (tgt := 127) hx hb dX10_broken_80 (by decide) ?_
          rw [← hQ]
          exact en_i Z S35 F35 ⟨(by rw [((p35_2 3 (by decide)).trans ((p27_0 3 (by decide)).trans rfl))]; omega), (fun k hk => ((p35_2 k (fw_sub (by decide) hk)).trans ((p27_0 k (fw_sub (by decide) hk)).trans ((p23_1 k (fw_sub (by decide) hk)).trans ((fi_put P2 (Or.inr (fw_ne (by decide) hk))).trans ((fun k hk => rfl) k hk))))))⟩ dX10_broken_127
        · skip
          have tc53 := nu_ne c53
          have uc53 : (0 : Int32).toInt = 0 := rfl
          obtain ⟨v55, ev55, tv55⟩ : ∃ v : Int32, Int32.ofInt (1) = v ∧ v.toInt = 1 := ⟨_, rfl, by decide +kernel⟩
          refine lv_iconst hx hb dX10_broken_75 ev55 ?_
          refine lv_goto (tgt := 127) hx hb dX10_broken_76 (by decide) ?_
          rw [← hQ]
          exact en_i Z S35 F35 ⟨(by rw [((p35_2 3 (by decide)).trans ((p27_0 3 (by decide)).trans rfl))]; omega), (fun k hk => ((p35_2 k (fw_sub (by decide) hk)).trans ((p27_0 k (fw_sub (by decide) hk)).trans ((p23_1 k (fw_sub (by decide) hk)).trans ((fi_put P2 (Or.inr (fw_ne (by decide) hk))).trans ((fun k hk => rfl) k hk))))))⟩ dX10_broken_127
    · skip
      have tc22 := nu_eq c22
      have uc22 : (0 : Int32).toInt = 0 := rfl
      refine lv_aload_n hx hb dX10_broken_39 rfl (lv_at hl 0 rfl) ?_
      obtain ⟨v56, ev56, tv56⟩ : ∃ v : Int32, Int32.ofInt (1) = v ∧ v.toInt = 1 := ⟨_, rfl, by decide +kernel⟩
      refine lv_iconst hx hb dX10_broken_40 ev56 ?_
      refine tc_vi Z.1 Z.2.2.2.1 Z.2.2.2.2.1 Z.2.2.2.2.2 S18.1 S18.2 ha0 ta0 rfl rfl (k_X10_no_vw l D cy S18.2 ha0 ta0 v56) (cwV 1 hts gX10_broken_X10_no rfl rfl rfl (by decide +kernel) ⟨Nat.le_of_ble_eq_true rfl, Nat.le_of_ble_eq_true rfl⟩) rfl hl.1 rfl (Nat.le_of_ble_eq_true rfl) dX10_broken_41 ⟨Nat.zero_le _, Nat.zero_le _⟩ (fun v60 E57 H58 k59 W57 I57 G57 p57 => ?_)
      obtain ⟨p57_0, p57_1, p57_2, p57_3⟩ := p57
      have S57 : Now D TB cy (va_A (va_pl L E) sz) s L τ E57 H58 k59 := ⟨W57, I57⟩
      have F57 : Fr L τ (inW [(11, 0), (62, 0), (63, 0), (64, 0), (65, 0), (66, 0), (67, 0), (68, 0), (69, 0), (70, 0), (71, 0)]) E E57 := F2.trans (G57.mono (inW_mono (by decide)))
      have kz57_3 := fi_rng (k := 3) S57.2 ha0 ta0 rfl rfl
      rw [← hQ]
      exact en_i Z S57 F57 ⟨(by omega), (fun k hk => ((p57_3 k (fw_sub (by decide) hk)).trans ((fi_put P2 (Or.inr (fw_ne (by decide) hk))).trans ((fun k hk => rfl) k hk))))⟩ dX10_broken_44
  · skip
    have tc15 := nu_eq c15
    have uc15 : (0 : Int32).toInt = 0 := rfl
    refine lv_aload_n hx hb dX10_broken_23 rfl (lv_at hl 0 rfl) ?_
    obtain ⟨v61, ev61, tv61⟩ : ∃ v : Int32, Int32.ofInt (4) = v ∧ v.toInt = 4 := ⟨_, rfl, by decide +kernel⟩
    refine lv_iconst hx hb dX10_broken_24 ev61 ?_
    refine tc_vi Z.1 Z.2.2.2.1 Z.2.2.2.2.1 Z.2.2.2.2.2 S11.1 S11.2 ha0 ta0 rfl rfl (k_X10_no_vw l D cy S11.2 ha0 ta0 v61) (cwV 1 hts gX10_broken_X10_no rfl rfl rfl (by decide +kernel) ⟨Nat.le_of_ble_eq_true rfl, Nat.le_of_ble_eq_true rfl⟩) rfl hl.1 rfl (Nat.le_of_ble_eq_true rfl) dX10_broken_25 ⟨Nat.zero_le _, Nat.zero_le _⟩ (fun v65 E62 H63 k64 W62 I62 G62 p62 => ?_)
    obtain ⟨p62_0, p62_1, p62_2, p62_3⟩ := p62
    have S62 : Now D TB cy (va_A (va_pl L E) sz) s L τ E62 H63 k64 := ⟨W62, I62⟩
    have F62 : Fr L τ (inW [(11, 0), (62, 0), (63, 0), (64, 0), (65, 0), (66, 0), (67, 0), (68, 0), (69, 0), (70, 0), (71, 0)]) E E62 := F2.trans (G62.mono (inW_mono (by decide)))
    have kz62_3 := fi_rng (k := 3) S62.2 ha0 ta0 rfl rfl
    rw [← hQ]
    exact en_i Z S62 F62 ⟨(by omega), (fun k hk => ((p62_3 k (fw_sub (by decide) hk)).trans ((fi_put P2 (Or.inr (fw_ne (by decide) hk))).trans ((fun k hk => rfl) k hk))))⟩ dX10_broken_28

set_option maxHeartbeats 4000000 in
set_option maxRecDepth 100000 in
theorem k_X10_about_vw (l : Launch) (D : va_G) (cy : Nat → ClassId) {L : List Nat} {τ : Nat → Ro} {E : Ec} (hI : Inv TB cy L τ E) {a0 : Nat} (ha0 : a0 ∈ L) (ta0 : τ a0 = (11, 0)) (a1 : Int32) (a2 : Int32) : CtI l yX10_about wsX10_about { frames := 1, cells := 0, slots := 0, locals := 23 } D TB cy L τ E [.ref a0, .int a1, .int a2] (inW [(11, 0)]) (fun r E' => ((fi E' a0 3).toInt ≠ 2) ∧ (∀ k : Nat, k ∉ ([3, 4, 6] : List Nat) → fi E' a0 k = fi E a0 k)) := by
  intro sz
  refine sta (cc := cX10_about) (maxL := 6) hI (by decide) rfl (Nat.le_of_ble_eq_true rfl) (fun p e s m args below meth c ls hsz Z S0 hl => ?_)
  have hx := Z.1.1
  have hb := Z.1.2.1
  have hts := Z.1.2.2.2.2
  have F0_ : Fr L τ (inW [(11, 0)]) E E := Fr.refl
  have hl : lv_has ls 6 [(0, .ref a0), (1, .int a1), (2, .int a2)] := hl
  generalize hQ : MQ below _ args s 0 0 _ = QQ
  have J65 : ∀ (n : Nat) (x3_65 : Int32) (x4_65 : Int32) (x5_65 : Int32) (E_65 : Ec) (H_65 : Heap) (k_65 : List Loc) (l_65 : Array Slot), Now D TB cy (va_A (va_pl L E) sz) s L τ E_65 H_65 k_65 → Fr L τ (inW [(11, 0)]) E E_65 → (0 ≤ a2.toInt) → (a2.toInt ≤ 3) → (0 ≤ x3_65.toInt) → (x3_65.toInt ≤ 49) → (0 ≤ x5_65.toInt) → (x5_65.toInt ≤ 8) → (∀ k : Nat, k ∉ ([3, 4, 6] : List Nat) → fi E_65 a0 k = fi E a0 k) → (-2147483648 ≤ (fi E_65 a0 3).toInt ∧ (fi E_65 a0 3).toInt ≤ 2147483647 ∧ (fi E_65 a0 3).toInt ≠ 2) → (8 - x5_65.toInt).toNat < n → lv_has l_65 6 [(0, .ref a0), (2, .int a2), (3, .int x3_65), (4, .int x4_65), (5, .int x5_65)] → W p l e { frames := 1, cells := 0, slots := 0, locals := 23 } s m args below meth c H_65 k_65 0 0 QQ (F0 m 65 l_65 []) := by
    intro n
    induction n with
    | zero => intro x3_65 x4_65 x5_65 E_65 H_65 k_65 l_65 S_65 F_65 z1 z2 z3 z4 z5 z6 z7 z8 hm hl_65; exact absurd hm (Nat.not_lt_zero _)
    | succ n ih =>
      intro x3_65 x4_65 x5_65 E_65 H_65 k_65 l_65 S_65 F_65 z1 z2 z3 z4 z5 z6 z7 z8 hm hl_65
      have ih_65 := ih
      refine lv_iload hx hb dX10_about_65 (lv_at hl_65 4 rfl) ?_
      obtain ⟨v9, ev9, tv9⟩ : ∃ v : Int32, Int32.ofInt (2) = v ∧ v.toInt = 2 := ⟨_, rfl, by decide +kernel⟩
      refine lv_iconst hx hb dX10_about_67 ev9 ?_
      refine lv_aload_n hx hb dX10_about_68 rfl (lv_at hl_65 0 rfl) ?_
      refine tr_getr Z.1 Z.2.2.2.1 S_65.1 S_65.2 ha0 ta0 rfl rfl (fun _ h => List.mem_cons_of_mem _ (List.mem_append_right _ h)) 25 (by decide) rfl (hts _ (List.mem_of_getElem? (i := 3) rfl)) dX10_about_69 (fun q10 eq10 hq10 tq10 => ?_)
      have tq10 : τ q10 = (76, 0) := tq10
      refine lv_iload_n hx hb dX10_about_72 rfl (lv_at hl_65 2 rfl) ?_
      refine tr_iald Z.1 Z.2.2.2.1 S_65.1 S_65.2 hq10 tq10 rfl (by omega) (by omega) dX10_about_73 (fun v11 ev11 lv11 uv11 => ?_)
      refine lv_imul hx hb dX10_about_74 ?_
      refine lv_topi (fun v12 ev12 => ?_)
      have tv12 := nu_mulc' (2) ev12 (by omega) (by omega) (by omega)
      refine lv_icmp_ge (tgt := 101) hx hb dX10_about_75 (by decide) (fun c13 => ?_) (fun c13 => ?_)
      · skip
        have tc13 := nu_le c13
        refine lv_iload_n hx hb dX10_about_101 rfl (lv_at hl_65 1 rfl) ?_
        refine lv_if_ne (tgt := 122) hx hb dX10_about_102 (by decide) (fun c14 => ?_) (fun c14 => ?_)
        · skip
          have tc14 := nu_ne c14
          have uc14 : (0 : Int32).toInt = 0 := rfl
          refine lv_iload_n hx hb dX10_about_122 rfl (lv_at hl_65 1 rfl) ?_
          obtain ⟨v15, ev15, tv15⟩ : ∃ v : Int32, Int32.ofInt (1) = v ∧ v.toInt = 1 := ⟨_, rfl, by decide +kernel⟩
          refine lv_iconst hx hb dX10_about_123 ev15 ?_
          refine lv_icmp_ne (tgt := 136) hx hb dX10_about_124 (by decide) (fun c16 => ?_) (fun c16 => ?_)
          · skip
            have tc16 := nu_ne c16
            refine lv_iload_n hx hb dX10_about_136 rfl (lv_at hl_65 1 rfl) ?_
            obtain ⟨v17, ev17, tv17⟩ : ∃ v : Int32, Int32.ofInt (2) = v ∧ v.toInt = 2 := ⟨_, rfl, by decide +kernel⟩
            refine lv_iconst hx hb dX10_about_137 ev17 ?_
            refine lv_icmp_ne (tgt := 146) hx hb dX10_about_138 (by decide) (fun c18 => ?_) (fun c18 => ?_)
            · skip
              have tc18 := nu_ne c18
              refine lv_aload_n hx hb dX10_about_146 rfl (lv_at hl_65 0 rfl) ?_
              refine tr_getr Z.1 Z.2.2.2.1 S_65.1 S_65.2 ha0 ta0 rfl rfl (fun _ h => List.mem_cons_of_mem _ (List.mem_append_right _ h)) 24 (by decide) rfl (hts _ (List.mem_of_getElem? (i := 6) rfl)) dX10_about_147 (fun q19 eq19 hq19 tq19 => ?_)
              have tq19 : τ q19 = (75, 0) := tq19
              refine lv_iload_n hx hb dX10_about_150 rfl (lv_at hl_65 2 rfl) ?_
              refine tr_zald Z.1 Z.2.2.2.1 S_65.1 S_65.2 hq19 tq19 rfl (by omega) (by omega) dX10_about_151 (fun v20 ev20 lv20 uv20 => ?_)
              refine lv_if_eq (tgt := 159) hx hb dX10_about_152 (by decide) (fun c21 => ?_) (fun c21 => ?_)
              · skip
                have tc21 := nu_eq c21
                have uc21 : (0 : Int32).toInt = 0 := rfl
                obtain ⟨v22, ev22, tv22⟩ : ∃ v : Int32, Int32.ofInt (0) = v ∧ v.toInt = 0 := ⟨_, rfl, by decide +kernel⟩
                refine lv_iconst hx hb dX10_about_159 ev22 ?_
                rw [← hQ]
                exact en_i Z S_65 F_65 ⟨(by omega), (fun k hk => (z7 k hk))⟩ dX10_about_160
              · skip
                have tc21 := nu_ne c21
                have uc21 : (0 : Int32).toInt = 0 := rfl
                obtain ⟨v23, ev23, tv23⟩ : ∃ v : Int32, Int32.ofInt (1) = v ∧ v.toInt = 1 := ⟨_, rfl, by decide +kernel⟩
                refine lv_iconst hx hb dX10_about_155 ev23 ?_
                refine lv_goto (tgt := 160) hx hb dX10_about_156 (by decide) ?_
                rw [← hQ]
                exact en_i Z S_65 F_65 ⟨(by omega), (fun k hk => (z7 k hk))⟩ dX10_about_160
            · skip
              have tc18 := nu_eq c18
              refine lv_iload hx hb dX10_about_141 (lv_at hl_65 3 rfl) ?_
              refine lv_goto (tgt := 160) hx hb dX10_about_143 (by decide) ?_
              rw [← hQ]
              exact en_i Z S_65 F_65 ⟨(by omega), (fun k hk => (z7 k hk))⟩ dX10_about_160
          · skip
            have tc16 := nu_eq c16
            refine lv_aload_n hx hb dX10_about_127 rfl (lv_at hl_65 0 rfl) ?_
            refine tr_getr Z.1 Z.2.2.2.1 S_65.1 S_65.2 ha0 ta0 rfl rfl (fun _ h => List.mem_cons_of_mem _ (List.mem_append_right _ h)) 25 (by decide) rfl (hts _ (List.mem_of_getElem? (i := 3) rfl)) dX10_about_128 (fun q24 eq24 hq24 tq24 => ?_)
            have tq24 : τ q24 = (76, 0) := tq24
            have uq24 : q10 = q24 := S_65.2.2.2.2 _ hq10 _ hq24 (tq10.trans tq24.symm) (by rw [tq10]; rfl)
            subst uq24
            refine lv_iload_n hx hb dX10_about_131 rfl (lv_at hl_65 2 rfl) ?_
            refine tr_iald Z.1 Z.2.2.2.1 S_65.1 S_65.2 hq10 tq10 rfl (by omega) (by omega) dX10_about_132 (fun v25 ev25 lv25 uv25 => ?_)
            refine lv_goto (tgt := 160) hx hb dX10_about_133 (by decide) ?_
            rw [← hQ]
            exact en_i Z S_65 F_65 ⟨(by omega), (fun k hk => (z7 k hk))⟩ dX10_about_160
        · skip
          have tc14 := nu_eq c14
          have uc14 : (0 : Int32).toInt = 0 := rfl
          refine lv_aload_n hx hb dX10_about_105 rfl (lv_at hl_65 0 rfl) ?_
          refine tr_getr Z.1 Z.2.2.2.1 S_65.1 S_65.2 ha0 ta0 rfl rfl (fun _ h => List.mem_cons_of_mem _ (List.mem_append_right _ h)) 23 (by decide) rfl (hts _ (List.mem_of_getElem? (i := 5) rfl)) dX10_about_106 (fun q26 eq26 hq26 tq26 => ?_)
          have tq26 : τ q26 = (74, 0) := tq26
          refine lv_iload_n hx hb dX10_about_109 rfl (lv_at hl_65 2 rfl) ?_
          refine tr_zald Z.1 Z.2.2.2.1 S_65.1 S_65.2 hq26 tq26 rfl (by omega) (by omega) dX10_about_110 (fun v27 ev27 lv27 uv27 => ?_)
          refine lv_if_eq (tgt := 118) hx hb dX10_about_111 (by decide) (fun c28 => ?_) (fun c28 => ?_)
          · skip
            have tc28 := nu_eq c28
            have uc28 : (0 : Int32).toInt = 0 := rfl
            obtain ⟨v29, ev29, tv29⟩ : ∃ v : Int32, Int32.ofInt (0) = v ∧ v.toInt = 0 := ⟨_, rfl, by decide +kernel⟩
            refine lv_iconst hx hb dX10_about_118 ev29 ?_
            refine lv_goto (tgt := 160) hx hb dX10_about_119 (by decide) ?_
            rw [← hQ]
            exact en_i Z S_65 F_65 ⟨(by omega), (fun k hk => (z7 k hk))⟩ dX10_about_160
          · skip
            have tc28 := nu_ne c28
            have uc28 : (0 : Int32).toInt = 0 := rfl
            obtain ⟨v30, ev30, tv30⟩ : ∃ v : Int32, Int32.ofInt (1) = v ∧ v.toInt = 1 := ⟨_, rfl, by decide +kernel⟩
            refine lv_iconst hx hb dX10_about_114 ev30 ?_
            refine lv_goto (tgt := 160) hx hb dX10_about_115 (by decide) ?_
            rw [← hQ]
            exact en_i Z S_65 F_65 ⟨(by omega), (fun k hk => (z7 k hk))⟩ dX10_about_160
      · skip
        have tc13 := nu_nle c13
        refine lv_iload hx hb dX10_about_78 (lv_at hl_65 3 rfl) ?_
        refine lv_aload_n hx hb dX10_about_80 rfl (lv_at hl_65 0 rfl) ?_
        refine tr_getr Z.1 Z.2.2.2.1 S_65.1 S_65.2 ha0 ta0 rfl rfl (fun _ h => List.mem_cons_of_mem _ (List.mem_append_right _ h)) 26 (by decide) rfl (hts _ (List.mem_of_getElem? (i := 4) rfl)) dX10_about_81 (fun q31 eq31 hq31 tq31 => ?_)
        have tq31 : τ q31 = (77, 0) := tq31
        obtain ⟨v32, ev32, tv32⟩ : ∃ v : Int32, (Int8.ofInt (8)).toInt32 = v ∧ v.toInt = 8 := ⟨_, rfl, by decide +kernel⟩
        refine lv_bipush hx hb dX10_about_84 ev32 ?_
        refine lv_iload_n hx hb dX10_about_86 rfl (lv_at hl_65 2 rfl) ?_
        refine lv_imul hx hb dX10_about_87 ?_
        refine lv_topi (fun v33 ev33 => ?_)
        have tv33 := nu_mulc' (8) ev33 (by omega) (by omega) (by omega)
        refine lv_iload hx hb dX10_about_88 (lv_at hl_65 4 rfl) ?_
        refine lv_iadd hx hb dX10_about_90 ?_
        refine lv_topi (fun v34 ev34 => ?_)
        have tv34 := nu_add ev34 (by omega) (by omega)
        refine tr_iald Z.1 Z.2.2.2.1 S_65.1 S_65.2 hq31 tq31 rfl (by omega) (by omega) dX10_about_91 (fun v35 ev35 lv35 uv35 => ?_)
        refine lv_iadd hx hb dX10_about_92 ?_
        refine lv_topi (fun v36 ev36 => ?_)
        refine lv_istore (lv' := [(4, .int v36), (0, .ref a0), (2, .int a2), (3, .int x3_65), (5, .int x5_65)]) hx hb dX10_about_93 hl_65 (by decide) rfl (fun l37 hl38 => ?_)
        obtain ⟨v39, ev39⟩ : ∃ y : Int32, x5_65 + Int32.ofInt (1) = y := ⟨_, rfl⟩
        have tv39 : v39.toInt = x5_65.toInt + (1) := by rw [← ev39]; exact (fb_addI (by rw [show (Int32.ofInt (1)).toInt = 1 from by decide +kernel]; omega) (by rw [show (Int32.ofInt (1)).toInt = 1 from by decide +kernel]; omega)).trans (by rw [show (Int32.ofInt (1)).toInt = 1 from by decide +kernel])
        refine lv_iinc (v := v39) (lv' := [(5, .int v39), (4, .int v36), (0, .ref a0), (2, .int a2), (3, .int x3_65)]) hx hb dX10_about_95 hl38 (k := 4) rfl ev39 (by decide) rfl (fun l40 hl41 => ?_)
        refine lv_goto (tgt := 65) hx hb dX10_about_98 (by decide) ?_
        exact ih_65 x3_65 v36 v39 E_65 H_65 k_65 l40 S_65 F_65 (by have := fb_rng v36; omega) (by have := fb_rng v36; omega) (by have := fb_rng v36; omega) (by have := fb_rng v36; omega) (by have := fb_rng v36; omega) (by have := fb_rng v36; omega) (fun k hk => (z7 k hk)) (by have := fb_rng v36; omega) (by omega) (lv_sub hl41 [2, 3, 4, 1, 0] rfl)
  refine lv_aload_n hx hb dX10_about_0 rfl (lv_at hl 0 rfl) ?_
  obtain ⟨v42, ev42, tv42⟩ : ∃ v : Int32, Int32.ofInt (0) = v ∧ v.toInt = 0 := ⟨_, rfl, by decide +kernel⟩
  refine lv_iconst hx hb dX10_about_1 ev42 ?_
  refine tr_puti Z.1 Z.2.2.2.1 S0.1 S0.2 ha0 ta0 rfl rfl (fun _ h => List.mem_cons_of_mem _ (List.mem_append_right _ h)) tyX10_ok nmX10 4 (by decide) rfl rfl rfl (hts _ (List.mem_of_getElem? (i := 1) rfl)) dX10_about_2 (by omega) (by omega) (fun E43 H44 k45 W43 I43 P43 => ?_)
  have S43 : Now D TB cy (va_A (va_pl L E) sz) s L τ E43 H44 k45 := ⟨W43, I43⟩
  have F43 : Fr L τ (inW [(11, 0)]) E E43 := Fr.put F0_ P43 ta0 rfl
  refine lv_aload_n hx hb dX10_about_5 rfl (lv_at hl 0 rfl) ?_
  refine lv_iload_n hx hb dX10_about_6 rfl (lv_at hl 1 rfl) ?_
  obtain ⟨v46, ev46, tv46⟩ : ∃ v : Int32, Int32.ofInt (0) = v ∧ v.toInt = 0 := ⟨_, rfl, by decide +kernel⟩
  refine lv_iconst hx hb dX10_about_7 ev46 ?_
  refine lv_aload_n hx hb dX10_about_8 rfl (lv_at hl 0 rfl) ?_
  refine tr_getr Z.1 Z.2.2.2.1 S43.1 S43.2 ha0 ta0 rfl rfl (fun _ h => List.mem_cons_of_mem _ (List.mem_append_right _ h)) 0 (by decide) rfl (hts _ (List.mem_of_getElem? (i := 2) rfl)) dX10_about_9 (fun q47 eq47 hq47 tq47 => ?_)
  have tq47 : τ q47 = (60, 0) := tq47
  obtain ⟨v48, ev48, tv48⟩ : ∃ v : Int32, (Int8.ofInt (44)).toInt32 = v ∧ v.toInt = 44 := ⟨_, rfl, by decide +kernel⟩
  refine lv_bipush hx hb dX10_about_12 ev48 ?_
  refine tr_ialdx Z.1 Z.2.2.2.1 S43.1 S43.2 hq47 tq47 rfl (by omega) (by omega) dX10_about_14 (fun v49 ev49 lv49 uv49 => ?_)
  have bv49 : nowB v48.toNatClampNeg = (0, 8) := nb_44 (by show v48.toInt.toNat = 44; omega)
  rw [bv49] at lv49 uv49
  have lv49 : 0 ≤ v49.toInt := lv49
  have uv49 : v49.toInt ≤ 8 := uv49
  have av49 : ai E43 q47 44 = v49 := ai_at ev49 (by omega)
  obtain ⟨v50, ev50, tv50⟩ : ∃ v : Int32, Int32.ofInt (1) = v ∧ v.toInt = 1 := ⟨_, rfl, by decide +kernel⟩
  refine lv_iconst hx hb dX10_about_15 ev50 ?_
  refine lv_isub hx hb dX10_about_16 ?_
  refine lv_topi (fun v51 ev51 => ?_)
  have tv51 := nu_sub ev51 (by omega) (by omega)
  refine tc_vi Z.1 Z.2.2.2.1 Z.2.2.2.2.1 Z.2.2.2.2.2 S43.1 S43.2 ha0 ta0 rfl rfl (k_X10_in l D cy S43.2 ha0 ta0 a1 v46 v51) (cwV 3 hts gX10_about_X10_in rfl rfl rfl (by decide +kernel) ⟨Nat.le_of_ble_eq_true rfl, Nat.le_of_ble_eq_true rfl⟩) rfl hl.1 rfl (Nat.le_of_ble_eq_true rfl) dX10_about_17 ⟨Nat.zero_le _, Nat.zero_le _⟩ (fun v55 E52 H53 k54 W52 I52 G52 p52 => ?_)
  obtain ⟨q52, p52_0, p52_1, p52_2⟩ := p52
  have q52 := q52.symm
  subst q52
  have S52 : Now D TB cy (va_A (va_pl L E) sz) s L τ E43 H53 k54 := ⟨W52, I52⟩
  refine lv_if_ne (tgt := 29) hx hb dX10_about_20 (by decide) (fun c56 => ?_) (fun c56 => ?_)
  · skip
    have tc56 := nu_ne c56
    have uc56 : (0 : Int32).toInt = 0 := rfl
    refine lv_aload_n hx hb dX10_about_29 rfl (lv_at hl 0 rfl) ?_
    refine lv_iload_n hx hb dX10_about_30 rfl (lv_at hl 2 rfl) ?_
    obtain ⟨v57, ev57, tv57⟩ : ∃ v : Int32, Int32.ofInt (0) = v ∧ v.toInt = 0 := ⟨_, rfl, by decide +kernel⟩
    refine lv_iconst hx hb dX10_about_31 ev57 ?_
    obtain ⟨v58, ev58, tv58⟩ : ∃ v : Int32, Int32.ofInt (3) = v ∧ v.toInt = 3 := ⟨_, rfl, by decide +kernel⟩
    refine lv_iconst hx hb dX10_about_32 ev58 ?_
    refine tc_vi Z.1 Z.2.2.2.1 Z.2.2.2.2.1 Z.2.2.2.2.2 S52.1 S52.2 ha0 ta0 rfl rfl (k_X10_in l D cy S52.2 ha0 ta0 a2 v57 v58) (cwV 3 hts gX10_about_X10_in rfl rfl rfl (by decide +kernel) ⟨Nat.le_of_ble_eq_true rfl, Nat.le_of_ble_eq_true rfl⟩) rfl hl.1 rfl (Nat.le_of_ble_eq_true rfl) dX10_about_33 ⟨Nat.zero_le _, Nat.zero_le _⟩ (fun v62 E59 H60 k61 W59 I59 G59 p59 => ?_)
    obtain ⟨q59, p59_0, p59_1, p59_2⟩ := p59
    have q59 := q59.symm
    subst q59
    have S59 : Now D TB cy (va_A (va_pl L E) sz) s L τ E43 H60 k61 := ⟨W59, I59⟩
    refine lv_if_ne (tgt := 45) hx hb dX10_about_36 (by decide) (fun c63 => ?_) (fun c63 => ?_)
    · skip
      have tc63 := nu_ne c63
      have uc63 : (0 : Int32).toInt = 0 := rfl
      refine lv_aload_n hx hb dX10_about_45 rfl (lv_at hl 0 rfl) ?_
      refine tc_vv Z.1 Z.2.2.2.1 Z.2.2.2.2.1 Z.2.2.2.2.2 S59.1 S59.2 ha0 ta0 rfl rfl (k_X10_good_vw l D cy S59.2 ha0 ta0) (cwV 0 hts gX10_about_X10_good rfl rfl rfl (by decide +kernel) ⟨Nat.le_of_ble_eq_true rfl, Nat.le_of_ble_eq_true rfl⟩) rfl hl.1 rfl (Nat.le_of_ble_eq_true rfl) dX10_about_46 ⟨Nat.zero_le _, Nat.zero_le _⟩ (fun E64 H65 k66 W64 I64 G64 p64 => ?_)
      obtain ⟨p64_0, p64_1⟩ := p64
      have S64 : Now D TB cy (va_A (va_pl L E) sz) s L τ E64 H65 k66 := ⟨W64, I64⟩
      have F64 : Fr L τ (inW [(11, 0)]) E E64 := F43.trans (G64.mono (inW_mono (by decide)))
      have kz64_3 := fi_rng (k := 3) S64.2 ha0 ta0 rfl rfl
      refine lv_aload_n hx hb dX10_about_49 rfl (lv_at hl 0 rfl) ?_
      refine tr_getr Z.1 Z.2.2.2.1 S64.1 S64.2 ha0 ta0 rfl rfl (fun _ h => List.mem_cons_of_mem _ (List.mem_append_right _ h)) 0 (by decide) rfl (hts _ (List.mem_of_getElem? (i := 2) rfl)) dX10_about_50 (fun q68 eq68 hq68 tq68 => ?_)
      have tq68 : τ q68 = (60, 0) := tq68
      have uq68 : q47 = q68 := S64.2.2.2.2 _ hq47 _ hq68 (tq47.trans tq68.symm) (by rw [tq47]; rfl)
      subst uq68
      obtain ⟨v69, ev69, tv69⟩ : ∃ v : Int32, (Int8.ofInt (45)).toInt32 = v ∧ v.toInt = 45 := ⟨_, rfl, by decide +kernel⟩
      refine lv_bipush hx hb dX10_about_53 ev69 ?_
      refine lv_iload_n hx hb dX10_about_55 rfl (lv_at hl 1 rfl) ?_
      refine lv_iadd hx hb dX10_about_56 ?_
      refine lv_topi (fun v70 ev70 => ?_)
      have tv70 := nu_add ev70 (by omega) (by omega)
      refine tr_ialdx Z.1 Z.2.2.2.1 S64.1 S64.2 hq47 tq47 rfl (by omega) (by omega) dX10_about_57 (fun v71 ev71 lv71 uv71 => ?_)
      have bv71 : nowB v70.toNatClampNeg = (0, 49) := nb_45 (by show 45 ≤ v70.toInt.toNat ∧ v70.toInt.toNat ≤ 52; omega)
      rw [bv71] at lv71 uv71
      have lv71 : 0 ≤ v71.toInt := lv71
      have uv71 : v71.toInt ≤ 49 := uv71
      refine lv_istore_n (lv' := [(3, .int v71), (0, .ref a0), (1, .int a1), (2, .int a2)]) hx hb dX10_about_58 rfl hl (by decide) rfl (fun l72 hl73 => ?_)
      obtain ⟨v74, ev74, tv74⟩ : ∃ v : Int32, Int32.ofInt (0) = v ∧ v.toInt = 0 := ⟨_, rfl, by decide +kernel⟩
      refine lv_iconst hx hb dX10_about_59 ev74 ?_
      refine lv_istore (lv' := [(4, .int v74), (3, .int v71), (0, .ref a0), (1, .int a1), (2, .int a2)]) hx hb dX10_about_60 hl73 (by decide) rfl (fun l75 hl76 => ?_)
      obtain ⟨v77, ev77, tv77⟩ : ∃ v : Int32, Int32.ofInt (0) = v ∧ v.toInt = 0 := ⟨_, rfl, by decide +kernel⟩
      refine lv_iconst hx hb dX10_about_62 ev77 ?_
      refine lv_istore (lv' := [(5, .int v77), (4, .int v74), (3, .int v71), (0, .ref a0), (1, .int a1), (2, .int a2)]) hx hb dX10_about_63 hl76 (by decide) rfl (fun l78 hl79 => ?_)
      exact J65 _ v71 v74 v77 E64 H65 k66 l78 S64 F64 (by omega) (by omega) (by omega) (by omega) (by omega) (by omega) (fun k hk => ((p64_1 k (fw_sub (by decide) hk)).trans ((fi_put P43 (Or.inr (fw_ne (by decide) hk))).trans ((fun k hk => rfl) k hk)))) (by omega) (Nat.lt_succ_self _) (lv_sub hl79 [3, 5, 2, 1, 0] rfl)
    · skip
      have tc63 := nu_eq c63
      have uc63 : (0 : Int32).toInt = 0 := rfl
      refine lv_aload_n hx hb dX10_about_39 rfl (lv_at hl 0 rfl) ?_
      obtain ⟨v80, ev80, tv80⟩ : ∃ v : Int32, Int32.ofInt (1) = v ∧ v.toInt = 1 := ⟨_, rfl, by decide +kernel⟩
      refine lv_iconst hx hb dX10_about_40 ev80 ?_
      refine tc_vi Z.1 Z.2.2.2.1 Z.2.2.2.2.1 Z.2.2.2.2.2 S59.1 S59.2 ha0 ta0 rfl rfl (k_X10_no_vw l D cy S59.2 ha0 ta0 v80) (cwV 1 hts gX10_about_X10_no rfl rfl rfl (by decide +kernel) ⟨Nat.le_of_ble_eq_true rfl, Nat.le_of_ble_eq_true rfl⟩) rfl hl.1 rfl (Nat.le_of_ble_eq_true rfl) dX10_about_41 ⟨Nat.zero_le _, Nat.zero_le _⟩ (fun v84 E81 H82 k83 W81 I81 G81 p81 => ?_)
      obtain ⟨p81_0, p81_1, p81_2, p81_3⟩ := p81
      have S81 : Now D TB cy (va_A (va_pl L E) sz) s L τ E81 H82 k83 := ⟨W81, I81⟩
      have F81 : Fr L τ (inW [(11, 0)]) E E81 := F43.trans (G81.mono (inW_mono (by decide)))
      have kz81_3 := fi_rng (k := 3) S81.2 ha0 ta0 rfl rfl
      rw [← hQ]
      exact en_i Z S81 F81 ⟨(by omega), (fun k hk => ((p81_3 k (fw_sub (by decide) hk)).trans ((fi_put P43 (Or.inr (fw_ne (by decide) hk))).trans ((fun k hk => rfl) k hk))))⟩ dX10_about_44
  · skip
    have tc56 := nu_eq c56
    have uc56 : (0 : Int32).toInt = 0 := rfl
    refine lv_aload_n hx hb dX10_about_23 rfl (lv_at hl 0 rfl) ?_
    obtain ⟨v85, ev85, tv85⟩ : ∃ v : Int32, Int32.ofInt (4) = v ∧ v.toInt = 4 := ⟨_, rfl, by decide +kernel⟩
    refine lv_iconst hx hb dX10_about_24 ev85 ?_
    refine tc_vi Z.1 Z.2.2.2.1 Z.2.2.2.2.1 Z.2.2.2.2.2 S52.1 S52.2 ha0 ta0 rfl rfl (k_X10_no_vw l D cy S52.2 ha0 ta0 v85) (cwV 1 hts gX10_about_X10_no rfl rfl rfl (by decide +kernel) ⟨Nat.le_of_ble_eq_true rfl, Nat.le_of_ble_eq_true rfl⟩) rfl hl.1 rfl (Nat.le_of_ble_eq_true rfl) dX10_about_25 ⟨Nat.zero_le _, Nat.zero_le _⟩ (fun v89 E86 H87 k88 W86 I86 G86 p86 => ?_)
    obtain ⟨p86_0, p86_1, p86_2, p86_3⟩ := p86
    have S86 : Now D TB cy (va_A (va_pl L E) sz) s L τ E86 H87 k88 := ⟨W86, I86⟩
    have F86 : Fr L τ (inW [(11, 0)]) E E86 := F43.trans (G86.mono (inW_mono (by decide)))
    have kz86_3 := fi_rng (k := 3) S86.2 ha0 ta0 rfl rfl
    rw [← hQ]
    exact en_i Z S86 F86 ⟨(by omega), (fun k hk => ((p86_3 k (fw_sub (by decide) hk)).trans ((fi_put P43 (Or.inr (fw_ne (by decide) hk))).trans ((fun k hk => rfl) k hk))))⟩ dX10_about_28

set_option maxHeartbeats 4000000 in
set_option maxRecDepth 100000 in
theorem k_X10_best_vw (l : Launch) (D : va_G) (cy : Nat → ClassId) {L : List Nat} {τ : Nat → Ro} {E : Ec} (hI : Inv TB cy L τ E) {a0 : Nat} (ha0 : a0 ∈ L) (ta0 : τ a0 = (11, 0)) (a1 : Int32) (a2 : Int32) (hS : SlotOK L τ E) : CtI l yX10_best wsX10_best { frames := 6, cells := 0, slots := 0, locals := 142 } D TB cy L τ E [.ref a0, .int a1, .int a2] (inW [(11, 0), (62, 0), (63, 0), (64, 0), (65, 0), (66, 0), (67, 0), (68, 0), (69, 0), (70, 0), (71, 0), (81, 0), (82, 0)]) (fun r E' => ((fi E' a0 3).toInt ≠ 2) ∧ (∀ k : Nat, k ∉ ([3, 4, 6, 8, 30, 31, 32, 35, 36, 37, 38, 39, 40, 41] : List Nat) → fi E' a0 k = fi E a0 k)) := by
  intro sz
  refine sta (cc := cX10_best) (maxL := 10) hI (by decide) rfl (Nat.le_of_ble_eq_true rfl) (fun p e s m args below meth c ls hsz Z S0 hl => ?_)
  have hx := Z.1.1
  have hb := Z.1.2.1
  have hts := Z.1.2.2.2.2
  have F0_ : Fr L τ (inW [(11, 0), (62, 0), (63, 0), (64, 0), (65, 0), (66, 0), (67, 0), (68, 0), (69, 0), (70, 0), (71, 0), (81, 0), (82, 0)]) E E := Fr.refl
  have hl : lv_has ls 10 [(0, .ref a0), (1, .int a1), (2, .int a2)] := hl
  generalize hQ : MQ below _ args s 0 0 _ = QQ
  have J251 : ∀  (E_251 : Ec) (H_251 : Heap) (k_251 : List Loc) (l_251 : Array Slot), Now D TB cy (va_A (va_pl L E) sz) s L τ E_251 H_251 k_251 → Fr L τ (inW [(11, 0), (62, 0), (63, 0), (64, 0), (65, 0), (66, 0), (67, 0), (68, 0), (69, 0), (70, 0), (71, 0), (81, 0), (82, 0)]) E E_251 → (∀ k : Nat, k ∉ ([3, 4, 6, 8, 30, 31, 32, 35, 36, 37, 38, 39, 40, 41] : List Nat) → fi E_251 a0 k = fi E a0 k) → (-2147483648 ≤ (fi E_251 a0 3).toInt ∧ (fi E_251 a0 3).toInt ≤ 2147483647 ∧ (fi E_251 a0 3).toInt ≠ 2) → lv_has l_251 10 [(0, .ref a0)] → W p l e { frames := 6, cells := 0, slots := 0, locals := 142 } s m args below meth c H_251 k_251 0 0 QQ (F0 m 251 l_251 []) := by
    intro  E_251 H_251 k_251 l_251 S_251 F_251 z1 z2 hl_251
    refine lv_aload_n hx hb dX10_best_251 rfl (lv_at hl_251 0 rfl) ?_
    refine tr_geti Z.1 Z.2.2.2.1 S_251.1 S_251.2 ha0 ta0 rfl rfl (fun _ h => List.mem_cons_of_mem _ (List.mem_append_right _ h)) 41 (by decide) rfl (hts _ (List.mem_of_getElem? (i := 5) rfl)) dX10_best_252 (fun v3 ev3 lv3 uv3 => ?_)
    refine lv_if_eq (tgt := 265) hx hb dX10_best_255 (by decide) (fun c4 => ?_) (fun c4 => ?_)
    · skip
      have tc4 := nu_eq c4
      have uc4 : (0 : Int32).toInt = 0 := rfl
      obtain ⟨v5, ev5, tv5⟩ : ∃ v : Int32, (Int8.ofInt (-2)).toInt32 = v ∧ v.toInt = -2 := ⟨_, rfl, by decide +kernel⟩
      refine lv_bipush hx hb dX10_best_265 ev5 ?_
      rw [← hQ]
      exact en_i Z S_251 F_251 ⟨(by omega), (fun k hk => (z1 k hk))⟩ dX10_best_267
    · skip
      have tc4 := nu_ne c4
      have uc4 : (0 : Int32).toInt = 0 := rfl
      refine lv_aload_n hx hb dX10_best_258 rfl (lv_at hl_251 0 rfl) ?_
      refine tr_geti Z.1 Z.2.2.2.1 S_251.1 S_251.2 ha0 ta0 rfl rfl (fun _ h => List.mem_cons_of_mem _ (List.mem_append_right _ h)) 39 (by decide) rfl (hts _ (List.mem_of_getElem? (i := 8) rfl)) dX10_best_259 (fun v6 ev6 lv6 uv6 => ?_)
      refine lv_goto (tgt := 267) hx hb dX10_best_262 (by decide) ?_
      rw [← hQ]
      exact en_i Z S_251 F_251 ⟨(by omega), (fun k hk => (z1 k hk))⟩ dX10_best_267
  have J109 : ∀ (n : Nat) (x3_109 : Int32) (x4_109 : Int32) (x5_109 : Int32) (E_109 : Ec) (H_109 : Heap) (k_109 : List Loc) (l_109 : Array Slot), Now D TB cy (va_A (va_pl L E) sz) s L τ E_109 H_109 k_109 → Fr L τ (inW [(11, 0), (62, 0), (63, 0), (64, 0), (65, 0), (66, 0), (67, 0), (68, 0), (69, 0), (70, 0), (71, 0), (81, 0), (82, 0)]) E E_109 → (2 ≤ a2.toInt) → (a2.toInt ≤ 67) → (0 ≤ x3_109.toInt) → (x3_109.toInt ≤ 3) → (2 ≤ x5_109.toInt) → (∀ k : Nat, k ∉ ([3, 4, 6, 8, 30, 31, 32, 35, 36, 37, 38, 39, 40, 41] : List Nat) → fi E_109 a0 k = fi E a0 k) → (-2147483648 ≤ (fi E_109 a0 3).toInt ∧ (fi E_109 a0 3).toInt ≤ 2147483647 ∧ (fi E_109 a0 3).toInt ≠ 2) → (2147483647 - x5_109.toInt).toNat < n → lv_has l_109 10 [(0, .ref a0), (2, .int a2), (3, .int x3_109), (4, .int x4_109), (5, .int x5_109)] → W p l e { frames := 6, cells := 0, slots := 0, locals := 142 } s m args below meth c H_109 k_109 0 0 QQ (F0 m 109 l_109 []) := by
    intro n
    induction n with
    | zero => intro x3_109 x4_109 x5_109 E_109 H_109 k_109 l_109 S_109 F_109 z7 z8 z9 z10 z11 z12 z13 hm hl_109; exact absurd hm (Nat.not_lt_zero _)
    | succ n ih =>
      intro x3_109 x4_109 x5_109 E_109 H_109 k_109 l_109 S_109 F_109 z7 z8 z9 z10 z11 z12 z13 hm hl_109
      have ih_109 := ih
      have J137 : ∀ (n : Nat) (x6_137 : Int32) (x7_137 : Int32) (E_137 : Ec) (H_137 : Heap) (k_137 : List Loc) (l_137 : Array Slot), Now D TB cy (va_A (va_pl L E) sz) s L τ E_137 H_137 k_137 → Fr L τ (inW [(11, 0), (62, 0), (63, 0), (64, 0), (65, 0), (66, 0), (67, 0), (68, 0), (69, 0), (70, 0), (71, 0), (81, 0), (82, 0)]) E E_137 → (2 ≤ a2.toInt) → (a2.toInt ≤ 67) → (0 ≤ x3_109.toInt) → (x3_109.toInt ≤ 3) → (2 ≤ x5_109.toInt) → (x5_109.toInt ≤ 67) → (1 ≤ x7_137.toInt) → (x7_137.toInt ≤ 21) → (∀ k : Nat, k ∉ ([3, 4, 6, 8, 30, 31, 32, 35, 36, 37, 38, 39, 40, 41] : List Nat) → fi E_137 a0 k = fi E a0 k) → (-2147483648 ≤ (fi E_137 a0 3).toInt ∧ (fi E_137 a0 3).toInt ≤ 2147483647 ∧ (fi E_137 a0 3).toInt ≠ 2) → (21 - x7_137.toInt).toNat < n → lv_has l_137 10 [(0, .ref a0), (2, .int a2), (3, .int x3_109), (4, .int x4_109), (5, .int x5_109), (6, .int x6_137), (7, .int x7_137)] → W p l e { frames := 6, cells := 0, slots := 0, locals := 142 } s m args below meth c H_137 k_137 0 0 QQ (F0 m 137 l_137 []) := by
        intro n
        induction n with
        | zero => intro x6_137 x7_137 E_137 H_137 k_137 l_137 S_137 F_137 z14 z15 z16 z17 z18 z19 z20 z21 z22 z23 hm hl_137; exact absurd hm (Nat.not_lt_zero _)
        | succ n ih =>
          intro x6_137 x7_137 E_137 H_137 k_137 l_137 S_137 F_137 z14 z15 z16 z17 z18 z19 z20 z21 z22 z23 hm hl_137
          have ih_137 := ih
          have J239 : ∀  (E_239 : Ec) (H_239 : Heap) (k_239 : List Loc) (l_239 : Array Slot), Now D TB cy (va_A (va_pl L E) sz) s L τ E_239 H_239 k_239 → Fr L τ (inW [(11, 0), (62, 0), (63, 0), (64, 0), (65, 0), (66, 0), (67, 0), (68, 0), (69, 0), (70, 0), (71, 0), (81, 0), (82, 0)]) E E_239 → (2 ≤ a2.toInt) → (a2.toInt ≤ 67) → (0 ≤ x3_109.toInt) → (x3_109.toInt ≤ 3) → (2 ≤ x5_109.toInt) → (x5_109.toInt ≤ 67) → (1 ≤ x7_137.toInt) → (x7_137.toInt ≤ 20) → (∀ k : Nat, k ∉ ([3, 4, 6, 8, 30, 31, 32, 35, 36, 37, 38, 39, 40, 41] : List Nat) → fi E_239 a0 k = fi E a0 k) → (-2147483648 ≤ (fi E_239 a0 3).toInt ∧ (fi E_239 a0 3).toInt ≤ 2147483647 ∧ (fi E_239 a0 3).toInt ≠ 2) → lv_has l_239 10 [(0, .ref a0), (2, .int a2), (3, .int x3_109), (4, .int x4_109), (5, .int x5_109), (6, .int x6_137), (7, .int x7_137)] → W p l e { frames := 6, cells := 0, slots := 0, locals := 142 } s m args below meth c H_239 k_239 0 0 QQ (F0 m 239 l_239 []) := by
            intro  E_239 H_239 k_239 l_239 S_239 F_239 z24 z25 z26 z27 z28 z29 z30 z31 z32 z33 hl_239
            obtain ⟨v34, ev34⟩ : ∃ y : Int32, x7_137 + Int32.ofInt (1) = y := ⟨_, rfl⟩
            have tv34 : v34.toInt = x7_137.toInt + (1) := by rw [← ev34]; exact (fb_addI (by rw [show (Int32.ofInt (1)).toInt = 1 from by decide +kernel]; omega) (by rw [show (Int32.ofInt (1)).toInt = 1 from by decide +kernel]; omega)).trans (by rw [show (Int32.ofInt (1)).toInt = 1 from by decide +kernel])
            refine lv_iinc (v := v34) (lv' := [(7, .int v34), (0, .ref a0), (2, .int a2), (3, .int x3_109), (4, .int x4_109), (5, .int x5_109), (6, .int x6_137)]) hx hb dX10_best_239 hl_239 (k := 6) rfl ev34 (by decide) rfl (fun l35 hl36 => ?_)
            refine lv_goto (tgt := 137) hx hb dX10_best_242 (by decide) ?_
            exact ih_137 x6_137 v34 E_239 H_239 k_239 l35 S_239 F_239 (by have := fb_rng x4_109; have := fb_rng x6_137; omega) (by have := fb_rng x4_109; have := fb_rng x6_137; omega) (by have := fb_rng x4_109; have := fb_rng x6_137; omega) (by have := fb_rng x4_109; have := fb_rng x6_137; omega) (by have := fb_rng x4_109; have := fb_rng x6_137; omega) (by have := fb_rng x4_109; have := fb_rng x6_137; omega) (by have := fb_rng x4_109; have := fb_rng x6_137; omega) (by have := fb_rng x4_109; have := fb_rng x6_137; omega) (fun k hk => (z32 k hk)) (by have := fb_rng x4_109; have := fb_rng x6_137; omega) (by omega) (lv_sub hl36 [1, 2, 3, 4, 5, 6, 0] rfl)
          have J170 : ∀ (n : Nat) (x8_170 : Int32) (E_170 : Ec) (H_170 : Heap) (k_170 : List Loc) (l_170 : Array Slot), Now D TB cy (va_A (va_pl L E) sz) s L τ E_170 H_170 k_170 → Fr L τ (inW [(11, 0), (62, 0), (63, 0), (64, 0), (65, 0), (66, 0), (67, 0), (68, 0), (69, 0), (70, 0), (71, 0), (81, 0), (82, 0)]) E E_170 → (2 ≤ a2.toInt) → (a2.toInt ≤ 67) → (0 ≤ x3_109.toInt) → (x3_109.toInt ≤ 3) → (2 ≤ x5_109.toInt) → (x5_109.toInt ≤ 67) → (1 ≤ x7_137.toInt) → (x7_137.toInt ≤ 20) → (1 ≤ x8_170.toInt) → (x8_170.toInt ≤ 21) → (∀ k : Nat, k ∉ ([3, 4, 6, 8, 30, 31, 32, 35, 36, 37, 38, 39, 40, 41] : List Nat) → fi E_170 a0 k = fi E a0 k) → (-2147483648 ≤ (fi E_170 a0 3).toInt ∧ (fi E_170 a0 3).toInt ≤ 2147483647 ∧ (fi E_170 a0 3).toInt ≠ 2) → (21 - x8_170.toInt).toNat < n → lv_has l_170 10 [(0, .ref a0), (2, .int a2), (3, .int x3_109), (4, .int x4_109), (5, .int x5_109), (6, .int x6_137), (7, .int x7_137), (8, .int x8_170)] → W p l e { frames := 6, cells := 0, slots := 0, locals := 142 } s m args below meth c H_170 k_170 0 0 QQ (F0 m 170 l_170 []) := by
            intro n
            induction n with
            | zero => intro x8_170 E_170 H_170 k_170 l_170 S_170 F_170 z37 z38 z39 z40 z41 z42 z43 z44 z45 z46 z47 z48 hm hl_170; exact absurd hm (Nat.not_lt_zero _)
            | succ n ih =>
              intro x8_170 E_170 H_170 k_170 l_170 S_170 F_170 z37 z38 z39 z40 z41 z42 z43 z44 z45 z46 z47 z48 hm hl_170
              have ih_170 := ih
              have J233 : ∀  (E_233 : Ec) (H_233 : Heap) (k_233 : List Loc) (l_233 : Array Slot), Now D TB cy (va_A (va_pl L E) sz) s L τ E_233 H_233 k_233 → Fr L τ (inW [(11, 0), (62, 0), (63, 0), (64, 0), (65, 0), (66, 0), (67, 0), (68, 0), (69, 0), (70, 0), (71, 0), (81, 0), (82, 0)]) E E_233 → (2 ≤ a2.toInt) → (a2.toInt ≤ 67) → (0 ≤ x3_109.toInt) → (x3_109.toInt ≤ 3) → (2 ≤ x5_109.toInt) → (x5_109.toInt ≤ 67) → (1 ≤ x7_137.toInt) → (x7_137.toInt ≤ 20) → (1 ≤ x8_170.toInt) → (x8_170.toInt ≤ 20) → (∀ k : Nat, k ∉ ([3, 4, 6, 8, 30, 31, 32, 35, 36, 37, 38, 39, 40, 41] : List Nat) → fi E_233 a0 k = fi E a0 k) → (-2147483648 ≤ (fi E_233 a0 3).toInt ∧ (fi E_233 a0 3).toInt ≤ 2147483647 ∧ (fi E_233 a0 3).toInt ≠ 2) → lv_has l_233 10 [(0, .ref a0), (2, .int a2), (3, .int x3_109), (4, .int x4_109), (5, .int x5_109), (6, .int x6_137), (7, .int x7_137), (8, .int x8_170)] → W p l e { frames := 6, cells := 0, slots := 0, locals := 142 } s m args below meth c H_233 k_233 0 0 QQ (F0 m 233 l_233 []) := by
                intro  E_233 H_233 k_233 l_233 S_233 F_233 z49 z50 z51 z52 z53 z54 z55 z56 z57 z58 z59 z60 hl_233
                obtain ⟨v61, ev61⟩ : ∃ y : Int32, x8_170 + Int32.ofInt (1) = y := ⟨_, rfl⟩
                have tv61 : v61.toInt = x8_170.toInt + (1) := by rw [← ev61]; exact (fb_addI (by rw [show (Int32.ofInt (1)).toInt = 1 from by decide +kernel]; omega) (by rw [show (Int32.ofInt (1)).toInt = 1 from by decide +kernel]; omega)).trans (by rw [show (Int32.ofInt (1)).toInt = 1 from by decide +kernel])
                refine lv_iinc (v := v61) (lv' := [(8, .int v61), (0, .ref a0), (2, .int a2), (3, .int x3_109), (4, .int x4_109), (5, .int x5_109), (6, .int x6_137), (7, .int x7_137)]) hx hb dX10_best_233 hl_233 (k := 7) rfl ev61 (by decide) rfl (fun l62 hl63 => ?_)
                refine lv_goto (tgt := 170) hx hb dX10_best_236 (by decide) ?_
                exact ih_170 v61 E_233 H_233 k_233 l62 S_233 F_233 (by have := fb_rng x4_109; have := fb_rng x6_137; omega) (by have := fb_rng x4_109; have := fb_rng x6_137; omega) (by have := fb_rng x4_109; have := fb_rng x6_137; omega) (by have := fb_rng x4_109; have := fb_rng x6_137; omega) (by have := fb_rng x4_109; have := fb_rng x6_137; omega) (by have := fb_rng x4_109; have := fb_rng x6_137; omega) (by have := fb_rng x4_109; have := fb_rng x6_137; omega) (by have := fb_rng x4_109; have := fb_rng x6_137; omega) (by have := fb_rng x4_109; have := fb_rng x6_137; omega) (by have := fb_rng x4_109; have := fb_rng x6_137; omega) (fun k hk => (z59 k hk)) (by have := fb_rng x4_109; have := fb_rng x6_137; omega) (by omega) (lv_sub hl63 [1, 2, 3, 4, 5, 6, 7, 0] rfl)
              have J206 : ∀ (x9_206 : Int32) (E_206 : Ec) (H_206 : Heap) (k_206 : List Loc) (l_206 : Array Slot), Now D TB cy (va_A (va_pl L E) sz) s L τ E_206 H_206 k_206 → Fr L τ (inW [(11, 0), (62, 0), (63, 0), (64, 0), (65, 0), (66, 0), (67, 0), (68, 0), (69, 0), (70, 0), (71, 0), (81, 0), (82, 0)]) E E_206 → (2 ≤ a2.toInt) → (a2.toInt ≤ 67) → (0 ≤ x3_109.toInt) → (x3_109.toInt ≤ 3) → (2 ≤ x5_109.toInt) → (x5_109.toInt ≤ 67) → (1 ≤ x7_137.toInt) → (x7_137.toInt ≤ 20) → (1 ≤ x8_170.toInt) → (x8_170.toInt ≤ 20) → (∀ k : Nat, k ∉ ([3, 4, 6, 8, 30, 31, 32, 35, 36, 37, 38, 39, 40, 41] : List Nat) → fi E_206 a0 k = fi E a0 k) → (-2147483648 ≤ (fi E_206 a0 3).toInt ∧ (fi E_206 a0 3).toInt ≤ 2147483647 ∧ (fi E_206 a0 3).toInt ≠ 2) → lv_has l_206 10 [(0, .ref a0), (2, .int a2), (3, .int x3_109), (4, .int x4_109), (5, .int x5_109), (6, .int x6_137), (7, .int x7_137), (8, .int x8_170), (9, .int x9_206)] → W p l e { frames := 6, cells := 0, slots := 0, locals := 142 } s m args below meth c H_206 k_206 0 0 QQ (F0 m 206 l_206 []) := by
                intro x9_206 E_206 H_206 k_206 l_206 S_206 F_206 z64 z65 z66 z67 z68 z69 z70 z71 z72 z73 z74 z75 hl_206
                refine lv_iload_n hx hb dX10_best_206 rfl (lv_at hl_206 2 rfl) ?_
                obtain ⟨v76, ev76, tv76⟩ : ∃ v : Int32, Int32.ofInt (3) = v ∧ v.toInt = 3 := ⟨_, rfl, by decide +kernel⟩
                refine lv_iconst hx hb dX10_best_207 ev76 ?_
                refine lv_icmp_ne (tgt := 233) hx hb dX10_best_208 (by decide) (fun c77 => ?_) (fun c77 => ?_)
                · skip
                  have tc77 := nu_ne c77
                  exact J233 E_206 H_206 k_206 l_206 S_206 F_206 (by have := fb_rng x4_109; have := fb_rng x6_137; have := fb_rng x9_206; omega) (by have := fb_rng x4_109; have := fb_rng x6_137; have := fb_rng x9_206; omega) (by have := fb_rng x4_109; have := fb_rng x6_137; have := fb_rng x9_206; omega) (by have := fb_rng x4_109; have := fb_rng x6_137; have := fb_rng x9_206; omega) (by have := fb_rng x4_109; have := fb_rng x6_137; have := fb_rng x9_206; omega) (by have := fb_rng x4_109; have := fb_rng x6_137; have := fb_rng x9_206; omega) (by have := fb_rng x4_109; have := fb_rng x6_137; have := fb_rng x9_206; omega) (by have := fb_rng x4_109; have := fb_rng x6_137; have := fb_rng x9_206; omega) (by have := fb_rng x4_109; have := fb_rng x6_137; have := fb_rng x9_206; omega) (by have := fb_rng x4_109; have := fb_rng x6_137; have := fb_rng x9_206; omega) (fun k hk => (z74 k hk)) (by have := fb_rng x4_109; have := fb_rng x6_137; have := fb_rng x9_206; omega) (lv_sub hl_206 [0, 1, 2, 3, 4, 5, 6, 7] rfl)
                · skip
                  have tc77 := nu_eq c77
                  refine lv_aload_n hx hb dX10_best_211 rfl (lv_at hl_206 0 rfl) ?_
                  refine lv_iload hx hb dX10_best_212 (lv_at hl_206 8 rfl) ?_
                  obtain ⟨v78, ev78, tv78⟩ : ∃ v : Int32, Int32.ofInt (1) = v ∧ v.toInt = 1 := ⟨_, rfl, by decide +kernel⟩
                  refine lv_iconst hx hb dX10_best_214 ev78 ?_
                  obtain ⟨v79, ev79, tv79⟩ : ∃ v : Int32, (Int8.ofInt (20)).toInt32 = v ∧ v.toInt = 20 := ⟨_, rfl, by decide +kernel⟩
                  refine lv_bipush hx hb dX10_best_215 ev79 ?_
                  refine tc_vi Z.1 Z.2.2.2.1 Z.2.2.2.2.1 Z.2.2.2.2.2 S_206.1 S_206.2 ha0 ta0 rfl rfl (k_X10_in l D cy S_206.2 ha0 ta0 x9_206 v78 v79) (cwV 3 hts gX10_best_X10_in rfl rfl rfl (by decide +kernel) ⟨Nat.le_of_ble_eq_true rfl, Nat.le_of_ble_eq_true rfl⟩) rfl hl_206.1 rfl (Nat.le_of_ble_eq_true rfl) dX10_best_217 ⟨Nat.zero_le _, Nat.zero_le _⟩ (fun v83 E80 H81 k82 W80 I80 G80 p80 => ?_)
                  obtain ⟨q80, p80_0, p80_1, p80_2⟩ := p80
                  have q80 := q80.symm
                  subst q80
                  have S80 : Now D TB cy (va_A (va_pl L E) sz) s L τ E_206 H81 k82 := ⟨W80, I80⟩
                  refine lv_if_eq (tgt := 233) hx hb dX10_best_220 (by decide) (fun c84 => ?_) (fun c84 => ?_)
                  · skip
                    have tc84 := nu_eq c84
                    have uc84 : (0 : Int32).toInt = 0 := rfl
                    exact J233 E_206 H81 k82 l_206 S80 F_206 (by have := fb_rng x4_109; have := fb_rng x6_137; have := fb_rng x9_206; omega) (by have := fb_rng x4_109; have := fb_rng x6_137; have := fb_rng x9_206; omega) (by have := fb_rng x4_109; have := fb_rng x6_137; have := fb_rng x9_206; omega) (by have := fb_rng x4_109; have := fb_rng x6_137; have := fb_rng x9_206; omega) (by have := fb_rng x4_109; have := fb_rng x6_137; have := fb_rng x9_206; omega) (by have := fb_rng x4_109; have := fb_rng x6_137; have := fb_rng x9_206; omega) (by have := fb_rng x4_109; have := fb_rng x6_137; have := fb_rng x9_206; omega) (by have := fb_rng x4_109; have := fb_rng x6_137; have := fb_rng x9_206; omega) (by have := fb_rng x4_109; have := fb_rng x6_137; have := fb_rng x9_206; omega) (by have := fb_rng x4_109; have := fb_rng x6_137; have := fb_rng x9_206; omega) (fun k hk => (z74 k hk)) (by have := fb_rng x4_109; have := fb_rng x6_137; have := fb_rng x9_206; omega) (lv_sub hl_206 [0, 1, 2, 3, 4, 5, 6, 7] rfl)
                  · skip
                    have tc84 := nu_ne c84
                    have uc84 : (0 : Int32).toInt = 0 := rfl
                    refine lv_aload_n hx hb dX10_best_223 rfl (lv_at hl_206 0 rfl) ?_
                    refine lv_iload hx hb dX10_best_224 (lv_at hl_206 6 rfl) ?_
                    refine lv_iload hx hb dX10_best_226 (lv_at hl_206 7 rfl) ?_
                    refine lv_iload hx hb dX10_best_228 (lv_at hl_206 8 rfl) ?_
                    refine tc_vv Z.1 Z.2.2.2.1 Z.2.2.2.2.1 Z.2.2.2.2.2 S80.1 S80.2 ha0 ta0 rfl rfl (k_X10_tryOne l D cy S80.2 ha0 ta0 x7_137 (by omega) (by omega) x8_170 (by omega) (by omega) x9_206 (by omega) (by omega) (SlotOK.fr F_206 rfl rfl rfl rfl hS)) (cwV 3 hts gX10_best_X10_tryOne rfl rfl rfl (by decide +kernel) ⟨Nat.le_of_ble_eq_true rfl, Nat.le_of_ble_eq_true rfl⟩) rfl hl_206.1 rfl (Nat.le_of_ble_eq_true rfl) dX10_best_230 ⟨Nat.zero_le _, Nat.zero_le _⟩ (fun E85 H86 k87 W85 I85 G85 p85 => ?_)
                    have p85_0 := p85
                    have S85 : Now D TB cy (va_A (va_pl L E) sz) s L τ E85 H86 k87 := ⟨W85, I85⟩
                    have F85 : Fr L τ (inW [(11, 0), (62, 0), (63, 0), (64, 0), (65, 0), (66, 0), (67, 0), (68, 0), (69, 0), (70, 0), (71, 0), (81, 0), (82, 0)]) E E85 := F_206.trans (G85.mono (inW_mono (by decide)))
                    exact J233 E85 H86 k87 l_206 S85 F85 (by have := fb_rng x4_109; have := fb_rng x6_137; omega) (by have := fb_rng x4_109; have := fb_rng x6_137; omega) (by have := fb_rng x4_109; have := fb_rng x6_137; omega) (by have := fb_rng x4_109; have := fb_rng x6_137; omega) (by have := fb_rng x4_109; have := fb_rng x6_137; omega) (by have := fb_rng x4_109; have := fb_rng x6_137; omega) (by have := fb_rng x4_109; have := fb_rng x6_137; omega) (by have := fb_rng x4_109; have := fb_rng x6_137; omega) (by have := fb_rng x4_109; have := fb_rng x6_137; omega) (by have := fb_rng x4_109; have := fb_rng x6_137; omega) (fun k hk => ((p85_0 k (fw_sub (by decide) hk)).trans (z74 k hk))) (by rw [((p85_0 3 (by decide)).trans rfl)]; have := fb_rng x4_109; have := fb_rng x6_137; omega) (lv_sub hl_206 [0, 1, 2, 3, 4, 5, 6, 7] rfl)
              refine lv_iload hx hb dX10_best_170 (lv_at hl_170 7 rfl) ?_
              obtain ⟨v89, ev89, tv89⟩ : ∃ v : Int32, (Int8.ofInt (20)).toInt32 = v ∧ v.toInt = 20 := ⟨_, rfl, by decide +kernel⟩
              refine lv_bipush hx hb dX10_best_172 ev89 ?_
              refine lv_icmp_gt (tgt := 239) hx hb dX10_best_174 (by decide) (fun c90 => ?_) (fun c90 => ?_)
              · skip
                have tc90 := nu_lt c90
                exact J239 E_170 H_170 k_170 l_170 S_170 F_170 (by have := fb_rng x4_109; have := fb_rng x6_137; omega) (by have := fb_rng x4_109; have := fb_rng x6_137; omega) (by have := fb_rng x4_109; have := fb_rng x6_137; omega) (by have := fb_rng x4_109; have := fb_rng x6_137; omega) (by have := fb_rng x4_109; have := fb_rng x6_137; omega) (by have := fb_rng x4_109; have := fb_rng x6_137; omega) (by have := fb_rng x4_109; have := fb_rng x6_137; omega) (by have := fb_rng x4_109; have := fb_rng x6_137; omega) (fun k hk => (z47 k hk)) (by have := fb_rng x4_109; have := fb_rng x6_137; omega) (lv_sub hl_170 [0, 1, 2, 3, 4, 5, 6] rfl)
              · skip
                have tc90 := nu_nlt c90
                refine lv_iload hx hb dX10_best_177 (lv_at hl_170 5 rfl) ?_
                refine lv_iload hx hb dX10_best_179 (lv_at hl_170 6 rfl) ?_
                refine lv_isub hx hb dX10_best_181 ?_
                refine lv_topi (fun v91 ev91 => ?_)
                refine lv_iload hx hb dX10_best_182 (lv_at hl_170 7 rfl) ?_
                refine lv_isub hx hb dX10_best_184 ?_
                refine lv_topi (fun v92 ev92 => ?_)
                refine lv_istore (lv' := [(9, .int v92), (0, .ref a0), (2, .int a2), (3, .int x3_109), (4, .int x4_109), (5, .int x5_109), (6, .int x6_137), (7, .int x7_137), (8, .int x8_170)]) hx hb dX10_best_185 hl_170 (by decide) rfl (fun l93 hl94 => ?_)
                refine lv_iload_n hx hb dX10_best_187 rfl (lv_at hl94 3 rfl) ?_
                obtain ⟨v95, ev95, tv95⟩ : ∃ v : Int32, Int32.ofInt (2) = v ∧ v.toInt = 2 := ⟨_, rfl, by decide +kernel⟩
                refine lv_iconst hx hb dX10_best_188 ev95 ?_
                refine lv_icmp_ne (tgt := 206) hx hb dX10_best_189 (by decide) (fun c96 => ?_) (fun c96 => ?_)
                · skip
                  have tc96 := nu_ne c96
                  exact J206 v92 E_170 H_170 k_170 l93 S_170 F_170 (by have := fb_rng v92; have := fb_rng x4_109; have := fb_rng x6_137; omega) (by have := fb_rng v92; have := fb_rng x4_109; have := fb_rng x6_137; omega) (by have := fb_rng v92; have := fb_rng x4_109; have := fb_rng x6_137; omega) (by have := fb_rng v92; have := fb_rng x4_109; have := fb_rng x6_137; omega) (by have := fb_rng v92; have := fb_rng x4_109; have := fb_rng x6_137; omega) (by have := fb_rng v92; have := fb_rng x4_109; have := fb_rng x6_137; omega) (by have := fb_rng v92; have := fb_rng x4_109; have := fb_rng x6_137; omega) (by have := fb_rng v92; have := fb_rng x4_109; have := fb_rng x6_137; omega) (by have := fb_rng v92; have := fb_rng x4_109; have := fb_rng x6_137; omega) (by have := fb_rng v92; have := fb_rng x4_109; have := fb_rng x6_137; omega) (fun k hk => (z47 k hk)) (by have := fb_rng v92; have := fb_rng x4_109; have := fb_rng x6_137; omega) (lv_sub hl94 [1, 2, 3, 4, 5, 6, 7, 8, 0] rfl)
                · skip
                  have tc96 := nu_eq c96
                  refine lv_iload hx hb dX10_best_192 (lv_at hl94 0 rfl) ?_
                  refine lv_if_ne (tgt := 206) hx hb dX10_best_194 (by decide) (fun c97 => ?_) (fun c97 => ?_)
                  · skip
                    have tc97 := nu_ne c97
                    have uc97 : (0 : Int32).toInt = 0 := rfl
                    exact J206 v92 E_170 H_170 k_170 l93 S_170 F_170 (by have := fb_rng v92; have := fb_rng x4_109; have := fb_rng x6_137; omega) (by have := fb_rng v92; have := fb_rng x4_109; have := fb_rng x6_137; omega) (by have := fb_rng v92; have := fb_rng x4_109; have := fb_rng x6_137; omega) (by have := fb_rng v92; have := fb_rng x4_109; have := fb_rng x6_137; omega) (by have := fb_rng v92; have := fb_rng x4_109; have := fb_rng x6_137; omega) (by have := fb_rng v92; have := fb_rng x4_109; have := fb_rng x6_137; omega) (by have := fb_rng v92; have := fb_rng x4_109; have := fb_rng x6_137; omega) (by have := fb_rng v92; have := fb_rng x4_109; have := fb_rng x6_137; omega) (by have := fb_rng v92; have := fb_rng x4_109; have := fb_rng x6_137; omega) (by have := fb_rng v92; have := fb_rng x4_109; have := fb_rng x6_137; omega) (fun k hk => (z47 k hk)) (by have := fb_rng v92; have := fb_rng x4_109; have := fb_rng x6_137; omega) (lv_sub hl94 [1, 2, 3, 4, 5, 6, 7, 8, 0] rfl)
                  · skip
                    have tc97 := nu_eq c97
                    have uc97 : (0 : Int32).toInt = 0 := rfl
                    refine lv_aload_n hx hb dX10_best_197 rfl (lv_at hl94 1 rfl) ?_
                    refine lv_iload hx hb dX10_best_198 (lv_at hl94 7 rfl) ?_
                    refine lv_iload hx hb dX10_best_200 (lv_at hl94 8 rfl) ?_
                    obtain ⟨v98, ev98, tv98⟩ : ∃ v : Int32, Int32.ofInt (0) = v ∧ v.toInt = 0 := ⟨_, rfl, by decide +kernel⟩
                    refine lv_iconst hx hb dX10_best_202 ev98 ?_
                    refine tc_vv Z.1 Z.2.2.2.1 Z.2.2.2.2.1 Z.2.2.2.2.2 S_170.1 S_170.2 ha0 ta0 rfl rfl (k_X10_tryOne l D cy S_170.2 ha0 ta0 x7_137 (by omega) (by omega) x8_170 (by omega) (by omega) v98 (by omega) (by omega) (SlotOK.fr F_170 rfl rfl rfl rfl hS)) (cwV 3 hts gX10_best_X10_tryOne rfl rfl rfl (by decide +kernel) ⟨Nat.le_of_ble_eq_true rfl, Nat.le_of_ble_eq_true rfl⟩) rfl hl94.1 rfl (Nat.le_of_ble_eq_true rfl) dX10_best_203 ⟨Nat.zero_le _, Nat.zero_le _⟩ (fun E99 H100 k101 W99 I99 G99 p99 => ?_)
                    have p99_0 := p99
                    have S99 : Now D TB cy (va_A (va_pl L E) sz) s L τ E99 H100 k101 := ⟨W99, I99⟩
                    have F99 : Fr L τ (inW [(11, 0), (62, 0), (63, 0), (64, 0), (65, 0), (66, 0), (67, 0), (68, 0), (69, 0), (70, 0), (71, 0), (81, 0), (82, 0)]) E E99 := F_170.trans (G99.mono (inW_mono (by decide)))
                    exact J206 v92 E99 H100 k101 l93 S99 F99 (by have := fb_rng x4_109; have := fb_rng x6_137; omega) (by have := fb_rng x4_109; have := fb_rng x6_137; omega) (by have := fb_rng x4_109; have := fb_rng x6_137; omega) (by have := fb_rng x4_109; have := fb_rng x6_137; omega) (by have := fb_rng x4_109; have := fb_rng x6_137; omega) (by have := fb_rng x4_109; have := fb_rng x6_137; omega) (by have := fb_rng x4_109; have := fb_rng x6_137; omega) (by have := fb_rng x4_109; have := fb_rng x6_137; omega) (by have := fb_rng x4_109; have := fb_rng x6_137; omega) (by have := fb_rng x4_109; have := fb_rng x6_137; omega) (fun k hk => ((p99_0 k (fw_sub (by decide) hk)).trans (z47 k hk))) (by rw [((p99_0 3 (by decide)).trans rfl)]; have := fb_rng x4_109; have := fb_rng x6_137; omega) (lv_sub hl94 [1, 2, 3, 4, 5, 6, 7, 8, 0] rfl)
          refine lv_iload hx hb dX10_best_137 (lv_at hl_137 6 rfl) ?_
          obtain ⟨v103, ev103, tv103⟩ : ∃ v : Int32, (Int8.ofInt (20)).toInt32 = v ∧ v.toInt = 20 := ⟨_, rfl, by decide +kernel⟩
          refine lv_bipush hx hb dX10_best_139 ev103 ?_
          refine lv_icmp_gt (tgt := 245) hx hb dX10_best_141 (by decide) (fun c104 => ?_) (fun c104 => ?_)
          · skip
            have tc104 := nu_lt c104
            obtain ⟨v105, ev105⟩ : ∃ y : Int32, x5_109 + Int32.ofInt (1) = y := ⟨_, rfl⟩
            have tv105 : v105.toInt = x5_109.toInt + (1) := by rw [← ev105]; exact (fb_addI (by rw [show (Int32.ofInt (1)).toInt = 1 from by decide +kernel]; omega) (by rw [show (Int32.ofInt (1)).toInt = 1 from by decide +kernel]; omega)).trans (by rw [show (Int32.ofInt (1)).toInt = 1 from by decide +kernel])
            refine lv_iinc (v := v105) (lv' := [(5, .int v105), (0, .ref a0), (2, .int a2), (3, .int x3_109), (4, .int x4_109), (6, .int x6_137), (7, .int x7_137)]) hx hb dX10_best_245 hl_137 (k := 4) rfl ev105 (by decide) rfl (fun l106 hl107 => ?_)
            refine lv_goto (tgt := 109) hx hb dX10_best_248 (by decide) ?_
            exact ih_109 x3_109 x4_109 v105 E_137 H_137 k_137 l106 S_137 F_137 (by have := fb_rng x4_109; have := fb_rng x6_137; omega) (by have := fb_rng x4_109; have := fb_rng x6_137; omega) (by have := fb_rng x4_109; have := fb_rng x6_137; omega) (by have := fb_rng x4_109; have := fb_rng x6_137; omega) (by have := fb_rng x4_109; have := fb_rng x6_137; omega) (fun k hk => (z22 k hk)) (by have := fb_rng x4_109; have := fb_rng x6_137; omega) (by omega) (lv_sub hl107 [1, 2, 3, 4, 0] rfl)
          · skip
            have tc104 := nu_nlt c104
            refine lv_iload_n hx hb dX10_best_144 rfl (lv_at hl_137 2 rfl) ?_
            obtain ⟨v108, ev108, tv108⟩ : ∃ v : Int32, Int32.ofInt (1) = v ∧ v.toInt = 1 := ⟨_, rfl, by decide +kernel⟩
            refine lv_iconst hx hb dX10_best_145 ev108 ?_
            refine lv_icmp_ne (tgt := 167) hx hb dX10_best_146 (by decide) (fun c109 => ?_) (fun c109 => ?_)
            · skip
              have tc109 := nu_ne c109
              obtain ⟨v110, ev110, tv110⟩ : ∃ v : Int32, Int32.ofInt (1) = v ∧ v.toInt = 1 := ⟨_, rfl, by decide +kernel⟩
              refine lv_iconst hx hb dX10_best_167 ev110 ?_
              refine lv_istore (lv' := [(8, .int v110), (0, .ref a0), (2, .int a2), (3, .int x3_109), (4, .int x4_109), (5, .int x5_109), (6, .int x6_137), (7, .int x7_137)]) hx hb dX10_best_168 hl_137 (by decide) rfl (fun l111 hl112 => ?_)
              exact J170 _ v110 E_137 H_137 k_137 l111 S_137 F_137 (by have := fb_rng x4_109; have := fb_rng x6_137; omega) (by have := fb_rng x4_109; have := fb_rng x6_137; omega) (by have := fb_rng x4_109; have := fb_rng x6_137; omega) (by have := fb_rng x4_109; have := fb_rng x6_137; omega) (by have := fb_rng x4_109; have := fb_rng x6_137; omega) (by have := fb_rng x4_109; have := fb_rng x6_137; omega) (by have := fb_rng x4_109; have := fb_rng x6_137; omega) (by have := fb_rng x4_109; have := fb_rng x6_137; omega) (by have := fb_rng x4_109; have := fb_rng x6_137; omega) (by have := fb_rng x4_109; have := fb_rng x6_137; omega) (fun k hk => (z22 k hk)) (by have := fb_rng x4_109; have := fb_rng x6_137; omega) (Nat.lt_succ_self _) (lv_sub hl112 [1, 2, 3, 4, 5, 6, 7, 0] rfl)
            · skip
              have tc109 := nu_eq c109
              refine lv_iload hx hb dX10_best_149 (lv_at hl_137 6 rfl) ?_
              refine lv_iload hx hb dX10_best_151 (lv_at hl_137 5 rfl) ?_
              refine lv_icmp_ne (tgt := 239) hx hb dX10_best_153 (by decide) (fun c113 => ?_) (fun c113 => ?_)
              · skip
                have tc113 := nu_ne c113
                exact J239 E_137 H_137 k_137 l_137 S_137 F_137 (by have := fb_rng x4_109; have := fb_rng x6_137; omega) (by have := fb_rng x4_109; have := fb_rng x6_137; omega) (by have := fb_rng x4_109; have := fb_rng x6_137; omega) (by have := fb_rng x4_109; have := fb_rng x6_137; omega) (by have := fb_rng x4_109; have := fb_rng x6_137; omega) (by have := fb_rng x4_109; have := fb_rng x6_137; omega) (by have := fb_rng x4_109; have := fb_rng x6_137; omega) (by have := fb_rng x4_109; have := fb_rng x6_137; omega) (fun k hk => (z22 k hk)) (by have := fb_rng x4_109; have := fb_rng x6_137; omega) (lv_sub hl_137 [0, 1, 2, 3, 4, 5, 6] rfl)
              · skip
                have tc113 := nu_eq c113
                refine lv_aload_n hx hb dX10_best_156 rfl (lv_at hl_137 0 rfl) ?_
                refine lv_iload hx hb dX10_best_157 (lv_at hl_137 6 rfl) ?_
                obtain ⟨v114, ev114, tv114⟩ : ∃ v : Int32, Int32.ofInt (0) = v ∧ v.toInt = 0 := ⟨_, rfl, by decide +kernel⟩
                refine lv_iconst hx hb dX10_best_159 ev114 ?_
                obtain ⟨v115, ev115, tv115⟩ : ∃ v : Int32, Int32.ofInt (0) = v ∧ v.toInt = 0 := ⟨_, rfl, by decide +kernel⟩
                refine lv_iconst hx hb dX10_best_160 ev115 ?_
                refine tc_vv Z.1 Z.2.2.2.1 Z.2.2.2.2.1 Z.2.2.2.2.2 S_137.1 S_137.2 ha0 ta0 rfl rfl (k_X10_tryOne l D cy S_137.2 ha0 ta0 x7_137 (by omega) (by omega) v114 (by omega) (by omega) v115 (by omega) (by omega) (SlotOK.fr F_137 rfl rfl rfl rfl hS)) (cwV 3 hts gX10_best_X10_tryOne rfl rfl rfl (by decide +kernel) ⟨Nat.le_of_ble_eq_true rfl, Nat.le_of_ble_eq_true rfl⟩) rfl hl_137.1 rfl (Nat.le_of_ble_eq_true rfl) dX10_best_161 ⟨Nat.zero_le _, Nat.zero_le _⟩ (fun E116 H117 k118 W116 I116 G116 p116 => ?_)
                have p116_0 := p116
                have S116 : Now D TB cy (va_A (va_pl L E) sz) s L τ E116 H117 k118 := ⟨W116, I116⟩
                have F116 : Fr L τ (inW [(11, 0), (62, 0), (63, 0), (64, 0), (65, 0), (66, 0), (67, 0), (68, 0), (69, 0), (70, 0), (71, 0), (81, 0), (82, 0)]) E E116 := F_137.trans (G116.mono (inW_mono (by decide)))
                refine lv_goto (tgt := 239) hx hb dX10_best_164 (by decide) ?_
                exact J239 E116 H117 k118 l_137 S116 F116 (by have := fb_rng x4_109; omega) (by have := fb_rng x4_109; omega) (by have := fb_rng x4_109; omega) (by have := fb_rng x4_109; omega) (by have := fb_rng x4_109; omega) (by have := fb_rng x4_109; omega) (by have := fb_rng x4_109; omega) (by have := fb_rng x4_109; omega) (fun k hk => ((p116_0 k (fw_sub (by decide) hk)).trans (z22 k hk))) (by rw [((p116_0 3 (by decide)).trans rfl)]; have := fb_rng x4_109; omega) (lv_sub hl_137 [0, 1, 2, 3, 4, 5, 6] rfl)
      refine lv_iload hx hb dX10_best_109 (lv_at hl_109 4 rfl) ?_
      refine lv_iload_n hx hb dX10_best_111 rfl (lv_at hl_109 1 rfl) ?_
      refine lv_icmp_gt (tgt := 251) hx hb dX10_best_112 (by decide) (fun c120 => ?_) (fun c120 => ?_)
      · skip
        have tc120 := nu_lt c120
        exact J251 E_109 H_109 k_109 l_109 S_109 F_109 (fun k hk => (z12 k hk)) (by have := fb_rng x4_109; have := fb_rng x5_109; omega) (lv_sub hl_109 [0] rfl)
      · skip
        have tc120 := nu_nlt c120
        refine lv_aload_n hx hb dX10_best_115 rfl (lv_at hl_109 0 rfl) ?_
        refine tr_geti Z.1 Z.2.2.2.1 S_109.1 S_109.2 ha0 ta0 rfl rfl (fun _ h => List.mem_cons_of_mem _ (List.mem_append_right _ h)) 35 (by decide) rfl (hts _ (List.mem_of_getElem? (i := 2) rfl)) dX10_best_116 (fun v121 ev121 lv121 uv121 => ?_)
        obtain ⟨v122, ev122, tv122⟩ : ∃ v : Int32, (Int16.ofInt (2000)).toInt32 = v ∧ v.toInt = 2000 := ⟨_, rfl, by decide +kernel⟩
        refine lv_sipush hx hb dX10_best_119 ev122 ?_
        refine lv_icmp_ge (tgt := 251) hx hb dX10_best_122 (by decide) (fun c123 => ?_) (fun c123 => ?_)
        · skip
          have tc123 := nu_le c123
          exact J251 E_109 H_109 k_109 l_109 S_109 F_109 (fun k hk => (z12 k hk)) (by have := fb_rng x4_109; omega) (lv_sub hl_109 [0] rfl)
        · skip
          have tc123 := nu_nle c123
          refine lv_iload hx hb dX10_best_125 (lv_at hl_109 4 rfl) ?_
          obtain ⟨v124, ev124, tv124⟩ : ∃ v : Int32, Int32.ofInt (1) = v ∧ v.toInt = 1 := ⟨_, rfl, by decide +kernel⟩
          refine lv_iconst hx hb dX10_best_127 ev124 ?_
          refine lv_isub hx hb dX10_best_128 ?_
          refine lv_topi (fun v125 ev125 => ?_)
          have tv125 := nu_sub ev125 (by omega) (by omega)
          refine lv_iload hx hb dX10_best_129 (lv_at hl_109 3 rfl) ?_
          refine lv_isub hx hb dX10_best_131 ?_
          refine lv_topi (fun v126 ev126 => ?_)
          refine lv_istore (lv' := [(6, .int v126), (0, .ref a0), (2, .int a2), (3, .int x3_109), (4, .int x4_109), (5, .int x5_109)]) hx hb dX10_best_132 hl_109 (by decide) rfl (fun l127 hl128 => ?_)
          obtain ⟨v129, ev129, tv129⟩ : ∃ v : Int32, Int32.ofInt (1) = v ∧ v.toInt = 1 := ⟨_, rfl, by decide +kernel⟩
          refine lv_iconst hx hb dX10_best_134 ev129 ?_
          refine lv_istore (lv' := [(7, .int v129), (6, .int v126), (0, .ref a0), (2, .int a2), (3, .int x3_109), (4, .int x4_109), (5, .int x5_109)]) hx hb dX10_best_135 hl128 (by decide) rfl (fun l130 hl131 => ?_)
          exact J137 _ v126 v129 E_109 H_109 k_109 l130 S_109 F_109 (by have := fb_rng v126; have := fb_rng x4_109; omega) (by have := fb_rng v126; have := fb_rng x4_109; omega) (by have := fb_rng v126; have := fb_rng x4_109; omega) (by have := fb_rng v126; have := fb_rng x4_109; omega) (by have := fb_rng v126; have := fb_rng x4_109; omega) (by have := fb_rng v126; have := fb_rng x4_109; omega) (by have := fb_rng v126; have := fb_rng x4_109; omega) (by have := fb_rng v126; have := fb_rng x4_109; omega) (fun k hk => (z12 k hk)) (by have := fb_rng v126; have := fb_rng x4_109; omega) (Nat.lt_succ_self _) (lv_sub hl131 [2, 3, 4, 5, 6, 1, 0] rfl)
  have J69 : ∀ (n : Nat) (x3_69 : Int32) (x4_69 : Int32) (x5_69 : Int32) (E_69 : Ec) (H_69 : Heap) (k_69 : List Loc) (l_69 : Array Slot), Now D TB cy (va_A (va_pl L E) sz) s L τ E_69 H_69 k_69 → Fr L τ (inW [(11, 0), (62, 0), (63, 0), (64, 0), (65, 0), (66, 0), (67, 0), (68, 0), (69, 0), (70, 0), (71, 0), (81, 0), (82, 0)]) E E_69 → (2 ≤ a1.toInt) → (2 ≤ a2.toInt) → (a2.toInt ≤ 67) → (0 ≤ x3_69.toInt) → (x3_69.toInt ≤ 3) → (0 ≤ x5_69.toInt) → (x5_69.toInt ≤ 2) → (∀ k : Nat, k ∉ ([3, 4, 6, 8, 30, 31, 32, 35, 36, 37, 38, 39, 40, 41] : List Nat) → fi E_69 a0 k = fi E a0 k) → (-2147483648 ≤ (fi E_69 a0 3).toInt ∧ (fi E_69 a0 3).toInt ≤ 2147483647 ∧ (fi E_69 a0 3).toInt ≠ 2) → (2 - x5_69.toInt).toNat < n → lv_has l_69 10 [(0, .ref a0), (1, .int a1), (2, .int a2), (3, .int x3_69), (4, .int x4_69), (5, .int x5_69)] → W p l e { frames := 6, cells := 0, slots := 0, locals := 142 } s m args below meth c H_69 k_69 0 0 QQ (F0 m 69 l_69 []) := by
    intro n
    induction n with
    | zero => intro x3_69 x4_69 x5_69 E_69 H_69 k_69 l_69 S_69 F_69 z132 z133 z134 z135 z136 z137 z138 z139 z140 hm hl_69; exact absurd hm (Nat.not_lt_zero _)
    | succ n ih =>
      intro x3_69 x4_69 x5_69 E_69 H_69 k_69 l_69 S_69 F_69 z132 z133 z134 z135 z136 z137 z138 z139 z140 hm hl_69
      have ih_69 := ih
      have J97 : ∀ (y0_97 : Int32) (y1_97 : Int32) (E_97 : Ec) (H_97 : Heap) (k_97 : List Loc) (l_97 : Array Slot), Now D TB cy (va_A (va_pl L E) sz) s L τ E_97 H_97 k_97 → Fr L τ (inW [(11, 0), (62, 0), (63, 0), (64, 0), (65, 0), (66, 0), (67, 0), (68, 0), (69, 0), (70, 0), (71, 0), (81, 0), (82, 0)]) E E_97 → (2 ≤ a1.toInt) → (2 ≤ a2.toInt) → (a2.toInt ≤ 67) → (0 ≤ x3_69.toInt) → (x3_69.toInt ≤ 3) → (0 ≤ x5_69.toInt) → (x5_69.toInt ≤ 1) → (1 ≤ y1_97.toInt) → (y1_97.toInt ≤ 3) → (∀ k : Nat, k ∉ ([3, 4, 6, 8, 30, 31, 32, 35, 36, 37, 38, 39, 40, 41] : List Nat) → fi E_97 a0 k = fi E a0 k) → (-2147483648 ≤ (fi E_97 a0 3).toInt ∧ (fi E_97 a0 3).toInt ≤ 2147483647 ∧ (fi E_97 a0 3).toInt ≠ 2) → lv_has l_97 10 [(0, .ref a0), (1, .int a1), (2, .int a2), (3, .int x3_69), (5, .int x5_69)] → W p l e { frames := 6, cells := 0, slots := 0, locals := 142 } s m args below meth c H_97 k_97 0 0 QQ (F0 m 97 l_97 [.int y1_97, .int y0_97]) := by
        intro y0_97 y1_97 E_97 H_97 k_97 l_97 S_97 F_97 z141 z142 z143 z144 z145 z146 z147 z148 z149 z150 z151 hl_97
        refine lv_iadd hx hb dX10_best_97 ?_
        refine lv_topi (fun v152 ev152 => ?_)
        refine lv_istore (lv' := [(4, .int v152), (0, .ref a0), (1, .int a1), (2, .int a2), (3, .int x3_69), (5, .int x5_69)]) hx hb dX10_best_98 hl_97 (by decide) rfl (fun l153 hl154 => ?_)
        obtain ⟨v155, ev155⟩ : ∃ y : Int32, x5_69 + Int32.ofInt (1) = y := ⟨_, rfl⟩
        have tv155 : v155.toInt = x5_69.toInt + (1) := by rw [← ev155]; exact (fb_addI (by rw [show (Int32.ofInt (1)).toInt = 1 from by decide +kernel]; omega) (by rw [show (Int32.ofInt (1)).toInt = 1 from by decide +kernel]; omega)).trans (by rw [show (Int32.ofInt (1)).toInt = 1 from by decide +kernel])
        refine lv_iinc (v := v155) (lv' := [(5, .int v155), (4, .int v152), (0, .ref a0), (1, .int a1), (2, .int a2), (3, .int x3_69)]) hx hb dX10_best_100 hl154 (k := 5) rfl ev155 (by decide) rfl (fun l156 hl157 => ?_)
        refine lv_goto (tgt := 69) hx hb dX10_best_103 (by decide) ?_
        exact ih_69 x3_69 v152 v155 E_97 H_97 k_97 l156 S_97 F_97 (by have := fb_rng v152; have := fb_rng a1; omega) (by have := fb_rng v152; have := fb_rng a1; omega) (by have := fb_rng v152; have := fb_rng a1; omega) (by have := fb_rng v152; have := fb_rng a1; omega) (by have := fb_rng v152; have := fb_rng a1; omega) (by have := fb_rng v152; have := fb_rng a1; omega) (by have := fb_rng v152; have := fb_rng a1; omega) (fun k hk => (z150 k hk)) (by have := fb_rng v152; have := fb_rng a1; omega) (by omega) (lv_sub hl157 [2, 3, 4, 5, 1, 0] rfl)
      refine lv_iload hx hb dX10_best_69 (lv_at hl_69 5 rfl) ?_
      refine lv_iload_n hx hb dX10_best_71 rfl (lv_at hl_69 3 rfl) ?_
      obtain ⟨v158, ev158, tv158⟩ : ∃ v : Int32, Int32.ofInt (1) = v ∧ v.toInt = 1 := ⟨_, rfl, by decide +kernel⟩
      refine lv_iconst hx hb dX10_best_72 ev158 ?_
      refine lv_isub hx hb dX10_best_73 ?_
      refine lv_topi (fun v159 ev159 => ?_)
      have tv159 := nu_sub ev159 (by omega) (by omega)
      refine lv_icmp_ge (tgt := 106) hx hb dX10_best_74 (by decide) (fun c160 => ?_) (fun c160 => ?_)
      · skip
        have tc160 := nu_le c160
        refine lv_iload_n hx hb dX10_best_106 rfl (lv_at hl_69 1 rfl) ?_
        refine lv_istore (lv' := [(5, .int a1), (0, .ref a0), (1, .int a1), (2, .int a2), (3, .int x3_69), (4, .int x4_69)]) hx hb dX10_best_107 hl_69 (by decide) rfl (fun l161 hl162 => ?_)
        exact J109 _ x3_69 x4_69 a1 E_69 H_69 k_69 l161 S_69 F_69 (by have := fb_rng a1; have := fb_rng a1; have := fb_rng x4_69; omega) (by have := fb_rng a1; have := fb_rng a1; have := fb_rng x4_69; omega) (by have := fb_rng a1; have := fb_rng a1; have := fb_rng x4_69; omega) (by have := fb_rng a1; have := fb_rng a1; have := fb_rng x4_69; omega) (by have := fb_rng a1; have := fb_rng a1; have := fb_rng x4_69; omega) (fun k hk => (z139 k hk)) (by have := fb_rng a1; have := fb_rng a1; have := fb_rng x4_69; omega) (Nat.lt_succ_self _) (lv_sub hl162 [1, 3, 4, 5, 0] rfl)
      · skip
        have tc160 := nu_nle c160
        refine lv_iload hx hb dX10_best_77 (lv_at hl_69 4 rfl) ?_
        refine lv_aload_n hx hb dX10_best_79 rfl (lv_at hl_69 0 rfl) ?_
        refine tr_getr Z.1 Z.2.2.2.1 S_69.1 S_69.2 ha0 ta0 rfl rfl (fun _ h => List.mem_cons_of_mem _ (List.mem_append_right _ h)) 0 (by decide) rfl (hts _ (List.mem_of_getElem? (i := 6) rfl)) dX10_best_80 (fun q163 eq163 hq163 tq163 => ?_)
        have tq163 : τ q163 = (60, 0) := tq163
        obtain ⟨v164, ev164, tv164⟩ : ∃ v : Int32, (Int8.ofInt (11)).toInt32 = v ∧ v.toInt = 11 := ⟨_, rfl, by decide +kernel⟩
        refine lv_bipush hx hb dX10_best_83 ev164 ?_
        refine lv_iload hx hb dX10_best_85 (lv_at hl_69 5 rfl) ?_
        refine lv_iadd hx hb dX10_best_87 ?_
        refine lv_topi (fun v165 ev165 => ?_)
        have tv165 := nu_add ev165 (by omega) (by omega)
        refine tr_ialdx Z.1 Z.2.2.2.1 S_69.1 S_69.2 hq163 tq163 rfl (by omega) (by omega) dX10_best_88 (fun v166 ev166 lv166 uv166 => ?_)
        have bv166 : nowB v165.toNatClampNeg = (-2147483648, 2147483647) := nb_o (by show v165.toInt.toNat < 4 ∨ (8 ≤ v165.toInt.toNat ∧ v165.toInt.toNat ≤ 18) ∨ (20 ≤ v165.toInt.toNat ∧ v165.toInt.toNat ≤ 43); omega)
        rw [bv166] at lv166 uv166
        have lv166 : -2147483648 ≤ v166.toInt := lv166
        have uv166 : v166.toInt ≤ 2147483647 := uv166
        refine lv_if_ne (tgt := 96) hx hb dX10_best_89 (by decide) (fun c167 => ?_) (fun c167 => ?_)
        · skip
          have tc167 := nu_ne c167
          have uc167 : (0 : Int32).toInt = 0 := rfl
          obtain ⟨v168, ev168, tv168⟩ : ∃ v : Int32, Int32.ofInt (3) = v ∧ v.toInt = 3 := ⟨_, rfl, by decide +kernel⟩
          refine lv_iconst hx hb dX10_best_96 ev168 ?_
          exact J97 x4_69 v168 E_69 H_69 k_69 l_69 S_69 F_69 (by have := fb_rng a1; have := fb_rng x4_69; omega) (by have := fb_rng a1; have := fb_rng x4_69; omega) (by have := fb_rng a1; have := fb_rng x4_69; omega) (by have := fb_rng a1; have := fb_rng x4_69; omega) (by have := fb_rng a1; have := fb_rng x4_69; omega) (by have := fb_rng a1; have := fb_rng x4_69; omega) (by have := fb_rng a1; have := fb_rng x4_69; omega) (by have := fb_rng a1; have := fb_rng x4_69; omega) (by have := fb_rng a1; have := fb_rng x4_69; omega) (fun k hk => (z139 k hk)) (by have := fb_rng a1; have := fb_rng x4_69; omega) (lv_sub hl_69 [0, 1, 2, 3, 5] rfl)
        · skip
          have tc167 := nu_eq c167
          have uc167 : (0 : Int32).toInt = 0 := rfl
          obtain ⟨v169, ev169, tv169⟩ : ∃ v : Int32, Int32.ofInt (1) = v ∧ v.toInt = 1 := ⟨_, rfl, by decide +kernel⟩
          refine lv_iconst hx hb dX10_best_92 ev169 ?_
          refine lv_goto (tgt := 97) hx hb dX10_best_93 (by decide) ?_
          exact J97 x4_69 v169 E_69 H_69 k_69 l_69 S_69 F_69 (by have := fb_rng a1; have := fb_rng x4_69; omega) (by have := fb_rng a1; have := fb_rng x4_69; omega) (by have := fb_rng a1; have := fb_rng x4_69; omega) (by have := fb_rng a1; have := fb_rng x4_69; omega) (by have := fb_rng a1; have := fb_rng x4_69; omega) (by have := fb_rng a1; have := fb_rng x4_69; omega) (by have := fb_rng a1; have := fb_rng x4_69; omega) (by have := fb_rng a1; have := fb_rng x4_69; omega) (by have := fb_rng a1; have := fb_rng x4_69; omega) (fun k hk => (z139 k hk)) (by have := fb_rng a1; have := fb_rng x4_69; omega) (lv_sub hl_69 [0, 1, 2, 3, 5] rfl)
  have J21 : ∀  (E_21 : Ec) (H_21 : Heap) (k_21 : List Loc) (l_21 : Array Slot), Now D TB cy (va_A (va_pl L E) sz) s L τ E_21 H_21 k_21 → Fr L τ (inW [(11, 0), (62, 0), (63, 0), (64, 0), (65, 0), (66, 0), (67, 0), (68, 0), (69, 0), (70, 0), (71, 0), (81, 0), (82, 0)]) E E_21 → (∀ k : Nat, k ∉ ([3, 4, 6, 8, 30, 31, 32, 35, 36, 37, 38, 39, 40, 41] : List Nat) → fi E_21 a0 k = fi E a0 k) → lv_has l_21 10 [(0, .ref a0)] → W p l e { frames := 6, cells := 0, slots := 0, locals := 142 } s m args below meth c H_21 k_21 0 0 QQ (F0 m 21 l_21 []) := by
    intro  E_21 H_21 k_21 l_21 S_21 F_21 z170 hl_21
    refine lv_aload_n hx hb dX10_best_21 rfl (lv_at hl_21 0 rfl) ?_
    obtain ⟨v171, ev171, tv171⟩ : ∃ v : Int32, Int32.ofInt (1) = v ∧ v.toInt = 1 := ⟨_, rfl, by decide +kernel⟩
    refine lv_iconst hx hb dX10_best_22 ev171 ?_
    refine tc_vi Z.1 Z.2.2.2.1 Z.2.2.2.2.1 Z.2.2.2.2.2 S_21.1 S_21.2 ha0 ta0 rfl rfl (k_X10_no_vw l D cy S_21.2 ha0 ta0 v171) (cwV 1 hts gX10_best_X10_no rfl rfl rfl (by decide +kernel) ⟨Nat.le_of_ble_eq_true rfl, Nat.le_of_ble_eq_true rfl⟩) rfl hl_21.1 rfl (Nat.le_of_ble_eq_true rfl) dX10_best_23 ⟨Nat.zero_le _, Nat.zero_le _⟩ (fun v175 E172 H173 k174 W172 I172 G172 p172 => ?_)
    obtain ⟨p172_0, p172_1, p172_2, p172_3⟩ := p172
    have S172 : Now D TB cy (va_A (va_pl L E) sz) s L τ E172 H173 k174 := ⟨W172, I172⟩
    have F172 : Fr L τ (inW [(11, 0), (62, 0), (63, 0), (64, 0), (65, 0), (66, 0), (67, 0), (68, 0), (69, 0), (70, 0), (71, 0), (81, 0), (82, 0)]) E E172 := F_21.trans (G172.mono (inW_mono (by decide)))
    have kz172_3 := fi_rng (k := 3) S172.2 ha0 ta0 rfl rfl
    rw [← hQ]
    exact en_i Z S172 F172 ⟨(by omega), (fun k hk => ((p172_3 k (fw_sub (by decide) hk)).trans (z170 k hk)))⟩ dX10_best_26
  refine lv_aload_n hx hb dX10_best_0 rfl (lv_at hl 0 rfl) ?_
  obtain ⟨v176, ev176, tv176⟩ : ∃ v : Int32, Int32.ofInt (0) = v ∧ v.toInt = 0 := ⟨_, rfl, by decide +kernel⟩
  refine lv_iconst hx hb dX10_best_1 ev176 ?_
  refine tr_puti Z.1 Z.2.2.2.1 S0.1 S0.2 ha0 ta0 rfl rfl (fun _ h => List.mem_cons_of_mem _ (List.mem_append_right _ h)) tyX10_ok nmX10 4 (by decide) rfl rfl rfl (hts _ (List.mem_of_getElem? (i := 1) rfl)) dX10_best_2 (by omega) (by omega) (fun E177 H178 k179 W177 I177 P177 => ?_)
  have S177 : Now D TB cy (va_A (va_pl L E) sz) s L τ E177 H178 k179 := ⟨W177, I177⟩
  have F177 : Fr L τ (inW [(11, 0), (62, 0), (63, 0), (64, 0), (65, 0), (66, 0), (67, 0), (68, 0), (69, 0), (70, 0), (71, 0), (81, 0), (82, 0)]) E E177 := Fr.put F0_ P177 ta0 rfl
  refine lv_iload_n hx hb dX10_best_5 rfl (lv_at hl 1 rfl) ?_
  obtain ⟨v180, ev180, tv180⟩ : ∃ v : Int32, Int32.ofInt (2) = v ∧ v.toInt = 2 := ⟨_, rfl, by decide +kernel⟩
  refine lv_iconst hx hb dX10_best_6 ev180 ?_
  refine lv_icmp_lt (tgt := 21) hx hb dX10_best_7 (by decide) (fun c181 => ?_) (fun c181 => ?_)
  · skip
    have tc181 := nu_lt c181
    exact J21 E177 H178 k179 ls S177 F177 (fun k hk => ((fi_put P177 (Or.inr (fw_ne (by decide) hk))).trans ((fun k hk => rfl) k hk))) (lv_sub hl [0] rfl)
  · skip
    have tc181 := nu_nlt c181
    refine lv_iload_n hx hb dX10_best_10 rfl (lv_at hl 1 rfl) ?_
    refine lv_iload_n hx hb dX10_best_11 rfl (lv_at hl 2 rfl) ?_
    refine lv_icmp_gt (tgt := 21) hx hb dX10_best_12 (by decide) (fun c182 => ?_) (fun c182 => ?_)
    · skip
      have tc182 := nu_lt c182
      exact J21 E177 H178 k179 ls S177 F177 (fun k hk => ((fi_put P177 (Or.inr (fw_ne (by decide) hk))).trans ((fun k hk => rfl) k hk))) (lv_sub hl [0] rfl)
    · skip
      have tc182 := nu_nlt c182
      refine lv_iload_n hx hb dX10_best_15 rfl (lv_at hl 2 rfl) ?_
      obtain ⟨v183, ev183, tv183⟩ : ∃ v : Int32, (Int8.ofInt (67)).toInt32 = v ∧ v.toInt = 67 := ⟨_, rfl, by decide +kernel⟩
      refine lv_bipush hx hb dX10_best_16 ev183 ?_
      refine lv_icmp_le (tgt := 27) hx hb dX10_best_18 (by decide) (fun c184 => ?_) (fun c184 => ?_)
      · skip
        have tc184 := nu_le c184
        refine lv_aload_n hx hb dX10_best_27 rfl (lv_at hl 0 rfl) ?_
        refine tc_vv Z.1 Z.2.2.2.1 Z.2.2.2.2.1 Z.2.2.2.2.2 S177.1 S177.2 ha0 ta0 rfl rfl (k_X10_good_vw l D cy S177.2 ha0 ta0) (cwV 0 hts gX10_best_X10_good rfl rfl rfl (by decide +kernel) ⟨Nat.le_of_ble_eq_true rfl, Nat.le_of_ble_eq_true rfl⟩) rfl hl.1 rfl (Nat.le_of_ble_eq_true rfl) dX10_best_28 ⟨Nat.zero_le _, Nat.zero_le _⟩ (fun E185 H186 k187 W185 I185 G185 p185 => ?_)
        obtain ⟨p185_0, p185_1⟩ := p185
        have S185 : Now D TB cy (va_A (va_pl L E) sz) s L τ E185 H186 k187 := ⟨W185, I185⟩
        have F185 : Fr L τ (inW [(11, 0), (62, 0), (63, 0), (64, 0), (65, 0), (66, 0), (67, 0), (68, 0), (69, 0), (70, 0), (71, 0), (81, 0), (82, 0)]) E E185 := F177.trans (G185.mono (inW_mono (by decide)))
        have kz185_3 := fi_rng (k := 3) S185.2 ha0 ta0 rfl rfl
        refine lv_aload_n hx hb dX10_best_31 rfl (lv_at hl 0 rfl) ?_
        obtain ⟨v189, ev189, tv189⟩ : ∃ v : Int32, Int32.ofInt (0) = v ∧ v.toInt = 0 := ⟨_, rfl, by decide +kernel⟩
        refine lv_iconst hx hb dX10_best_32 ev189 ?_
        refine tr_puti Z.1 Z.2.2.2.1 S185.1 S185.2 ha0 ta0 rfl rfl (fun _ h => List.mem_cons_of_mem _ (List.mem_append_right _ h)) tyX10_ok nmX10 35 (by decide) rfl rfl rfl (hts _ (List.mem_of_getElem? (i := 2) rfl)) dX10_best_33 (by omega) (by omega) (fun E190 H191 k192 W190 I190 P190 => ?_)
        have S190 : Now D TB cy (va_A (va_pl L E) sz) s L τ E190 H191 k192 := ⟨W190, I190⟩
        have F190 : Fr L τ (inW [(11, 0), (62, 0), (63, 0), (64, 0), (65, 0), (66, 0), (67, 0), (68, 0), (69, 0), (70, 0), (71, 0), (81, 0), (82, 0)]) E E190 := Fr.put F185 P190 ta0 rfl
        refine lv_aload_n hx hb dX10_best_36 rfl (lv_at hl 0 rfl) ?_
        obtain ⟨v193, ev193, tv193⟩ : ∃ v : Int32, Int32.ofInt (0) = v ∧ v.toInt = 0 := ⟨_, rfl, by decide +kernel⟩
        refine lv_iconst hx hb dX10_best_37 ev193 ?_
        refine tr_puti Z.1 Z.2.2.2.1 S190.1 S190.2 ha0 ta0 rfl rfl (fun _ h => List.mem_cons_of_mem _ (List.mem_append_right _ h)) tyX10_ok nmX10 36 (by decide) rfl rfl rfl (hts _ (List.mem_of_getElem? (i := 3) rfl)) dX10_best_38 (by have := fb_rng v193; omega) (by have := fb_rng v193; omega) (fun E194 H195 k196 W194 I194 P194 => ?_)
        have S194 : Now D TB cy (va_A (va_pl L E) sz) s L τ E194 H195 k196 := ⟨W194, I194⟩
        have F194 : Fr L τ (inW [(11, 0), (62, 0), (63, 0), (64, 0), (65, 0), (66, 0), (67, 0), (68, 0), (69, 0), (70, 0), (71, 0), (81, 0), (82, 0)]) E E194 := Fr.put F190 P194 ta0 rfl
        refine lv_aload_n hx hb dX10_best_41 rfl (lv_at hl 0 rfl) ?_
        obtain ⟨v197, ev197, tv197⟩ : ∃ v : Int32, Int32.ofInt (1) = v ∧ v.toInt = 1 := ⟨_, rfl, by decide +kernel⟩
        refine lv_iconst hx hb dX10_best_42 ev197 ?_
        refine tr_putz Z.1 Z.2.2.2.1 S194.1 S194.2 ha0 ta0 rfl rfl (fun _ h => List.mem_cons_of_mem _ (List.mem_append_right _ h)) tyX10_ok nmX10 40 (by decide) rfl rfl rfl (hts _ (List.mem_of_getElem? (i := 4) rfl)) dX10_best_43 (by omega) (by omega) (fun E198 H199 k200 W198 I198 P198 => ?_)
        have S198 : Now D TB cy (va_A (va_pl L E) sz) s L τ E198 H199 k200 := ⟨W198, I198⟩
        have F198 : Fr L τ (inW [(11, 0), (62, 0), (63, 0), (64, 0), (65, 0), (66, 0), (67, 0), (68, 0), (69, 0), (70, 0), (71, 0), (81, 0), (82, 0)]) E E198 := Fr.put F194 P198 ta0 rfl
        refine lv_aload_n hx hb dX10_best_46 rfl (lv_at hl 0 rfl) ?_
        obtain ⟨v201, ev201, tv201⟩ : ∃ v : Int32, Int32.ofInt (0) = v ∧ v.toInt = 0 := ⟨_, rfl, by decide +kernel⟩
        refine lv_iconst hx hb dX10_best_47 ev201 ?_
        refine tr_putz Z.1 Z.2.2.2.1 S198.1 S198.2 ha0 ta0 rfl rfl (fun _ h => List.mem_cons_of_mem _ (List.mem_append_right _ h)) tyX10_ok nmX10 41 (by decide) rfl rfl rfl (hts _ (List.mem_of_getElem? (i := 5) rfl)) dX10_best_48 (by omega) (by omega) (fun E202 H203 k204 W202 I202 P202 => ?_)
        have S202 : Now D TB cy (va_A (va_pl L E) sz) s L τ E202 H203 k204 := ⟨W202, I202⟩
        have F202 : Fr L τ (inW [(11, 0), (62, 0), (63, 0), (64, 0), (65, 0), (66, 0), (67, 0), (68, 0), (69, 0), (70, 0), (71, 0), (81, 0), (82, 0)]) E E202 := Fr.put F198 P202 ta0 rfl
        refine lv_aload_n hx hb dX10_best_51 rfl (lv_at hl 0 rfl) ?_
        refine tr_getr Z.1 Z.2.2.2.1 S202.1 S202.2 ha0 ta0 rfl rfl (fun _ h => List.mem_cons_of_mem _ (List.mem_append_right _ h)) 0 (by decide) rfl (hts _ (List.mem_of_getElem? (i := 6) rfl)) dX10_best_52 (fun q205 eq205 hq205 tq205 => ?_)
        have tq205 : τ q205 = (60, 0) := tq205
        obtain ⟨v206, ev206, tv206⟩ : ∃ v : Int32, Int32.ofInt (4) = v ∧ v.toInt = 4 := ⟨_, rfl, by decide +kernel⟩
        refine lv_iconst hx hb dX10_best_55 ev206 ?_
        refine tr_ialdx Z.1 Z.2.2.2.1 S202.1 S202.2 hq205 tq205 rfl (by omega) (by omega) dX10_best_56 (fun v207 ev207 lv207 uv207 => ?_)
        have bv207 : nowB v206.toNatClampNeg = (0, 3) := nb_4 (by show v206.toInt.toNat = 4; omega)
        rw [bv207] at lv207 uv207
        have lv207 : 0 ≤ v207.toInt := lv207
        have uv207 : v207.toInt ≤ 3 := uv207
        have av207 : ai E202 q205 4 = v207 := ai_at ev207 (by omega)
        refine lv_istore_n (lv' := [(3, .int v207), (0, .ref a0), (1, .int a1), (2, .int a2)]) hx hb dX10_best_57 rfl hl (by decide) rfl (fun l208 hl209 => ?_)
        refine lv_aload_n hx hb dX10_best_58 rfl (lv_at hl209 1 rfl) ?_
        refine lv_iload_n hx hb dX10_best_59 rfl (lv_at hl209 0 rfl) ?_
        refine tr_puti Z.1 Z.2.2.2.1 S202.1 S202.2 ha0 ta0 rfl rfl (fun _ h => List.mem_cons_of_mem _ (List.mem_append_right _ h)) tyX10_ok nmX10 38 (by decide) rfl rfl rfl (hts _ (List.mem_of_getElem? (i := 7) rfl)) dX10_best_60 (by omega) (by omega) (fun E210 H211 k212 W210 I210 P210 => ?_)
        have S210 : Now D TB cy (va_A (va_pl L E) sz) s L τ E210 H211 k212 := ⟨W210, I210⟩
        have F210 : Fr L τ (inW [(11, 0), (62, 0), (63, 0), (64, 0), (65, 0), (66, 0), (67, 0), (68, 0), (69, 0), (70, 0), (71, 0), (81, 0), (82, 0)]) E E210 := Fr.put F202 P210 ta0 rfl
        obtain ⟨v213, ev213, tv213⟩ : ∃ v : Int32, Int32.ofInt (0) = v ∧ v.toInt = 0 := ⟨_, rfl, by decide +kernel⟩
        refine lv_iconst hx hb dX10_best_63 ev213 ?_
        refine lv_istore (lv' := [(4, .int v213), (3, .int v207), (0, .ref a0), (1, .int a1), (2, .int a2)]) hx hb dX10_best_64 hl209 (by decide) rfl (fun l214 hl215 => ?_)
        obtain ⟨v216, ev216, tv216⟩ : ∃ v : Int32, Int32.ofInt (0) = v ∧ v.toInt = 0 := ⟨_, rfl, by decide +kernel⟩
        refine lv_iconst hx hb dX10_best_66 ev216 ?_
        refine lv_istore (lv' := [(5, .int v216), (4, .int v213), (3, .int v207), (0, .ref a0), (1, .int a1), (2, .int a2)]) hx hb dX10_best_67 hl215 (by decide) rfl (fun l217 hl218 => ?_)
        exact J69 _ v207 v213 v216 E210 H211 k212 l217 S210 F210 (by have := fb_rng a1; omega) (by have := fb_rng a1; omega) (by have := fb_rng a1; omega) (by have := fb_rng a1; omega) (by have := fb_rng a1; omega) (by have := fb_rng a1; omega) (by have := fb_rng a1; omega) (fun k hk => ((fi_put P210 (Or.inr (fw_ne (by decide) hk))).trans ((fi_put P202 (Or.inr (fw_ne (by decide) hk))).trans ((fi_put P198 (Or.inr (fw_ne (by decide) hk))).trans ((fi_put P194 (Or.inr (fw_ne (by decide) hk))).trans ((fi_put P190 (Or.inr (fw_ne (by decide) hk))).trans ((p185_1 k (fw_sub (by decide) hk)).trans ((fi_put P177 (Or.inr (fw_ne (by decide) hk))).trans ((fun k hk => rfl) k hk))))))))) (by rw [((fi_put (k := 3) P210 (Or.inr (by decide))).trans ((fi_put (k := 3) P202 (Or.inr (by decide))).trans ((fi_put (k := 3) P198 (Or.inr (by decide))).trans ((fi_put (k := 3) P194 (Or.inr (by decide))).trans ((fi_put (k := 3) P190 (Or.inr (by decide))).trans rfl)))))]; have := fb_rng a1; omega) (Nat.lt_succ_self _) (lv_sub hl218 [3, 4, 5, 2, 1, 0] rfl)
      · skip
        have tc184 := nu_nle c184
        exact J21 E177 H178 k179 ls S177 F177 (fun k hk => ((fi_put P177 (Or.inr (fw_ne (by decide) hk))).trans ((fun k hk => rfl) k hk))) (lv_sub hl [0] rfl)

set_option maxHeartbeats 4000000 in
set_option maxRecDepth 100000 in
theorem k_X10_string_vw (l : Launch) (D : va_G) (cy : Nat → ClassId) {L : List Nat} {τ : Nat → Ro} {E : Ec} (hI : Inv TB cy L τ E) {a0 : Nat} (ha0 : a0 ∈ L) (ta0 : τ a0 = (11, 0)) (a1 : Int32) : CtI l yX10_string wsX10_string { frames := 3, cells := 0, slots := 0, locals := 74 } D TB cy L τ E [.ref a0, .int a1] (inW [(11, 0), (62, 0), (63, 0), (64, 0), (65, 0), (66, 0), (67, 0), (68, 0), (69, 0), (70, 0), (71, 0)]) (fun r E' => ((fi E' a0 3).toInt ≠ 2) ∧ (∀ k : Nat, k ∉ ([3, 4, 6, 8] : List Nat) → fi E' a0 k = fi E a0 k)) := by
  intro sz
  refine sta (cc := cX10_string) (maxL := 6) hI (by decide) rfl (Nat.le_of_ble_eq_true rfl) (fun p e s m args below meth c ls hsz Z S0 hl => ?_)
  have hx := Z.1.1
  have hb := Z.1.2.1
  have hts := Z.1.2.2.2.2
  have F0_ : Fr L τ (inW [(11, 0), (62, 0), (63, 0), (64, 0), (65, 0), (66, 0), (67, 0), (68, 0), (69, 0), (70, 0), (71, 0)]) E E := Fr.refl
  have hl : lv_has ls 6 [(0, .ref a0), (1, .int a1)] := hl
  generalize hQ : MQ below _ args s 0 0 _ = QQ
  have J41 : ∀ (n : Nat) (x2_41 : Int64) (x4_41 : Int32) (E_41 : Ec) (H_41 : Heap) (k_41 : List Loc) (l_41 : Array Slot), Now D TB cy (va_A (va_pl L E) sz) s L τ E_41 H_41 k_41 → Fr L τ (inW [(11, 0), (62, 0), (63, 0), (64, 0), (65, 0), (66, 0), (67, 0), (68, 0), (69, 0), (70, 0), (71, 0)]) E E_41 → (0 ≤ a1.toInt) → (a1.toInt ≤ 2) → (0 ≤ x4_41.toInt) → (x4_41.toInt ≤ 66) → (∀ k : Nat, k ∉ ([3, 4, 6, 8] : List Nat) → fi E_41 a0 k = fi E a0 k) → (-2147483648 ≤ (fi E_41 a0 3).toInt ∧ (fi E_41 a0 3).toInt ≤ 2147483647 ∧ (fi E_41 a0 3).toInt ≠ 2) → (66 - x4_41.toInt).toNat < n → lv_has l_41 6 [(0, .ref a0), (1, .int a1), (2, .long x2_41), (4, .int x4_41)] → W p l e { frames := 3, cells := 0, slots := 0, locals := 74 } s m args below meth c H_41 k_41 0 0 QQ (F0 m 41 l_41 []) := by
    intro n
    induction n with
    | zero => intro x2_41 x4_41 E_41 H_41 k_41 l_41 S_41 F_41 z1 z2 z3 z4 z5 z6 hm hl_41; exact absurd hm (Nat.not_lt_zero _)
    | succ n ih =>
      intro x2_41 x4_41 E_41 H_41 k_41 l_41 S_41 F_41 z1 z2 z3 z4 z5 z6 hm hl_41
      have ih_41 := ih
      have J74 : ∀ (y0_74 : Int64) (y1_74 : Int64) (E_74 : Ec) (H_74 : Heap) (k_74 : List Loc) (l_74 : Array Slot), Now D TB cy (va_A (va_pl L E) sz) s L τ E_74 H_74 k_74 → Fr L τ (inW [(11, 0), (62, 0), (63, 0), (64, 0), (65, 0), (66, 0), (67, 0), (68, 0), (69, 0), (70, 0), (71, 0)]) E E_74 → (0 ≤ a1.toInt) → (a1.toInt ≤ 2) → (0 ≤ x4_41.toInt) → (x4_41.toInt ≤ 65) → (∀ k : Nat, k ∉ ([3, 4, 6, 8] : List Nat) → fi E_74 a0 k = fi E a0 k) → (-2147483648 ≤ (fi E_74 a0 3).toInt ∧ (fi E_74 a0 3).toInt ≤ 2147483647 ∧ (fi E_74 a0 3).toInt ≠ 2) → lv_has l_74 6 [(0, .ref a0), (1, .int a1), (4, .int x4_41)] → W p l e { frames := 3, cells := 0, slots := 0, locals := 74 } s m args below meth c H_74 k_74 0 0 QQ (F0 m 74 l_74 [.long y1_74, .long y0_74]) := by
        intro y0_74 y1_74 E_74 H_74 k_74 l_74 S_74 F_74 z7 z8 z9 z10 z11 z12 hl_74
        refine lv_ladd hx hb dX10_string_74 ?_
        refine lv_topl (fun w13 ew13 => ?_)
        refine lv_lstore_n (lv' := [(2, .long w13), (0, .ref a0), (1, .int a1), (4, .int x4_41)]) hx hb dX10_string_75 rfl hl_74 (by decide) rfl (fun l14 hl15 => ?_)
        obtain ⟨v16, ev16⟩ : ∃ y : Int32, x4_41 + Int32.ofInt (1) = y := ⟨_, rfl⟩
        have tv16 : v16.toInt = x4_41.toInt + (1) := by rw [← ev16]; exact (fb_addI (by rw [show (Int32.ofInt (1)).toInt = 1 from by decide +kernel]; omega) (by rw [show (Int32.ofInt (1)).toInt = 1 from by decide +kernel]; omega)).trans (by rw [show (Int32.ofInt (1)).toInt = 1 from by decide +kernel])
        refine lv_iinc (v := v16) (lv' := [(4, .int v16), (2, .long w13), (0, .ref a0), (1, .int a1)]) hx hb dX10_string_76 hl15 (k := 3) rfl ev16 (by decide) rfl (fun l17 hl18 => ?_)
        refine lv_goto (tgt := 41) hx hb dX10_string_79 (by decide) ?_
        exact ih_41 w13 v16 E_74 H_74 k_74 l17 S_74 F_74 (by omega) (by omega) (by omega) (by omega) (fun k hk => (z11 k hk)) (by omega) (by omega) (lv_sub hl18 [2, 3, 1, 0] rfl)
      refine lv_iload hx hb dX10_string_41 (lv_at hl_41 3 rfl) ?_
      refine lv_aload_n hx hb dX10_string_43 rfl (lv_at hl_41 0 rfl) ?_
      refine tr_geti Z.1 Z.2.2.2.1 S_41.1 S_41.2 ha0 ta0 rfl rfl (fun _ h => List.mem_cons_of_mem _ (List.mem_append_right _ h)) 8 (by decide) rfl (hts _ (List.mem_of_getElem? (i := 3) rfl)) dX10_string_44 (fun v19 ev19 lv19 uv19 => ?_)
      refine lv_icmp_ge (tgt := 82) hx hb dX10_string_47 (by decide) (fun c20 => ?_) (fun c20 => ?_)
      · skip
        have tc20 := nu_le c20
        refine lv_aload_n hx hb dX10_string_82 rfl (lv_at hl_41 0 rfl) ?_
        refine tr_getr Z.1 Z.2.2.2.1 S_41.1 S_41.2 ha0 ta0 rfl rfl (fun _ h => List.mem_cons_of_mem _ (List.mem_append_right _ h)) 0 (by decide) rfl (hts _ (List.mem_of_getElem? (i := 2) rfl)) dX10_string_83 (fun q21 eq21 hq21 tq21 => ?_)
        have tq21 : τ q21 = (60, 0) := tq21
        obtain ⟨v22, ev22, tv22⟩ : ∃ v : Int32, (Int8.ofInt (8)).toInt32 = v ∧ v.toInt = 8 := ⟨_, rfl, by decide +kernel⟩
        refine lv_bipush hx hb dX10_string_86 ev22 ?_
        refine lv_iload_n hx hb dX10_string_88 rfl (lv_at hl_41 1 rfl) ?_
        refine lv_iadd hx hb dX10_string_89 ?_
        refine lv_topi (fun v23 ev23 => ?_)
        have tv23 := nu_add ev23 (by omega) (by omega)
        refine tr_ialdx Z.1 Z.2.2.2.1 S_41.1 S_41.2 hq21 tq21 rfl (by omega) (by omega) dX10_string_90 (fun v24 ev24 lv24 uv24 => ?_)
        have bv24 : nowB v23.toNatClampNeg = (-2147483648, 2147483647) := nb_o (by show v23.toInt.toNat < 4 ∨ (8 ≤ v23.toInt.toNat ∧ v23.toInt.toNat ≤ 18) ∨ (20 ≤ v23.toInt.toNat ∧ v23.toInt.toNat ≤ 43); omega)
        rw [bv24] at lv24 uv24
        have lv24 : -2147483648 ≤ v24.toInt := lv24
        have uv24 : v24.toInt ≤ 2147483647 := uv24
        obtain ⟨w25, ew25⟩ : ∃ y : Int64, v24.toInt64 = y := ⟨_, rfl⟩
        refine lv_i2l hx hb dX10_string_91 ew25 ?_
        have tw25 : w25.toInt = v24.toInt := by rw [← ew25]; exact Int32.toInt_toInt64 v24
        refine lv_lstore (lv' := [(4, .long w25), (0, .ref a0), (1, .int a1), (2, .long x2_41)]) hx hb dX10_string_92 hl_41 (by decide) rfl (fun l26 hl27 => ?_)
        refine lv_aload_n hx hb dX10_string_94 rfl (lv_at hl27 1 rfl) ?_
        refine lv_ldc2 (v := (100)) hx hb Z.1.2.2.2.1 (hts _ (List.mem_of_getElem? (i := 6) rfl)) dX10_string_95 ?_
        refine lv_topl (fun w28 ew28 => ?_)
        have tw28 : w28.toInt = 100 := by rw [ew28]; decide +kernel
        refine lv_lload hx hb dX10_string_98 (lv_at hl27 0 rfl) ?_
        refine lv_lload hx hb dX10_string_100 (lv_at hl27 0 rfl) ?_
        refine lv_lmul hx hb dX10_string_102 ?_
        refine lv_topl (fun w29 ew29 => ?_)
        refine lv_lload_n hx hb dX10_string_103 rfl (lv_at hl27 3 rfl) ?_
        refine lv_lload_n hx hb dX10_string_104 rfl (lv_at hl27 3 rfl) ?_
        refine lv_lmul hx hb dX10_string_105 ?_
        refine lv_topl (fun w30 ew30 => ?_)
        refine lv_ladd hx hb dX10_string_106 ?_
        refine lv_topl (fun w31 ew31 => ?_)
        refine lv_lmul hx hb dX10_string_107 ?_
        refine lv_topl (fun w32 ew32 => ?_)
        refine tc_vi Z.1 Z.2.2.2.1 Z.2.2.2.2.1 Z.2.2.2.2.2 S_41.1 S_41.2 ha0 ta0 rfl rfl (k_X10_root l D cy S_41.2 ha0 ta0 w32) (cwV 1 hts gX10_string_X10_root rfl rfl rfl (by decide +kernel) ⟨Nat.le_of_ble_eq_true rfl, Nat.le_of_ble_eq_true rfl⟩) rfl hl27.1 rfl (Nat.le_of_ble_eq_true rfl) dX10_string_108 ⟨Nat.zero_le _, Nat.zero_le _⟩ (fun v36 E33 H34 k35 W33 I33 G33 p33 => ?_)
        have q33 := p33
        have q33 := q33.symm
        subst q33
        have S33 : Now D TB cy (va_A (va_pl L E) sz) s L τ E_41 H34 k35 := ⟨W33, I33⟩
        rw [← hQ]
        exact en_i Z S33 F_41 ⟨(by omega), (fun k hk => (z5 k hk))⟩ dX10_string_111
      · skip
        have tc20 := nu_nle c20
        refine lv_lload_n hx hb dX10_string_50 rfl (lv_at hl_41 2 rfl) ?_
        refine lv_aload_n hx hb dX10_string_51 rfl (lv_at hl_41 0 rfl) ?_
        refine tr_getr Z.1 Z.2.2.2.1 S_41.1 S_41.2 ha0 ta0 rfl rfl (fun _ h => List.mem_cons_of_mem _ (List.mem_append_right _ h)) 16 (by decide) rfl (hts _ (List.mem_of_getElem? (i := 4) rfl)) dX10_string_52 (fun q37 eq37 hq37 tq37 => ?_)
        have tq37 : τ q37 = (70, 0) := tq37
        refine lv_iload hx hb dX10_string_55 (lv_at hl_41 3 rfl) ?_
        refine tr_iald Z.1 Z.2.2.2.1 S_41.1 S_41.2 hq37 tq37 rfl (by omega) (by omega) dX10_string_57 (fun v38 ev38 lv38 uv38 => ?_)
        refine lv_iload_n hx hb dX10_string_58 rfl (lv_at hl_41 1 rfl) ?_
        refine lv_icmp_ne (tgt := 73) hx hb dX10_string_59 (by decide) (fun c39 => ?_) (fun c39 => ?_)
        · skip
          have tc39 := nu_ne c39
          refine lv_lconst (v := 0) hx hb dX10_string_73 (by decide +kernel) ?_
          refine lv_topl (fun w40 ew40 => ?_)
          have tw40 : w40.toInt = 0 := by rw [ew40]; decide +kernel
          exact J74 x2_41 w40 E_41 H_41 k_41 l_41 S_41 F_41 (by omega) (by omega) (by omega) (by omega) (fun k hk => (z5 k hk)) (by omega) (lv_sub hl_41 [0, 1, 3] rfl)
        · skip
          have tc39 := nu_eq c39
          refine lv_aload_n hx hb dX10_string_62 rfl (lv_at hl_41 0 rfl) ?_
          refine tr_getr Z.1 Z.2.2.2.1 S_41.1 S_41.2 ha0 ta0 rfl rfl (fun _ h => List.mem_cons_of_mem _ (List.mem_append_right _ h)) 10 (by decide) rfl (hts _ (List.mem_of_getElem? (i := 5) rfl)) dX10_string_63 (fun q41 eq41 hq41 tq41 => ?_)
          have tq41 : τ q41 = (64, 0) := tq41
          refine lv_iload hx hb dX10_string_66 (lv_at hl_41 3 rfl) ?_
          refine tr_iald Z.1 Z.2.2.2.1 S_41.1 S_41.2 hq41 tq41 rfl (by omega) (by omega) dX10_string_68 (fun v42 ev42 lv42 uv42 => ?_)
          obtain ⟨w43, ew43⟩ : ∃ y : Int64, v42.toInt64 = y := ⟨_, rfl⟩
          refine lv_i2l hx hb dX10_string_69 ew43 ?_
          have tw43 : w43.toInt = v42.toInt := by rw [← ew43]; exact Int32.toInt_toInt64 v42
          refine lv_goto (tgt := 74) hx hb dX10_string_70 (by decide) ?_
          exact J74 x2_41 w43 E_41 H_41 k_41 l_41 S_41 F_41 (by omega) (by omega) (by omega) (by omega) (fun k hk => (z5 k hk)) (by omega) (lv_sub hl_41 [0, 1, 3] rfl)
  refine lv_aload_n hx hb dX10_string_0 rfl (lv_at hl 0 rfl) ?_
  obtain ⟨v44, ev44, tv44⟩ : ∃ v : Int32, Int32.ofInt (0) = v ∧ v.toInt = 0 := ⟨_, rfl, by decide +kernel⟩
  refine lv_iconst hx hb dX10_string_1 ev44 ?_
  refine tr_puti Z.1 Z.2.2.2.1 S0.1 S0.2 ha0 ta0 rfl rfl (fun _ h => List.mem_cons_of_mem _ (List.mem_append_right _ h)) tyX10_ok nmX10 4 (by decide) rfl rfl rfl (hts _ (List.mem_of_getElem? (i := 1) rfl)) dX10_string_2 (by omega) (by omega) (fun E45 H46 k47 W45 I45 P45 => ?_)
  have S45 : Now D TB cy (va_A (va_pl L E) sz) s L τ E45 H46 k47 := ⟨W45, I45⟩
  have F45 : Fr L τ (inW [(11, 0), (62, 0), (63, 0), (64, 0), (65, 0), (66, 0), (67, 0), (68, 0), (69, 0), (70, 0), (71, 0)]) E E45 := Fr.put F0_ P45 ta0 rfl
  refine lv_aload_n hx hb dX10_string_5 rfl (lv_at hl 0 rfl) ?_
  refine lv_iload_n hx hb dX10_string_6 rfl (lv_at hl 1 rfl) ?_
  obtain ⟨v48, ev48, tv48⟩ : ∃ v : Int32, Int32.ofInt (0) = v ∧ v.toInt = 0 := ⟨_, rfl, by decide +kernel⟩
  refine lv_iconst hx hb dX10_string_7 ev48 ?_
  refine lv_aload_n hx hb dX10_string_8 rfl (lv_at hl 0 rfl) ?_
  refine tr_getr Z.1 Z.2.2.2.1 S45.1 S45.2 ha0 ta0 rfl rfl (fun _ h => List.mem_cons_of_mem _ (List.mem_append_right _ h)) 0 (by decide) rfl (hts _ (List.mem_of_getElem? (i := 2) rfl)) dX10_string_9 (fun q49 eq49 hq49 tq49 => ?_)
  have tq49 : τ q49 = (60, 0) := tq49
  obtain ⟨v50, ev50, tv50⟩ : ∃ v : Int32, Int32.ofInt (4) = v ∧ v.toInt = 4 := ⟨_, rfl, by decide +kernel⟩
  refine lv_iconst hx hb dX10_string_12 ev50 ?_
  refine tr_ialdx Z.1 Z.2.2.2.1 S45.1 S45.2 hq49 tq49 rfl (by omega) (by omega) dX10_string_13 (fun v51 ev51 lv51 uv51 => ?_)
  have bv51 : nowB v50.toNatClampNeg = (0, 3) := nb_4 (by show v50.toInt.toNat = 4; omega)
  rw [bv51] at lv51 uv51
  have lv51 : 0 ≤ v51.toInt := lv51
  have uv51 : v51.toInt ≤ 3 := uv51
  have av51 : ai E45 q49 4 = v51 := ai_at ev51 (by omega)
  obtain ⟨v52, ev52, tv52⟩ : ∃ v : Int32, Int32.ofInt (1) = v ∧ v.toInt = 1 := ⟨_, rfl, by decide +kernel⟩
  refine lv_iconst hx hb dX10_string_14 ev52 ?_
  refine lv_isub hx hb dX10_string_15 ?_
  refine lv_topi (fun v53 ev53 => ?_)
  have tv53 := nu_sub ev53 (by omega) (by omega)
  refine tc_vi Z.1 Z.2.2.2.1 Z.2.2.2.2.1 Z.2.2.2.2.2 S45.1 S45.2 ha0 ta0 rfl rfl (k_X10_in l D cy S45.2 ha0 ta0 a1 v48 v53) (cwV 3 hts gX10_string_X10_in rfl rfl rfl (by decide +kernel) ⟨Nat.le_of_ble_eq_true rfl, Nat.le_of_ble_eq_true rfl⟩) rfl hl.1 rfl (Nat.le_of_ble_eq_true rfl) dX10_string_16 ⟨Nat.zero_le _, Nat.zero_le _⟩ (fun v57 E54 H55 k56 W54 I54 G54 p54 => ?_)
  obtain ⟨q54, p54_0, p54_1, p54_2⟩ := p54
  have q54 := q54.symm
  subst q54
  have S54 : Now D TB cy (va_A (va_pl L E) sz) s L τ E45 H55 k56 := ⟨W54, I54⟩
  refine lv_if_ne (tgt := 28) hx hb dX10_string_19 (by decide) (fun c58 => ?_) (fun c58 => ?_)
  · skip
    have tc58 := nu_ne c58
    have uc58 : (0 : Int32).toInt = 0 := rfl
    refine lv_aload_n hx hb dX10_string_28 rfl (lv_at hl 0 rfl) ?_
    refine tc_vv Z.1 Z.2.2.2.1 Z.2.2.2.2.1 Z.2.2.2.2.2 S54.1 S54.2 ha0 ta0 rfl rfl (k_X10_good_vw l D cy S54.2 ha0 ta0) (cwV 0 hts gX10_string_X10_good rfl rfl rfl (by decide +kernel) ⟨Nat.le_of_ble_eq_true rfl, Nat.le_of_ble_eq_true rfl⟩) rfl hl.1 rfl (Nat.le_of_ble_eq_true rfl) dX10_string_29 ⟨Nat.zero_le _, Nat.zero_le _⟩ (fun E59 H60 k61 W59 I59 G59 p59 => ?_)
    obtain ⟨p59_0, p59_1⟩ := p59
    have S59 : Now D TB cy (va_A (va_pl L E) sz) s L τ E59 H60 k61 := ⟨W59, I59⟩
    have F59 : Fr L τ (inW [(11, 0), (62, 0), (63, 0), (64, 0), (65, 0), (66, 0), (67, 0), (68, 0), (69, 0), (70, 0), (71, 0)]) E E59 := F45.trans (G59.mono (inW_mono (by decide)))
    have kz59_3 := fi_rng (k := 3) S59.2 ha0 ta0 rfl rfl
    refine lv_aload_n hx hb dX10_string_32 rfl (lv_at hl 0 rfl) ?_
    refine tc_vv Z.1 Z.2.2.2.1 Z.2.2.2.2.1 Z.2.2.2.2.2 S59.1 S59.2 ha0 ta0 rfl rfl (k_X10_asTold l D cy S59.2 ha0 ta0) (cwV 0 hts gX10_string_X10_asTold rfl rfl rfl (by decide +kernel) ⟨Nat.le_of_ble_eq_true rfl, Nat.le_of_ble_eq_true rfl⟩) rfl hl.1 rfl (Nat.le_of_ble_eq_true rfl) dX10_string_33 ⟨Nat.zero_le _, Nat.zero_le _⟩ (fun E63 H64 k65 W63 I63 G63 p63 => ?_)
    have p63_0 := p63
    have S63 : Now D TB cy (va_A (va_pl L E) sz) s L τ E63 H64 k65 := ⟨W63, I63⟩
    have F63 : Fr L τ (inW [(11, 0), (62, 0), (63, 0), (64, 0), (65, 0), (66, 0), (67, 0), (68, 0), (69, 0), (70, 0), (71, 0)]) E E63 := F59.trans (G63.mono (inW_mono (by decide)))
    refine lv_lconst (v := 0) hx hb dX10_string_36 (by decide +kernel) ?_
    refine lv_topl (fun w67 ew67 => ?_)
    have tw67 : w67.toInt = 0 := by rw [ew67]; decide +kernel
    refine lv_lstore_n (lv' := [(2, .long w67), (0, .ref a0), (1, .int a1)]) hx hb dX10_string_37 rfl hl (by decide) rfl (fun l68 hl69 => ?_)
    obtain ⟨v70, ev70, tv70⟩ : ∃ v : Int32, Int32.ofInt (0) = v ∧ v.toInt = 0 := ⟨_, rfl, by decide +kernel⟩
    refine lv_iconst hx hb dX10_string_38 ev70 ?_
    refine lv_istore (lv' := [(4, .int v70), (2, .long w67), (0, .ref a0), (1, .int a1)]) hx hb dX10_string_39 hl69 (by decide) rfl (fun l71 hl72 => ?_)
    exact J41 _ w67 v70 E63 H64 k65 l71 S63 F63 (by omega) (by omega) (by omega) (by omega) (fun k hk => ((p63_0 k (fw_sub (by decide) hk)).trans ((p59_1 k (fw_sub (by decide) hk)).trans ((fi_put P45 (Or.inr (fw_ne (by decide) hk))).trans ((fun k hk => rfl) k hk))))) (by rw [((p63_0 3 (by decide)).trans rfl)]; omega) (Nat.lt_succ_self _) (lv_sub hl72 [2, 3, 1, 0] rfl)
  · skip
    have tc58 := nu_eq c58
    have uc58 : (0 : Int32).toInt = 0 := rfl
    refine lv_aload_n hx hb dX10_string_22 rfl (lv_at hl 0 rfl) ?_
    obtain ⟨v73, ev73, tv73⟩ : ∃ v : Int32, Int32.ofInt (4) = v ∧ v.toInt = 4 := ⟨_, rfl, by decide +kernel⟩
    refine lv_iconst hx hb dX10_string_23 ev73 ?_
    refine tc_vi Z.1 Z.2.2.2.1 Z.2.2.2.2.1 Z.2.2.2.2.2 S54.1 S54.2 ha0 ta0 rfl rfl (k_X10_no_vw l D cy S54.2 ha0 ta0 v73) (cwV 1 hts gX10_string_X10_no rfl rfl rfl (by decide +kernel) ⟨Nat.le_of_ble_eq_true rfl, Nat.le_of_ble_eq_true rfl⟩) rfl hl.1 rfl (Nat.le_of_ble_eq_true rfl) dX10_string_24 ⟨Nat.zero_le _, Nat.zero_le _⟩ (fun v77 E74 H75 k76 W74 I74 G74 p74 => ?_)
    obtain ⟨p74_0, p74_1, p74_2, p74_3⟩ := p74
    have S74 : Now D TB cy (va_A (va_pl L E) sz) s L τ E74 H75 k76 := ⟨W74, I74⟩
    have F74 : Fr L τ (inW [(11, 0), (62, 0), (63, 0), (64, 0), (65, 0), (66, 0), (67, 0), (68, 0), (69, 0), (70, 0), (71, 0)]) E E74 := F45.trans (G74.mono (inW_mono (by decide)))
    have kz74_3 := fi_rng (k := 3) S74.2 ha0 ta0 rfl rfl
    rw [← hQ]
    exact en_i Z S74 F74 ⟨(by omega), (fun k hk => ((p74_3 k (fw_sub (by decide) hk)).trans ((fi_put P45 (Or.inr (fw_ne (by decide) hk))).trans ((fun k hk => rfl) k hk))))⟩ dX10_string_27

set_option maxHeartbeats 4000000 in
set_option maxRecDepth 100000 in
theorem k_X10_boards_vw (l : Launch) (D : va_G) (cy : Nat → ClassId) {L : List Nat} {τ : Nat → Ro} {E : Ec} (hI : Inv TB cy L τ E) {a0 : Nat} (ha0 : a0 ∈ L) (ta0 : τ a0 = (11, 0)) (a1 : Int32) : CtI l yX10_boards wsX10_boards { frames := 1, cells := 0, slots := 0, locals := 23 } D TB cy L τ E [.ref a0, .int a1] (inW [(11, 0), (84, 0), (85, 0)]) (fun r E' => ((fi E' a0 3).toInt ≠ 2) ∧ (∀ k : Nat, k ∉ ([3, 4, 6] : List Nat) → fi E' a0 k = fi E a0 k)) := by
  intro sz
  refine sta (cc := cX10_boards) (maxL := 8) hI (by decide) rfl (Nat.le_of_ble_eq_true rfl) (fun p e s m args below meth c ls hsz Z S0 hl => ?_)
  have hx := Z.1.1
  have hb := Z.1.2.1
  have hts := Z.1.2.2.2.2
  have F0_ : Fr L τ (inW [(11, 0), (84, 0), (85, 0)]) E E := Fr.refl
  have hl : lv_has ls 8 [(0, .ref a0), (1, .int a1)] := hl
  generalize hQ : MQ below _ args s 0 0 _ = QQ
  have J72 : ∀ (n : Nat) (x2_72 : Int32) (E_72 : Ec) (H_72 : Heap) (k_72 : List Loc) (l_72 : Array Slot), Now D TB cy (va_A (va_pl L E) sz) s L τ E_72 H_72 k_72 → Fr L τ (inW [(11, 0), (84, 0), (85, 0)]) E E_72 → (1 ≤ a1.toInt) → (a1.toInt ≤ 10000) → (1 ≤ x2_72.toInt) → (x2_72.toInt ≤ 4096) → (∀ k : Nat, k ∉ ([3, 4, 6] : List Nat) → fi E_72 a0 k = fi E a0 k) → (-2147483648 ≤ (fi E_72 a0 3).toInt ∧ (fi E_72 a0 3).toInt ≤ 2147483647 ∧ (fi E_72 a0 3).toInt ≠ 2) → (4096 - x2_72.toInt).toNat < n → lv_has l_72 8 [(0, .ref a0), (1, .int a1), (2, .int x2_72)] → W p l e { frames := 1, cells := 0, slots := 0, locals := 23 } s m args below meth c H_72 k_72 0 0 QQ (F0 m 72 l_72 []) := by
    intro n
    induction n with
    | zero => intro x2_72 E_72 H_72 k_72 l_72 S_72 F_72 z1 z2 z3 z4 z5 z6 hm hl_72; exact absurd hm (Nat.not_lt_zero _)
    | succ n ih =>
      intro x2_72 E_72 H_72 k_72 l_72 S_72 F_72 z1 z2 z3 z4 z5 z6 hm hl_72
      have ih_72 := ih
      have J99 : ∀ (n : Nat) (x3_99 : Int32) (E_99 : Ec) (H_99 : Heap) (k_99 : List Loc) (l_99 : Array Slot), Now D TB cy (va_A (va_pl L E) sz) s L τ E_99 H_99 k_99 → Fr L τ (inW [(11, 0), (84, 0), (85, 0)]) E E_99 → (1 ≤ a1.toInt) → (a1.toInt ≤ 10000) → (1 ≤ x2_72.toInt) → (x2_72.toInt ≤ 4095) → (0 ≤ x3_99.toInt) → (x3_99.toInt ≤ 12) → (∀ k : Nat, k ∉ ([3, 4, 6] : List Nat) → fi E_99 a0 k = fi E a0 k) → (-2147483648 ≤ (fi E_99 a0 3).toInt ∧ (fi E_99 a0 3).toInt ≤ 2147483647 ∧ (fi E_99 a0 3).toInt ≠ 2) → (12 - x3_99.toInt).toNat < n → lv_has l_99 8 [(0, .ref a0), (1, .int a1), (2, .int x2_72), (3, .int x3_99)] → W p l e { frames := 1, cells := 0, slots := 0, locals := 23 } s m args below meth c H_99 k_99 0 0 QQ (F0 m 99 l_99 []) := by
        intro n
        induction n with
        | zero => intro x3_99 E_99 H_99 k_99 l_99 S_99 F_99 z7 z8 z9 z10 z11 z12 z13 z14 hm hl_99; exact absurd hm (Nat.not_lt_zero _)
        | succ n ih =>
          intro x3_99 E_99 H_99 k_99 l_99 S_99 F_99 z7 z8 z9 z10 z11 z12 z13 z14 hm hl_99
          have ih_99 := ih
          have J258 : ∀  (E_258 : Ec) (H_258 : Heap) (k_258 : List Loc) (l_258 : Array Slot), Now D TB cy (va_A (va_pl L E) sz) s L τ E_258 H_258 k_258 → Fr L τ (inW [(11, 0), (84, 0), (85, 0)]) E E_258 → (1 ≤ a1.toInt) → (a1.toInt ≤ 10000) → (1 ≤ x2_72.toInt) → (x2_72.toInt ≤ 4095) → (0 ≤ x3_99.toInt) → (x3_99.toInt ≤ 11) → (∀ k : Nat, k ∉ ([3, 4, 6] : List Nat) → fi E_258 a0 k = fi E a0 k) → (-2147483648 ≤ (fi E_258 a0 3).toInt ∧ (fi E_258 a0 3).toInt ≤ 2147483647 ∧ (fi E_258 a0 3).toInt ≠ 2) → lv_has l_258 8 [(0, .ref a0), (1, .int a1), (2, .int x2_72), (3, .int x3_99)] → W p l e { frames := 1, cells := 0, slots := 0, locals := 23 } s m args below meth c H_258 k_258 0 0 QQ (F0 m 258 l_258 []) := by
            intro  E_258 H_258 k_258 l_258 S_258 F_258 z15 z16 z17 z18 z19 z20 z21 z22 hl_258
            obtain ⟨v23, ev23⟩ : ∃ y : Int32, x3_99 + Int32.ofInt (1) = y := ⟨_, rfl⟩
            have tv23 : v23.toInt = x3_99.toInt + (1) := by rw [← ev23]; exact (fb_addI (by rw [show (Int32.ofInt (1)).toInt = 1 from by decide +kernel]; omega) (by rw [show (Int32.ofInt (1)).toInt = 1 from by decide +kernel]; omega)).trans (by rw [show (Int32.ofInt (1)).toInt = 1 from by decide +kernel])
            refine lv_iinc (v := v23) (lv' := [(3, .int v23), (0, .ref a0), (1, .int a1), (2, .int x2_72)]) hx hb dX10_boards_258 hl_258 (k := 3) rfl ev23 (by decide) rfl (fun l24 hl25 => ?_)
            refine lv_goto (tgt := 99) hx hb dX10_boards_261 (by decide) ?_
            exact ih_99 v23 E_258 H_258 k_258 l24 S_258 F_258 (by omega) (by omega) (by omega) (by omega) (by omega) (by omega) (fun k hk => (z21 k hk)) (by omega) (by omega) (lv_sub hl25 [1, 2, 3, 0] rfl)
          have J242 : ∀ (x6_242 : Int32) (x7_242 : Int32) (E_242 : Ec) (H_242 : Heap) (k_242 : List Loc) (l_242 : Array Slot), Now D TB cy (va_A (va_pl L E) sz) s L τ E_242 H_242 k_242 → Fr L τ (inW [(11, 0), (84, 0), (85, 0)]) E E_242 → (1 ≤ a1.toInt) → (a1.toInt ≤ 10000) → (1 ≤ x2_72.toInt) → (x2_72.toInt ≤ 4095) → (0 ≤ x3_99.toInt) → (x3_99.toInt ≤ 11) → (∀ k : Nat, k ∉ ([3, 4, 6] : List Nat) → fi E_242 a0 k = fi E a0 k) → (-2147483648 ≤ (fi E_242 a0 3).toInt ∧ (fi E_242 a0 3).toInt ≤ 2147483647 ∧ (fi E_242 a0 3).toInt ≠ 2) → lv_has l_242 8 [(0, .ref a0), (1, .int a1), (2, .int x2_72), (3, .int x3_99), (6, .int x6_242), (7, .int x7_242)] → W p l e { frames := 1, cells := 0, slots := 0, locals := 23 } s m args below meth c H_242 k_242 0 0 QQ (F0 m 242 l_242 []) := by
            intro x6_242 x7_242 E_242 H_242 k_242 l_242 S_242 F_242 z26 z27 z28 z29 z30 z31 z32 z33 hl_242
            refine lv_aload_n hx hb dX10_boards_242 rfl (lv_at hl_242 0 rfl) ?_
            refine tr_getr Z.1 Z.2.2.2.1 S_242.1 S_242.2 ha0 ta0 rfl rfl (fun _ h => List.mem_cons_of_mem _ (List.mem_append_right _ h)) 43 (by decide) rfl (hts _ (List.mem_of_getElem? (i := 4) rfl)) dX10_boards_243 (fun q34 eq34 hq34 tq34 => ?_)
            have tq34 : τ q34 = (84, 0) := tq34
            refine lv_iload_n hx hb dX10_boards_246 rfl (lv_at hl_242 2 rfl) ?_
            refine lv_iload hx hb dX10_boards_247 (lv_at hl_242 4 rfl) ?_
            refine tr_iast Z.1 Z.2.2.2.1 S_242.1 S_242.2 hq34 tq34 rfl (by omega) (by omega) (by have := fb_rng x6_242; omega) (by have := fb_rng x6_242; omega) dX10_boards_249 (fun E35 H36 k37 W35 I35 P35 => ?_)
            have S35 : Now D TB cy (va_A (va_pl L E) sz) s L τ E35 H36 k37 := ⟨W35, I35⟩
            have F35 : Fr L τ (inW [(11, 0), (84, 0), (85, 0)]) E E35 := Fr.set F_242 P35 tq34 rfl
            refine lv_aload_n hx hb dX10_boards_250 rfl (lv_at hl_242 0 rfl) ?_
            refine tr_getr Z.1 Z.2.2.2.1 S35.1 S35.2 ha0 ta0 rfl rfl (fun _ h => List.mem_cons_of_mem _ (List.mem_append_right _ h)) 44 (by decide) rfl (hts _ (List.mem_of_getElem? (i := 5) rfl)) dX10_boards_251 (fun q38 eq38 hq38 tq38 => ?_)
            have tq38 : τ q38 = (85, 0) := tq38
            refine lv_iload_n hx hb dX10_boards_254 rfl (lv_at hl_242 2 rfl) ?_
            refine lv_iload hx hb dX10_boards_255 (lv_at hl_242 5 rfl) ?_
            refine tr_iast Z.1 Z.2.2.2.1 S35.1 S35.2 hq38 tq38 rfl (by omega) (by omega) (by have := fb_rng x7_242; omega) (by have := fb_rng x7_242; omega) dX10_boards_257 (fun E39 H40 k41 W39 I39 P39 => ?_)
            have S39 : Now D TB cy (va_A (va_pl L E) sz) s L τ E39 H40 k41 := ⟨W39, I39⟩
            have F39 : Fr L τ (inW [(11, 0), (84, 0), (85, 0)]) E E39 := Fr.set F35 P39 tq38 rfl
            exact J258 E39 H40 k41 l_242 S39 F39 (by have := fb_rng x6_242; have := fb_rng x7_242; omega) (by have := fb_rng x6_242; have := fb_rng x7_242; omega) (by have := fb_rng x6_242; have := fb_rng x7_242; omega) (by have := fb_rng x6_242; have := fb_rng x7_242; omega) (by have := fb_rng x6_242; have := fb_rng x7_242; omega) (by have := fb_rng x6_242; have := fb_rng x7_242; omega) (fun k hk => ((fi_set P39 (ne_ro ta0 tq38 (by decide))).trans ((fi_set P35 (ne_ro ta0 tq34 (by decide))).trans (z32 k hk)))) (by rw [((fi_set (k := 3) P39 (ne_ro ta0 tq38 (by decide))).trans ((fi_set (k := 3) P35 (ne_ro ta0 tq34 (by decide))).trans rfl))]; have := fb_rng x6_242; have := fb_rng x7_242; omega) (lv_sub hl_242 [0, 1, 2, 3] rfl)
          have J204 : ∀ (x6_204 : Int32) (y0_204 : Int32) (E_204 : Ec) (H_204 : Heap) (k_204 : List Loc) (l_204 : Array Slot), Now D TB cy (va_A (va_pl L E) sz) s L τ E_204 H_204 k_204 → Fr L τ (inW [(11, 0), (84, 0), (85, 0)]) E E_204 → (1 ≤ a1.toInt) → (a1.toInt ≤ 10000) → (1 ≤ x2_72.toInt) → (x2_72.toInt ≤ 4095) → (0 ≤ x3_99.toInt) → (x3_99.toInt ≤ 11) → (∀ k : Nat, k ∉ ([3, 4, 6] : List Nat) → fi E_204 a0 k = fi E a0 k) → (-2147483648 ≤ (fi E_204 a0 3).toInt ∧ (fi E_204 a0 3).toInt ≤ 2147483647 ∧ (fi E_204 a0 3).toInt ≠ 2) → lv_has l_204 8 [(0, .ref a0), (1, .int a1), (2, .int x2_72), (3, .int x3_99), (6, .int x6_204)] → W p l e { frames := 1, cells := 0, slots := 0, locals := 23 } s m args below meth c H_204 k_204 0 0 QQ (F0 m 204 l_204 [.int y0_204]) := by
            intro x6_204 y0_204 E_204 H_204 k_204 l_204 S_204 F_204 z42 z43 z44 z45 z46 z47 z48 z49 hl_204
            refine lv_istore (lv' := [(7, .int y0_204), (0, .ref a0), (1, .int a1), (2, .int x2_72), (3, .int x3_99), (6, .int x6_204)]) hx hb dX10_boards_204 hl_204 (by decide) rfl (fun l50 hl51 => ?_)
            refine lv_iload hx hb dX10_boards_206 (lv_at hl51 5 rfl) ?_
            refine lv_aload_n hx hb dX10_boards_208 rfl (lv_at hl51 1 rfl) ?_
            refine tr_getr Z.1 Z.2.2.2.1 S_204.1 S_204.2 ha0 ta0 rfl rfl (fun _ h => List.mem_cons_of_mem _ (List.mem_append_right _ h)) 43 (by decide) rfl (hts _ (List.mem_of_getElem? (i := 4) rfl)) dX10_boards_209 (fun q52 eq52 hq52 tq52 => ?_)
            have tq52 : τ q52 = (84, 0) := tq52
            refine lv_iload_n hx hb dX10_boards_212 rfl (lv_at hl51 3 rfl) ?_
            refine tr_iald Z.1 Z.2.2.2.1 S_204.1 S_204.2 hq52 tq52 rfl (by omega) (by omega) dX10_boards_213 (fun v53 ev53 lv53 uv53 => ?_)
            refine lv_icmp_gt (tgt := 258) hx hb dX10_boards_214 (by decide) (fun c54 => ?_) (fun c54 => ?_)
            · skip
              have tc54 := nu_lt c54
              exact J258 E_204 H_204 k_204 l50 S_204 F_204 (by have := fb_rng y0_204; have := fb_rng x6_204; omega) (by have := fb_rng y0_204; have := fb_rng x6_204; omega) (by have := fb_rng y0_204; have := fb_rng x6_204; omega) (by have := fb_rng y0_204; have := fb_rng x6_204; omega) (by have := fb_rng y0_204; have := fb_rng x6_204; omega) (by have := fb_rng y0_204; have := fb_rng x6_204; omega) (fun k hk => (z48 k hk)) (by have := fb_rng y0_204; have := fb_rng x6_204; omega) (lv_sub hl51 [1, 2, 3, 4] rfl)
            · skip
              have tc54 := nu_nlt c54
              refine lv_iload hx hb dX10_boards_217 (lv_at hl51 5 rfl) ?_
              refine lv_aload_n hx hb dX10_boards_219 rfl (lv_at hl51 1 rfl) ?_
              refine tr_getr Z.1 Z.2.2.2.1 S_204.1 S_204.2 ha0 ta0 rfl rfl (fun _ h => List.mem_cons_of_mem _ (List.mem_append_right _ h)) 43 (by decide) rfl (hts _ (List.mem_of_getElem? (i := 4) rfl)) dX10_boards_220 (fun q55 eq55 hq55 tq55 => ?_)
              have tq55 : τ q55 = (84, 0) := tq55
              have uq55 : q52 = q55 := S_204.2.2.2.2 _ hq52 _ hq55 (tq52.trans tq55.symm) (by rw [tq52]; rfl)
              subst uq55
              refine lv_iload_n hx hb dX10_boards_223 rfl (lv_at hl51 3 rfl) ?_
              refine tr_iald Z.1 Z.2.2.2.1 S_204.1 S_204.2 hq52 tq52 rfl (by omega) (by omega) dX10_boards_224 (fun v56 ev56 lv56 uv56 => ?_)
              refine lv_icmp_ne (tgt := 242) hx hb dX10_boards_225 (by decide) (fun c57 => ?_) (fun c57 => ?_)
              · skip
                have tc57 := nu_ne c57
                exact J242 x6_204 y0_204 E_204 H_204 k_204 l50 S_204 F_204 (by have := fb_rng y0_204; have := fb_rng x6_204; omega) (by have := fb_rng y0_204; have := fb_rng x6_204; omega) (by have := fb_rng y0_204; have := fb_rng x6_204; omega) (by have := fb_rng y0_204; have := fb_rng x6_204; omega) (by have := fb_rng y0_204; have := fb_rng x6_204; omega) (by have := fb_rng y0_204; have := fb_rng x6_204; omega) (fun k hk => (z48 k hk)) (by have := fb_rng y0_204; have := fb_rng x6_204; omega) (lv_sub hl51 [1, 2, 3, 4, 5, 0] rfl)
              · skip
                have tc57 := nu_eq c57
                refine lv_iload hx hb dX10_boards_228 (lv_at hl51 0 rfl) ?_
                refine lv_aload_n hx hb dX10_boards_230 rfl (lv_at hl51 1 rfl) ?_
                refine tr_getr Z.1 Z.2.2.2.1 S_204.1 S_204.2 ha0 ta0 rfl rfl (fun _ h => List.mem_cons_of_mem _ (List.mem_append_right _ h)) 44 (by decide) rfl (hts _ (List.mem_of_getElem? (i := 5) rfl)) dX10_boards_231 (fun q58 eq58 hq58 tq58 => ?_)
                have tq58 : τ q58 = (85, 0) := tq58
                refine lv_iload_n hx hb dX10_boards_234 rfl (lv_at hl51 3 rfl) ?_
                refine tr_iald Z.1 Z.2.2.2.1 S_204.1 S_204.2 hq58 tq58 rfl (by omega) (by omega) dX10_boards_235 (fun v59 ev59 lv59 uv59 => ?_)
                refine lv_icmp_lt (tgt := 242) hx hb dX10_boards_236 (by decide) (fun c60 => ?_) (fun c60 => ?_)
                · skip
                  have tc60 := nu_lt c60
                  exact J242 x6_204 y0_204 E_204 H_204 k_204 l50 S_204 F_204 (by have := fb_rng y0_204; have := fb_rng x6_204; omega) (by have := fb_rng y0_204; have := fb_rng x6_204; omega) (by have := fb_rng y0_204; have := fb_rng x6_204; omega) (by have := fb_rng y0_204; have := fb_rng x6_204; omega) (by have := fb_rng y0_204; have := fb_rng x6_204; omega) (by have := fb_rng y0_204; have := fb_rng x6_204; omega) (fun k hk => (z48 k hk)) (by have := fb_rng y0_204; have := fb_rng x6_204; omega) (lv_sub hl51 [1, 2, 3, 4, 5, 0] rfl)
                · skip
                  have tc60 := nu_nlt c60
                  refine lv_goto (tgt := 258) hx hb dX10_boards_239 (by decide) ?_
                  exact J258 E_204 H_204 k_204 l50 S_204 F_204 (by have := fb_rng y0_204; have := fb_rng x6_204; omega) (by have := fb_rng y0_204; have := fb_rng x6_204; omega) (by have := fb_rng y0_204; have := fb_rng x6_204; omega) (by have := fb_rng y0_204; have := fb_rng x6_204; omega) (by have := fb_rng y0_204; have := fb_rng x6_204; omega) (by have := fb_rng y0_204; have := fb_rng x6_204; omega) (fun k hk => (z48 k hk)) (by have := fb_rng y0_204; have := fb_rng x6_204; omega) (lv_sub hl51 [1, 2, 3, 4] rfl)
          have J174 : ∀ (x4_174 : Int32) (x5_174 : Int32) (y0_174 : Int32) (E_174 : Ec) (H_174 : Heap) (k_174 : List Loc) (l_174 : Array Slot), Now D TB cy (va_A (va_pl L E) sz) s L τ E_174 H_174 k_174 → Fr L τ (inW [(11, 0), (84, 0), (85, 0)]) E E_174 → (1 ≤ a1.toInt) → (a1.toInt ≤ 10000) → (1 ≤ x2_72.toInt) → (x2_72.toInt ≤ 4095) → (0 ≤ x3_99.toInt) → (x3_99.toInt ≤ 11) → (0 ≤ x4_174.toInt) → (x4_174.toInt ≤ 4095) → (0 ≤ x5_174.toInt) → (x5_174.toInt ≤ 1) → (∀ k : Nat, k ∉ ([3, 4, 6] : List Nat) → fi E_174 a0 k = fi E a0 k) → (-2147483648 ≤ (fi E_174 a0 3).toInt ∧ (fi E_174 a0 3).toInt ≤ 2147483647 ∧ (fi E_174 a0 3).toInt ≠ 2) → lv_has l_174 8 [(0, .ref a0), (1, .int a1), (2, .int x2_72), (3, .int x3_99), (4, .int x4_174), (5, .int x5_174)] → W p l e { frames := 1, cells := 0, slots := 0, locals := 23 } s m args below meth c H_174 k_174 0 0 QQ (F0 m 174 l_174 [.int y0_174]) := by
            intro x4_174 x5_174 y0_174 E_174 H_174 k_174 l_174 S_174 F_174 z61 z62 z63 z64 z65 z66 z67 z68 z69 z70 z71 z72 hl_174
            refine lv_istore (lv' := [(6, .int y0_174), (0, .ref a0), (1, .int a1), (2, .int x2_72), (3, .int x3_99), (4, .int x4_174), (5, .int x5_174)]) hx hb dX10_boards_174 hl_174 (by decide) rfl (fun l73 hl74 => ?_)
            refine lv_iload hx hb dX10_boards_176 (lv_at hl74 6 rfl) ?_
            refine lv_if_eq (tgt := 198) hx hb dX10_boards_178 (by decide) (fun c75 => ?_) (fun c75 => ?_)
            · skip
              have tc75 := nu_eq c75
              have uc75 : (0 : Int32).toInt = 0 := rfl
              refine lv_aload_n hx hb dX10_boards_198 rfl (lv_at hl74 1 rfl) ?_
              refine tr_getr Z.1 Z.2.2.2.1 S_174.1 S_174.2 ha0 ta0 rfl rfl (fun _ h => List.mem_cons_of_mem _ (List.mem_append_right _ h)) 42 (by decide) rfl (hts _ (List.mem_of_getElem? (i := 3) rfl)) dX10_boards_199 (fun q76 eq76 hq76 tq76 => ?_)
              have tq76 : τ q76 = (83, 0) := tq76
              refine lv_iload_n hx hb dX10_boards_202 rfl (lv_at hl74 4 rfl) ?_
              refine tr_iald Z.1 Z.2.2.2.1 S_174.1 S_174.2 hq76 tq76 rfl (by omega) (by omega) dX10_boards_203 (fun v77 ev77 lv77 uv77 => ?_)
              exact J204 y0_174 v77 E_174 H_174 k_174 l73 S_174 F_174 (by have := fb_rng y0_174; omega) (by have := fb_rng y0_174; omega) (by have := fb_rng y0_174; omega) (by have := fb_rng y0_174; omega) (by have := fb_rng y0_174; omega) (by have := fb_rng y0_174; omega) (fun k hk => (z71 k hk)) (by have := fb_rng y0_174; omega) (lv_sub hl74 [1, 2, 3, 4, 0] rfl)
            · skip
              have tc75 := nu_ne c75
              have uc75 : (0 : Int32).toInt = 0 := rfl
              refine lv_aload_n hx hb dX10_boards_181 rfl (lv_at hl74 1 rfl) ?_
              refine tr_getr Z.1 Z.2.2.2.1 S_174.1 S_174.2 ha0 ta0 rfl rfl (fun _ h => List.mem_cons_of_mem _ (List.mem_append_right _ h)) 44 (by decide) rfl (hts _ (List.mem_of_getElem? (i := 5) rfl)) dX10_boards_182 (fun q78 eq78 hq78 tq78 => ?_)
              have tq78 : τ q78 = (85, 0) := tq78
              refine lv_iload hx hb dX10_boards_185 (lv_at hl74 5 rfl) ?_
              refine tr_iald Z.1 Z.2.2.2.1 S_174.1 S_174.2 hq78 tq78 rfl (by omega) (by omega) dX10_boards_187 (fun v79 ev79 lv79 uv79 => ?_)
              refine lv_aload_n hx hb dX10_boards_188 rfl (lv_at hl74 1 rfl) ?_
              refine tr_getr Z.1 Z.2.2.2.1 S_174.1 S_174.2 ha0 ta0 rfl rfl (fun _ h => List.mem_cons_of_mem _ (List.mem_append_right _ h)) 42 (by decide) rfl (hts _ (List.mem_of_getElem? (i := 3) rfl)) dX10_boards_189 (fun q80 eq80 hq80 tq80 => ?_)
              have tq80 : τ q80 = (83, 0) := tq80
              refine lv_iload_n hx hb dX10_boards_192 rfl (lv_at hl74 4 rfl) ?_
              refine tr_iald Z.1 Z.2.2.2.1 S_174.1 S_174.2 hq80 tq80 rfl (by omega) (by omega) dX10_boards_193 (fun v81 ev81 lv81 uv81 => ?_)
              refine lv_iadd hx hb dX10_boards_194 ?_
              refine lv_topi (fun v82 ev82 => ?_)
              refine lv_goto (tgt := 204) hx hb dX10_boards_195 (by decide) ?_
              exact J204 y0_174 v82 E_174 H_174 k_174 l73 S_174 F_174 (by have := fb_rng y0_174; omega) (by have := fb_rng y0_174; omega) (by have := fb_rng y0_174; omega) (by have := fb_rng y0_174; omega) (by have := fb_rng y0_174; omega) (by have := fb_rng y0_174; omega) (fun k hk => (z71 k hk)) (by have := fb_rng y0_174; omega) (lv_sub hl74 [1, 2, 3, 4, 0] rfl)
          have J148 : ∀ (x4_148 : Int32) (y0_148 : Int32) (E_148 : Ec) (H_148 : Heap) (k_148 : List Loc) (l_148 : Array Slot), Now D TB cy (va_A (va_pl L E) sz) s L τ E_148 H_148 k_148 → Fr L τ (inW [(11, 0), (84, 0), (85, 0)]) E E_148 → (1 ≤ a1.toInt) → (a1.toInt ≤ 10000) → (1 ≤ x2_72.toInt) → (x2_72.toInt ≤ 4095) → (0 ≤ x3_99.toInt) → (x3_99.toInt ≤ 11) → (0 ≤ x4_148.toInt) → (x4_148.toInt ≤ 4095) → (0 ≤ y0_148.toInt) → (y0_148.toInt ≤ 1) → (∀ k : Nat, k ∉ ([3, 4, 6] : List Nat) → fi E_148 a0 k = fi E a0 k) → (-2147483648 ≤ (fi E_148 a0 3).toInt ∧ (fi E_148 a0 3).toInt ≤ 2147483647 ∧ (fi E_148 a0 3).toInt ≠ 2) → lv_has l_148 8 [(0, .ref a0), (1, .int a1), (2, .int x2_72), (3, .int x3_99), (4, .int x4_148)] → W p l e { frames := 1, cells := 0, slots := 0, locals := 23 } s m args below meth c H_148 k_148 0 0 QQ (F0 m 148 l_148 [.int y0_148]) := by
            intro x4_148 y0_148 E_148 H_148 k_148 l_148 S_148 F_148 z83 z84 z85 z86 z87 z88 z89 z90 z91 z92 z93 z94 hl_148
            refine lv_istore (lv' := [(5, .int y0_148), (0, .ref a0), (1, .int a1), (2, .int x2_72), (3, .int x3_99), (4, .int x4_148)]) hx hb dX10_boards_148 hl_148 (by decide) rfl (fun l95 hl96 => ?_)
            refine lv_iload hx hb dX10_boards_150 (lv_at hl96 0 rfl) ?_
            refine lv_if_eq (tgt := 165) hx hb dX10_boards_152 (by decide) (fun c97 => ?_) (fun c97 => ?_)
            · skip
              have tc97 := nu_eq c97
              have uc97 : (0 : Int32).toInt = 0 := rfl
              refine lv_aload_n hx hb dX10_boards_165 rfl (lv_at hl96 1 rfl) ?_
              refine tr_getr Z.1 Z.2.2.2.1 S_148.1 S_148.2 ha0 ta0 rfl rfl (fun _ h => List.mem_cons_of_mem _ (List.mem_append_right _ h)) 43 (by decide) rfl (hts _ (List.mem_of_getElem? (i := 4) rfl)) dX10_boards_166 (fun q98 eq98 hq98 tq98 => ?_)
              have tq98 : τ q98 = (84, 0) := tq98
              refine lv_iload hx hb dX10_boards_169 (lv_at hl96 5 rfl) ?_
              refine tr_iald Z.1 Z.2.2.2.1 S_148.1 S_148.2 hq98 tq98 rfl (by omega) (by omega) dX10_boards_171 (fun v99 ev99 lv99 uv99 => ?_)
              obtain ⟨v100, ev100, tv100⟩ : ∃ v : Int32, Int32.ofInt (1) = v ∧ v.toInt = 1 := ⟨_, rfl, by decide +kernel⟩
              refine lv_iconst hx hb dX10_boards_172 ev100 ?_
              refine lv_iadd hx hb dX10_boards_173 ?_
              refine lv_topi (fun v101 ev101 => ?_)
              exact J174 x4_148 y0_148 v101 E_148 H_148 k_148 l95 S_148 F_148 (by omega) (by omega) (by omega) (by omega) (by omega) (by omega) (by omega) (by omega) (by omega) (by omega) (fun k hk => (z93 k hk)) (by omega) (lv_sub hl96 [1, 2, 3, 4, 5, 0] rfl)
            · skip
              have tc97 := nu_ne c97
              have uc97 : (0 : Int32).toInt = 0 := rfl
              refine lv_aload_n hx hb dX10_boards_155 rfl (lv_at hl96 1 rfl) ?_
              refine tr_getr Z.1 Z.2.2.2.1 S_148.1 S_148.2 ha0 ta0 rfl rfl (fun _ h => List.mem_cons_of_mem _ (List.mem_append_right _ h)) 43 (by decide) rfl (hts _ (List.mem_of_getElem? (i := 4) rfl)) dX10_boards_156 (fun q102 eq102 hq102 tq102 => ?_)
              have tq102 : τ q102 = (84, 0) := tq102
              refine lv_iload hx hb dX10_boards_159 (lv_at hl96 5 rfl) ?_
              refine tr_iald Z.1 Z.2.2.2.1 S_148.1 S_148.2 hq102 tq102 rfl (by omega) (by omega) dX10_boards_161 (fun v103 ev103 lv103 uv103 => ?_)
              refine lv_goto (tgt := 174) hx hb dX10_boards_162 (by decide) ?_
              exact J174 x4_148 y0_148 v103 E_148 H_148 k_148 l95 S_148 F_148 (by omega) (by omega) (by omega) (by omega) (by omega) (by omega) (by omega) (by omega) (by omega) (by omega) (fun k hk => (z93 k hk)) (by omega) (lv_sub hl96 [1, 2, 3, 4, 5, 0] rfl)
          refine lv_iload_n hx hb dX10_boards_99 rfl (lv_at hl_99 3 rfl) ?_
          refine lv_aload_n hx hb dX10_boards_100 rfl (lv_at hl_99 0 rfl) ?_
          refine tr_geti Z.1 Z.2.2.2.1 S_99.1 S_99.2 ha0 ta0 rfl rfl (fun _ h => List.mem_cons_of_mem _ (List.mem_append_right _ h)) 45 (by decide) rfl (hts _ (List.mem_of_getElem? (i := 2) rfl)) dX10_boards_101 (fun v104 ev104 lv104 uv104 => ?_)
          refine lv_icmp_ge (tgt := 264) hx hb dX10_boards_104 (by decide) (fun c105 => ?_) (fun c105 => ?_)
          · skip
            have tc105 := nu_le c105
            obtain ⟨v106, ev106⟩ : ∃ y : Int32, x2_72 + Int32.ofInt (1) = y := ⟨_, rfl⟩
            have tv106 : v106.toInt = x2_72.toInt + (1) := by rw [← ev106]; exact (fb_addI (by rw [show (Int32.ofInt (1)).toInt = 1 from by decide +kernel]; omega) (by rw [show (Int32.ofInt (1)).toInt = 1 from by decide +kernel]; omega)).trans (by rw [show (Int32.ofInt (1)).toInt = 1 from by decide +kernel])
            refine lv_iinc (v := v106) (lv' := [(2, .int v106), (0, .ref a0), (1, .int a1), (3, .int x3_99)]) hx hb dX10_boards_264 hl_99 (k := 2) rfl ev106 (by decide) rfl (fun l107 hl108 => ?_)
            refine lv_goto (tgt := 72) hx hb dX10_boards_267 (by decide) ?_
            exact ih_72 v106 E_99 H_99 k_99 l107 S_99 F_99 (by omega) (by omega) (by omega) (by omega) (fun k hk => (z13 k hk)) (by omega) (by omega) (lv_sub hl108 [1, 2, 0] rfl)
          · skip
            have tc105 := nu_nle c105
            refine lv_iload_n hx hb dX10_boards_107 rfl (lv_at hl_99 2 rfl) ?_
            refine lv_iload_n hx hb dX10_boards_108 rfl (lv_at hl_99 3 rfl) ?_
            refine lv_ishr hx hb dX10_boards_109 ?_
            refine lv_topi (fun v109 ev109 => ?_)
            obtain ⟨v110, ev110, tv110⟩ : ∃ v : Int32, Int32.ofInt (1) = v ∧ v.toInt = 1 := ⟨_, rfl, by decide +kernel⟩
            refine lv_iconst hx hb dX10_boards_110 ev110 ?_
            refine lv_iand hx hb dX10_boards_111 ?_
            refine lv_topi (fun v111 ev111 => ?_)
            refine lv_if_ne (tgt := 118) hx hb dX10_boards_112 (by decide) (fun c112 => ?_) (fun c112 => ?_)
            · skip
              have tc112 := nu_ne c112
              have uc112 : (0 : Int32).toInt = 0 := rfl
              refine lv_iload_n hx hb dX10_boards_118 rfl (lv_at hl_99 2 rfl) ?_
              obtain ⟨v113, ev113, tv113⟩ : ∃ v : Int32, Int32.ofInt (1) = v ∧ v.toInt = 1 := ⟨_, rfl, by decide +kernel⟩
              refine lv_iconst hx hb dX10_boards_119 ev113 ?_
              refine lv_iload_n hx hb dX10_boards_120 rfl (lv_at hl_99 3 rfl) ?_
              refine lv_ishl hx hb dX10_boards_121 ?_
              refine lv_topi (fun v114 ev114 => ?_)
              have tv114 := nu_sh1 ev114 (by omega) (by omega) (by omega)
              refine lv_ixor hx hb dX10_boards_122 ?_
              refine lv_topi (fun v115 ev115 => ?_)
              have tv115 := nu_xor ev115 (by omega) (by omega) (by omega) (by omega)
              refine lv_istore (lv' := [(4, .int v115), (0, .ref a0), (1, .int a1), (2, .int x2_72), (3, .int x3_99)]) hx hb dX10_boards_123 hl_99 (by decide) rfl (fun l116 hl117 => ?_)
              refine lv_aload_n hx hb dX10_boards_125 rfl (lv_at hl117 1 rfl) ?_
              refine tr_getr Z.1 Z.2.2.2.1 S_99.1 S_99.2 ha0 ta0 rfl rfl (fun _ h => List.mem_cons_of_mem _ (List.mem_append_right _ h)) 44 (by decide) rfl (hts _ (List.mem_of_getElem? (i := 5) rfl)) dX10_boards_126 (fun q118 eq118 hq118 tq118 => ?_)
              have tq118 : τ q118 = (85, 0) := tq118
              refine lv_iload hx hb dX10_boards_129 (lv_at hl117 0 rfl) ?_
              refine tr_iald Z.1 Z.2.2.2.1 S_99.1 S_99.2 hq118 tq118 rfl (by omega) (by omega) dX10_boards_131 (fun v119 ev119 lv119 uv119 => ?_)
              refine lv_aload_n hx hb dX10_boards_132 rfl (lv_at hl117 1 rfl) ?_
              refine tr_getr Z.1 Z.2.2.2.1 S_99.1 S_99.2 ha0 ta0 rfl rfl (fun _ h => List.mem_cons_of_mem _ (List.mem_append_right _ h)) 42 (by decide) rfl (hts _ (List.mem_of_getElem? (i := 3) rfl)) dX10_boards_133 (fun q120 eq120 hq120 tq120 => ?_)
              have tq120 : τ q120 = (83, 0) := tq120
              refine lv_iload_n hx hb dX10_boards_136 rfl (lv_at hl117 4 rfl) ?_
              refine tr_iald Z.1 Z.2.2.2.1 S_99.1 S_99.2 hq120 tq120 rfl (by omega) (by omega) dX10_boards_137 (fun v121 ev121 lv121 uv121 => ?_)
              refine lv_iadd hx hb dX10_boards_138 ?_
              refine lv_topi (fun v122 ev122 => ?_)
              refine lv_iload_n hx hb dX10_boards_139 rfl (lv_at hl117 2 rfl) ?_
              refine lv_icmp_gt (tgt := 147) hx hb dX10_boards_140 (by decide) (fun c123 => ?_) (fun c123 => ?_)
              · skip
                have tc123 := nu_lt c123
                obtain ⟨v124, ev124, tv124⟩ : ∃ v : Int32, Int32.ofInt (0) = v ∧ v.toInt = 0 := ⟨_, rfl, by decide +kernel⟩
                refine lv_iconst hx hb dX10_boards_147 ev124 ?_
                exact J148 v115 v124 E_99 H_99 k_99 l116 S_99 F_99 (by omega) (by omega) (by omega) (by omega) (by omega) (by omega) (by omega) (by omega) (by omega) (by omega) (fun k hk => (z13 k hk)) (by omega) (lv_sub hl117 [1, 2, 3, 4, 0] rfl)
              · skip
                have tc123 := nu_nlt c123
                obtain ⟨v125, ev125, tv125⟩ : ∃ v : Int32, Int32.ofInt (1) = v ∧ v.toInt = 1 := ⟨_, rfl, by decide +kernel⟩
                refine lv_iconst hx hb dX10_boards_143 ev125 ?_
                refine lv_goto (tgt := 148) hx hb dX10_boards_144 (by decide) ?_
                exact J148 v115 v125 E_99 H_99 k_99 l116 S_99 F_99 (by omega) (by omega) (by omega) (by omega) (by omega) (by omega) (by omega) (by omega) (by omega) (by omega) (fun k hk => (z13 k hk)) (by omega) (lv_sub hl117 [1, 2, 3, 4, 0] rfl)
            · skip
              have tc112 := nu_eq c112
              have uc112 : (0 : Int32).toInt = 0 := rfl
              refine lv_goto (tgt := 258) hx hb dX10_boards_115 (by decide) ?_
              exact J258 E_99 H_99 k_99 l_99 S_99 F_99 (by omega) (by omega) (by omega) (by omega) (by omega) (by omega) (fun k hk => (z13 k hk)) (by omega) (lv_sub hl_99 [0, 1, 2, 3] rfl)
      refine lv_iload_n hx hb dX10_boards_72 rfl (lv_at hl_72 2 rfl) ?_
      obtain ⟨v126, ev126, tv126⟩ : ∃ v : Int32, Int32.ofInt (1) = v ∧ v.toInt = 1 := ⟨_, rfl, by decide +kernel⟩
      refine lv_iconst hx hb dX10_boards_73 ev126 ?_
      refine lv_aload_n hx hb dX10_boards_74 rfl (lv_at hl_72 0 rfl) ?_
      refine tr_geti Z.1 Z.2.2.2.1 S_72.1 S_72.2 ha0 ta0 rfl rfl (fun _ h => List.mem_cons_of_mem _ (List.mem_append_right _ h)) 45 (by decide) rfl (hts _ (List.mem_of_getElem? (i := 2) rfl)) dX10_boards_75 (fun v127 ev127 lv127 uv127 => ?_)
      refine lv_ishl hx hb dX10_boards_78 ?_
      refine lv_topi (fun v128 ev128 => ?_)
      have tv128 := nu_sh1 ev128 (by omega) (by omega) (by omega)
      refine lv_icmp_ge (tgt := 270) hx hb dX10_boards_79 (by decide) (fun c129 => ?_) (fun c129 => ?_)
      · skip
        have tc129 := nu_le c129
        refine lv_aload_n hx hb dX10_boards_270 rfl (lv_at hl_72 0 rfl) ?_
        refine tr_getr Z.1 Z.2.2.2.1 S_72.1 S_72.2 ha0 ta0 rfl rfl (fun _ h => List.mem_cons_of_mem _ (List.mem_append_right _ h)) 43 (by decide) rfl (hts _ (List.mem_of_getElem? (i := 4) rfl)) dX10_boards_271 (fun q130 eq130 hq130 tq130 => ?_)
        have tq130 : τ q130 = (84, 0) := tq130
        obtain ⟨v131, ev131, tv131⟩ : ∃ v : Int32, Int32.ofInt (1) = v ∧ v.toInt = 1 := ⟨_, rfl, by decide +kernel⟩
        refine lv_iconst hx hb dX10_boards_274 ev131 ?_
        refine lv_aload_n hx hb dX10_boards_275 rfl (lv_at hl_72 0 rfl) ?_
        refine tr_geti Z.1 Z.2.2.2.1 S_72.1 S_72.2 ha0 ta0 rfl rfl (fun _ h => List.mem_cons_of_mem _ (List.mem_append_right _ h)) 45 (by decide) rfl (hts _ (List.mem_of_getElem? (i := 2) rfl)) dX10_boards_276 (fun v132 ev132 lv132 uv132 => ?_)
        have wv132 : v132 = v127 := ev132.symm.trans ev127
        have xv132 : v132.toInt = v127.toInt := by rw [wv132]
        refine lv_ishl hx hb dX10_boards_279 ?_
        refine lv_topi (fun v133 ev133 => ?_)
        have tv133 := nu_sh1 ev133 (by omega) (by omega) (by omega)
        obtain ⟨v134, ev134, tv134⟩ : ∃ v : Int32, Int32.ofInt (1) = v ∧ v.toInt = 1 := ⟨_, rfl, by decide +kernel⟩
        refine lv_iconst hx hb dX10_boards_280 ev134 ?_
        refine lv_isub hx hb dX10_boards_281 ?_
        refine lv_topi (fun v135 ev135 => ?_)
        have tv135 := nu_sub ev135 (by omega) (by omega)
        refine tr_iald Z.1 Z.2.2.2.1 S_72.1 S_72.2 hq130 tq130 rfl (by omega) (by omega) dX10_boards_282 (fun v136 ev136 lv136 uv136 => ?_)
        rw [← hQ]
        exact en_i Z S_72 F_72 ⟨(by omega), (fun k hk => (z5 k hk))⟩ dX10_boards_283
      · skip
        have tc129 := nu_nle c129
        refine lv_aload_n hx hb dX10_boards_82 rfl (lv_at hl_72 0 rfl) ?_
        refine tr_getr Z.1 Z.2.2.2.1 S_72.1 S_72.2 ha0 ta0 rfl rfl (fun _ h => List.mem_cons_of_mem _ (List.mem_append_right _ h)) 43 (by decide) rfl (hts _ (List.mem_of_getElem? (i := 4) rfl)) dX10_boards_83 (fun q137 eq137 hq137 tq137 => ?_)
        have tq137 : τ q137 = (84, 0) := tq137
        refine lv_iload_n hx hb dX10_boards_86 rfl (lv_at hl_72 2 rfl) ?_
        obtain ⟨v138, ev138, tv138⟩ : ∃ v : Int32, (Int8.ofInt (100)).toInt32 = v ∧ v.toInt = 100 := ⟨_, rfl, by decide +kernel⟩
        refine lv_bipush hx hb dX10_boards_87 ev138 ?_
        refine tr_iast Z.1 Z.2.2.2.1 S_72.1 S_72.2 hq137 tq137 rfl (by omega) (by omega) (by have := fb_rng v138; omega) (by have := fb_rng v138; omega) dX10_boards_89 (fun E139 H140 k141 W139 I139 P139 => ?_)
        have S139 : Now D TB cy (va_A (va_pl L E) sz) s L τ E139 H140 k141 := ⟨W139, I139⟩
        have F139 : Fr L τ (inW [(11, 0), (84, 0), (85, 0)]) E E139 := Fr.set F_72 P139 tq137 rfl
        refine lv_aload_n hx hb dX10_boards_90 rfl (lv_at hl_72 0 rfl) ?_
        refine tr_getr Z.1 Z.2.2.2.1 S139.1 S139.2 ha0 ta0 rfl rfl (fun _ h => List.mem_cons_of_mem _ (List.mem_append_right _ h)) 44 (by decide) rfl (hts _ (List.mem_of_getElem? (i := 5) rfl)) dX10_boards_91 (fun q142 eq142 hq142 tq142 => ?_)
        have tq142 : τ q142 = (85, 0) := tq142
        refine lv_iload_n hx hb dX10_boards_94 rfl (lv_at hl_72 2 rfl) ?_
        obtain ⟨v143, ev143, tv143⟩ : ∃ v : Int32, Int32.ofInt (0) = v ∧ v.toInt = 0 := ⟨_, rfl, by decide +kernel⟩
        refine lv_iconst hx hb dX10_boards_95 ev143 ?_
        refine tr_iast Z.1 Z.2.2.2.1 S139.1 S139.2 hq142 tq142 rfl (by omega) (by omega) (by have := fb_rng v143; omega) (by have := fb_rng v143; omega) dX10_boards_96 (fun E144 H145 k146 W144 I144 P144 => ?_)
        have S144 : Now D TB cy (va_A (va_pl L E) sz) s L τ E144 H145 k146 := ⟨W144, I144⟩
        have F144 : Fr L τ (inW [(11, 0), (84, 0), (85, 0)]) E E144 := Fr.set F139 P144 tq142 rfl
        obtain ⟨v147, ev147, tv147⟩ : ∃ v : Int32, Int32.ofInt (0) = v ∧ v.toInt = 0 := ⟨_, rfl, by decide +kernel⟩
        refine lv_iconst hx hb dX10_boards_97 ev147 ?_
        refine lv_istore_n (lv' := [(3, .int v147), (0, .ref a0), (1, .int a1), (2, .int x2_72)]) hx hb dX10_boards_98 rfl hl_72 (by decide) rfl (fun l148 hl149 => ?_)
        exact J99 _ v147 E144 H145 k146 l148 S144 F144 (by omega) (by omega) (by omega) (by omega) (by omega) (by omega) (fun k hk => ((fi_set P144 (ne_ro ta0 tq142 (by decide))).trans ((fi_set P139 (ne_ro ta0 tq137 (by decide))).trans (z5 k hk)))) (by rw [((fi_set (k := 3) P144 (ne_ro ta0 tq142 (by decide))).trans ((fi_set (k := 3) P139 (ne_ro ta0 tq137 (by decide))).trans rfl))]; omega) (Nat.lt_succ_self _) (lv_sub hl149 [1, 2, 3, 0] rfl)
  have J29 : ∀ (n : Nat) (x2_29 : Int32) (E_29 : Ec) (H_29 : Heap) (k_29 : List Loc) (l_29 : Array Slot), Now D TB cy (va_A (va_pl L E) sz) s L τ E_29 H_29 k_29 → Fr L τ (inW [(11, 0), (84, 0), (85, 0)]) E E_29 → (1 ≤ a1.toInt) → (a1.toInt ≤ 10000) → (0 ≤ x2_29.toInt) → (x2_29.toInt ≤ 12) → (∀ k : Nat, k ∉ ([3, 4, 6] : List Nat) → fi E_29 a0 k = fi E a0 k) → (-2147483648 ≤ (fi E_29 a0 3).toInt ∧ (fi E_29 a0 3).toInt ≤ 2147483647 ∧ (fi E_29 a0 3).toInt ≠ 2) → (12 - x2_29.toInt).toNat < n → lv_has l_29 8 [(0, .ref a0), (1, .int a1), (2, .int x2_29)] → W p l e { frames := 1, cells := 0, slots := 0, locals := 23 } s m args below meth c H_29 k_29 0 0 QQ (F0 m 29 l_29 []) := by
    intro n
    induction n with
    | zero => intro x2_29 E_29 H_29 k_29 l_29 S_29 F_29 z150 z151 z152 z153 z154 z155 hm hl_29; exact absurd hm (Nat.not_lt_zero _)
    | succ n ih =>
      intro x2_29 E_29 H_29 k_29 l_29 S_29 F_29 z150 z151 z152 z153 z154 z155 hm hl_29
      have ih_29 := ih
      refine lv_iload_n hx hb dX10_boards_29 rfl (lv_at hl_29 2 rfl) ?_
      refine lv_aload_n hx hb dX10_boards_30 rfl (lv_at hl_29 0 rfl) ?_
      refine tr_geti Z.1 Z.2.2.2.1 S_29.1 S_29.2 ha0 ta0 rfl rfl (fun _ h => List.mem_cons_of_mem _ (List.mem_append_right _ h)) 45 (by decide) rfl (hts _ (List.mem_of_getElem? (i := 2) rfl)) dX10_boards_31 (fun v156 ev156 lv156 uv156 => ?_)
      refine lv_icmp_ge (tgt := 56) hx hb dX10_boards_34 (by decide) (fun c157 => ?_) (fun c157 => ?_)
      · skip
        have tc157 := nu_le c157
        refine lv_aload_n hx hb dX10_boards_56 rfl (lv_at hl_29 0 rfl) ?_
        refine tr_getr Z.1 Z.2.2.2.1 S_29.1 S_29.2 ha0 ta0 rfl rfl (fun _ h => List.mem_cons_of_mem _ (List.mem_append_right _ h)) 43 (by decide) rfl (hts _ (List.mem_of_getElem? (i := 4) rfl)) dX10_boards_57 (fun q158 eq158 hq158 tq158 => ?_)
        have tq158 : τ q158 = (84, 0) := tq158
        obtain ⟨v159, ev159, tv159⟩ : ∃ v : Int32, Int32.ofInt (0) = v ∧ v.toInt = 0 := ⟨_, rfl, by decide +kernel⟩
        refine lv_iconst hx hb dX10_boards_60 ev159 ?_
        obtain ⟨v160, ev160, tv160⟩ : ∃ v : Int32, Int32.ofInt (0) = v ∧ v.toInt = 0 := ⟨_, rfl, by decide +kernel⟩
        refine lv_iconst hx hb dX10_boards_61 ev160 ?_
        refine tr_iast Z.1 Z.2.2.2.1 S_29.1 S_29.2 hq158 tq158 rfl (by omega) (by omega) (by have := fb_rng v160; omega) (by have := fb_rng v160; omega) dX10_boards_62 (fun E161 H162 k163 W161 I161 P161 => ?_)
        have S161 : Now D TB cy (va_A (va_pl L E) sz) s L τ E161 H162 k163 := ⟨W161, I161⟩
        have F161 : Fr L τ (inW [(11, 0), (84, 0), (85, 0)]) E E161 := Fr.set F_29 P161 tq158 rfl
        refine lv_aload_n hx hb dX10_boards_63 rfl (lv_at hl_29 0 rfl) ?_
        refine tr_getr Z.1 Z.2.2.2.1 S161.1 S161.2 ha0 ta0 rfl rfl (fun _ h => List.mem_cons_of_mem _ (List.mem_append_right _ h)) 44 (by decide) rfl (hts _ (List.mem_of_getElem? (i := 5) rfl)) dX10_boards_64 (fun q164 eq164 hq164 tq164 => ?_)
        have tq164 : τ q164 = (85, 0) := tq164
        obtain ⟨v165, ev165, tv165⟩ : ∃ v : Int32, Int32.ofInt (0) = v ∧ v.toInt = 0 := ⟨_, rfl, by decide +kernel⟩
        refine lv_iconst hx hb dX10_boards_67 ev165 ?_
        refine lv_iload_n hx hb dX10_boards_68 rfl (lv_at hl_29 1 rfl) ?_
        refine tr_iast Z.1 Z.2.2.2.1 S161.1 S161.2 hq164 tq164 rfl (by omega) (by omega) (by have := fb_rng a1; omega) (by have := fb_rng a1; omega) dX10_boards_69 (fun E166 H167 k168 W166 I166 P166 => ?_)
        have S166 : Now D TB cy (va_A (va_pl L E) sz) s L τ E166 H167 k168 := ⟨W166, I166⟩
        have F166 : Fr L τ (inW [(11, 0), (84, 0), (85, 0)]) E E166 := Fr.set F161 P166 tq164 rfl
        obtain ⟨v169, ev169, tv169⟩ : ∃ v : Int32, Int32.ofInt (1) = v ∧ v.toInt = 1 := ⟨_, rfl, by decide +kernel⟩
        refine lv_iconst hx hb dX10_boards_70 ev169 ?_
        refine lv_istore_n (lv' := [(2, .int v169), (0, .ref a0), (1, .int a1)]) hx hb dX10_boards_71 rfl hl_29 (by decide) rfl (fun l170 hl171 => ?_)
        exact J72 _ v169 E166 H167 k168 l170 S166 F166 (by omega) (by omega) (by omega) (by omega) (fun k hk => ((fi_set P166 (ne_ro ta0 tq164 (by decide))).trans ((fi_set P161 (ne_ro ta0 tq158 (by decide))).trans (z154 k hk)))) (by rw [((fi_set (k := 3) P166 (ne_ro ta0 tq164 (by decide))).trans ((fi_set (k := 3) P161 (ne_ro ta0 tq158 (by decide))).trans rfl))]; omega) (Nat.lt_succ_self _) (lv_sub hl171 [1, 2, 0] rfl)
      · skip
        have tc157 := nu_nle c157
        refine lv_aload_n hx hb dX10_boards_37 rfl (lv_at hl_29 0 rfl) ?_
        refine tr_getr Z.1 Z.2.2.2.1 S_29.1 S_29.2 ha0 ta0 rfl rfl (fun _ h => List.mem_cons_of_mem _ (List.mem_append_right _ h)) 42 (by decide) rfl (hts _ (List.mem_of_getElem? (i := 3) rfl)) dX10_boards_38 (fun q172 eq172 hq172 tq172 => ?_)
        have tq172 : τ q172 = (83, 0) := tq172
        refine lv_iload_n hx hb dX10_boards_41 rfl (lv_at hl_29 2 rfl) ?_
        refine tr_iald Z.1 Z.2.2.2.1 S_29.1 S_29.2 hq172 tq172 rfl (by omega) (by omega) dX10_boards_42 (fun v173 ev173 lv173 uv173 => ?_)
        refine lv_iload_n hx hb dX10_boards_43 rfl (lv_at hl_29 1 rfl) ?_
        refine lv_icmp_le (tgt := 50) hx hb dX10_boards_44 (by decide) (fun c174 => ?_) (fun c174 => ?_)
        · skip
          have tc174 := nu_le c174
          obtain ⟨v175, ev175⟩ : ∃ y : Int32, x2_29 + Int32.ofInt (1) = y := ⟨_, rfl⟩
          have tv175 : v175.toInt = x2_29.toInt + (1) := by rw [← ev175]; exact (fb_addI (by rw [show (Int32.ofInt (1)).toInt = 1 from by decide +kernel]; omega) (by rw [show (Int32.ofInt (1)).toInt = 1 from by decide +kernel]; omega)).trans (by rw [show (Int32.ofInt (1)).toInt = 1 from by decide +kernel])
          refine lv_iinc (v := v175) (lv' := [(2, .int v175), (0, .ref a0), (1, .int a1)]) hx hb dX10_boards_50 hl_29 (k := 2) rfl ev175 (by decide) rfl (fun l176 hl177 => ?_)
          refine lv_goto (tgt := 29) hx hb dX10_boards_53 (by decide) ?_
          exact ih_29 v175 E_29 H_29 k_29 l176 S_29 F_29 (by omega) (by omega) (by omega) (by omega) (fun k hk => (z154 k hk)) (by omega) (by omega) (lv_sub hl177 [1, 2, 0] rfl)
        · skip
          have tc174 := nu_nle c174
          obtain ⟨v178, ev178, tv178⟩ : ∃ v : Int32, (Int8.ofInt (-2)).toInt32 = v ∧ v.toInt = -2 := ⟨_, rfl, by decide +kernel⟩
          refine lv_bipush hx hb dX10_boards_47 ev178 ?_
          rw [← hQ]
          exact en_i Z S_29 F_29 ⟨(by omega), (fun k hk => (z154 k hk))⟩ dX10_boards_49
  refine lv_aload_n hx hb dX10_boards_0 rfl (lv_at hl 0 rfl) ?_
  obtain ⟨v179, ev179, tv179⟩ : ∃ v : Int32, Int32.ofInt (0) = v ∧ v.toInt = 0 := ⟨_, rfl, by decide +kernel⟩
  refine lv_iconst hx hb dX10_boards_1 ev179 ?_
  refine tr_puti Z.1 Z.2.2.2.1 S0.1 S0.2 ha0 ta0 rfl rfl (fun _ h => List.mem_cons_of_mem _ (List.mem_append_right _ h)) tyX10_ok nmX10 4 (by decide) rfl rfl rfl (hts _ (List.mem_of_getElem? (i := 1) rfl)) dX10_boards_2 (by omega) (by omega) (fun E180 H181 k182 W180 I180 P180 => ?_)
  have S180 : Now D TB cy (va_A (va_pl L E) sz) s L τ E180 H181 k182 := ⟨W180, I180⟩
  have F180 : Fr L τ (inW [(11, 0), (84, 0), (85, 0)]) E E180 := Fr.put F0_ P180 ta0 rfl
  refine lv_aload_n hx hb dX10_boards_5 rfl (lv_at hl 0 rfl) ?_
  refine lv_iload_n hx hb dX10_boards_6 rfl (lv_at hl 1 rfl) ?_
  obtain ⟨v183, ev183, tv183⟩ : ∃ v : Int32, Int32.ofInt (1) = v ∧ v.toInt = 1 := ⟨_, rfl, by decide +kernel⟩
  refine lv_iconst hx hb dX10_boards_7 ev183 ?_
  obtain ⟨v184, ev184, tv184⟩ : ∃ v : Int32, (Int16.ofInt (10000)).toInt32 = v ∧ v.toInt = 10000 := ⟨_, rfl, by decide +kernel⟩
  refine lv_sipush hx hb dX10_boards_8 ev184 ?_
  refine tc_vi Z.1 Z.2.2.2.1 Z.2.2.2.2.1 Z.2.2.2.2.2 S180.1 S180.2 ha0 ta0 rfl rfl (k_X10_in l D cy S180.2 ha0 ta0 a1 v183 v184) (cwV 3 hts gX10_boards_X10_in rfl rfl rfl (by decide +kernel) ⟨Nat.le_of_ble_eq_true rfl, Nat.le_of_ble_eq_true rfl⟩) rfl hl.1 rfl (Nat.le_of_ble_eq_true rfl) dX10_boards_11 ⟨Nat.zero_le _, Nat.zero_le _⟩ (fun v188 E185 H186 k187 W185 I185 G185 p185 => ?_)
  obtain ⟨q185, p185_0, p185_1, p185_2⟩ := p185
  have q185 := q185.symm
  subst q185
  have S185 : Now D TB cy (va_A (va_pl L E) sz) s L τ E180 H186 k187 := ⟨W185, I185⟩
  refine lv_if_ne (tgt := 23) hx hb dX10_boards_14 (by decide) (fun c189 => ?_) (fun c189 => ?_)
  · skip
    have tc189 := nu_ne c189
    have uc189 : (0 : Int32).toInt = 0 := rfl
    refine lv_aload_n hx hb dX10_boards_23 rfl (lv_at hl 0 rfl) ?_
    refine tc_vv Z.1 Z.2.2.2.1 Z.2.2.2.2.1 Z.2.2.2.2.2 S185.1 S185.2 ha0 ta0 rfl rfl (k_X10_good_vw l D cy S185.2 ha0 ta0) (cwV 0 hts gX10_boards_X10_good rfl rfl rfl (by decide +kernel) ⟨Nat.le_of_ble_eq_true rfl, Nat.le_of_ble_eq_true rfl⟩) rfl hl.1 rfl (Nat.le_of_ble_eq_true rfl) dX10_boards_24 ⟨Nat.zero_le _, Nat.zero_le _⟩ (fun E190 H191 k192 W190 I190 G190 p190 => ?_)
    obtain ⟨p190_0, p190_1⟩ := p190
    have S190 : Now D TB cy (va_A (va_pl L E) sz) s L τ E190 H191 k192 := ⟨W190, I190⟩
    have F190 : Fr L τ (inW [(11, 0), (84, 0), (85, 0)]) E E190 := F180.trans (G190.mono (inW_mono (by decide)))
    have kz190_3 := fi_rng (k := 3) S190.2 ha0 ta0 rfl rfl
    obtain ⟨v194, ev194, tv194⟩ : ∃ v : Int32, Int32.ofInt (0) = v ∧ v.toInt = 0 := ⟨_, rfl, by decide +kernel⟩
    refine lv_iconst hx hb dX10_boards_27 ev194 ?_
    refine lv_istore_n (lv' := [(2, .int v194), (0, .ref a0), (1, .int a1)]) hx hb dX10_boards_28 rfl hl (by decide) rfl (fun l195 hl196 => ?_)
    exact J29 _ v194 E190 H191 k192 l195 S190 F190 (by omega) (by omega) (by omega) (by omega) (fun k hk => ((p190_1 k (fw_sub (by decide) hk)).trans ((fi_put P180 (Or.inr (fw_ne (by decide) hk))).trans ((fun k hk => rfl) k hk)))) (by omega) (Nat.lt_succ_self _) (lv_sub hl196 [1, 2, 0] rfl)
  · skip
    have tc189 := nu_eq c189
    have uc189 : (0 : Int32).toInt = 0 := rfl
    refine lv_aload_n hx hb dX10_boards_17 rfl (lv_at hl 0 rfl) ?_
    obtain ⟨v197, ev197, tv197⟩ : ∃ v : Int32, Int32.ofInt (1) = v ∧ v.toInt = 1 := ⟨_, rfl, by decide +kernel⟩
    refine lv_iconst hx hb dX10_boards_18 ev197 ?_
    refine tc_vi Z.1 Z.2.2.2.1 Z.2.2.2.2.1 Z.2.2.2.2.2 S185.1 S185.2 ha0 ta0 rfl rfl (k_X10_no_vw l D cy S185.2 ha0 ta0 v197) (cwV 1 hts gX10_boards_X10_no rfl rfl rfl (by decide +kernel) ⟨Nat.le_of_ble_eq_true rfl, Nat.le_of_ble_eq_true rfl⟩) rfl hl.1 rfl (Nat.le_of_ble_eq_true rfl) dX10_boards_19 ⟨Nat.zero_le _, Nat.zero_le _⟩ (fun v201 E198 H199 k200 W198 I198 G198 p198 => ?_)
    obtain ⟨p198_0, p198_1, p198_2, p198_3⟩ := p198
    have S198 : Now D TB cy (va_A (va_pl L E) sz) s L τ E198 H199 k200 := ⟨W198, I198⟩
    have F198 : Fr L τ (inW [(11, 0), (84, 0), (85, 0)]) E E198 := F180.trans (G198.mono (inW_mono (by decide)))
    have kz198_3 := fi_rng (k := 3) S198.2 ha0 ta0 rfl rfl
    rw [← hQ]
    exact en_i Z S198 F198 ⟨(by omega), (fun k hk => ((p198_3 k (fw_sub (by decide) hk)).trans ((fi_put P180 (Or.inr (fw_ne (by decide) hk))).trans ((fun k hk => rfl) k hk))))⟩ dX10_boards_22

set_option maxHeartbeats 4000000 in
set_option maxRecDepth 100000 in
theorem k_X10_check_vw (l : Launch) (D : va_G) (cy : Nat → ClassId) {L : List Nat} {τ : Nat → Ro} {E : Ec} (hI : Inv TB cy L τ E) {a0 : Nat} (ha0 : a0 ∈ L) (ta0 : τ a0 = (11, 0)) : CtI l yX10_check wsX10_check { frames := 3, cells := 0, slots := 0, locals := 74 } D TB cy L τ E [.ref a0] (inW [(11, 0), (63, 0), (64, 0), (65, 0), (66, 0), (67, 0), (68, 0), (69, 0), (70, 0), (71, 0), (62, 0)]) (fun r E' => ((fi E' a0 3).toInt ≠ 2) ∧ (∀ k : Nat, k ∉ ([3, 4, 6, 8] : List Nat) → fi E' a0 k = fi E a0 k)) := by
  intro sz
  refine sta (cc := cX10_check) (maxL := 2) hI (by decide) rfl (Nat.le_of_ble_eq_true rfl) (fun p e s m args below meth c ls hsz Z S0 hl => ?_)
  have hx := Z.1.1
  have hb := Z.1.2.1
  have hts := Z.1.2.2.2.2
  have F0_ : Fr L τ (inW [(11, 0), (63, 0), (64, 0), (65, 0), (66, 0), (67, 0), (68, 0), (69, 0), (70, 0), (71, 0), (62, 0)]) E E := Fr.refl
  have hl : lv_has ls 2 [(0, .ref a0)] := hl
  generalize hQ : MQ below _ args s 0 0 _ = QQ
  have J44 : ∀ (n : Nat) (x1_44 : Int32) (E_44 : Ec) (H_44 : Heap) (k_44 : List Loc) (l_44 : Array Slot), Now D TB cy (va_A (va_pl L E) sz) s L τ E_44 H_44 k_44 → Fr L τ (inW [(11, 0), (63, 0), (64, 0), (65, 0), (66, 0), (67, 0), (68, 0), (69, 0), (70, 0), (71, 0), (62, 0)]) E E_44 → (0 ≤ x1_44.toInt) → (x1_44.toInt ≤ 264) → (∀ k : Nat, k ∉ ([3, 4, 6, 8] : List Nat) → fi E_44 a0 k = fi E a0 k) → (-2147483648 ≤ (fi E_44 a0 3).toInt ∧ (fi E_44 a0 3).toInt ≤ 2147483647 ∧ (fi E_44 a0 3).toInt ≠ 2) → (264 - x1_44.toInt).toNat < n → lv_has l_44 2 [(0, .ref a0), (1, .int x1_44)] → W p l e { frames := 3, cells := 0, slots := 0, locals := 74 } s m args below meth c H_44 k_44 0 0 QQ (F0 m 44 l_44 []) := by
    intro n
    induction n with
    | zero => intro x1_44 E_44 H_44 k_44 l_44 S_44 F_44 z1 z2 z3 z4 hm hl_44; exact absurd hm (Nat.not_lt_zero _)
    | succ n ih =>
      intro x1_44 E_44 H_44 k_44 l_44 S_44 F_44 z1 z2 z3 z4 hm hl_44
      have ih_44 := ih
      refine lv_iload_n hx hb dX10_check_44 rfl (lv_at hl_44 1 rfl) ?_
      refine lv_aload_n hx hb dX10_check_45 rfl (lv_at hl_44 0 rfl) ?_
      refine tr_geti Z.1 Z.2.2.2.1 S_44.1 S_44.2 ha0 ta0 rfl rfl (fun _ h => List.mem_cons_of_mem _ (List.mem_append_right _ h)) 47 (by decide) rfl (hts _ (List.mem_of_getElem? (i := 2) rfl)) dX10_check_46 (fun v5 ev5 lv5 uv5 => ?_)
      refine lv_icmp_ge (tgt := 74) hx hb dX10_check_49 (by decide) (fun c6 => ?_) (fun c6 => ?_)
      · skip
        have tc6 := nu_le c6
        obtain ⟨v7, ev7, tv7⟩ : ∃ v : Int32, (Int8.ofInt (-2)).toInt32 = v ∧ v.toInt = -2 := ⟨_, rfl, by decide +kernel⟩
        refine lv_bipush hx hb dX10_check_74 ev7 ?_
        rw [← hQ]
        exact en_i Z S_44 F_44 ⟨(by omega), (fun k hk => (z3 k hk))⟩ dX10_check_76
      · skip
        have tc6 := nu_nle c6
        refine lv_aload_n hx hb dX10_check_52 rfl (lv_at hl_44 0 rfl) ?_
        refine tr_getr Z.1 Z.2.2.2.1 S_44.1 S_44.2 ha0 ta0 rfl rfl (fun _ h => List.mem_cons_of_mem _ (List.mem_append_right _ h)) 46 (by decide) rfl (hts _ (List.mem_of_getElem? (i := 4) rfl)) dX10_check_53 (fun q8 eq8 hq8 tq8 => ?_)
        have tq8 : τ q8 = (86, 0) := tq8
        refine lv_iload_n hx hb dX10_check_56 rfl (lv_at hl_44 1 rfl) ?_
        refine tr_iald Z.1 Z.2.2.2.1 S_44.1 S_44.2 hq8 tq8 rfl (by omega) (by omega) dX10_check_57 (fun v9 ev9 lv9 uv9 => ?_)
        refine lv_aload_n hx hb dX10_check_58 rfl (lv_at hl_44 0 rfl) ?_
        refine lv_iload_n hx hb dX10_check_59 rfl (lv_at hl_44 1 rfl) ?_
        refine tc_vi Z.1 Z.2.2.2.1 Z.2.2.2.2.1 Z.2.2.2.2.2 S_44.1 S_44.2 ha0 ta0 rfl rfl (k_X10_numberOf l D cy S_44.2 ha0 ta0 x1_44 (by omega) (by omega)) (cwV 1 hts gX10_check_X10_numberOf rfl rfl rfl (by decide +kernel) ⟨Nat.le_of_ble_eq_true rfl, Nat.le_of_ble_eq_true rfl⟩) rfl hl_44.1 rfl (Nat.le_of_ble_eq_true rfl) dX10_check_60 ⟨Nat.zero_le _, Nat.zero_le _⟩ (fun v13 E10 H11 k12 W10 I10 G10 p10 => ?_)
        have q10 := p10
        have q10 := q10.symm
        subst q10
        have S10 : Now D TB cy (va_A (va_pl L E) sz) s L τ E_44 H11 k12 := ⟨W10, I10⟩
        refine lv_icmp_eq (tgt := 68) hx hb dX10_check_63 (by decide) (fun c14 => ?_) (fun c14 => ?_)
        · skip
          have tc14 := nu_eq c14
          obtain ⟨v15, ev15⟩ : ∃ y : Int32, x1_44 + Int32.ofInt (1) = y := ⟨_, rfl⟩
          have tv15 : v15.toInt = x1_44.toInt + (1) := by rw [← ev15]; exact (fb_addI (by rw [show (Int32.ofInt (1)).toInt = 1 from by decide +kernel]; omega) (by rw [show (Int32.ofInt (1)).toInt = 1 from by decide +kernel]; omega)).trans (by rw [show (Int32.ofInt (1)).toInt = 1 from by decide +kernel])
          refine lv_iinc (v := v15) (lv' := [(1, .int v15), (0, .ref a0)]) hx hb dX10_check_68 hl_44 (k := 1) rfl ev15 (by decide) rfl (fun l16 hl17 => ?_)
          refine lv_goto (tgt := 44) hx hb dX10_check_71 (by decide) ?_
          exact ih_44 v15 E_44 H11 k12 l16 S10 F_44 (by omega) (by omega) (fun k hk => (z3 k hk)) (by omega) (by omega) (lv_sub hl17 [1, 0] rfl)
        · skip
          have tc14 := nu_ne c14
          refine lv_iload_n hx hb dX10_check_66 rfl (lv_at hl_44 1 rfl) ?_
          rw [← hQ]
          exact en_i Z S10 F_44 ⟨(by omega), (fun k hk => (z3 k hk))⟩ dX10_check_67
  refine lv_aload_n hx hb dX10_check_0 rfl (lv_at hl 0 rfl) ?_
  obtain ⟨v18, ev18, tv18⟩ : ∃ v : Int32, Int32.ofInt (0) = v ∧ v.toInt = 0 := ⟨_, rfl, by decide +kernel⟩
  refine lv_iconst hx hb dX10_check_1 ev18 ?_
  refine tr_puti Z.1 Z.2.2.2.1 S0.1 S0.2 ha0 ta0 rfl rfl (fun _ h => List.mem_cons_of_mem _ (List.mem_append_right _ h)) tyX10_ok nmX10 4 (by decide) rfl rfl rfl (hts _ (List.mem_of_getElem? (i := 1) rfl)) dX10_check_2 (by omega) (by omega) (fun E19 H20 k21 W19 I19 P19 => ?_)
  have S19 : Now D TB cy (va_A (va_pl L E) sz) s L τ E19 H20 k21 := ⟨W19, I19⟩
  have F19 : Fr L τ (inW [(11, 0), (63, 0), (64, 0), (65, 0), (66, 0), (67, 0), (68, 0), (69, 0), (70, 0), (71, 0), (62, 0)]) E E19 := Fr.put F0_ P19 ta0 rfl
  refine lv_aload_n hx hb dX10_check_5 rfl (lv_at hl 0 rfl) ?_
  refine tr_geti Z.1 Z.2.2.2.1 S19.1 S19.2 ha0 ta0 rfl rfl (fun _ h => List.mem_cons_of_mem _ (List.mem_append_right _ h)) 47 (by decide) rfl (hts _ (List.mem_of_getElem? (i := 2) rfl)) dX10_check_6 (fun v22 ev22 lv22 uv22 => ?_)
  refine lv_if_ne (tgt := 18) hx hb dX10_check_9 (by decide) (fun c23 => ?_) (fun c23 => ?_)
  · skip
    have tc23 := nu_ne c23
    have uc23 : (0 : Int32).toInt = 0 := rfl
    refine lv_aload_n hx hb dX10_check_18 rfl (lv_at hl 0 rfl) ?_
    refine tc_vv Z.1 Z.2.2.2.1 Z.2.2.2.2.1 Z.2.2.2.2.2 S19.1 S19.2 ha0 ta0 rfl rfl (k_X10_good_vw l D cy S19.2 ha0 ta0) (cwV 0 hts gX10_check_X10_good rfl rfl rfl (by decide +kernel) ⟨Nat.le_of_ble_eq_true rfl, Nat.le_of_ble_eq_true rfl⟩) rfl hl.1 rfl (Nat.le_of_ble_eq_true rfl) dX10_check_19 ⟨Nat.zero_le _, Nat.zero_le _⟩ (fun E24 H25 k26 W24 I24 G24 p24 => ?_)
    obtain ⟨p24_0, p24_1⟩ := p24
    have S24 : Now D TB cy (va_A (va_pl L E) sz) s L τ E24 H25 k26 := ⟨W24, I24⟩
    have F24 : Fr L τ (inW [(11, 0), (63, 0), (64, 0), (65, 0), (66, 0), (67, 0), (68, 0), (69, 0), (70, 0), (71, 0), (62, 0)]) E E24 := F19.trans (G24.mono (inW_mono (by decide)))
    have kz24_3 := fi_rng (k := 3) S24.2 ha0 ta0 rfl rfl
    refine lv_aload_n hx hb dX10_check_22 rfl (lv_at hl 0 rfl) ?_
    refine tc_vv Z.1 Z.2.2.2.1 Z.2.2.2.2.1 Z.2.2.2.2.2 S24.1 S24.2 ha0 ta0 rfl rfl (k_X10_asTold l D cy S24.2 ha0 ta0) (cwV 0 hts gX10_check_X10_asTold rfl rfl rfl (by decide +kernel) ⟨Nat.le_of_ble_eq_true rfl, Nat.le_of_ble_eq_true rfl⟩) rfl hl.1 rfl (Nat.le_of_ble_eq_true rfl) dX10_check_23 ⟨Nat.zero_le _, Nat.zero_le _⟩ (fun E28 H29 k30 W28 I28 G28 p28 => ?_)
    have p28_0 := p28
    have S28 : Now D TB cy (va_A (va_pl L E) sz) s L τ E28 H29 k30 := ⟨W28, I28⟩
    have F28 : Fr L τ (inW [(11, 0), (63, 0), (64, 0), (65, 0), (66, 0), (67, 0), (68, 0), (69, 0), (70, 0), (71, 0), (62, 0)]) E E28 := F24.trans (G28.mono (inW_mono (by decide)))
    refine lv_aload_n hx hb dX10_check_26 rfl (lv_at hl 0 rfl) ?_
    refine tr_geti Z.1 Z.2.2.2.1 S28.1 S28.2 ha0 ta0 rfl rfl (fun _ h => List.mem_cons_of_mem _ (List.mem_append_right _ h)) 47 (by decide) rfl (hts _ (List.mem_of_getElem? (i := 2) rfl)) dX10_check_27 (fun v32 ev32 lv32 uv32 => ?_)
    have wv32 : v32 = v22 := ev32.symm.trans ((p28_0 47 (by decide)).trans ((p24_1 47 (by decide)).trans ev22))
    have xv32 : v32.toInt = v22.toInt := by rw [wv32]
    obtain ⟨v33, ev33, tv33⟩ : ∃ v : Int32, Int32.ofInt (4) = v ∧ v.toInt = 4 := ⟨_, rfl, by decide +kernel⟩
    refine lv_iconst hx hb dX10_check_30 ev33 ?_
    refine lv_aload_n hx hb dX10_check_31 rfl (lv_at hl 0 rfl) ?_
    refine tr_geti Z.1 Z.2.2.2.1 S28.1 S28.2 ha0 ta0 rfl rfl (fun _ h => List.mem_cons_of_mem _ (List.mem_append_right _ h)) 8 (by decide) rfl (hts _ (List.mem_of_getElem? (i := 3) rfl)) dX10_check_32 (fun v34 ev34 lv34 uv34 => ?_)
    refine lv_imul hx hb dX10_check_35 ?_
    refine lv_topi (fun v35 ev35 => ?_)
    have tv35 := nu_mulc' (4) ev35 (by omega) (by omega) (by omega)
    refine lv_icmp_eq (tgt := 42) hx hb dX10_check_36 (by decide) (fun c36 => ?_) (fun c36 => ?_)
    · skip
      have tc36 := nu_eq c36
      obtain ⟨v37, ev37, tv37⟩ : ∃ v : Int32, Int32.ofInt (0) = v ∧ v.toInt = 0 := ⟨_, rfl, by decide +kernel⟩
      refine lv_iconst hx hb dX10_check_42 ev37 ?_
      refine lv_istore_n (lv' := [(1, .int v37), (0, .ref a0)]) hx hb dX10_check_43 rfl hl (by decide) rfl (fun l38 hl39 => ?_)
      exact J44 _ v37 E28 H29 k30 l38 S28 F28 (by omega) (by omega) (fun k hk => ((p28_0 k (fw_sub (by decide) hk)).trans ((p24_1 k (fw_sub (by decide) hk)).trans ((fi_put P19 (Or.inr (fw_ne (by decide) hk))).trans ((fun k hk => rfl) k hk))))) (by rw [((p28_0 3 (by decide)).trans rfl)]; omega) (Nat.lt_succ_self _) (lv_sub hl39 [1, 0] rfl)
    · skip
      have tc36 := nu_ne c36
      obtain ⟨v40, ev40, tv40⟩ : ∃ v : Int32, (Int8.ofInt (-3)).toInt32 = v ∧ v.toInt = -3 := ⟨_, rfl, by decide +kernel⟩
      refine lv_bipush hx hb dX10_check_39 ev40 ?_
      rw [← hQ]
      exact en_i Z S28 F28 ⟨(by rw [((p28_0 3 (by decide)).trans rfl)]; omega), (fun k hk => ((p28_0 k (fw_sub (by decide) hk)).trans ((p24_1 k (fw_sub (by decide) hk)).trans ((fi_put P19 (Or.inr (fw_ne (by decide) hk))).trans ((fun k hk => rfl) k hk)))))⟩ dX10_check_41
  · skip
    have tc23 := nu_eq c23
    have uc23 : (0 : Int32).toInt = 0 := rfl
    refine lv_aload_n hx hb dX10_check_12 rfl (lv_at hl 0 rfl) ?_
    obtain ⟨v41, ev41, tv41⟩ : ∃ v : Int32, Int32.ofInt (5) = v ∧ v.toInt = 5 := ⟨_, rfl, by decide +kernel⟩
    refine lv_iconst hx hb dX10_check_13 ev41 ?_
    refine tc_vi Z.1 Z.2.2.2.1 Z.2.2.2.2.1 Z.2.2.2.2.2 S19.1 S19.2 ha0 ta0 rfl rfl (k_X10_no_vw l D cy S19.2 ha0 ta0 v41) (cwV 1 hts gX10_check_X10_no rfl rfl rfl (by decide +kernel) ⟨Nat.le_of_ble_eq_true rfl, Nat.le_of_ble_eq_true rfl⟩) rfl hl.1 rfl (Nat.le_of_ble_eq_true rfl) dX10_check_14 ⟨Nat.zero_le _, Nat.zero_le _⟩ (fun v45 E42 H43 k44 W42 I42 G42 p42 => ?_)
    obtain ⟨p42_0, p42_1, p42_2, p42_3⟩ := p42
    have S42 : Now D TB cy (va_A (va_pl L E) sz) s L τ E42 H43 k44 := ⟨W42, I42⟩
    have F42 : Fr L τ (inW [(11, 0), (63, 0), (64, 0), (65, 0), (66, 0), (67, 0), (68, 0), (69, 0), (70, 0), (71, 0), (62, 0)]) E E42 := F19.trans (G42.mono (inW_mono (by decide)))
    have kz42_3 := fi_rng (k := 3) S42.2 ha0 ta0 rfl rfl
    rw [← hQ]
    exact en_i Z S42 F42 ⟨(by omega), (fun k hk => ((p42_3 k (fw_sub (by decide) hk)).trans ((fi_put P19 (Or.inr (fw_ne (by decide) hk))).trans ((fun k hk => rfl) k hk))))⟩ dX10_check_17

set_option maxHeartbeats 4000000 in
set_option maxRecDepth 100000 in
theorem k_X10_law_vw (l : Launch) (D : va_G) (cy : Nat → ClassId) {L : List Nat} {τ : Nat → Ro} {E : Ec} (hI : Inv TB cy L τ E) {a0 : Nat} (ha0 : a0 ∈ L) (ta0 : τ a0 = (11, 0)) (a1 : Int32) {qv : Nat} (hqv : qv ∈ L) (tqv : τ qv = (72, 0)) (hC : Chain L τ E) (hS : SlotOK L τ E) : CtI l yX10_law wsX10_law { frames := 5, cells := 0, slots := 0, locals := 127 } D TB cy L τ E [.ref a0, .int a1] (inW [(11, 0), (74, 0), (75, 0), (76, 0), (77, 0), (78, 0), (79, 0), (80, 0), (73, 0), (60, 0), (61, 0)]) (fun r E' => ((0 ≤ a1.toInt ∧ a1.toInt ≤ (fi E a0 20).toInt ∧ (fi E' a0 20).toInt = 0 ∧ DidF (fi E' a0 5).toInt (fi E' a0 6).toInt (readI (mkB (fun i => (ai E qv i).toInt) a1.toInt.toNat) a1.toInt.toNat) ∧ (((fi E' a0 5).toInt ≠ 0 ∧ (fi E' a0 3).toInt = 2) ∨ ((fi E' a0 5).toInt = 0 ∧ (fi E' a0 3).toInt ≠ 2))) ∨ (¬ (0 ≤ a1.toInt ∧ a1.toInt ≤ (fi E a0 20).toInt) ∧ (fi E' a0 20).toInt = (fi E a0 20).toInt ∧ fi E' a0 5 = fi E a0 5 ∧ (∀ i : Nat, ai E' qv i = ai E qv i) ∧ (fi E' a0 3).toInt ≠ 2)) ∧ (∀ k : Nat, k ∉ ([2, 3, 4, 5, 6, 20, 21, 22] : List Nat) → fi E' a0 k = fi E a0 k) ∧ Chain L τ E' ∧ SlotOK L τ E') := by
  intro sz
  refine sta (cc := cX10_law) (maxL := 3) hI (by decide) rfl (Nat.le_of_ble_eq_true rfl) (fun p e s m args below meth c ls hsz Z S0 hl => ?_)
  have hx := Z.1.1
  have hb := Z.1.2.1
  have hts := Z.1.2.2.2.2
  have F0_ : Fr L τ (inW [(11, 0), (74, 0), (75, 0), (76, 0), (77, 0), (78, 0), (79, 0), (80, 0), (73, 0), (60, 0), (61, 0)]) E E := Fr.refl
  have hl : lv_has ls 3 [(0, .ref a0), (1, .int a1)] := hl
  generalize hQ : MQ below _ args s 0 0 _ = QQ
  obtain ⟨qn, hqn, tqn⟩ := ref_of (k := 0) hI ha0 ta0 rfl rfl
  have tqn : τ qn = (60, 0) := tqn
  obtain ⟨qp, hqp, tqp⟩ := ref_of (k := 1) hI ha0 ta0 rfl rfl
  have tqp : τ qp = (61, 0) := tqp
  obtain ⟨ql, hql, tql⟩ := ref_of (k := 24) hI ha0 ta0 rfl rfl
  have tql : τ ql = (75, 0) := tql
  obtain ⟨qr, hqr, tqr⟩ := ref_of (k := 25) hI ha0 ta0 rfl rfl
  have tqr : τ qr = (76, 0) := tqr
  obtain ⟨qm, hqm, tqm⟩ := ref_of (k := 26) hI ha0 ta0 rfl rfl
  have tqm : τ qm = (77, 0) := tqm
  obtain ⟨qd, hqd, tqd⟩ := ref_of (k := 28) hI ha0 ta0 rfl rfl
  have tqd : τ qd = (79, 0) := tqd
  obtain ⟨qx, hqx, tqx⟩ := ref_of (k := 19) hI ha0 ta0 rfl rfl
  have tqx : τ qx = (73, 0) := tqx
  have kz_a0_20 := fi_rng (k := 20) hI ha0 ta0 rfl rfl
  have J26 : ∀ (n : Nat) (x2_26 : Int32) (E_26 : Ec) (H_26 : Heap) (k_26 : List Loc) (l_26 : Array Slot), Now D TB cy (va_A (va_pl L E) sz) s L τ E_26 H_26 k_26 → Fr L τ (inW [(11, 0), (74, 0), (75, 0), (76, 0), (77, 0), (78, 0), (79, 0), (80, 0), (73, 0), (60, 0), (61, 0)]) E E_26 → (0 ≤ a1.toInt) → (a1.toInt ≤ 120) → (0 ≤ x2_26.toInt) → (x2_26.toInt ≤ 120) → (∀ i : Nat, i < x2_26.toInt.toNat → ai E_26 qx i = ai E qv i) → (SlotOK L τ E_26) → (Chain L τ E_26) → (∀ k : Nat, k ∉ ([2, 3, 4, 5, 6, 20, 21, 22] : List Nat) → fi E_26 a0 k = fi E a0 k) → (0 ≤ (fi E_26 a0 20).toInt ∧ (fi E_26 a0 20).toInt ≤ 120 ∧ (fi E_26 a0 20).toInt = (fi E a0 20).toInt ∧ 0 ≤ a1.toInt ∧ a1.toInt ≤ (fi E a0 20).toInt) → (120 - x2_26.toInt).toNat < n → lv_has l_26 3 [(0, .ref a0), (1, .int a1), (2, .int x2_26)] → W p l e { frames := 5, cells := 0, slots := 0, locals := 127 } s m args below meth c H_26 k_26 0 0 QQ (F0 m 26 l_26 []) := by
    intro n
    induction n with
    | zero => intro x2_26 E_26 H_26 k_26 l_26 S_26 F_26 z1 z2 z3 z4 z5 z6 z7 z8 z9 hm hl_26; exact absurd hm (Nat.not_lt_zero _)
    | succ n ih =>
      intro x2_26 E_26 H_26 k_26 l_26 S_26 F_26 z1 z2 z3 z4 z5 z6 z7 z8 z9 hm hl_26
      have ih_26 := ih
      refine lv_iload_n hx hb dX10_law_26 rfl (lv_at hl_26 2 rfl) ?_
      refine lv_iload_n hx hb dX10_law_27 rfl (lv_at hl_26 1 rfl) ?_
      refine lv_icmp_ge (tgt := 49) hx hb dX10_law_28 (by decide) (fun c10 => ?_) (fun c10 => ?_)
      · skip
        have tc10 := nu_le c10
        refine lv_aload_n hx hb dX10_law_49 rfl (lv_at hl_26 0 rfl) ?_
        refine lv_iload_n hx hb dX10_law_50 rfl (lv_at hl_26 1 rfl) ?_
        refine tr_puti Z.1 Z.2.2.2.1 S_26.1 S_26.2 ha0 ta0 rfl rfl (fun _ h => List.mem_cons_of_mem _ (List.mem_append_right _ h)) tyX10_ok nmX10 21 (by decide) rfl rfl rfl (hts _ (List.mem_of_getElem? (i := 5) rfl)) dX10_law_51 (by omega) (by omega) (fun E11 H12 k13 W11 I11 P11 => ?_)
        have S11 : Now D TB cy (va_A (va_pl L E) sz) s L τ E11 H12 k13 := ⟨W11, I11⟩
        have F11 : Fr L τ (inW [(11, 0), (74, 0), (75, 0), (76, 0), (77, 0), (78, 0), (79, 0), (80, 0), (73, 0), (60, 0), (61, 0)]) E E11 := Fr.put F_26 P11 ta0 rfl
        refine lv_aload_n hx hb dX10_law_54 rfl (lv_at hl_26 0 rfl) ?_
        obtain ⟨v14, ev14, tv14⟩ : ∃ v : Int32, Int32.ofInt (0) = v ∧ v.toInt = 0 := ⟨_, rfl, by decide +kernel⟩
        refine lv_iconst hx hb dX10_law_55 ev14 ?_
        refine tr_puti Z.1 Z.2.2.2.1 S11.1 S11.2 ha0 ta0 rfl rfl (fun _ h => List.mem_cons_of_mem _ (List.mem_append_right _ h)) tyX10_ok nmX10 20 (by decide) rfl rfl rfl (hts _ (List.mem_of_getElem? (i := 2) rfl)) dX10_law_56 (by omega) (by omega) (fun E15 H16 k17 W15 I15 P15 => ?_)
        have S15 : Now D TB cy (va_A (va_pl L E) sz) s L τ E15 H16 k17 := ⟨W15, I15⟩
        have F15 : Fr L τ (inW [(11, 0), (74, 0), (75, 0), (76, 0), (77, 0), (78, 0), (79, 0), (80, 0), (73, 0), (60, 0), (61, 0)]) E E15 := Fr.put F11 P15 ta0 rfl
        refine lv_aload_n hx hb dX10_law_59 rfl (lv_at hl_26 0 rfl) ?_
        obtain ⟨v18, ev18, tv18⟩ : ∃ v : Int32, Int32.ofInt (0) = v ∧ v.toInt = 0 := ⟨_, rfl, by decide +kernel⟩
        refine lv_iconst hx hb dX10_law_60 ev18 ?_
        refine tr_puti Z.1 Z.2.2.2.1 S15.1 S15.2 ha0 ta0 rfl rfl (fun _ h => List.mem_cons_of_mem _ (List.mem_append_right _ h)) tyX10_ok nmX10 5 (by decide) rfl rfl rfl (hts _ (List.mem_of_getElem? (i := 6) rfl)) dX10_law_61 (by have := fb_rng v18; omega) (by have := fb_rng v18; omega) (fun E19 H20 k21 W19 I19 P19 => ?_)
        have S19 : Now D TB cy (va_A (va_pl L E) sz) s L τ E19 H20 k21 := ⟨W19, I19⟩
        have F19 : Fr L τ (inW [(11, 0), (74, 0), (75, 0), (76, 0), (77, 0), (78, 0), (79, 0), (80, 0), (73, 0), (60, 0), (61, 0)]) E E19 := Fr.put F15 P19 ta0 rfl
        refine lv_aload_n hx hb dX10_law_64 rfl (lv_at hl_26 0 rfl) ?_
        obtain ⟨v22, ev22, tv22⟩ : ∃ v : Int32, Int32.ofInt (-1) = v ∧ v.toInt = -1 := ⟨_, rfl, by decide +kernel⟩
        refine lv_iconst hx hb dX10_law_65 ev22 ?_
        refine tr_puti Z.1 Z.2.2.2.1 S19.1 S19.2 ha0 ta0 rfl rfl (fun _ h => List.mem_cons_of_mem _ (List.mem_append_right _ h)) tyX10_ok nmX10 6 (by decide) rfl rfl rfl (hts _ (List.mem_of_getElem? (i := 7) rfl)) dX10_law_66 (by have := fb_rng v22; omega) (by have := fb_rng v22; omega) (fun E23 H24 k25 W23 I23 P23 => ?_)
        have S23 : Now D TB cy (va_A (va_pl L E) sz) s L τ E23 H24 k25 := ⟨W23, I23⟩
        have F23 : Fr L τ (inW [(11, 0), (74, 0), (75, 0), (76, 0), (77, 0), (78, 0), (79, 0), (80, 0), (73, 0), (60, 0), (61, 0)]) E E23 := Fr.put F19 P23 ta0 rfl
        refine lv_aload_n hx hb dX10_law_69 rfl (lv_at hl_26 0 rfl) ?_
        refine tc_vi Z.1 Z.2.2.2.1 Z.2.2.2.2.1 Z.2.2.2.2.2 S23.1 S23.2 ha0 ta0 rfl rfl (k_X10_freeSlot l D cy S23.2 ha0 ta0 (Chain.same z7 S23.2 ha0 ta0 hqn tqn hqp tqp ((P23.1 qn (ne_ro tqn ta0 (by decide))).trans ((P19.1 qn (ne_ro tqn ta0 (by decide))).trans ((P15.1 qn (ne_ro tqn ta0 (by decide))).trans (P11.1 qn (ne_ro tqn ta0 (by decide)))))) ((P23.1 qp (ne_ro tqp ta0 (by decide))).trans ((P19.1 qp (ne_ro tqp ta0 (by decide))).trans ((P15.1 qp (ne_ro tqp ta0 (by decide))).trans (P11.1 qp (ne_ro tqp ta0 (by decide)))))) ((fi_put (k := 2) P23 (Or.inr (by decide))).trans ((fi_put (k := 2) P19 (Or.inr (by decide))).trans ((fi_put (k := 2) P15 (Or.inr (by decide))).trans (fi_put (k := 2) P11 (Or.inr (by decide)))))))) (cwV 0 hts gX10_law_X10_freeSlot rfl rfl rfl (by decide +kernel) ⟨Nat.le_of_ble_eq_true rfl, Nat.le_of_ble_eq_true rfl⟩) rfl hl_26.1 rfl (Nat.le_of_ble_eq_true rfl) dX10_law_70 ⟨Nat.zero_le _, Nat.zero_le _⟩ (fun v29 E26 H27 k28 W26 I26 G26 p26 => ?_)
        obtain ⟨q26, p26_0, p26_1⟩ := p26
        have q26 := q26.symm
        subst q26
        have S26 : Now D TB cy (va_A (va_pl L E) sz) s L τ E23 H27 k28 := ⟨W26, I26⟩
        refine lv_istore_n (lv' := [(2, .int v29), (0, .ref a0), (1, .int a1)]) hx hb dX10_law_73 rfl hl_26 (by decide) rfl (fun l30 hl31 => ?_)
        refine lv_aload_n hx hb dX10_law_74 rfl (lv_at hl31 1 rfl) ?_
        refine lv_iload_n hx hb dX10_law_75 rfl (lv_at hl31 0 rfl) ?_
        have f0_76 : (fi E23 a0 5).toInt = 0 := by rw [((fi_put (k := 5) P23 (Or.inr (by decide))).trans (fi_at P19))]; omega
        have fx_76 : (fi E23 a0 21).toInt.toNat = a1.toInt.toNat := by rw [((fi_put (k := 21) P23 (Or.inr (by decide))).trans ((fi_put (k := 21) P19 (Or.inr (by decide))).trans ((fi_put (k := 21) P15 (Or.inr (by decide))).trans (fi_at P11))))]
        have tx_76 : tx E23 qx a0 21 = (mkB (fun i => (ai E qv i).toInt) a1.toInt.toNat) := by unfold tx; rw [fx_76]; exact mk_eq (fun i hi => congrArg Int32.toInt ((ai_put P23 (ne_ro tqx ta0 (by decide))).trans ((ai_put P19 (ne_ro tqx ta0 (by decide))).trans ((ai_put P15 (ne_ro tqx ta0 (by decide))).trans ((ai_put P11 (ne_ro tqx ta0 (by decide))).trans (z5 i (by omega)))))))
        refine tc_vv Z.1 Z.2.2.2.1 Z.2.2.2.2.1 Z.2.2.2.2.2 S26.1 S26.2 ha0 ta0 rfl rfl (k_X10_read_vr l D cy S26.2 ha0 ta0 v29 (by omega) (by omega) hqx tqx f0_76 (SlotOK.same z6 S26.2 hql tql hqr tqr hqm tqm hqd tqd ((P23.1 ql (ne_ro tql ta0 (by decide))).trans ((P19.1 ql (ne_ro tql ta0 (by decide))).trans ((P15.1 ql (ne_ro tql ta0 (by decide))).trans (P11.1 ql (ne_ro tql ta0 (by decide)))))) ((P23.1 qr (ne_ro tqr ta0 (by decide))).trans ((P19.1 qr (ne_ro tqr ta0 (by decide))).trans ((P15.1 qr (ne_ro tqr ta0 (by decide))).trans (P11.1 qr (ne_ro tqr ta0 (by decide)))))) ((P23.1 qm (ne_ro tqm ta0 (by decide))).trans ((P19.1 qm (ne_ro tqm ta0 (by decide))).trans ((P15.1 qm (ne_ro tqm ta0 (by decide))).trans (P11.1 qm (ne_ro tqm ta0 (by decide)))))) ((P23.1 qd (ne_ro tqd ta0 (by decide))).trans ((P19.1 qd (ne_ro tqd ta0 (by decide))).trans ((P15.1 qd (ne_ro tqd ta0 (by decide))).trans (P11.1 qd (ne_ro tqd ta0 (by decide)))))))) (cwV 1 hts gX10_law_X10_read rfl rfl rfl (by decide +kernel) ⟨Nat.le_of_ble_eq_true rfl, Nat.le_of_ble_eq_true rfl⟩) rfl hl31.1 rfl (Nat.le_of_ble_eq_true rfl) dX10_law_76 ⟨Nat.zero_le _, Nat.zero_le _⟩ (fun E32 H33 k34 W32 I32 G32 p32 => ?_)
        obtain ⟨p32_0, p32_1, p32_2⟩ := p32
        have S32 : Now D TB cy (va_A (va_pl L E) sz) s L τ E32 H33 k34 := ⟨W32, I32⟩
        have F32 : Fr L τ (inW [(11, 0), (74, 0), (75, 0), (76, 0), (77, 0), (78, 0), (79, 0), (80, 0), (73, 0), (60, 0), (61, 0)]) E E32 := F23.trans (G32.mono (inW_mono (by decide)))
        have dr_76 : DidF (fi E32 a0 5).toInt (fi E32 a0 6).toInt (readI (mkB (fun i => (ai E qv i).toInt) a1.toInt.toNat) a1.toInt.toNat) := by have q := p32_0; rw [tx_76, fx_76] at q; exact q
        have kp_76f := fi_rng (k := 5) S32.2 ha0 ta0 rfl rfl
        refine lv_aload_n hx hb dX10_law_79 rfl (lv_at hl31 1 rfl) ?_
        refine tc_vi Z.1 Z.2.2.2.1 Z.2.2.2.2.1 Z.2.2.2.2.2 S32.1 S32.2 ha0 ta0 rfl rfl (k_X10_bad l D cy S32.2 ha0 ta0) (cwV 0 hts gX10_law_X10_bad rfl rfl rfl (by decide +kernel) ⟨Nat.le_of_ble_eq_true rfl, Nat.le_of_ble_eq_true rfl⟩) rfl hl31.1 rfl (Nat.le_of_ble_eq_true rfl) dX10_law_80 ⟨Nat.zero_le _, Nat.zero_le _⟩ (fun v39 E36 H37 k38 W36 I36 G36 p36 => ?_)
        obtain ⟨q36, p36_0, p36_1, p36_2⟩ := p36
        have q36 := q36.symm
        subst q36
        have S36 : Now D TB cy (va_A (va_pl L E) sz) s L τ E32 H37 k38 := ⟨W36, I36⟩
        refine lv_if_eq (tgt := 93) hx hb dX10_law_83 (by decide) (fun c40 => ?_) (fun c40 => ?_)
        · skip
          have tc40 := nu_eq c40
          have uc40 : (0 : Int32).toInt = 0 := rfl
          have ge_76 := read_ge (B := (mkB (fun i => (ai E qv i).toInt) a1.toInt.toNat)) (n := a1.toInt.toNat)
          have e1_76 := dr_76.1
          have f0_93 : (fi E32 a0 5).toInt = 0 := by omega
          refine lv_aload_n hx hb dX10_law_93 rfl (lv_at hl31 1 rfl) ?_
          refine tr_getr Z.1 Z.2.2.2.1 S36.1 S36.2 ha0 ta0 rfl rfl (fun _ h => List.mem_cons_of_mem _ (List.mem_append_right _ h)) 0 (by decide) rfl (hts _ (List.mem_of_getElem? (i := 9) rfl)) dX10_law_94 (fun q41 eq41 hq41 tq41 => ?_)
          have tq41 : τ q41 = (60, 0) := tq41
          have uq41 : qn = q41 := S36.2.2.2.2 _ hqn _ hq41 (tqn.trans tq41.symm) (by rw [tqn]; rfl)
          subst uq41
          obtain ⟨v42, ev42, tv42⟩ : ∃ v : Int32, (Int8.ofInt (44)).toInt32 = v ∧ v.toInt = 44 := ⟨_, rfl, by decide +kernel⟩
          refine lv_bipush hx hb dX10_law_97 ev42 ?_
          refine tr_ialdx Z.1 Z.2.2.2.1 S36.1 S36.2 hqn tqn rfl (by omega) (by omega) dX10_law_99 (fun v43 ev43 lv43 uv43 => ?_)
          have bv43 : nowB v42.toNatClampNeg = (0, 8) := nb_44 (by show v42.toInt.toNat = 44; omega)
          rw [bv43] at lv43 uv43
          have lv43 : 0 ≤ v43.toInt := lv43
          have uv43 : v43.toInt ≤ 8 := uv43
          have av43 : ai E32 qn 44 = v43 := ai_at ev43 (by omega)
          obtain ⟨v44, ev44, tv44⟩ : ∃ v : Int32, (Int8.ofInt (8)).toInt32 = v ∧ v.toInt = 8 := ⟨_, rfl, by decide +kernel⟩
          refine lv_bipush hx hb dX10_law_100 ev44 ?_
          refine lv_icmp_ne (tgt := 111) hx hb dX10_law_102 (by decide) (fun c45 => ?_) (fun c45 => ?_)
          · skip
            have tc45 := nu_ne c45
            refine lv_aload_n hx hb dX10_law_111 rfl (lv_at hl31 1 rfl) ?_
            refine tc_vv Z.1 Z.2.2.2.1 Z.2.2.2.2.1 Z.2.2.2.2.2 S36.1 S36.2 ha0 ta0 rfl rfl (k_X10_act_vw l D cy S36.2 ha0 ta0 (Chain.same z7 S36.2 ha0 ta0 hqn tqn hqp tqp ((G32 qn hqn (by rw [tqn]; rfl)).trans ((P23.1 qn (ne_ro tqn ta0 (by decide))).trans ((P19.1 qn (ne_ro tqn ta0 (by decide))).trans ((P15.1 qn (ne_ro tqn ta0 (by decide))).trans (P11.1 qn (ne_ro tqn ta0 (by decide))))))) ((G32 qp hqp (by rw [tqp]; rfl)).trans ((P23.1 qp (ne_ro tqp ta0 (by decide))).trans ((P19.1 qp (ne_ro tqp ta0 (by decide))).trans ((P15.1 qp (ne_ro tqp ta0 (by decide))).trans (P11.1 qp (ne_ro tqp ta0 (by decide))))))) ((p32_1 2 (by decide)).trans ((fi_put (k := 2) P23 (Or.inr (by decide))).trans ((fi_put (k := 2) P19 (Or.inr (by decide))).trans ((fi_put (k := 2) P15 (Or.inr (by decide))).trans (fi_put (k := 2) P11 (Or.inr (by decide))))))))) (cwV 0 hts gX10_law_X10_act rfl rfl rfl (by decide +kernel) ⟨Nat.le_of_ble_eq_true rfl, Nat.le_of_ble_eq_true rfl⟩) rfl hl31.1 rfl (Nat.le_of_ble_eq_true rfl) dX10_law_112 ⟨Nat.zero_le _, Nat.zero_le _⟩ (fun E46 H47 k48 W46 I46 G46 p46 => ?_)
            obtain ⟨p46_0, p46_1, p46_2⟩ := p46
            have S46 : Now D TB cy (va_A (va_pl L E) sz) s L τ E46 H47 k48 := ⟨W46, I46⟩
            have F46 : Fr L τ (inW [(11, 0), (74, 0), (75, 0), (76, 0), (77, 0), (78, 0), (79, 0), (80, 0), (73, 0), (60, 0), (61, 0)]) E E46 := F32.trans (G46.mono (inW_mono (by decide)))
            have C50 : ∀ T : Nat → Int32, Link (ai E_26 qn) T → ChW E46 a0 qp T := fun T hT => p46_0 qn hqn tqn qp hqp tqp T (by rw [ai_cell ((G32 qn hqn (by rw [tqn]; rfl)).trans ((P23.1 qn (ne_ro tqn ta0 (by decide))).trans ((P19.1 qn (ne_ro tqn ta0 (by decide))).trans ((P15.1 qn (ne_ro tqn ta0 (by decide))).trans (P11.1 qn (ne_ro tqn ta0 (by decide)))))))]; exact hT)
            have B51 : ∀ j : Nat, 44 ≤ j → j ≤ 52 → ai E46 qn j = ai E_26 qn j := fun j _ _ => ((ai_fr G46 hqn (by rw [tqn]; rfl)).trans ((ai_fr G32 hqn (by rw [tqn]; rfl)).trans ((ai_put P23 (ne_ro tqn ta0 (by decide))).trans ((ai_put P19 (ne_ro tqn ta0 (by decide))).trans ((ai_put P15 (ne_ro tqn ta0 (by decide))).trans (ai_put P11 (ne_ro tqn ta0 (by decide))))))))
            have kz46_3 := fi_rng (k := 3) S46.2 ha0 ta0 rfl rfl
            refine lv_aload_n hx hb dX10_law_115 rfl (lv_at hl31 1 rfl) ?_
            refine tr_getr Z.1 Z.2.2.2.1 S46.1 S46.2 ha0 ta0 rfl rfl (fun _ h => List.mem_cons_of_mem _ (List.mem_append_right _ h)) 0 (by decide) rfl (hts _ (List.mem_of_getElem? (i := 9) rfl)) dX10_law_116 (fun q52 eq52 hq52 tq52 => ?_)
            have tq52 : τ q52 = (60, 0) := tq52
            have uq52 : qn = q52 := S46.2.2.2.2 _ hqn _ hq52 (tqn.trans tq52.symm) (by rw [tqn]; rfl)
            subst uq52
            obtain ⟨v53, ev53, tv53⟩ : ∃ v : Int32, (Int8.ofInt (45)).toInt32 = v ∧ v.toInt = 45 := ⟨_, rfl, by decide +kernel⟩
            refine lv_bipush hx hb dX10_law_119 ev53 ?_
            refine lv_aload_n hx hb dX10_law_121 rfl (lv_at hl31 1 rfl) ?_
            refine tr_getr Z.1 Z.2.2.2.1 S46.1 S46.2 ha0 ta0 rfl rfl (fun _ h => List.mem_cons_of_mem _ (List.mem_append_right _ h)) 0 (by decide) rfl (hts _ (List.mem_of_getElem? (i := 9) rfl)) dX10_law_122 (fun q54 eq54 hq54 tq54 => ?_)
            have tq54 : τ q54 = (60, 0) := tq54
            have uq54 : qn = q54 := S46.2.2.2.2 _ hqn _ hq54 (tqn.trans tq54.symm) (by rw [tqn]; rfl)
            subst uq54
            obtain ⟨v55, ev55, tv55⟩ : ∃ v : Int32, (Int8.ofInt (44)).toInt32 = v ∧ v.toInt = 44 := ⟨_, rfl, by decide +kernel⟩
            refine lv_bipush hx hb dX10_law_125 ev55 ?_
            refine tr_ialdx Z.1 Z.2.2.2.1 S46.1 S46.2 hqn tqn rfl (by omega) (by omega) dX10_law_127 (fun v56 ev56 lv56 uv56 => ?_)
            have bv56 : nowB v55.toNatClampNeg = (0, 8) := nb_44 (by show v55.toInt.toNat = 44; omega)
            rw [bv56] at lv56 uv56
            have lv56 : 0 ≤ v56.toInt := lv56
            have uv56 : v56.toInt ≤ 8 := uv56
            have av56 : ai E46 qn 44 = v56 := ai_at ev56 (by omega)
            have wv56 : v56 = v43 := av56.symm.trans ((ai_fr G46 hqn (by rw [tqn]; rfl)).trans av43)
            have xv56 : v56.toInt = v43.toInt := by rw [wv56]
            refine lv_iadd hx hb dX10_law_128 ?_
            refine lv_topi (fun v57 ev57 => ?_)
            have tv57 := nu_add ev57 (by omega) (by omega)
            refine lv_iload_n hx hb dX10_law_129 rfl (lv_at hl31 0 rfl) ?_
            have b58 : nowB v57.toNatClampNeg = (0, 49) := nb_45 (by show 45 ≤ v57.toInt.toNat ∧ v57.toInt.toNat ≤ 52; omega)
            have b58 : (nowB v57.toNatClampNeg).1 ≤ v29.toInt ∧ v29.toInt ≤ (nowB v57.toNatClampNeg).2 := by rw [b58]; have := fb_rng v29; show 0 ≤ v29.toInt ∧ v29.toInt ≤ 49; omega
            refine tr_iastx Z.1 Z.2.2.2.1 S46.1 S46.2 hqn tqn rfl (by omega) (by omega) b58.1 b58.2 dX10_law_130 (fun E58 H59 k60 W58 I58 P58 => ?_)
            have S58 : Now D TB cy (va_A (va_pl L E) sz) s L τ E58 H59 k60 := ⟨W58, I58⟩
            have F58 : Fr L τ (inW [(11, 0), (74, 0), (75, 0), (76, 0), (77, 0), (78, 0), (79, 0), (80, 0), (73, 0), (60, 0), (61, 0)]) E E58 := Fr.set F46 P58 tqn rfl
            refine lv_aload_n hx hb dX10_law_131 rfl (lv_at hl31 1 rfl) ?_
            refine tr_getr Z.1 Z.2.2.2.1 S58.1 S58.2 ha0 ta0 rfl rfl (fun _ h => List.mem_cons_of_mem _ (List.mem_append_right _ h)) 0 (by decide) rfl (hts _ (List.mem_of_getElem? (i := 9) rfl)) dX10_law_132 (fun q61 eq61 hq61 tq61 => ?_)
            have tq61 : τ q61 = (60, 0) := tq61
            have uq61 : qn = q61 := S58.2.2.2.2 _ hqn _ hq61 (tqn.trans tq61.symm) (by rw [tqn]; rfl)
            subst uq61
            obtain ⟨v62, ev62, tv62⟩ : ∃ v : Int32, (Int8.ofInt (44)).toInt32 = v ∧ v.toInt = 44 := ⟨_, rfl, by decide +kernel⟩
            refine lv_bipush hx hb dX10_law_135 ev62 ?_
            refine lv_dup2_11 hx hb dX10_law_137 rfl rfl ?_
            refine tr_ialdx Z.1 Z.2.2.2.1 S58.1 S58.2 hqn tqn rfl (by omega) (by omega) dX10_law_138 (fun v63 ev63 lv63 uv63 => ?_)
            have bv63 : nowB v62.toNatClampNeg = (0, 8) := nb_44 (by show v62.toInt.toNat = 44; omega)
            rw [bv63] at lv63 uv63
            have lv63 : 0 ≤ v63.toInt := lv63
            have uv63 : v63.toInt ≤ 8 := uv63
            have av63 : ai E58 qn 44 = v63 := ai_at ev63 (by omega)
            have wv63 : v63 = v56 := av63.symm.trans ((ai_setk P58 (by show (44 : Nat) ≠ v57.toInt.toNat; omega)).trans av56)
            have xv63 : v63.toInt = v56.toInt := by rw [wv63]
            obtain ⟨v64, ev64, tv64⟩ : ∃ v : Int32, Int32.ofInt (1) = v ∧ v.toInt = 1 := ⟨_, rfl, by decide +kernel⟩
            refine lv_iconst hx hb dX10_law_139 ev64 ?_
            refine lv_iadd hx hb dX10_law_140 ?_
            refine lv_topi (fun v65 ev65 => ?_)
            have tv65 := nu_add ev65 (by omega) (by omega)
            have b66 : nowB v62.toNatClampNeg = (0, 8) := nb_44 (by show v62.toInt.toNat = 44; omega)
            have b66 : (nowB v62.toNatClampNeg).1 ≤ v65.toInt ∧ v65.toInt ≤ (nowB v62.toNatClampNeg).2 := by rw [b66]; have := fb_rng v65; show 0 ≤ v65.toInt ∧ v65.toInt ≤ 8; omega
            refine tr_iastx Z.1 Z.2.2.2.1 S58.1 S58.2 hqn tqn rfl (by omega) (by omega) b66.1 b66.2 dX10_law_141 (fun E66 H67 k68 W66 I66 P66 => ?_)
            have S66 : Now D TB cy (va_A (va_pl L E) sz) s L τ E66 H67 k68 := ⟨W66, I66⟩
            have F66 : Fr L τ (inW [(11, 0), (74, 0), (75, 0), (76, 0), (77, 0), (78, 0), (79, 0), (80, 0), (73, 0), (60, 0), (61, 0)]) E E66 := Fr.set F58 P66 tqn rfl
            refine lv_aload_n hx hb dX10_law_142 rfl (lv_at hl31 1 rfl) ?_
            refine tr_getr Z.1 Z.2.2.2.1 S66.1 S66.2 ha0 ta0 rfl rfl (fun _ h => List.mem_cons_of_mem _ (List.mem_append_right _ h)) 0 (by decide) rfl (hts _ (List.mem_of_getElem? (i := 9) rfl)) dX10_law_143 (fun q69 eq69 hq69 tq69 => ?_)
            have tq69 : τ q69 = (60, 0) := tq69
            have uq69 : qn = q69 := S66.2.2.2.2 _ hqn _ hq69 (tqn.trans tq69.symm) (by rw [tqn]; rfl)
            subst uq69
            obtain ⟨v70, ev70, tv70⟩ : ∃ v : Int32, (Int8.ofInt (44)).toInt32 = v ∧ v.toInt = 44 := ⟨_, rfl, by decide +kernel⟩
            refine lv_bipush hx hb dX10_law_146 ev70 ?_
            refine tr_ialdx Z.1 Z.2.2.2.1 S66.1 S66.2 hqn tqn rfl (by omega) (by omega) dX10_law_148 (fun v71 ev71 lv71 uv71 => ?_)
            have bv71 : nowB v70.toNatClampNeg = (0, 8) := nb_44 (by show v70.toInt.toNat = 44; omega)
            rw [bv71] at lv71 uv71
            have lv71 : 0 ≤ v71.toInt := lv71
            have uv71 : v71.toInt ≤ 8 := uv71
            have av71 : ai E66 qn 44 = v71 := ai_at ev71 (by omega)
            have wv71 : v71 = v65 := av71.symm.trans (ai_at P66.2.1 (show v62.toInt = 44 by omega))
            have xv71 : v71.toInt = v65.toInt := by rw [wv71]
            obtain ⟨v72, ev72, tv72⟩ : ∃ v : Int32, Int32.ofInt (1) = v ∧ v.toInt = 1 := ⟨_, rfl, by decide +kernel⟩
            refine lv_iconst hx hb dX10_law_149 ev72 ?_
            refine lv_isub hx hb dX10_law_150 ?_
            refine lv_topi (fun v73 ev73 => ?_)
            have tv73 := nu_sub ev73 (by omega) (by omega)
            rw [← hQ]
            exact en_i Z S66 F66 ⟨(Or.inl ⟨by omega, by omega, by rw [((fi_set (k := 20) P66 (ne_ro ta0 tqn (by decide))).trans ((fi_set (k := 20) P58 (ne_ro ta0 tqn (by decide))).trans ((p46_2 20 (by decide)).trans ((p32_1 20 (by decide)).trans ((fi_put (k := 20) P23 (Or.inr (by decide))).trans ((fi_put (k := 20) P19 (Or.inr (by decide))).trans (fi_at P15)))))))]; omega, ⟨by rw [((fi_set (k := 5) P66 (ne_ro ta0 tqn (by decide))).trans ((fi_set (k := 5) P58 (ne_ro ta0 tqn (by decide))).trans (p46_2 5 (by decide))))]; exact dr_76.1, fun h => absurd (dr_76.1.symm.trans f0_93) h⟩, Or.inr ⟨by rw [((fi_set (k := 5) P66 (ne_ro ta0 tqn (by decide))).trans ((fi_set (k := 5) P58 (ne_ro ta0 tqn (by decide))).trans (p46_2 5 (by decide))))]; exact f0_93, by rw [((fi_set (k := 3) P66 (ne_ro ta0 tqn (by decide))).trans ((fi_set (k := 3) P58 (ne_ro ta0 tqn (by decide))).trans rfl))]; omega⟩⟩), (fun k hk => ((fi_set P66 (ne_ro ta0 tqn (by decide))).trans ((fi_set P58 (ne_ro ta0 tqn (by decide))).trans ((p46_2 k (fw_sub (by decide) hk)).trans ((p32_1 k (fw_sub (by decide) hk)).trans ((fi_put P23 (Or.inr (fw_ne (by decide) hk))).trans ((fi_put P19 (Or.inr (fw_ne (by decide) hk))).trans ((fi_put P15 (Or.inr (fw_ne (by decide) hk))).trans ((fi_put P11 (Or.inr (fw_ne (by decide) hk))).trans (z8 k hk)))))))))), (Chain.post C50 S66.2 ha0 ta0 hqn tqn hqp tqp ((P66.1 qp (ne_ro tqp tqn (by decide))).trans (P58.1 qp (ne_ro tqp tqn (by decide)))) ((fi_set (k := 2) P66 (ne_ro ta0 tqn (by decide))).trans (fi_set (k := 2) P58 (ne_ro ta0 tqn (by decide)))) (Link.law v56.toInt.toNat (by rw [← B51 44 (by omega) (by omega), av56]; omega) (by rw [show ai E66 qn 44 = v65 from ai_at P66.2.1 (by omega)]; omega) (fun j h1 h2 h3 => ((ai_setk P66 (by show j ≠ v62.toInt.toNat; omega)).trans ((ai_setk P58 (by show j ≠ v57.toInt.toNat; omega)).trans (B51 j (by omega) h2)))))), (SlotOK.same p32_2 S66.2 hql tql hqr tqr hqm tqm hqd tqd ((P66.1 ql (ne_ro tql tqn (by decide))).trans ((P58.1 ql (ne_ro tql tqn (by decide))).trans (G46 ql hql (by rw [tql]; rfl)))) ((P66.1 qr (ne_ro tqr tqn (by decide))).trans ((P58.1 qr (ne_ro tqr tqn (by decide))).trans (G46 qr hqr (by rw [tqr]; rfl)))) ((P66.1 qm (ne_ro tqm tqn (by decide))).trans ((P58.1 qm (ne_ro tqm tqn (by decide))).trans (G46 qm hqm (by rw [tqm]; rfl)))) ((P66.1 qd (ne_ro tqd tqn (by decide))).trans ((P58.1 qd (ne_ro tqd tqn (by decide))).trans (G46 qd hqd (by rw [tqd]; rfl)))))⟩ dX10_law_151
          · skip
            have tc45 := nu_eq c45
            refine lv_aload_n hx hb dX10_law_105 rfl (lv_at hl31 1 rfl) ?_
            obtain ⟨v74, ev74, tv74⟩ : ∃ v : Int32, Int32.ofInt (3) = v ∧ v.toInt = 3 := ⟨_, rfl, by decide +kernel⟩
            refine lv_iconst hx hb dX10_law_106 ev74 ?_
            refine tc_vi Z.1 Z.2.2.2.1 Z.2.2.2.2.1 Z.2.2.2.2.2 S36.1 S36.2 ha0 ta0 rfl rfl (k_X10_no_vw l D cy S36.2 ha0 ta0 v74) (cwV 1 hts gX10_law_X10_no rfl rfl rfl (by decide +kernel) ⟨Nat.le_of_ble_eq_true rfl, Nat.le_of_ble_eq_true rfl⟩) rfl hl31.1 rfl (Nat.le_of_ble_eq_true rfl) dX10_law_107 ⟨Nat.zero_le _, Nat.zero_le _⟩ (fun v78 E75 H76 k77 W75 I75 G75 p75 => ?_)
            obtain ⟨p75_0, p75_1, p75_2, p75_3⟩ := p75
            have S75 : Now D TB cy (va_A (va_pl L E) sz) s L τ E75 H76 k77 := ⟨W75, I75⟩
            have F75 : Fr L τ (inW [(11, 0), (74, 0), (75, 0), (76, 0), (77, 0), (78, 0), (79, 0), (80, 0), (73, 0), (60, 0), (61, 0)]) E E75 := F32.trans (G75.mono (inW_mono (by decide)))
            have kz75_3 := fi_rng (k := 3) S75.2 ha0 ta0 rfl rfl
            rw [← hQ]
            exact en_i Z S75 F75 ⟨(Or.inl ⟨by omega, by omega, by rw [((p75_3 20 (by decide)).trans ((p32_1 20 (by decide)).trans ((fi_put (k := 20) P23 (Or.inr (by decide))).trans ((fi_put (k := 20) P19 (Or.inr (by decide))).trans (fi_at P15)))))]; omega, ⟨by rw [(p75_3 5 (by decide))]; exact dr_76.1, fun h => absurd (dr_76.1.symm.trans f0_93) h⟩, Or.inr ⟨by rw [(p75_3 5 (by decide))]; exact f0_93, by omega⟩⟩), (fun k hk => ((p75_3 k (fw_sub (by decide) hk)).trans ((p32_1 k (fw_sub (by decide) hk)).trans ((fi_put P23 (Or.inr (fw_ne (by decide) hk))).trans ((fi_put P19 (Or.inr (fw_ne (by decide) hk))).trans ((fi_put P15 (Or.inr (fw_ne (by decide) hk))).trans ((fi_put P11 (Or.inr (fw_ne (by decide) hk))).trans (z8 k hk)))))))), (Chain.same z7 S75.2 ha0 ta0 hqn tqn hqp tqp ((G75 qn hqn (by rw [tqn]; rfl)).trans ((G32 qn hqn (by rw [tqn]; rfl)).trans ((P23.1 qn (ne_ro tqn ta0 (by decide))).trans ((P19.1 qn (ne_ro tqn ta0 (by decide))).trans ((P15.1 qn (ne_ro tqn ta0 (by decide))).trans (P11.1 qn (ne_ro tqn ta0 (by decide)))))))) ((G75 qp hqp (by rw [tqp]; rfl)).trans ((G32 qp hqp (by rw [tqp]; rfl)).trans ((P23.1 qp (ne_ro tqp ta0 (by decide))).trans ((P19.1 qp (ne_ro tqp ta0 (by decide))).trans ((P15.1 qp (ne_ro tqp ta0 (by decide))).trans (P11.1 qp (ne_ro tqp ta0 (by decide)))))))) ((p75_3 2 (by decide)).trans ((p32_1 2 (by decide)).trans ((fi_put (k := 2) P23 (Or.inr (by decide))).trans ((fi_put (k := 2) P19 (Or.inr (by decide))).trans ((fi_put (k := 2) P15 (Or.inr (by decide))).trans (fi_put (k := 2) P11 (Or.inr (by decide))))))))), (SlotOK.same p32_2 S75.2 hql tql hqr tqr hqm tqm hqd tqd (G75 ql hql (by rw [tql]; rfl)) (G75 qr hqr (by rw [tqr]; rfl)) (G75 qm hqm (by rw [tqm]; rfl)) (G75 qd hqd (by rw [tqd]; rfl)))⟩ dX10_law_110
        · skip
          have tc40 := nu_ne c40
          have uc40 : (0 : Int32).toInt = 0 := rfl
          refine lv_aload_n hx hb dX10_law_86 rfl (lv_at hl31 1 rfl) ?_
          obtain ⟨v79, ev79, tv79⟩ : ∃ v : Int32, Int32.ofInt (2) = v ∧ v.toInt = 2 := ⟨_, rfl, by decide +kernel⟩
          refine lv_iconst hx hb dX10_law_87 ev79 ?_
          refine tr_puti Z.1 Z.2.2.2.1 S36.1 S36.2 ha0 ta0 rfl rfl (fun _ h => List.mem_cons_of_mem _ (List.mem_append_right _ h)) tyX10_ok nmX10 3 (by decide) rfl rfl rfl (hts _ (List.mem_of_getElem? (i := 8) rfl)) dX10_law_88 (by have := fb_rng v79; omega) (by have := fb_rng v79; omega) (fun E80 H81 k82 W80 I80 P80 => ?_)
          have S80 : Now D TB cy (va_A (va_pl L E) sz) s L τ E80 H81 k82 := ⟨W80, I80⟩
          have F80 : Fr L τ (inW [(11, 0), (74, 0), (75, 0), (76, 0), (77, 0), (78, 0), (79, 0), (80, 0), (73, 0), (60, 0), (61, 0)]) E E80 := Fr.put F32 P80 ta0 rfl
          obtain ⟨v83, ev83, tv83⟩ : ∃ v : Int32, Int32.ofInt (-1) = v ∧ v.toInt = -1 := ⟨_, rfl, by decide +kernel⟩
          refine lv_iconst hx hb dX10_law_91 ev83 ?_
          rw [← hQ]
          exact en_i Z S80 F80 ⟨(Or.inl ⟨by omega, by omega, by rw [((fi_put (k := 20) P80 (Or.inr (by decide))).trans ((p32_1 20 (by decide)).trans ((fi_put (k := 20) P23 (Or.inr (by decide))).trans ((fi_put (k := 20) P19 (Or.inr (by decide))).trans (fi_at P15)))))]; omega, (by rw [(fi_put (k := 5) P80 (Or.inr (by decide))), (fi_put (k := 6) P80 (Or.inr (by decide)))]; exact dr_76), Or.inl ⟨by rw [(fi_put (k := 5) P80 (Or.inr (by decide)))]; omega, by rw [(fi_at P80)]; omega⟩⟩), (fun k hk => ((fi_put P80 (Or.inr (fw_ne (by decide) hk))).trans ((p32_1 k (fw_sub (by decide) hk)).trans ((fi_put P23 (Or.inr (fw_ne (by decide) hk))).trans ((fi_put P19 (Or.inr (fw_ne (by decide) hk))).trans ((fi_put P15 (Or.inr (fw_ne (by decide) hk))).trans ((fi_put P11 (Or.inr (fw_ne (by decide) hk))).trans (z8 k hk)))))))), (Chain.same z7 S80.2 ha0 ta0 hqn tqn hqp tqp ((P80.1 qn (ne_ro tqn ta0 (by decide))).trans ((G32 qn hqn (by rw [tqn]; rfl)).trans ((P23.1 qn (ne_ro tqn ta0 (by decide))).trans ((P19.1 qn (ne_ro tqn ta0 (by decide))).trans ((P15.1 qn (ne_ro tqn ta0 (by decide))).trans (P11.1 qn (ne_ro tqn ta0 (by decide)))))))) ((P80.1 qp (ne_ro tqp ta0 (by decide))).trans ((G32 qp hqp (by rw [tqp]; rfl)).trans ((P23.1 qp (ne_ro tqp ta0 (by decide))).trans ((P19.1 qp (ne_ro tqp ta0 (by decide))).trans ((P15.1 qp (ne_ro tqp ta0 (by decide))).trans (P11.1 qp (ne_ro tqp ta0 (by decide)))))))) ((fi_put (k := 2) P80 (Or.inr (by decide))).trans ((p32_1 2 (by decide)).trans ((fi_put (k := 2) P23 (Or.inr (by decide))).trans ((fi_put (k := 2) P19 (Or.inr (by decide))).trans ((fi_put (k := 2) P15 (Or.inr (by decide))).trans (fi_put (k := 2) P11 (Or.inr (by decide))))))))), (SlotOK.same p32_2 S80.2 hql tql hqr tqr hqm tqm hqd tqd (P80.1 ql (ne_ro tql ta0 (by decide))) (P80.1 qr (ne_ro tqr ta0 (by decide))) (P80.1 qm (ne_ro tqm ta0 (by decide))) (P80.1 qd (ne_ro tqd ta0 (by decide))))⟩ dX10_law_92
      · skip
        have tc10 := nu_nle c10
        refine lv_aload_n hx hb dX10_law_31 rfl (lv_at hl_26 0 rfl) ?_
        refine tr_getr Z.1 Z.2.2.2.1 S_26.1 S_26.2 ha0 ta0 rfl rfl (fun _ h => List.mem_cons_of_mem _ (List.mem_append_right _ h)) 19 (by decide) rfl (hts _ (List.mem_of_getElem? (i := 3) rfl)) dX10_law_32 (fun q84 eq84 hq84 tq84 => ?_)
        have tq84 : τ q84 = (73, 0) := tq84
        have uq84 : qx = q84 := S_26.2.2.2.2 _ hqx _ hq84 (tqx.trans tq84.symm) (by rw [tqx]; rfl)
        subst uq84
        refine lv_iload_n hx hb dX10_law_35 rfl (lv_at hl_26 2 rfl) ?_
        refine lv_aload_n hx hb dX10_law_36 rfl (lv_at hl_26 0 rfl) ?_
        refine tr_getr Z.1 Z.2.2.2.1 S_26.1 S_26.2 ha0 ta0 rfl rfl (fun _ h => List.mem_cons_of_mem _ (List.mem_append_right _ h)) 18 (by decide) rfl (hts _ (List.mem_of_getElem? (i := 4) rfl)) dX10_law_37 (fun q85 eq85 hq85 tq85 => ?_)
        have tq85 : τ q85 = (72, 0) := tq85
        have uq85 : qv = q85 := S_26.2.2.2.2 _ hqv _ hq85 (tqv.trans tq85.symm) (by rw [tqv]; rfl)
        subst uq85
        refine lv_iload_n hx hb dX10_law_40 rfl (lv_at hl_26 2 rfl) ?_
        refine tr_bald Z.1 Z.2.2.2.1 S_26.1 S_26.2 hqv tqv rfl (by omega) (by omega) dX10_law_41 (fun v86 ev86 lv86 uv86 => ?_)
        refine tr_bast Z.1 Z.2.2.2.1 S_26.1 S_26.2 hqx tqx rfl (by omega) (by omega) dX10_law_42 (fun E87 H88 k89 W87 I87 P87 => ?_)
        have S87 : Now D TB cy (va_A (va_pl L E) sz) s L τ E87 H88 k89 := ⟨W87, I87⟩
        have F87 : Fr L τ (inW [(11, 0), (74, 0), (75, 0), (76, 0), (77, 0), (78, 0), (79, 0), (80, 0), (73, 0), (60, 0), (61, 0)]) E E87 := Fr.set F_26 P87 tqx rfl
        obtain ⟨v90, ev90⟩ : ∃ y : Int32, x2_26 + Int32.ofInt (1) = y := ⟨_, rfl⟩
        have tv90 : v90.toInt = x2_26.toInt + (1) := by rw [← ev90]; exact (fb_addI (by rw [show (Int32.ofInt (1)).toInt = 1 from by decide +kernel]; omega) (by rw [show (Int32.ofInt (1)).toInt = 1 from by decide +kernel]; omega)).trans (by rw [show (Int32.ofInt (1)).toInt = 1 from by decide +kernel])
        refine lv_iinc (v := v90) (lv' := [(2, .int v90), (0, .ref a0), (1, .int a1)]) hx hb dX10_law_43 hl_26 (k := 2) rfl ev90 (by decide) rfl (fun l91 hl92 => ?_)
        refine lv_goto (tgt := 26) hx hb dX10_law_46 (by decide) ?_
        exact ih_26 v90 E87 H88 k89 l91 S87 F87 (by omega) (by omega) (by omega) (by omega) (fun i hi => by rcases Nat.lt_or_ge i x2_26.toInt.toNat with ci | ci; exact ((ai_setk P87 (by show i ≠ x2_26.toInt.toNat; omega)).trans (z5 i ci)); exact (ai_at (n := i) P87.2.1 (by omega)).trans ((nar_id (by omega) (by omega)).trans ((ai_at (n := i) ev86 (by omega)).symm.trans (ai_fr (k := i) F_26 hqv (by rw [tqv]; rfl))))) (SlotOK.same z6 S87.2 hql tql hqr tqr hqm tqm hqd tqd (P87.1 ql (ne_ro tql tqx (by decide))) (P87.1 qr (ne_ro tqr tqx (by decide))) (P87.1 qm (ne_ro tqm tqx (by decide))) (P87.1 qd (ne_ro tqd tqx (by decide)))) (Chain.same z7 S87.2 ha0 ta0 hqn tqn hqp tqp (P87.1 qn (ne_ro tqn tqx (by decide))) (P87.1 qp (ne_ro tqp tqx (by decide))) (fi_set (k := 2) P87 (ne_ro ta0 tqx (by decide)))) (fun k hk => ((fi_set P87 (ne_ro ta0 tqx (by decide))).trans (z8 k hk))) (by rw [((fi_set (k := 20) P87 (ne_ro ta0 tqx (by decide))).trans rfl)]; omega) (by omega) (lv_sub hl92 [1, 2, 0] rfl)
  refine lv_aload_n hx hb dX10_law_0 rfl (lv_at hl 0 rfl) ?_
  obtain ⟨v93, ev93, tv93⟩ : ∃ v : Int32, Int32.ofInt (0) = v ∧ v.toInt = 0 := ⟨_, rfl, by decide +kernel⟩
  refine lv_iconst hx hb dX10_law_1 ev93 ?_
  refine tr_puti Z.1 Z.2.2.2.1 S0.1 S0.2 ha0 ta0 rfl rfl (fun _ h => List.mem_cons_of_mem _ (List.mem_append_right _ h)) tyX10_ok nmX10 4 (by decide) rfl rfl rfl (hts _ (List.mem_of_getElem? (i := 1) rfl)) dX10_law_2 (by omega) (by omega) (fun E94 H95 k96 W94 I94 P94 => ?_)
  have S94 : Now D TB cy (va_A (va_pl L E) sz) s L τ E94 H95 k96 := ⟨W94, I94⟩
  have F94 : Fr L τ (inW [(11, 0), (74, 0), (75, 0), (76, 0), (77, 0), (78, 0), (79, 0), (80, 0), (73, 0), (60, 0), (61, 0)]) E E94 := Fr.put F0_ P94 ta0 rfl
  refine lv_aload_n hx hb dX10_law_5 rfl (lv_at hl 0 rfl) ?_
  refine lv_iload_n hx hb dX10_law_6 rfl (lv_at hl 1 rfl) ?_
  obtain ⟨v97, ev97, tv97⟩ : ∃ v : Int32, Int32.ofInt (0) = v ∧ v.toInt = 0 := ⟨_, rfl, by decide +kernel⟩
  refine lv_iconst hx hb dX10_law_7 ev97 ?_
  refine lv_aload_n hx hb dX10_law_8 rfl (lv_at hl 0 rfl) ?_
  refine tr_geti Z.1 Z.2.2.2.1 S94.1 S94.2 ha0 ta0 rfl rfl (fun _ h => List.mem_cons_of_mem _ (List.mem_append_right _ h)) 20 (by decide) rfl (hts _ (List.mem_of_getElem? (i := 2) rfl)) dX10_law_9 (fun v98 ev98 lv98 uv98 => ?_)
  have wv98 : v98 = (fi E a0 20) := ev98.symm.trans ((fi_put (k := 20) P94 (Or.inr (by decide))).trans rfl)
  have xv98 : v98.toInt = (fi E a0 20).toInt := by rw [wv98]
  refine tc_vi Z.1 Z.2.2.2.1 Z.2.2.2.2.1 Z.2.2.2.2.2 S94.1 S94.2 ha0 ta0 rfl rfl (k_X10_in l D cy S94.2 ha0 ta0 a1 v97 v98) (cwV 3 hts gX10_law_X10_in rfl rfl rfl (by decide +kernel) ⟨Nat.le_of_ble_eq_true rfl, Nat.le_of_ble_eq_true rfl⟩) rfl hl.1 rfl (Nat.le_of_ble_eq_true rfl) dX10_law_12 ⟨Nat.zero_le _, Nat.zero_le _⟩ (fun v102 E99 H100 k101 W99 I99 G99 p99 => ?_)
  obtain ⟨q99, p99_0, p99_1, p99_2⟩ := p99
  have q99 := q99.symm
  subst q99
  have S99 : Now D TB cy (va_A (va_pl L E) sz) s L τ E94 H100 k101 := ⟨W99, I99⟩
  refine lv_if_ne (tgt := 24) hx hb dX10_law_15 (by decide) (fun c103 => ?_) (fun c103 => ?_)
  · skip
    have tc103 := nu_ne c103
    have uc103 : (0 : Int32).toInt = 0 := rfl
    obtain ⟨v104, ev104, tv104⟩ : ∃ v : Int32, Int32.ofInt (0) = v ∧ v.toInt = 0 := ⟨_, rfl, by decide +kernel⟩
    refine lv_iconst hx hb dX10_law_24 ev104 ?_
    refine lv_istore_n (lv' := [(2, .int v104), (0, .ref a0), (1, .int a1)]) hx hb dX10_law_25 rfl hl (by decide) rfl (fun l105 hl106 => ?_)
    exact J26 _ v104 E94 H100 k101 l105 S99 F94 (by omega) (by omega) (by omega) (by omega) (fun i hi => absurd hi (by omega)) (SlotOK.same hS S99.2 hql tql hqr tqr hqm tqm hqd tqd (P94.1 ql (ne_ro tql ta0 (by decide))) (P94.1 qr (ne_ro tqr ta0 (by decide))) (P94.1 qm (ne_ro tqm ta0 (by decide))) (P94.1 qd (ne_ro tqd ta0 (by decide)))) (Chain.same hC S99.2 ha0 ta0 hqn tqn hqp tqp (P94.1 qn (ne_ro tqn ta0 (by decide))) (P94.1 qp (ne_ro tqp ta0 (by decide))) (fi_put (k := 2) P94 (Or.inr (by decide)))) (fun k hk => ((fi_put P94 (Or.inr (fw_ne (by decide) hk))).trans ((fun k hk => rfl) k hk))) (by rw [ev98]; omega) (Nat.lt_succ_self _) (lv_sub hl106 [1, 2, 0] rfl)
  · skip
    have tc103 := nu_eq c103
    have uc103 : (0 : Int32).toInt = 0 := rfl
    refine lv_aload_n hx hb dX10_law_18 rfl (lv_at hl 0 rfl) ?_
    obtain ⟨v107, ev107, tv107⟩ : ∃ v : Int32, Int32.ofInt (1) = v ∧ v.toInt = 1 := ⟨_, rfl, by decide +kernel⟩
    refine lv_iconst hx hb dX10_law_19 ev107 ?_
    refine tc_vi Z.1 Z.2.2.2.1 Z.2.2.2.2.1 Z.2.2.2.2.2 S99.1 S99.2 ha0 ta0 rfl rfl (k_X10_no_vw l D cy S99.2 ha0 ta0 v107) (cwV 1 hts gX10_law_X10_no rfl rfl rfl (by decide +kernel) ⟨Nat.le_of_ble_eq_true rfl, Nat.le_of_ble_eq_true rfl⟩) rfl hl.1 rfl (Nat.le_of_ble_eq_true rfl) dX10_law_20 ⟨Nat.zero_le _, Nat.zero_le _⟩ (fun v111 E108 H109 k110 W108 I108 G108 p108 => ?_)
    obtain ⟨p108_0, p108_1, p108_2, p108_3⟩ := p108
    have S108 : Now D TB cy (va_A (va_pl L E) sz) s L τ E108 H109 k110 := ⟨W108, I108⟩
    have F108 : Fr L τ (inW [(11, 0), (74, 0), (75, 0), (76, 0), (77, 0), (78, 0), (79, 0), (80, 0), (73, 0), (60, 0), (61, 0)]) E E108 := F94.trans (G108.mono (inW_mono (by decide)))
    have kz108_3 := fi_rng (k := 3) S108.2 ha0 ta0 rfl rfl
    rw [← hQ]
    exact en_i Z S108 F108 ⟨(Or.inr ⟨by omega, by rw [((p108_3 20 (by decide)).trans ev98)]; omega, ((p108_3 5 (by decide)).trans (fi_put (k := 5) P94 (Or.inr (by decide)))), (fun i => ((ai_fr G108 hqv (by rw [tqv]; rfl)).trans (ai_put P94 (ne_ro tqv ta0 (by decide))))), by omega⟩), (fun k hk => ((p108_3 k (fw_sub (by decide) hk)).trans ((fi_put P94 (Or.inr (fw_ne (by decide) hk))).trans ((fun k hk => rfl) k hk)))), (Chain.same hC S108.2 ha0 ta0 hqn tqn hqp tqp ((G108 qn hqn (by rw [tqn]; rfl)).trans (P94.1 qn (ne_ro tqn ta0 (by decide)))) ((G108 qp hqp (by rw [tqp]; rfl)).trans (P94.1 qp (ne_ro tqp ta0 (by decide)))) ((p108_3 2 (by decide)).trans (fi_put (k := 2) P94 (Or.inr (by decide))))), (SlotOK.same hS S108.2 hql tql hqr tqr hqm tqm hqd tqd ((G108 ql hql (by rw [tql]; rfl)).trans (P94.1 ql (ne_ro tql ta0 (by decide)))) ((G108 qr hqr (by rw [tqr]; rfl)).trans (P94.1 qr (ne_ro tqr ta0 (by decide)))) ((G108 qm hqm (by rw [tqm]; rfl)).trans (P94.1 qm (ne_ro tqm ta0 (by decide)))) ((G108 qd hqd (by rw [tqd]; rfl)).trans (P94.1 qd (ne_ro tqd ta0 (by decide)))))⟩ dX10_law_23

