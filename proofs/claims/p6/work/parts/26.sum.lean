set_option maxRecDepth 20000 in
theorem ggX10_name_X10_wordAt : GoodIn wsX10_name wsX10_wordAt := goodIn_r _ [7, 1, 8, 9, 10, 11, 12, 13, 14, 6, 15, 42, 43, 44, 45, 46, 47, 48, 49, 50, 51, 52, 53, 54, 55, 56, 57, 58, 59, 60, 61, 62, 63, 64, 65, 66, 67, 68, 69, 70, 71, 72, 73, 74, 75, 76, 77, 78, 79, 80, 81, 82, 83, 84, 85, 86, 87, 88, 89] (by decide +kernel) (by decide +kernel)
set_option maxRecDepth 20000 in
theorem gX10_name_X10_wordAt : GoodIn wsX10_name (wsV RX10 178 RX10 yX10_wordAt wsX10_wordAt) := goodIn_app (goodIn_of _ (by decide +kernel)) ggX10_name_X10_wordAt
set_option maxRecDepth 20000 in
theorem ggX10_name_X10_nameOf : GoodIn wsX10_name wsX10_nameOf := goodIn_r _ [19, 20, 21, 22, 6, 23, 10, 11] (by decide +kernel) (by decide +kernel)
set_option maxRecDepth 20000 in
theorem gX10_name_X10_nameOf : GoodIn wsX10_name (wsV RX10 182 RX10 yX10_nameOf wsX10_nameOf) := goodIn_app (goodIn_of _ (by decide +kernel)) ggX10_name_X10_nameOf
set_option maxRecDepth 20000 in
theorem ggX10_name_X10_wrong : GoodIn wsX10_name wsX10_wrong := goodIn_r _ [27, 28, 29, 42, 43, 44, 45, 46, 47, 48, 49, 50, 51, 52, 53, 54, 55, 56, 57, 58, 59, 60, 61, 62, 63, 64, 65, 66, 67, 68, 69, 70, 71, 72, 73, 74, 75, 76, 77, 78, 79, 80, 81, 82, 83, 84, 85, 86, 87, 88, 89] (by decide +kernel) (by decide +kernel)
set_option maxRecDepth 20000 in
theorem gX10_name_X10_wrong : GoodIn wsX10_name (wsV RX10 174 RX10 yX10_wrong wsX10_wrong) := goodIn_app (goodIn_of _ (by decide +kernel)) ggX10_name_X10_wrong
set_option maxRecDepth 20000 in
theorem ggX10_name_X10_passWord : GoodIn wsX10_name wsX10_passWord := goodIn_r _ [33, 1, 34, 35, 36, 6, 37, 8, 9, 12, 13, 14, 15, 42, 43, 44, 45, 46, 47, 48, 49, 50, 51, 52, 53, 54, 55, 56, 57, 58, 59, 60, 61, 62, 63, 64, 65, 66, 67, 68, 69, 70, 71, 72, 73, 74, 75, 76, 77, 78, 79, 80, 81, 82, 83, 84, 85, 86, 87, 88, 89] (by decide +kernel) (by decide +kernel)
set_option maxRecDepth 20000 in
theorem gX10_name_X10_passWord : GoodIn wsX10_name (wsV RX10 186 RX10 yX10_passWord wsX10_passWord) := goodIn_app (goodIn_of _ (by decide +kernel)) ggX10_name_X10_passWord
set_option maxRecDepth 20000 in
theorem ggX10_name_X10_blanks : GoodIn wsX10_name wsX10_blanks := goodIn_r _ [41, 1, 34, 35, 36, 6, 37, 8, 9, 42, 43, 44, 45, 46, 47, 48, 49, 50, 51, 52, 53, 54, 55, 56, 57, 58, 59, 60, 61, 62, 63, 64, 65, 66, 67, 68, 69, 70, 71, 72, 73, 74, 75, 76, 77, 78, 79, 80, 81, 82, 83, 84, 85, 86, 87, 88, 89] (by decide +kernel) (by decide +kernel)
set_option maxRecDepth 20000 in
theorem gX10_name_X10_blanks : GoodIn wsX10_name (wsV RX10 189 RX10 yX10_blanks wsX10_blanks) := goodIn_app (goodIn_of _ (by decide +kernel)) ggX10_name_X10_blanks
set_option maxRecDepth 20000 in
theorem ggX10_name_X10_look : GoodIn wsX10_name wsX10_look := goodIn_r _ [37, 1, 8, 9, 42, 43, 44, 45, 46, 47, 48, 49, 50, 51, 52, 53, 54, 55, 56, 57, 58, 59, 60, 61, 62, 63, 64, 65, 66, 67, 68, 69, 70, 71, 72, 73, 74, 75, 76, 77, 78, 79, 80, 81, 82, 83, 84, 85, 86, 87, 88, 89] (by decide +kernel) (by decide +kernel)
set_option maxRecDepth 20000 in
theorem gX10_name_X10_look : GoodIn wsX10_name (wsV RX10 157 RX10 yX10_look wsX10_look) := goodIn_app (goodIn_of _ (by decide +kernel)) ggX10_name_X10_look
theorem dX10_name_0 : decode cX10_name 0 = .ok (.aload_n 0, 1) := by decide +kernel
theorem dX10_name_1 : decode cX10_name 1 = .ok (.aload_n 0, 1) := by decide +kernel
theorem dX10_name_2 : decode cX10_name 2 = .ok (.invokevirtual 178, 3) := by decide +kernel
theorem dX10_name_5 : decode cX10_name 5 = .ok (.invokevirtual 182, 3) := by decide +kernel
theorem dX10_name_8 : decode cX10_name 8 = .ok (.istore_n 2, 1) := by decide +kernel
theorem dX10_name_9 : decode cX10_name 9 = .ok (.iload_n 2, 1) := by decide +kernel
theorem dX10_name_10 : decode cX10_name 10 = .ok (.iconst (-1), 1) := by decide +kernel
theorem dX10_name_11 : decode cX10_name 11 = .ok (.if_icmp .ne 14, 3) := by decide +kernel
theorem dX10_name_14 : decode cX10_name 14 = .ok (.aload_n 0, 1) := by decide +kernel
theorem dX10_name_15 : decode cX10_name 15 = .ok (.iconst 1, 1) := by decide +kernel
theorem dX10_name_16 : decode cX10_name 16 = .ok (.aload_n 0, 1) := by decide +kernel
theorem dX10_name_17 : decode cX10_name 17 = .ok (.getfield 151, 3) := by decide +kernel
theorem dX10_name_20 : decode cX10_name 20 = .ok (.invokevirtual 174, 3) := by decide +kernel
theorem dX10_name_23 : decode cX10_name 23 = .ok (.iconst 0, 1) := by decide +kernel
theorem dX10_name_24 : decode cX10_name 24 = .ok (.ireturn, 1) := by decide +kernel
theorem dX10_name_25 : decode cX10_name 25 = .ok (.aload_n 0, 1) := by decide +kernel
theorem dX10_name_26 : decode cX10_name 26 = .ok (.invokevirtual 186, 3) := by decide +kernel
theorem dX10_name_29 : decode cX10_name 29 = .ok (.aload_n 0, 1) := by decide +kernel
theorem dX10_name_30 : decode cX10_name 30 = .ok (.invokevirtual 189, 3) := by decide +kernel
theorem dX10_name_33 : decode cX10_name 33 = .ok (.aload_n 0, 1) := by decide +kernel
theorem dX10_name_34 : decode cX10_name 34 = .ok (.invokevirtual 157, 3) := by decide +kernel
theorem dX10_name_37 : decode cX10_name 37 = .ok (.bipush 39, 2) := by decide +kernel
theorem dX10_name_39 : decode cX10_name 39 = .ok (.if_icmp .eq 5, 3) := by decide +kernel
theorem dX10_name_42 : decode cX10_name 42 = .ok (.iload_n 2, 1) := by decide +kernel
theorem dX10_name_43 : decode cX10_name 43 = .ok (.ireturn, 1) := by decide +kernel
theorem dX10_name_44 : decode cX10_name 44 = .ok (.aload_n 0, 1) := by decide +kernel
theorem dX10_name_45 : decode cX10_name 45 = .ok (.dup, 1) := by decide +kernel
theorem dX10_name_46 : decode cX10_name 46 = .ok (.getfield 151, 3) := by decide +kernel
theorem dX10_name_49 : decode cX10_name 49 = .ok (.iconst 1, 1) := by decide +kernel
theorem dX10_name_50 : decode cX10_name 50 = .ok (.iadd, 1) := by decide +kernel
theorem dX10_name_51 : decode cX10_name 51 = .ok (.putfield 151, 3) := by decide +kernel
theorem dX10_name_54 : decode cX10_name 54 = .ok (.aload_n 0, 1) := by decide +kernel
theorem dX10_name_55 : decode cX10_name 55 = .ok (.getfield 61, 3) := by decide +kernel
theorem dX10_name_58 : decode cX10_name 58 = .ok (.iload_n 1, 1) := by decide +kernel
theorem dX10_name_59 : decode cX10_name 59 = .ok (.iconst 1, 1) := by decide +kernel
theorem dX10_name_60 : decode cX10_name 60 = .ok (.bastore, 1) := by decide +kernel
theorem dX10_name_61 : decode cX10_name 61 = .ok (.iload_n 2, 1) := by decide +kernel
theorem dX10_name_62 : decode cX10_name 62 = .ok (.bipush 16, 2) := by decide +kernel
theorem dX10_name_64 : decode cX10_name 64 = .ok (.iadd, 1) := by decide +kernel
theorem dX10_name_65 : decode cX10_name 65 = .ok (.ireturn, 1) := by decide +kernel
set_option maxHeartbeats 4000000 in
set_option maxRecDepth 100000 in
theorem k_X10_name (l : Launch) (D : va_G) (cy : Nat → ClassId) {L : List Nat} {τ : Nat → Ro} {E : Ec} (hI : Inv TB cy L τ E) {a0 : Nat} (ha0 : a0 ∈ L) (ta0 : τ a0 = (11, 0)) (a1 : Int32) (la1 : 0 ≤ a1.toInt) (ua1 : a1.toInt ≤ 49) {ql : Nat} (hql : ql ∈ L) (tql : τ ql = (75, 0)) : CtI l yX10_name wsX10_name { frames := 2, cells := 0, slots := 0, locals := 50 } D TB cy L τ E [.ref a0, .int a1] (inW [(11, 0), (75, 0)]) (fun r E' => (Grow E E' ql a1.toInt.toNat) ∧ (15 < r.toInt → (ai E' ql a1.toInt.toNat).toInt = 1) ∧ ((fi E a0 22).toInt ≤ (fi E' a0 22).toInt) ∧ 0 ≤ r.toInt ∧ r.toInt ≤ 23 ∧ (∀ k : Nat, k ∉ ([5, 6, 22] : List Nat) → fi E' a0 k = fi E a0 k)) := by
  intro sz
  refine sta (cc := cX10_name) (maxL := 3) hI (by decide) rfl (Nat.le_of_ble_eq_true rfl) (fun p e s m args below meth c ls hsz Z S0 hl => ?_)
  have hx := Z.1.1
  have hb := Z.1.2.1
  have hts := Z.1.2.2.2.2
  have F0_ : Fr L τ (inW [(11, 0), (75, 0)]) E E := Fr.refl
  have hl : lv_has ls 3 [(0, .ref a0), (1, .int a1)] := hl
  generalize hQ : MQ below _ args s 0 0 _ = QQ
  have kz_a0_22 := fi_rng (k := 22) hI ha0 ta0 rfl rfl
  refine lv_aload_n hx hb dX10_name_0 rfl (lv_at hl 0 rfl) ?_
  refine lv_aload_n hx hb dX10_name_1 rfl (lv_at hl 0 rfl) ?_
  refine tc_vl Z.1 Z.2.2.2.1 Z.2.2.2.2.1 Z.2.2.2.2.2 S0.1 S0.2 ha0 ta0 rfl rfl (k_X10_wordAt l D cy S0.2 ha0 ta0) (cwV 0 hts gX10_name_X10_wordAt rfl rfl rfl (by decide +kernel) ⟨Nat.le_of_ble_eq_true rfl, Nat.le_of_ble_eq_true rfl⟩) rfl hl.1 rfl (Nat.le_of_ble_eq_true rfl) dX10_name_2 ⟨Nat.zero_le _, Nat.zero_le _⟩ (fun v4 E1 H2 k3 W1 I1 G1 p1 => ?_)
  have q1 := p1
  have q1 := q1.symm
  subst q1
  have S1 : Now D TB cy (va_A (va_pl L E) sz) s L τ E H2 k3 := ⟨W1, I1⟩
  refine tc_vi Z.1 Z.2.2.2.1 Z.2.2.2.2.1 Z.2.2.2.2.2 S1.1 S1.2 ha0 ta0 rfl rfl (k_X10_nameOf l D cy S1.2 ha0 ta0 v4) (cwV 1 hts gX10_name_X10_nameOf rfl rfl rfl (by decide +kernel) ⟨Nat.le_of_ble_eq_true rfl, Nat.le_of_ble_eq_true rfl⟩) rfl hl.1 rfl (Nat.le_of_ble_eq_true rfl) dX10_name_5 ⟨Nat.zero_le _, Nat.zero_le _⟩ (fun v8 E5 H6 k7 W5 I5 G5 p5 => ?_)
  obtain ⟨q5, p5_0, p5_1⟩ := p5
  have q5 := q5.symm
  subst q5
  have S5 : Now D TB cy (va_A (va_pl L E) sz) s L τ E H6 k7 := ⟨W5, I5⟩
  refine lv_istore_n (lv' := [(2, .int v8), (0, .ref a0), (1, .int a1)]) hx hb dX10_name_8 rfl hl (by decide) rfl (fun l9 hl10 => ?_)
  refine lv_iload_n hx hb dX10_name_9 rfl (lv_at hl10 0 rfl) ?_
  obtain ⟨v11, ev11, tv11⟩ : ∃ v : Int32, Int32.ofInt (-1) = v ∧ v.toInt = -1 := ⟨_, rfl, by decide +kernel⟩
  refine lv_iconst hx hb dX10_name_10 ev11 ?_
  refine lv_icmp_ne (tgt := 25) hx hb dX10_name_11 (by decide) (fun c12 => ?_) (fun c12 => ?_)
  · skip
    have tc12 := nu_ne c12
    refine lv_aload_n hx hb dX10_name_25 rfl (lv_at hl10 1 rfl) ?_
    refine tc_vv Z.1 Z.2.2.2.1 Z.2.2.2.2.1 Z.2.2.2.2.2 S5.1 S5.2 ha0 ta0 rfl rfl (k_X10_passWord l D cy S5.2 ha0 ta0) (cwV 0 hts gX10_name_X10_passWord rfl rfl rfl (by decide +kernel) ⟨Nat.le_of_ble_eq_true rfl, Nat.le_of_ble_eq_true rfl⟩) rfl hl10.1 rfl (Nat.le_of_ble_eq_true rfl) dX10_name_26 ⟨Nat.zero_le _, Nat.zero_le _⟩ (fun E13 H14 k15 W13 I13 G13 p13 => ?_)
    obtain ⟨p13_0, p13_1⟩ := p13
    have S13 : Now D TB cy (va_A (va_pl L E) sz) s L τ E13 H14 k15 := ⟨W13, I13⟩
    have F13 : Fr L τ (inW [(11, 0), (75, 0)]) E E13 := F0_.trans (G13.mono (inW_mono (by decide)))
    refine lv_aload_n hx hb dX10_name_29 rfl (lv_at hl10 1 rfl) ?_
    refine tc_vv Z.1 Z.2.2.2.1 Z.2.2.2.2.1 Z.2.2.2.2.2 S13.1 S13.2 ha0 ta0 rfl rfl (k_X10_blanks l D cy S13.2 ha0 ta0) (cwV 0 hts gX10_name_X10_blanks rfl rfl rfl (by decide +kernel) ⟨Nat.le_of_ble_eq_true rfl, Nat.le_of_ble_eq_true rfl⟩) rfl hl10.1 rfl (Nat.le_of_ble_eq_true rfl) dX10_name_30 ⟨Nat.zero_le _, Nat.zero_le _⟩ (fun E17 H18 k19 W17 I17 G17 p17 => ?_)
    obtain ⟨p17_0, p17_1⟩ := p17
    have S17 : Now D TB cy (va_A (va_pl L E) sz) s L τ E17 H18 k19 := ⟨W17, I17⟩
    have F17 : Fr L τ (inW [(11, 0), (75, 0)]) E E17 := F13.trans (G17.mono (inW_mono (by decide)))
    refine lv_aload_n hx hb dX10_name_33 rfl (lv_at hl10 1 rfl) ?_
    refine tc_vi Z.1 Z.2.2.2.1 Z.2.2.2.2.1 Z.2.2.2.2.2 S17.1 S17.2 ha0 ta0 rfl rfl (k_X10_look l D cy S17.2 ha0 ta0) (cwV 0 hts gX10_name_X10_look rfl rfl rfl (by decide +kernel) ⟨Nat.le_of_ble_eq_true rfl, Nat.le_of_ble_eq_true rfl⟩) rfl hl10.1 rfl (Nat.le_of_ble_eq_true rfl) dX10_name_34 ⟨Nat.zero_le _, Nat.zero_le _⟩ (fun v24 E21 H22 k23 W21 I21 G21 p21 => ?_)
    obtain ⟨q21, p21_0, p21_1, p21_2⟩ := p21
    have q21 := q21.symm
    subst q21
    have S21 : Now D TB cy (va_A (va_pl L E) sz) s L τ E17 H22 k23 := ⟨W21, I21⟩
    obtain ⟨v25, ev25, tv25⟩ : ∃ v : Int32, (Int8.ofInt (39)).toInt32 = v ∧ v.toInt = 39 := ⟨_, rfl, by decide +kernel⟩
    refine lv_bipush hx hb dX10_name_37 ev25 ?_
    refine lv_icmp_eq (tgt := 44) hx hb dX10_name_39 (by decide) (fun c26 => ?_) (fun c26 => ?_)
    · skip
      have tc26 := nu_eq c26
      refine lv_aload_n hx hb dX10_name_44 rfl (lv_at hl10 1 rfl) ?_
      refine lv_dup hx hb dX10_name_45 rfl ?_
      refine tr_geti Z.1 Z.2.2.2.1 S21.1 S21.2 ha0 ta0 rfl rfl (fun _ h => List.mem_cons_of_mem _ (List.mem_append_right _ h)) 22 (by decide) rfl (hts _ (List.mem_of_getElem? (i := 1) rfl)) dX10_name_46 (fun v27 ev27 lv27 uv27 => ?_)
      have wv27 : v27 = (fi E17 a0 22) := ev27.symm.trans rfl
      have xv27 : v27.toInt = (fi E17 a0 22).toInt := by rw [wv27]
      obtain ⟨v28, ev28, tv28⟩ : ∃ v : Int32, Int32.ofInt (1) = v ∧ v.toInt = 1 := ⟨_, rfl, by decide +kernel⟩
      refine lv_iconst hx hb dX10_name_49 ev28 ?_
      refine lv_iadd hx hb dX10_name_50 ?_
      refine lv_topi (fun v29 ev29 => ?_)
      have tv29 := nu_add ev29 (by omega) (by omega)
      refine tr_puti Z.1 Z.2.2.2.1 S21.1 S21.2 ha0 ta0 rfl rfl (fun _ h => List.mem_cons_of_mem _ (List.mem_append_right _ h)) tyX10_ok nmX10 22 (by decide) rfl rfl rfl (hts _ (List.mem_of_getElem? (i := 1) rfl)) dX10_name_51 (by omega) (by omega) (fun E30 H31 k32 W30 I30 P30 => ?_)
      have S30 : Now D TB cy (va_A (va_pl L E) sz) s L τ E30 H31 k32 := ⟨W30, I30⟩
      have F30 : Fr L τ (inW [(11, 0), (75, 0)]) E E30 := Fr.put F17 P30 ta0 rfl
      refine lv_aload_n hx hb dX10_name_54 rfl (lv_at hl10 1 rfl) ?_
      refine tr_getr Z.1 Z.2.2.2.1 S30.1 S30.2 ha0 ta0 rfl rfl (fun _ h => List.mem_cons_of_mem _ (List.mem_append_right _ h)) 24 (by decide) rfl (hts _ (List.mem_of_getElem? (i := 2) rfl)) dX10_name_55 (fun q33 eq33 hq33 tq33 => ?_)
      have tq33 : τ q33 = (75, 0) := tq33
      have uq33 : ql = q33 := S30.2.2.2.2 _ hql _ hq33 (tql.trans tq33.symm) (by rw [tql]; rfl)
      subst uq33
      refine lv_iload_n hx hb dX10_name_58 rfl (lv_at hl10 2 rfl) ?_
      obtain ⟨v34, ev34, tv34⟩ : ∃ v : Int32, Int32.ofInt (1) = v ∧ v.toInt = 1 := ⟨_, rfl, by decide +kernel⟩
      refine lv_iconst hx hb dX10_name_59 ev34 ?_
      refine tr_zast Z.1 Z.2.2.2.1 S30.1 S30.2 hql tql rfl (by omega) (by omega) (by omega) (by omega) dX10_name_60 (fun E35 H36 k37 W35 I35 P35 => ?_)
      have S35 : Now D TB cy (va_A (va_pl L E) sz) s L τ E35 H36 k37 := ⟨W35, I35⟩
      have F35 : Fr L τ (inW [(11, 0), (75, 0)]) E E35 := Fr.set F30 P35 tql rfl
      refine lv_iload_n hx hb dX10_name_61 rfl (lv_at hl10 0 rfl) ?_
      obtain ⟨v38, ev38, tv38⟩ : ∃ v : Int32, (Int8.ofInt (16)).toInt32 = v ∧ v.toInt = 16 := ⟨_, rfl, by decide +kernel⟩
      refine lv_bipush hx hb dX10_name_62 ev38 ?_
      refine lv_iadd hx hb dX10_name_64 ?_
      refine lv_topi (fun v39 ev39 => ?_)
      have tv39 := nu_add ev39 (by omega) (by omega)
      rw [← hQ]
      exact en_i Z S35 F35 ⟨((((Grow.refl.cell (G13 ql hql (by rw [tql]; rfl))).cell (G17 ql hql (by rw [tql]; rfl))).cell (P30.1 ql (ne_ro tql ta0 (by decide)))).trans (grow_set P35 (by omega) rfl)), (fun _ => by have q := P35.2.1; have q2 : (ai E35 ql a1.toInt.toNat) = v34 := q; rw [q2]; omega), (by rw [((fi_set P35 (ne_ro ta0 tql (by decide))).trans (fi_at P30))]; omega), (by omega), (by omega), (fun k hk => ((fi_set P35 (ne_ro ta0 tql (by decide))).trans ((fi_put P30 (Or.inr (fw_ne (by decide) hk))).trans ((p17_1 k (fw_sub (by decide) hk)).trans ((p13_1 k (fw_sub (by decide) hk)).trans ((fun k hk => rfl) k hk))))))⟩ dX10_name_65
    · skip
      have tc26 := nu_ne c26
      refine lv_iload_n hx hb dX10_name_42 rfl (lv_at hl10 0 rfl) ?_
      rw [← hQ]
      exact en_i Z S21 F17 ⟨((Grow.refl.cell (G13 ql hql (by rw [tql]; rfl))).cell (G17 ql hql (by rw [tql]; rfl))), (fun h => by omega), (by omega), (by omega), (by omega), (fun k hk => ((p17_1 k (fw_sub (by decide) hk)).trans ((p13_1 k (fw_sub (by decide) hk)).trans ((fun k hk => rfl) k hk))))⟩ dX10_name_43
  · skip
    have tc12 := nu_eq c12
    refine lv_aload_n hx hb dX10_name_14 rfl (lv_at hl10 1 rfl) ?_
    obtain ⟨v40, ev40, tv40⟩ : ∃ v : Int32, Int32.ofInt (1) = v ∧ v.toInt = 1 := ⟨_, rfl, by decide +kernel⟩
    refine lv_iconst hx hb dX10_name_15 ev40 ?_
    refine lv_aload_n hx hb dX10_name_16 rfl (lv_at hl10 1 rfl) ?_
    refine tr_geti Z.1 Z.2.2.2.1 S5.1 S5.2 ha0 ta0 rfl rfl (fun _ h => List.mem_cons_of_mem _ (List.mem_append_right _ h)) 22 (by decide) rfl (hts _ (List.mem_of_getElem? (i := 1) rfl)) dX10_name_17 (fun v41 ev41 lv41 uv41 => ?_)
    have wv41 : v41 = (fi E a0 22) := ev41.symm.trans rfl
    have xv41 : v41.toInt = (fi E a0 22).toInt := by rw [wv41]
    refine tc_vv Z.1 Z.2.2.2.1 Z.2.2.2.2.1 Z.2.2.2.2.2 S5.1 S5.2 ha0 ta0 rfl rfl (k_X10_wrong l D cy S5.2 ha0 ta0 v40 (by omega) (by omega) v41) (cwV 2 hts gX10_name_X10_wrong rfl rfl rfl (by decide +kernel) ⟨Nat.le_of_ble_eq_true rfl, Nat.le_of_ble_eq_true rfl⟩) rfl hl10.1 rfl (Nat.le_of_ble_eq_true rfl) dX10_name_20 ⟨Nat.zero_le _, Nat.zero_le _⟩ (fun E42 H43 k44 W42 I42 G42 p42 => ?_)
    obtain ⟨p42_0, p42_1⟩ := p42
    have S42 : Now D TB cy (va_A (va_pl L E) sz) s L τ E42 H43 k44 := ⟨W42, I42⟩
    have F42 : Fr L τ (inW [(11, 0), (75, 0)]) E E42 := F0_.trans (G42.mono (inW_mono (by decide)))
    obtain ⟨v46, ev46, tv46⟩ : ∃ v : Int32, Int32.ofInt (0) = v ∧ v.toInt = 0 := ⟨_, rfl, by decide +kernel⟩
    refine lv_iconst hx hb dX10_name_23 ev46 ?_
    rw [← hQ]
    exact en_i Z S42 F42 ⟨(Grow.refl.cell (G42 ql hql (by rw [tql]; rfl))), (fun h => by omega), (by rw [((p42_1 22 (by decide)).trans ev41)]; omega), (by omega), (by omega), (fun k hk => ((p42_1 k (fw_sub (by decide) hk)).trans ((fun k hk => rfl) k hk)))⟩ dX10_name_24

set_option maxRecDepth 20000 in
theorem ggX10_sum_X10_bad : GoodIn wsX10_sum wsX10_bad := goodIn_r _ [9, 10, 57, 58, 59, 60, 61, 62, 63, 64, 65, 66, 67, 68, 69, 70, 71, 72, 73, 74, 75, 76, 77, 78, 79, 80, 81, 82, 83, 84, 85, 86, 87, 88, 89, 90, 91, 92, 93, 94, 95, 96, 97, 98, 99, 100, 101, 102, 103, 104] (by decide +kernel) (by decide +kernel)
set_option maxRecDepth 20000 in
theorem gX10_sum_X10_bad : GoodIn wsX10_sum (wsV RX10 192 RX10 yX10_bad wsX10_bad) := goodIn_app (goodIn_of _ (by decide +kernel)) ggX10_sum_X10_bad
set_option maxRecDepth 20000 in
theorem ggX10_sum_X10_blanks : GoodIn wsX10_sum wsX10_blanks := goodIn_r _ [14, 1, 15, 16, 17, 8, 18, 19, 20, 57, 58, 59, 60, 61, 62, 63, 64, 65, 66, 67, 68, 69, 70, 71, 72, 73, 74, 75, 76, 77, 78, 79, 80, 81, 82, 83, 84, 85, 86, 87, 88, 89, 90, 91, 92, 93, 94, 95, 96, 97, 98, 99, 100, 101, 102, 103, 104] (by decide +kernel) (by decide +kernel)
set_option maxRecDepth 20000 in
theorem gX10_sum_X10_blanks : GoodIn wsX10_sum (wsV RX10 189 RX10 yX10_blanks wsX10_blanks) := goodIn_app (goodIn_of _ (by decide +kernel)) ggX10_sum_X10_blanks
set_option maxRecDepth 20000 in
theorem ggX10_sum_X10_look : GoodIn wsX10_sum wsX10_look := goodIn_r _ [18, 1, 19, 20, 57, 58, 59, 60, 61, 62, 63, 64, 65, 66, 67, 68, 69, 70, 71, 72, 73, 74, 75, 76, 77, 78, 79, 80, 81, 82, 83, 84, 85, 86, 87, 88, 89, 90, 91, 92, 93, 94, 95, 96, 97, 98, 99, 100, 101, 102, 103, 104] (by decide +kernel) (by decide +kernel)
set_option maxRecDepth 20000 in
theorem gX10_sum_X10_look : GoodIn wsX10_sum (wsV RX10 157 RX10 yX10_look wsX10_look) := goodIn_app (goodIn_of _ (by decide +kernel)) ggX10_sum_X10_look
set_option maxRecDepth 20000 in
theorem ggX10_sum_X10_wordAt : GoodIn wsX10_sum wsX10_wordAt := goodIn_r _ [24, 1, 19, 20, 25, 26, 27, 28, 29, 8, 30, 57, 58, 59, 60, 61, 62, 63, 64, 65, 66, 67, 68, 69, 70, 71, 72, 73, 74, 75, 76, 77, 78, 79, 80, 81, 82, 83, 84, 85, 86, 87, 88, 89, 90, 91, 92, 93, 94, 95, 96, 97, 98, 99, 100, 101, 102, 103, 104] (by decide +kernel) (by decide +kernel)
set_option maxRecDepth 20000 in
theorem gX10_sum_X10_wordAt : GoodIn wsX10_sum (wsV RX10 178 RX10 yX10_wordAt wsX10_wordAt) := goodIn_app (goodIn_of _ (by decide +kernel)) ggX10_sum_X10_wordAt
set_option maxRecDepth 20000 in
theorem ggX10_sum_X10_nameOf : GoodIn wsX10_sum wsX10_nameOf := goodIn_r _ [34, 35, 36, 37, 8, 38, 25, 26] (by decide +kernel) (by decide +kernel)
set_option maxRecDepth 20000 in
theorem gX10_sum_X10_nameOf : GoodIn wsX10_sum (wsV RX10 182 RX10 yX10_nameOf wsX10_nameOf) := goodIn_app (goodIn_of _ (by decide +kernel)) ggX10_sum_X10_nameOf
set_option maxRecDepth 20000 in
theorem ggX10_sum_X10_wrong : GoodIn wsX10_sum wsX10_wrong := goodIn_r _ [42, 10, 43, 57, 58, 59, 60, 61, 62, 63, 64, 65, 66, 67, 68, 69, 70, 71, 72, 73, 74, 75, 76, 77, 78, 79, 80, 81, 82, 83, 84, 85, 86, 87, 88, 89, 90, 91, 92, 93, 94, 95, 96, 97, 98, 99, 100, 101, 102, 103, 104] (by decide +kernel) (by decide +kernel)
set_option maxRecDepth 20000 in
theorem gX10_sum_X10_wrong : GoodIn wsX10_sum (wsV RX10 174 RX10 yX10_wrong wsX10_wrong) := goodIn_app (goodIn_of _ (by decide +kernel)) ggX10_sum_X10_wrong
set_option maxRecDepth 20000 in
theorem ggX10_sum_X10_digits : GoodIn wsX10_sum wsX10_digits := goodIn_r _ [47, 1, 15, 16, 17, 8, 18, 19, 20, 39, 40, 41, 42, 10, 43, 57, 58, 59, 60, 61, 62, 63, 64, 65, 66, 67, 68, 69, 70, 71, 72, 73, 74, 75, 76, 77, 78, 79, 80, 81, 82, 83, 84, 85, 86, 87, 88, 89, 90, 91, 92, 93, 94, 95, 96, 97, 98, 99, 100, 101, 102, 103, 104] (by decide +kernel) (by decide +kernel)
set_option maxRecDepth 20000 in
theorem gX10_sum_X10_digits : GoodIn wsX10_sum (wsV RX10 196 RX10 yX10_digits wsX10_digits) := goodIn_app (goodIn_of _ (by decide +kernel)) ggX10_sum_X10_digits
set_option maxRecDepth 20000 in
theorem ggX10_sum_X10_name : GoodIn wsX10_sum wsX10_name := goodIn_r _ [51, 1, 52, 21, 22, 23, 8, 24, 19, 20, 25, 26, 27, 28, 29, 30, 31, 32, 33, 34, 35, 36, 37, 38, 39, 40, 41, 42, 10, 43, 53, 54, 55, 56, 15, 16, 17, 18, 11, 12, 13, 14, 57, 58, 59, 60, 61, 62, 63, 64, 65, 66, 67, 68, 69, 70, 71, 72, 73, 74, 75, 76, 77, 78, 79, 80, 81, 82, 83, 84, 85, 86, 87, 88, 89, 90, 91, 92, 93, 94, 95, 96, 97, 98, 99, 100, 101, 102, 103, 104] (by decide +kernel) (by decide +kernel)
set_option maxRecDepth 20000 in
theorem gX10_sum_X10_name : GoodIn wsX10_sum (wsV RX10 199 RX10 yX10_name wsX10_name) := goodIn_app (goodIn_of _ (by decide +kernel)) ggX10_sum_X10_name
theorem dX10_sum_0 : decode cX10_sum 0 = .ok (.iconst 0, 1) := by decide +kernel
theorem dX10_sum_1 : decode cX10_sum 1 = .ok (.istore_n 3, 1) := by decide +kernel
theorem dX10_sum_2 : decode cX10_sum 2 = .ok (.iconst 1, 1) := by decide +kernel
theorem dX10_sum_3 : decode cX10_sum 3 = .ok (.istore 4, 2) := by decide +kernel
theorem dX10_sum_5 : decode cX10_sum 5 = .ok (.iconst 1, 1) := by decide +kernel
theorem dX10_sum_6 : decode cX10_sum 6 = .ok (.istore 5, 2) := by decide +kernel
theorem dX10_sum_8 : decode cX10_sum 8 = .ok (.iload 5, 2) := by decide +kernel
theorem dX10_sum_10 : decode cX10_sum 10 = .ok (.ifCond .eq 273, 3) := by decide +kernel
theorem dX10_sum_13 : decode cX10_sum 13 = .ok (.aload_n 0, 1) := by decide +kernel
theorem dX10_sum_14 : decode cX10_sum 14 = .ok (.invokevirtual 192, 3) := by decide +kernel
theorem dX10_sum_17 : decode cX10_sum 17 = .ok (.ifCond .ne 266, 3) := by decide +kernel
theorem dX10_sum_20 : decode cX10_sum 20 = .ok (.aload_n 0, 1) := by decide +kernel
theorem dX10_sum_21 : decode cX10_sum 21 = .ok (.invokevirtual 189, 3) := by decide +kernel
theorem dX10_sum_24 : decode cX10_sum 24 = .ok (.aload_n 0, 1) := by decide +kernel
theorem dX10_sum_25 : decode cX10_sum 25 = .ok (.getfield 151, 3) := by decide +kernel
theorem dX10_sum_28 : decode cX10_sum 28 = .ok (.istore 6, 2) := by decide +kernel
theorem dX10_sum_30 : decode cX10_sum 30 = .ok (.aload_n 0, 1) := by decide +kernel
theorem dX10_sum_31 : decode cX10_sum 31 = .ok (.invokevirtual 157, 3) := by decide +kernel
theorem dX10_sum_34 : decode cX10_sum 34 = .ok (.bipush 48, 2) := by decide +kernel
theorem dX10_sum_36 : decode cX10_sum 36 = .ok (.if_icmp .lt 16, 3) := by decide +kernel
theorem dX10_sum_39 : decode cX10_sum 39 = .ok (.aload_n 0, 1) := by decide +kernel
theorem dX10_sum_40 : decode cX10_sum 40 = .ok (.invokevirtual 157, 3) := by decide +kernel
theorem dX10_sum_43 : decode cX10_sum 43 = .ok (.bipush 57, 2) := by decide +kernel
theorem dX10_sum_45 : decode cX10_sum 45 = .ok (.if_icmp .gt 7, 3) := by decide +kernel
theorem dX10_sum_48 : decode cX10_sum 48 = .ok (.iconst 1, 1) := by decide +kernel
theorem dX10_sum_49 : decode cX10_sum 49 = .ok (.goto 4, 3) := by decide +kernel
theorem dX10_sum_52 : decode cX10_sum 52 = .ok (.iconst 0, 1) := by decide +kernel
theorem dX10_sum_53 : decode cX10_sum 53 = .ok (.istore 7, 2) := by decide +kernel
theorem dX10_sum_55 : decode cX10_sum 55 = .ok (.iload 7, 2) := by decide +kernel
theorem dX10_sum_57 : decode cX10_sum 57 = .ok (.ifCond .ne 25, 3) := by decide +kernel
theorem dX10_sum_60 : decode cX10_sum 60 = .ok (.aload_n 0, 1) := by decide +kernel
theorem dX10_sum_61 : decode cX10_sum 61 = .ok (.aload_n 0, 1) := by decide +kernel
theorem dX10_sum_62 : decode cX10_sum 62 = .ok (.invokevirtual 178, 3) := by decide +kernel
theorem dX10_sum_65 : decode cX10_sum 65 = .ok (.invokevirtual 182, 3) := by decide +kernel
theorem dX10_sum_68 : decode cX10_sum 68 = .ok (.iconst (-1), 1) := by decide +kernel
theorem dX10_sum_69 : decode cX10_sum 69 = .ok (.if_icmp .ne 13, 3) := by decide +kernel
theorem dX10_sum_72 : decode cX10_sum 72 = .ok (.aload_n 0, 1) := by decide +kernel
theorem dX10_sum_73 : decode cX10_sum 73 = .ok (.iconst 1, 1) := by decide +kernel
theorem dX10_sum_74 : decode cX10_sum 74 = .ok (.aload_n 0, 1) := by decide +kernel
theorem dX10_sum_75 : decode cX10_sum 75 = .ok (.getfield 151, 3) := by decide +kernel
theorem dX10_sum_78 : decode cX10_sum 78 = .ok (.invokevirtual 174, 3) := by decide +kernel
theorem dX10_sum_81 : decode cX10_sum 81 = .ok (.return_, 1) := by decide +kernel
theorem dX10_sum_82 : decode cX10_sum 82 = .ok (.iconst 1, 1) := by decide +kernel
theorem dX10_sum_83 : decode cX10_sum 83 = .ok (.istore 8, 2) := by decide +kernel
theorem dX10_sum_85 : decode cX10_sum 85 = .ok (.bipush 8, 2) := by decide +kernel
theorem dX10_sum_87 : decode cX10_sum 87 = .ok (.istore 9, 2) := by decide +kernel
theorem dX10_sum_89 : decode cX10_sum 89 = .ok (.iload 7, 2) := by decide +kernel
theorem dX10_sum_91 : decode cX10_sum 91 = .ok (.ifCond .eq 9, 3) := by decide +kernel
theorem dX10_sum_94 : decode cX10_sum 94 = .ok (.aload_n 0, 1) := by decide +kernel
theorem dX10_sum_95 : decode cX10_sum 95 = .ok (.invokevirtual 196, 3) := by decide +kernel
theorem dX10_sum_98 : decode cX10_sum 98 = .ok (.istore 8, 2) := by decide +kernel
theorem dX10_sum_100 : decode cX10_sum 100 = .ok (.iload_n 3, 1) := by decide +kernel
theorem dX10_sum_101 : decode cX10_sum 101 = .ok (.bipush 8, 2) := by decide +kernel
theorem dX10_sum_103 : decode cX10_sum 103 = .ok (.if_icmp .ne 10, 3) := by decide +kernel
theorem dX10_sum_106 : decode cX10_sum 106 = .ok (.aload_n 0, 1) := by decide +kernel
theorem dX10_sum_107 : decode cX10_sum 107 = .ok (.iconst 3, 1) := by decide +kernel
theorem dX10_sum_108 : decode cX10_sum 108 = .ok (.iload 6, 2) := by decide +kernel
theorem dX10_sum_110 : decode cX10_sum 110 = .ok (.invokevirtual 174, 3) := by decide +kernel
theorem dX10_sum_113 : decode cX10_sum 113 = .ok (.aload_n 0, 1) := by decide +kernel
theorem dX10_sum_114 : decode cX10_sum 114 = .ok (.invokevirtual 192, 3) := by decide +kernel
theorem dX10_sum_117 : decode cX10_sum 117 = .ok (.ifCond .eq 4, 3) := by decide +kernel
theorem dX10_sum_120 : decode cX10_sum 120 = .ok (.return_, 1) := by decide +kernel
theorem dX10_sum_121 : decode cX10_sum 121 = .ok (.iload 7, 2) := by decide +kernel
theorem dX10_sum_123 : decode cX10_sum 123 = .ok (.ifCond .eq 40, 3) := by decide +kernel
theorem dX10_sum_126 : decode cX10_sum 126 = .ok (.aload_n 0, 1) := by decide +kernel
theorem dX10_sum_127 : decode cX10_sum 127 = .ok (.invokevirtual 189, 3) := by decide +kernel
theorem dX10_sum_130 : decode cX10_sum 130 = .ok (.aload_n 0, 1) := by decide +kernel
theorem dX10_sum_131 : decode cX10_sum 131 = .ok (.invokevirtual 157, 3) := by decide +kernel
theorem dX10_sum_134 : decode cX10_sum 134 = .ok (.bipush 42, 2) := by decide +kernel
theorem dX10_sum_136 : decode cX10_sum 136 = .ok (.if_icmp .ne 34, 3) := by decide +kernel
theorem dX10_sum_139 : decode cX10_sum 139 = .ok (.aload_n 0, 1) := by decide +kernel
theorem dX10_sum_140 : decode cX10_sum 140 = .ok (.dup, 1) := by decide +kernel
theorem dX10_sum_141 : decode cX10_sum 141 = .ok (.getfield 151, 3) := by decide +kernel
theorem dX10_sum_144 : decode cX10_sum 144 = .ok (.iconst 1, 1) := by decide +kernel
theorem dX10_sum_145 : decode cX10_sum 145 = .ok (.iadd, 1) := by decide +kernel
theorem dX10_sum_146 : decode cX10_sum 146 = .ok (.putfield 151, 3) := by decide +kernel
theorem dX10_sum_149 : decode cX10_sum 149 = .ok (.aload_n 0, 1) := by decide +kernel
theorem dX10_sum_150 : decode cX10_sum 150 = .ok (.invokevirtual 189, 3) := by decide +kernel
theorem dX10_sum_153 : decode cX10_sum 153 = .ok (.aload_n 0, 1) := by decide +kernel
theorem dX10_sum_154 : decode cX10_sum 154 = .ok (.iload_n 1, 1) := by decide +kernel
theorem dX10_sum_155 : decode cX10_sum 155 = .ok (.invokevirtual 199, 3) := by decide +kernel
theorem dX10_sum_158 : decode cX10_sum 158 = .ok (.istore 9, 2) := by decide +kernel
theorem dX10_sum_160 : decode cX10_sum 160 = .ok (.goto 10, 3) := by decide +kernel
theorem dX10_sum_163 : decode cX10_sum 163 = .ok (.aload_n 0, 1) := by decide +kernel
theorem dX10_sum_164 : decode cX10_sum 164 = .ok (.iload_n 1, 1) := by decide +kernel
theorem dX10_sum_165 : decode cX10_sum 165 = .ok (.invokevirtual 199, 3) := by decide +kernel
theorem dX10_sum_168 : decode cX10_sum 168 = .ok (.istore 9, 2) := by decide +kernel
theorem dX10_sum_170 : decode cX10_sum 170 = .ok (.aload_n 0, 1) := by decide +kernel
theorem dX10_sum_171 : decode cX10_sum 171 = .ok (.invokevirtual 192, 3) := by decide +kernel
theorem dX10_sum_174 : decode cX10_sum 174 = .ok (.ifCond .eq 4, 3) := by decide +kernel
theorem dX10_sum_177 : decode cX10_sum 177 = .ok (.return_, 1) := by decide +kernel
theorem dX10_sum_178 : decode cX10_sum 178 = .ok (.aload_n 0, 1) := by decide +kernel
theorem dX10_sum_179 : decode cX10_sum 179 = .ok (.getfield 70, 3) := by decide +kernel
theorem dX10_sum_182 : decode cX10_sum 182 = .ok (.bipush 64, 2) := by decide +kernel
theorem dX10_sum_184 : decode cX10_sum 184 = .ok (.iload_n 1, 1) := by decide +kernel
theorem dX10_sum_185 : decode cX10_sum 185 = .ok (.imul, 1) := by decide +kernel
theorem dX10_sum_186 : decode cX10_sum 186 = .ok (.bipush 8, 2) := by decide +kernel
theorem dX10_sum_188 : decode cX10_sum 188 = .ok (.iload_n 2, 1) := by decide +kernel
theorem dX10_sum_189 : decode cX10_sum 189 = .ok (.imul, 1) := by decide +kernel
theorem dX10_sum_190 : decode cX10_sum 190 = .ok (.iadd, 1) := by decide +kernel
theorem dX10_sum_191 : decode cX10_sum 191 = .ok (.iload_n 3, 1) := by decide +kernel
theorem dX10_sum_192 : decode cX10_sum 192 = .ok (.iadd, 1) := by decide +kernel
theorem dX10_sum_193 : decode cX10_sum 193 = .ok (.iload 4, 2) := by decide +kernel
theorem dX10_sum_195 : decode cX10_sum 195 = .ok (.iload 8, 2) := by decide +kernel
theorem dX10_sum_197 : decode cX10_sum 197 = .ok (.imul, 1) := by decide +kernel
theorem dX10_sum_198 : decode cX10_sum 198 = .ok (.iastore, 1) := by decide +kernel
theorem dX10_sum_199 : decode cX10_sum 199 = .ok (.aload_n 0, 1) := by decide +kernel
theorem dX10_sum_200 : decode cX10_sum 200 = .ok (.getfield 73, 3) := by decide +kernel
theorem dX10_sum_203 : decode cX10_sum 203 = .ok (.bipush 64, 2) := by decide +kernel
theorem dX10_sum_205 : decode cX10_sum 205 = .ok (.iload_n 1, 1) := by decide +kernel
theorem dX10_sum_206 : decode cX10_sum 206 = .ok (.imul, 1) := by decide +kernel
theorem dX10_sum_207 : decode cX10_sum 207 = .ok (.bipush 8, 2) := by decide +kernel
theorem dX10_sum_209 : decode cX10_sum 209 = .ok (.iload_n 2, 1) := by decide +kernel
theorem dX10_sum_210 : decode cX10_sum 210 = .ok (.imul, 1) := by decide +kernel
theorem dX10_sum_211 : decode cX10_sum 211 = .ok (.iadd, 1) := by decide +kernel
theorem dX10_sum_212 : decode cX10_sum 212 = .ok (.iload_n 3, 1) := by decide +kernel
theorem dX10_sum_213 : decode cX10_sum 213 = .ok (.iadd, 1) := by decide +kernel
theorem dX10_sum_214 : decode cX10_sum 214 = .ok (.iload 9, 2) := by decide +kernel
theorem dX10_sum_216 : decode cX10_sum 216 = .ok (.iastore, 1) := by decide +kernel
theorem dX10_sum_217 : decode cX10_sum 217 = .ok (.iinc 3 1, 3) := by decide +kernel
theorem dX10_sum_220 : decode cX10_sum 220 = .ok (.aload_n 0, 1) := by decide +kernel
theorem dX10_sum_221 : decode cX10_sum 221 = .ok (.invokevirtual 189, 3) := by decide +kernel
theorem dX10_sum_224 : decode cX10_sum 224 = .ok (.aload_n 0, 1) := by decide +kernel
theorem dX10_sum_225 : decode cX10_sum 225 = .ok (.invokevirtual 157, 3) := by decide +kernel
theorem dX10_sum_228 : decode cX10_sum 228 = .ok (.bipush 43, 2) := by decide +kernel
theorem dX10_sum_230 : decode cX10_sum 230 = .ok (.if_icmp .eq 12, 3) := by decide +kernel
theorem dX10_sum_233 : decode cX10_sum 233 = .ok (.aload_n 0, 1) := by decide +kernel
theorem dX10_sum_234 : decode cX10_sum 234 = .ok (.invokevirtual 157, 3) := by decide +kernel
theorem dX10_sum_237 : decode cX10_sum 237 = .ok (.bipush 45, 2) := by decide +kernel
theorem dX10_sum_239 : decode cX10_sum 239 = .ok (.if_icmp .ne 7, 3) := by decide +kernel
theorem dX10_sum_242 : decode cX10_sum 242 = .ok (.iconst 1, 1) := by decide +kernel
theorem dX10_sum_243 : decode cX10_sum 243 = .ok (.goto 4, 3) := by decide +kernel
theorem dX10_sum_246 : decode cX10_sum 246 = .ok (.iconst 0, 1) := by decide +kernel
theorem dX10_sum_247 : decode cX10_sum 247 = .ok (.istore 5, 2) := by decide +kernel
theorem dX10_sum_249 : decode cX10_sum 249 = .ok (.aload_n 0, 1) := by decide +kernel
theorem dX10_sum_250 : decode cX10_sum 250 = .ok (.invokevirtual 157, 3) := by decide +kernel
theorem dX10_sum_253 : decode cX10_sum 253 = .ok (.bipush 45, 2) := by decide +kernel
theorem dX10_sum_255 : decode cX10_sum 255 = .ok (.if_icmp .ne 7, 3) := by decide +kernel
theorem dX10_sum_258 : decode cX10_sum 258 = .ok (.iconst (-1), 1) := by decide +kernel
theorem dX10_sum_259 : decode cX10_sum 259 = .ok (.goto 4, 3) := by decide +kernel
theorem dX10_sum_262 : decode cX10_sum 262 = .ok (.iconst 1, 1) := by decide +kernel
theorem dX10_sum_263 : decode cX10_sum 263 = .ok (.istore 4, 2) := by decide +kernel
theorem dX10_sum_265 : decode cX10_sum 265 = .ok (.iload 5, 2) := by decide +kernel
theorem dX10_sum_267 : decode cX10_sum 267 = .ok (.ifCond .eq 13, 3) := by decide +kernel
theorem dX10_sum_270 : decode cX10_sum 270 = .ok (.aload_n 0, 1) := by decide +kernel
theorem dX10_sum_271 : decode cX10_sum 271 = .ok (.dup, 1) := by decide +kernel
theorem dX10_sum_272 : decode cX10_sum 272 = .ok (.getfield 151, 3) := by decide +kernel
theorem dX10_sum_275 : decode cX10_sum 275 = .ok (.iconst 1, 1) := by decide +kernel
theorem dX10_sum_276 : decode cX10_sum 276 = .ok (.iadd, 1) := by decide +kernel
theorem dX10_sum_277 : decode cX10_sum 277 = .ok (.putfield 151, 3) := by decide +kernel
theorem dX10_sum_280 : decode cX10_sum 280 = .ok (.goto (-272), 3) := by decide +kernel
theorem dX10_sum_283 : decode cX10_sum 283 = .ok (.aload_n 0, 1) := by decide +kernel
theorem dX10_sum_284 : decode cX10_sum 284 = .ok (.getfield 67, 3) := by decide +kernel
theorem dX10_sum_287 : decode cX10_sum 287 = .ok (.bipush 8, 2) := by decide +kernel
theorem dX10_sum_289 : decode cX10_sum 289 = .ok (.iload_n 1, 1) := by decide +kernel
theorem dX10_sum_290 : decode cX10_sum 290 = .ok (.imul, 1) := by decide +kernel
theorem dX10_sum_291 : decode cX10_sum 291 = .ok (.iload_n 2, 1) := by decide +kernel
theorem dX10_sum_292 : decode cX10_sum 292 = .ok (.iadd, 1) := by decide +kernel
theorem dX10_sum_293 : decode cX10_sum 293 = .ok (.iload_n 3, 1) := by decide +kernel
theorem dX10_sum_294 : decode cX10_sum 294 = .ok (.iastore, 1) := by decide +kernel
theorem dX10_sum_295 : decode cX10_sum 295 = .ok (.return_, 1) := by decide +kernel
set_option maxHeartbeats 4000000 in
set_option maxRecDepth 100000 in
theorem k_X10_sum (l : Launch) (D : va_G) (cy : Nat → ClassId) {L : List Nat} {τ : Nat → Ro} {E : Ec} (hI : Inv TB cy L τ E) {a0 : Nat} (ha0 : a0 ∈ L) (ta0 : τ a0 = (11, 0)) (a1 : Int32) (la1 : 0 ≤ a1.toInt) (ua1 : a1.toInt ≤ 49) (a2 : Int32) (la2 : 0 ≤ a2.toInt) (ua2 : a2.toInt ≤ 7) {ql : Nat} (hql : ql ∈ L) (tql : τ ql = (75, 0)) {qm : Nat} (hqm : qm ∈ L) (tqm : τ qm = (77, 0)) {qd : Nat} (hqd : qd ∈ L) (tqd : τ qd = (79, 0)) : CtV l yX10_sum wsX10_sum { frames := 3, cells := 0, slots := 0, locals := 72 } D TB cy L τ E [.ref a0, .int a1, .int a2] (inW [(11, 0), (75, 0), (77, 0), (78, 0), (79, 0)]) (fun E' => (Grow E E' ql a1.toInt.toNat) ∧ (∀ j : Nat, j ≠ 8 * a1.toInt.toNat + a2.toInt.toNat → ai E' qm j = ai E qm j) ∧ (∀ j : Nat, ¬ (64 * a1.toInt.toNat + 8 * a2.toInt.toNat ≤ j ∧ j < 64 * a1.toInt.toNat + 8 * a2.toInt.toNat + 8) → ai E' qd j = ai E qd j) ∧ ((fi E' a0 5).toInt ≤ 0 → PartOK E' ql qm qd a1.toInt.toNat a2.toInt.toNat) ∧ (∀ k : Nat, k ∉ ([5, 6, 22] : List Nat) → fi E' a0 k = fi E a0 k)) := by
  intro sz
  refine sta (cc := cX10_sum) (maxL := 10) hI (by decide) rfl (Nat.le_of_ble_eq_true rfl) (fun p e s m args below meth c ls hsz Z S0 hl => ?_)
  have hx := Z.1.1
  have hb := Z.1.2.1
  have hts := Z.1.2.2.2.2
  have F0_ : Fr L τ (inW [(11, 0), (75, 0), (77, 0), (78, 0), (79, 0)]) E E := Fr.refl
  have hl : lv_has ls 10 [(0, .ref a0), (1, .int a1), (2, .int a2)] := hl
  generalize hQ : MQ below _ args s 0 0 _ = QQ
  have kz_a0_22 := fi_rng (k := 22) hI ha0 ta0 rfl rfl
  have kz_a0_5 := fi_rng (k := 5) hI ha0 ta0 rfl rfl
  have J283 : ∀ (x3_283 : Int32) (E_283 : Ec) (H_283 : Heap) (k_283 : List Loc) (l_283 : Array Slot), Now D TB cy (va_A (va_pl L E) sz) s L τ E_283 H_283 k_283 → Fr L τ (inW [(11, 0), (75, 0), (77, 0), (78, 0), (79, 0)]) E E_283 → (0 ≤ a1.toInt) → (a1.toInt ≤ 49) → (0 ≤ a2.toInt) → (a2.toInt ≤ 7) → (Grow E E_283 ql a1.toInt.toNat) → (E_283 qm = E qm) → (∀ j : Nat, ¬ (64 * a1.toInt.toNat + 8 * a2.toInt.toNat ≤ j ∧ j < 64 * a1.toInt.toNat + 8 * a2.toInt.toNat + 8) → ai E_283 qd j = ai E qd j) → (Parts E_283 ql qd a1.toInt.toNat (64 * a1.toInt.toNat + 8 * a2.toInt.toNat) x3_283 ) → (∀ k : Nat, k ∉ ([5, 6, 22] : List Nat) → fi E_283 a0 k = fi E a0 k) → lv_has l_283 10 [(0, .ref a0), (1, .int a1), (2, .int a2), (3, .int x3_283)] → W p l e { frames := 3, cells := 0, slots := 0, locals := 72 } s m args below meth c H_283 k_283 0 0 QQ (F0 m 283 l_283 []) := by
    intro x3_283 E_283 H_283 k_283 l_283 S_283 F_283 z1 z2 z3 z4 z5 z6 z7 z8 z9 hl_283
    refine lv_aload_n hx hb dX10_sum_283 rfl (lv_at hl_283 0 rfl) ?_
    refine tr_getr Z.1 Z.2.2.2.1 S_283.1 S_283.2 ha0 ta0 rfl rfl (fun _ h => List.mem_cons_of_mem _ (List.mem_append_right _ h)) 26 (by decide) rfl (hts _ (List.mem_of_getElem? (i := 4) rfl)) dX10_sum_284 (fun q10 eq10 hq10 tq10 => ?_)
    have tq10 : τ q10 = (77, 0) := tq10
    have uq10 : qm = q10 := S_283.2.2.2.2 _ hqm _ hq10 (tqm.trans tq10.symm) (by rw [tqm]; rfl)
    subst uq10
    obtain ⟨v11, ev11, tv11⟩ : ∃ v : Int32, (Int8.ofInt (8)).toInt32 = v ∧ v.toInt = 8 := ⟨_, rfl, by decide +kernel⟩
    refine lv_bipush hx hb dX10_sum_287 ev11 ?_
    refine lv_iload_n hx hb dX10_sum_289 rfl (lv_at hl_283 1 rfl) ?_
    refine lv_imul hx hb dX10_sum_290 ?_
    refine lv_topi (fun v12 ev12 => ?_)
    have tv12 := nu_mulc' (8) ev12 (by omega) (by omega) (by omega)
    refine lv_iload_n hx hb dX10_sum_291 rfl (lv_at hl_283 2 rfl) ?_
    refine lv_iadd hx hb dX10_sum_292 ?_
    refine lv_topi (fun v13 ev13 => ?_)
    have tv13 := nu_add ev13 (by omega) (by omega)
    refine lv_iload_n hx hb dX10_sum_293 rfl (lv_at hl_283 3 rfl) ?_
    refine tr_iast Z.1 Z.2.2.2.1 S_283.1 S_283.2 hqm tqm rfl (by omega) (by omega) (by omega) (by omega) dX10_sum_294 (fun E14 H15 k16 W14 I14 P14 => ?_)
    have S14 : Now D TB cy (va_A (va_pl L E) sz) s L τ E14 H15 k16 := ⟨W14, I14⟩
    have F14 : Fr L τ (inW [(11, 0), (75, 0), (77, 0), (78, 0), (79, 0)]) E E14 := Fr.set F_283 P14 tqm rfl
    rw [← hQ]
    exact en_v Z S14 F14 ⟨(z5.cell (P14.1 ql (ne_ro tql tqm (by decide)))), (fun j hj => (P14.2.2 j (by show j ≠ v13.toInt.toNat; omega)).trans (congrFun (ai_cell z6) j)), (fun j hj => ((ai_set P14 (ne_ro tqd tqm (by decide))).trans (z7 j hj))), (fun _ => Parts.ok z8 P14 (by omega) (ne_ro tql tqm (by decide)) (ne_ro tqd tqm (by decide))), (fun k hk => ((fi_set P14 (ne_ro ta0 tqm (by decide))).trans (z9 k hk)))⟩ dX10_sum_295
  have J8 : ∀ (n : Nat) (x3_8 : Int32) (x4_8 : Int32) (x5_8 : Int32) (E_8 : Ec) (H_8 : Heap) (k_8 : List Loc) (l_8 : Array Slot), Now D TB cy (va_A (va_pl L E) sz) s L τ E_8 H_8 k_8 → Fr L τ (inW [(11, 0), (75, 0), (77, 0), (78, 0), (79, 0)]) E E_8 → (0 ≤ a1.toInt) → (a1.toInt ≤ 49) → (0 ≤ a2.toInt) → (a2.toInt ≤ 7) → (-1 ≤ x4_8.toInt) → (x4_8.toInt ≤ 1) → (0 ≤ x5_8.toInt) → (x5_8.toInt ≤ 1) → (Grow E E_8 ql a1.toInt.toNat) → (E_8 qm = E qm) → (∀ j : Nat, ¬ (64 * a1.toInt.toNat + 8 * a2.toInt.toNat ≤ j ∧ j < 64 * a1.toInt.toNat + 8 * a2.toInt.toNat + 8) → ai E_8 qd j = ai E qd j) → (Parts E_8 ql qd a1.toInt.toNat (64 * a1.toInt.toNat + 8 * a2.toInt.toNat) x3_8 ) → (∀ k : Nat, k ∉ ([5, 6, 22] : List Nat) → fi E_8 a0 k = fi E a0 k) → (0 ≤ (fi E_8 a0 22).toInt ∧ (fi E_8 a0 22).toInt ≤ 120) → (2 * (120 - (fi E_8 a0 22).toInt) + x5_8.toInt).toNat < n → lv_has l_8 10 [(0, .ref a0), (1, .int a1), (2, .int a2), (3, .int x3_8), (4, .int x4_8), (5, .int x5_8)] → W p l e { frames := 3, cells := 0, slots := 0, locals := 72 } s m args below meth c H_8 k_8 0 0 QQ (F0 m 8 l_8 []) := by
    intro n
    induction n with
    | zero => intro x3_8 x4_8 x5_8 E_8 H_8 k_8 l_8 S_8 F_8 z17 z18 z19 z20 z21 z22 z23 z24 z25 z26 z27 z28 z29 z30 hm hl_8; exact absurd hm (Nat.not_lt_zero _)
    | succ n ih =>
      intro x3_8 x4_8 x5_8 E_8 H_8 k_8 l_8 S_8 F_8 z17 z18 z19 z20 z21 z22 z23 z24 z25 z26 z27 z28 z29 z30 hm hl_8
      have ih_8 := ih
      have J280 : ∀ (x3_280 : Int32) (x4_280 : Int32) (x5_280 : Int32) (E_280 : Ec) (H_280 : Heap) (k_280 : List Loc) (l_280 : Array Slot), Now D TB cy (va_A (va_pl L E) sz) s L τ E_280 H_280 k_280 → Fr L τ (inW [(11, 0), (75, 0), (77, 0), (78, 0), (79, 0)]) E E_280 → (0 ≤ a1.toInt) → (a1.toInt ≤ 49) → (0 ≤ a2.toInt) → (a2.toInt ≤ 7) → (-1 ≤ x4_280.toInt) → (x4_280.toInt ≤ 1) → (0 ≤ x5_280.toInt) → (x5_280.toInt ≤ 1) → (Grow E E_280 ql a1.toInt.toNat) → (E_280 qm = E qm) → (∀ j : Nat, ¬ (64 * a1.toInt.toNat + 8 * a2.toInt.toNat ≤ j ∧ j < 64 * a1.toInt.toNat + 8 * a2.toInt.toNat + 8) → ai E_280 qd j = ai E qd j) → (Parts E_280 ql qd a1.toInt.toNat (64 * a1.toInt.toNat + 8 * a2.toInt.toNat) x3_280 ) → (∀ k : Nat, k ∉ ([5, 6, 22] : List Nat) → fi E_280 a0 k = fi E a0 k) → (0 ≤ (fi E_280 a0 22).toInt ∧ (fi E_280 a0 22).toInt ≤ 120 ∧ (fi E_8 a0 22).toInt + x5_280.toInt ≤ (fi E_280 a0 22).toInt) → lv_has l_280 10 [(0, .ref a0), (1, .int a1), (2, .int a2), (3, .int x3_280), (4, .int x4_280), (5, .int x5_280)] → W p l e { frames := 3, cells := 0, slots := 0, locals := 72 } s m args below meth c H_280 k_280 0 0 QQ (F0 m 280 l_280 []) := by
        intro x3_280 x4_280 x5_280 E_280 H_280 k_280 l_280 S_280 F_280 z31 z32 z33 z34 z35 z36 z37 z38 z39 z40 z41 z42 z43 z44 hl_280
        refine lv_goto (tgt := 8) hx hb dX10_sum_280 (by decide) ?_
        exact ih_8 x3_280 x4_280 x5_280 E_280 H_280 k_280 l_280 S_280 F_280 (by have := fb_rng x3_280; omega) (by have := fb_rng x3_280; omega) (by have := fb_rng x3_280; omega) (by have := fb_rng x3_280; omega) (by have := fb_rng x3_280; omega) (by have := fb_rng x3_280; omega) (by have := fb_rng x3_280; omega) (by have := fb_rng x3_280; omega) z39 z40 (fun j hj => (z41 j hj)) (z42.keep Grow.refl rfl) (fun k hk => (z43 k hk)) (by have := fb_rng x3_280; omega) (by omega) (lv_sub hl_280 [0, 1, 2, 3, 4, 5] rfl)
      have J263 : ∀ (x3_263 : Int32) (x5_263 : Int32) (y0_263 : Int32) (E_263 : Ec) (H_263 : Heap) (k_263 : List Loc) (l_263 : Array Slot), Now D TB cy (va_A (va_pl L E) sz) s L τ E_263 H_263 k_263 → Fr L τ (inW [(11, 0), (75, 0), (77, 0), (78, 0), (79, 0)]) E E_263 → (0 ≤ a1.toInt) → (a1.toInt ≤ 49) → (0 ≤ a2.toInt) → (a2.toInt ≤ 7) → (0 ≤ x5_263.toInt) → (x5_263.toInt ≤ 1) → (-1 ≤ y0_263.toInt) → (y0_263.toInt ≤ 1) → (Grow E E_263 ql a1.toInt.toNat) → (E_263 qm = E qm) → (∀ j : Nat, ¬ (64 * a1.toInt.toNat + 8 * a2.toInt.toNat ≤ j ∧ j < 64 * a1.toInt.toNat + 8 * a2.toInt.toNat + 8) → ai E_263 qd j = ai E qd j) → (Parts E_263 ql qd a1.toInt.toNat (64 * a1.toInt.toNat + 8 * a2.toInt.toNat) x3_263 ) → (∀ k : Nat, k ∉ ([5, 6, 22] : List Nat) → fi E_263 a0 k = fi E a0 k) → (0 ≤ (fi E_263 a0 22).toInt ∧ (fi E_263 a0 22).toInt ≤ 120 ∧ (fi E_8 a0 22).toInt ≤ (fi E_263 a0 22).toInt ∧ (x5_263.toInt = 1 → (fi E_263 a0 22).toInt ≤ 119)) → lv_has l_263 10 [(0, .ref a0), (1, .int a1), (2, .int a2), (3, .int x3_263), (5, .int x5_263)] → W p l e { frames := 3, cells := 0, slots := 0, locals := 72 } s m args below meth c H_263 k_263 0 0 QQ (F0 m 263 l_263 [.int y0_263]) := by
        intro x3_263 x5_263 y0_263 E_263 H_263 k_263 l_263 S_263 F_263 z45 z46 z47 z48 z49 z50 z51 z52 z53 z54 z55 z56 z57 z58 hl_263
        refine lv_istore (lv' := [(4, .int y0_263), (0, .ref a0), (1, .int a1), (2, .int a2), (3, .int x3_263), (5, .int x5_263)]) hx hb dX10_sum_263 hl_263 (by decide) rfl (fun l59 hl60 => ?_)
        refine lv_iload hx hb dX10_sum_265 (lv_at hl60 5 rfl) ?_
        refine lv_if_eq (tgt := 280) hx hb dX10_sum_267 (by decide) (fun c61 => ?_) (fun c61 => ?_)
        · skip
          have tc61 := nu_eq c61
          have uc61 : (0 : Int32).toInt = 0 := rfl
          exact J280 x3_263 y0_263 x5_263 E_263 H_263 k_263 l59 S_263 F_263 (by have := fb_rng x3_263; omega) (by have := fb_rng x3_263; omega) (by have := fb_rng x3_263; omega) (by have := fb_rng x3_263; omega) (by have := fb_rng x3_263; omega) (by have := fb_rng x3_263; omega) (by have := fb_rng x3_263; omega) (by have := fb_rng x3_263; omega) z53 z54 (fun j hj => (z55 j hj)) (z56.keep Grow.refl rfl) (fun k hk => (z57 k hk)) (by have := fb_rng x3_263; omega) (lv_sub hl60 [1, 2, 3, 4, 0, 5] rfl)
        · skip
          have tc61 := nu_ne c61
          have uc61 : (0 : Int32).toInt = 0 := rfl
          refine lv_aload_n hx hb dX10_sum_270 rfl (lv_at hl60 1 rfl) ?_
          refine lv_dup hx hb dX10_sum_271 rfl ?_
          refine tr_geti Z.1 Z.2.2.2.1 S_263.1 S_263.2 ha0 ta0 rfl rfl (fun _ h => List.mem_cons_of_mem _ (List.mem_append_right _ h)) 22 (by decide) rfl (hts _ (List.mem_of_getElem? (i := 1) rfl)) dX10_sum_272 (fun v62 ev62 lv62 uv62 => ?_)
          have wv62 : v62 = (fi E_263 a0 22) := ev62.symm.trans rfl
          have xv62 : v62.toInt = (fi E_263 a0 22).toInt := by rw [wv62]
          obtain ⟨v63, ev63, tv63⟩ : ∃ v : Int32, Int32.ofInt (1) = v ∧ v.toInt = 1 := ⟨_, rfl, by decide +kernel⟩
          refine lv_iconst hx hb dX10_sum_275 ev63 ?_
          refine lv_iadd hx hb dX10_sum_276 ?_
          refine lv_topi (fun v64 ev64 => ?_)
          have tv64 := nu_add ev64 (by omega) (by omega)
          refine tr_puti Z.1 Z.2.2.2.1 S_263.1 S_263.2 ha0 ta0 rfl rfl (fun _ h => List.mem_cons_of_mem _ (List.mem_append_right _ h)) tyX10_ok nmX10 22 (by decide) rfl rfl rfl (hts _ (List.mem_of_getElem? (i := 1) rfl)) dX10_sum_277 (by omega) (by omega) (fun E65 H66 k67 W65 I65 P65 => ?_)
          have S65 : Now D TB cy (va_A (va_pl L E) sz) s L τ E65 H66 k67 := ⟨W65, I65⟩
          have F65 : Fr L τ (inW [(11, 0), (75, 0), (77, 0), (78, 0), (79, 0)]) E E65 := Fr.put F_263 P65 ta0 rfl
          exact J280 x3_263 y0_263 x5_263 E65 H66 k67 l59 S65 F65 (by have := fb_rng x3_263; omega) (by have := fb_rng x3_263; omega) (by have := fb_rng x3_263; omega) (by have := fb_rng x3_263; omega) (by have := fb_rng x3_263; omega) (by have := fb_rng x3_263; omega) (by have := fb_rng x3_263; omega) (by have := fb_rng x3_263; omega) (z53.cell (P65.1 ql (ne_ro tql ta0 (by decide)))) ((P65.1 qm (ne_ro tqm ta0 (by decide))).trans z54) (fun j hj => ((ai_put P65 (ne_ro tqd ta0 (by decide))).trans (z55 j hj))) (z56.keep (Grow.refl.cell (P65.1 ql (ne_ro tql ta0 (by decide)))) (P65.1 qd (ne_ro tqd ta0 (by decide)))) (fun k hk => ((fi_put P65 (Or.inr (fw_ne (by decide) hk))).trans (z57 k hk))) (by rw [(fi_at P65)]; have := fb_rng x3_263; omega) (lv_sub hl60 [1, 2, 3, 4, 0, 5] rfl)
      have J247 : ∀ (x3_247 : Int32) (y0_247 : Int32) (E_247 : Ec) (H_247 : Heap) (k_247 : List Loc) (l_247 : Array Slot), Now D TB cy (va_A (va_pl L E) sz) s L τ E_247 H_247 k_247 → Fr L τ (inW [(11, 0), (75, 0), (77, 0), (78, 0), (79, 0)]) E E_247 → (0 ≤ a1.toInt) → (a1.toInt ≤ 49) → (0 ≤ a2.toInt) → (a2.toInt ≤ 7) → (0 ≤ y0_247.toInt) → (y0_247.toInt ≤ 1) → (Grow E E_247 ql a1.toInt.toNat) → (E_247 qm = E qm) → (∀ j : Nat, ¬ (64 * a1.toInt.toNat + 8 * a2.toInt.toNat ≤ j ∧ j < 64 * a1.toInt.toNat + 8 * a2.toInt.toNat + 8) → ai E_247 qd j = ai E qd j) → (Parts E_247 ql qd a1.toInt.toNat (64 * a1.toInt.toNat + 8 * a2.toInt.toNat) x3_247 ) → (∀ k : Nat, k ∉ ([5, 6, 22] : List Nat) → fi E_247 a0 k = fi E a0 k) → (0 ≤ (fi E_247 a0 22).toInt ∧ (fi E_247 a0 22).toInt ≤ 120 ∧ (fi E_8 a0 22).toInt ≤ (fi E_247 a0 22).toInt ∧ (y0_247.toInt = 1 → (fi E_247 a0 22).toInt ≤ 119)) → lv_has l_247 10 [(0, .ref a0), (1, .int a1), (2, .int a2), (3, .int x3_247)] → W p l e { frames := 3, cells := 0, slots := 0, locals := 72 } s m args below meth c H_247 k_247 0 0 QQ (F0 m 247 l_247 [.int y0_247]) := by
        intro x3_247 y0_247 E_247 H_247 k_247 l_247 S_247 F_247 z68 z69 z70 z71 z72 z73 z74 z75 z76 z77 z78 z79 hl_247
        refine lv_istore (lv' := [(5, .int y0_247), (0, .ref a0), (1, .int a1), (2, .int a2), (3, .int x3_247)]) hx hb dX10_sum_247 hl_247 (by decide) rfl (fun l80 hl81 => ?_)
        refine lv_aload_n hx hb dX10_sum_249 rfl (lv_at hl81 1 rfl) ?_
        refine tc_vi Z.1 Z.2.2.2.1 Z.2.2.2.2.1 Z.2.2.2.2.2 S_247.1 S_247.2 ha0 ta0 rfl rfl (k_X10_look l D cy S_247.2 ha0 ta0) (cwV 0 hts gX10_sum_X10_look rfl rfl rfl (by decide +kernel) ⟨Nat.le_of_ble_eq_true rfl, Nat.le_of_ble_eq_true rfl⟩) rfl hl81.1 rfl (Nat.le_of_ble_eq_true rfl) dX10_sum_250 ⟨Nat.zero_le _, Nat.zero_le _⟩ (fun v85 E82 H83 k84 W82 I82 G82 p82 => ?_)
        obtain ⟨q82, p82_0, p82_1, p82_2⟩ := p82
        have q82 := q82.symm
        subst q82
        have S82 : Now D TB cy (va_A (va_pl L E) sz) s L τ E_247 H83 k84 := ⟨W82, I82⟩
        obtain ⟨v86, ev86, tv86⟩ : ∃ v : Int32, (Int8.ofInt (45)).toInt32 = v ∧ v.toInt = 45 := ⟨_, rfl, by decide +kernel⟩
        refine lv_bipush hx hb dX10_sum_253 ev86 ?_
        refine lv_icmp_ne (tgt := 262) hx hb dX10_sum_255 (by decide) (fun c87 => ?_) (fun c87 => ?_)
        · skip
          have tc87 := nu_ne c87
          obtain ⟨v88, ev88, tv88⟩ : ∃ v : Int32, Int32.ofInt (1) = v ∧ v.toInt = 1 := ⟨_, rfl, by decide +kernel⟩
          refine lv_iconst hx hb dX10_sum_262 ev88 ?_
          exact J263 x3_247 y0_247 v88 E_247 H83 k84 l80 S82 F_247 (by have := fb_rng x3_247; omega) (by have := fb_rng x3_247; omega) (by have := fb_rng x3_247; omega) (by have := fb_rng x3_247; omega) (by have := fb_rng x3_247; omega) (by have := fb_rng x3_247; omega) (by have := fb_rng x3_247; omega) (by have := fb_rng x3_247; omega) z74 z75 (fun j hj => (z76 j hj)) (z77.keep Grow.refl rfl) (fun k hk => (z78 k hk)) (by have := fb_rng x3_247; omega) (lv_sub hl81 [1, 2, 3, 4, 0] rfl)
        · skip
          have tc87 := nu_eq c87
          obtain ⟨v89, ev89, tv89⟩ : ∃ v : Int32, Int32.ofInt (-1) = v ∧ v.toInt = -1 := ⟨_, rfl, by decide +kernel⟩
          refine lv_iconst hx hb dX10_sum_258 ev89 ?_
          refine lv_goto (tgt := 263) hx hb dX10_sum_259 (by decide) ?_
          exact J263 x3_247 y0_247 v89 E_247 H83 k84 l80 S82 F_247 (by have := fb_rng x3_247; omega) (by have := fb_rng x3_247; omega) (by have := fb_rng x3_247; omega) (by have := fb_rng x3_247; omega) (by have := fb_rng x3_247; omega) (by have := fb_rng x3_247; omega) (by have := fb_rng x3_247; omega) (by have := fb_rng x3_247; omega) z74 z75 (fun j hj => (z76 j hj)) (z77.keep Grow.refl rfl) (fun k hk => (z78 k hk)) (by have := fb_rng x3_247; omega) (lv_sub hl81 [1, 2, 3, 4, 0] rfl)
      have J242 : ∀ (x3_242 : Int32) (E_242 : Ec) (H_242 : Heap) (k_242 : List Loc) (l_242 : Array Slot), Now D TB cy (va_A (va_pl L E) sz) s L τ E_242 H_242 k_242 → Fr L τ (inW [(11, 0), (75, 0), (77, 0), (78, 0), (79, 0)]) E E_242 → (0 ≤ a1.toInt) → (a1.toInt ≤ 49) → (0 ≤ a2.toInt) → (a2.toInt ≤ 7) → (Grow E E_242 ql a1.toInt.toNat) → (E_242 qm = E qm) → (∀ j : Nat, ¬ (64 * a1.toInt.toNat + 8 * a2.toInt.toNat ≤ j ∧ j < 64 * a1.toInt.toNat + 8 * a2.toInt.toNat + 8) → ai E_242 qd j = ai E qd j) → (Parts E_242 ql qd a1.toInt.toNat (64 * a1.toInt.toNat + 8 * a2.toInt.toNat) x3_242 ) → (∀ k : Nat, k ∉ ([5, 6, 22] : List Nat) → fi E_242 a0 k = fi E a0 k) → (0 ≤ (fi E_242 a0 22).toInt ∧ (fi E_242 a0 22).toInt ≤ 119 ∧ (fi E_8 a0 22).toInt ≤ (fi E_242 a0 22).toInt) → lv_has l_242 10 [(0, .ref a0), (1, .int a1), (2, .int a2), (3, .int x3_242)] → W p l e { frames := 3, cells := 0, slots := 0, locals := 72 } s m args below meth c H_242 k_242 0 0 QQ (F0 m 242 l_242 []) := by
        intro x3_242 E_242 H_242 k_242 l_242 S_242 F_242 z90 z91 z92 z93 z94 z95 z96 z97 z98 z99 hl_242
        obtain ⟨v100, ev100, tv100⟩ : ∃ v : Int32, Int32.ofInt (1) = v ∧ v.toInt = 1 := ⟨_, rfl, by decide +kernel⟩
        refine lv_iconst hx hb dX10_sum_242 ev100 ?_
        refine lv_goto (tgt := 247) hx hb dX10_sum_243 (by decide) ?_
        exact J247 x3_242 v100 E_242 H_242 k_242 l_242 S_242 F_242 (by have := fb_rng x3_242; omega) (by have := fb_rng x3_242; omega) (by have := fb_rng x3_242; omega) (by have := fb_rng x3_242; omega) (by have := fb_rng x3_242; omega) (by have := fb_rng x3_242; omega) z94 z95 (fun j hj => (z96 j hj)) (z97.keep Grow.refl rfl) (fun k hk => (z98 k hk)) (by have := fb_rng x3_242; omega) (lv_sub hl_242 [0, 1, 2, 3] rfl)
      have J170 : ∀ (x8_170 : Int32) (x9_170 : Int32) (E_170 : Ec) (H_170 : Heap) (k_170 : List Loc) (l_170 : Array Slot), Now D TB cy (va_A (va_pl L E) sz) s L τ E_170 H_170 k_170 → Fr L τ (inW [(11, 0), (75, 0), (77, 0), (78, 0), (79, 0)]) E E_170 → (0 ≤ a1.toInt) → (a1.toInt ≤ 49) → (0 ≤ a2.toInt) → (a2.toInt ≤ 7) → (-1 ≤ x4_8.toInt) → (x4_8.toInt ≤ 1) → (0 ≤ x9_170.toInt) → (x9_170.toInt ≤ 23) → (Grow E E_170 ql a1.toInt.toNat) → (E_170 qm = E qm) → (∀ j : Nat, ¬ (64 * a1.toInt.toNat + 8 * a2.toInt.toNat ≤ j ∧ j < 64 * a1.toInt.toNat + 8 * a2.toInt.toNat + 8) → ai E_170 qd j = ai E qd j) → (Parts E_170 ql qd a1.toInt.toNat (64 * a1.toInt.toNat + 8 * a2.toInt.toNat) x3_8 ) → (15 < x9_170.toInt → (ai E_170 ql a1.toInt.toNat).toInt = 1) → (∀ k : Nat, k ∉ ([5, 6, 22] : List Nat) → fi E_170 a0 k = fi E a0 k) → (0 ≤ (fi E_170 a0 22).toInt ∧ (fi E_170 a0 22).toInt ≤ 120 ∧ (fi E_8 a0 22).toInt ≤ (fi E_170 a0 22).toInt) → lv_has l_170 10 [(0, .ref a0), (1, .int a1), (2, .int a2), (3, .int x3_8), (4, .int x4_8), (8, .int x8_170), (9, .int x9_170)] → W p l e { frames := 3, cells := 0, slots := 0, locals := 72 } s m args below meth c H_170 k_170 0 0 QQ (F0 m 170 l_170 []) := by
        intro x8_170 x9_170 E_170 H_170 k_170 l_170 S_170 F_170 z101 z102 z103 z104 z105 z106 z107 z108 z109 z110 z111 z112 z113 z114 z115 hl_170
        refine lv_aload_n hx hb dX10_sum_170 rfl (lv_at hl_170 0 rfl) ?_
        refine tc_vi Z.1 Z.2.2.2.1 Z.2.2.2.2.1 Z.2.2.2.2.2 S_170.1 S_170.2 ha0 ta0 rfl rfl (k_X10_bad l D cy S_170.2 ha0 ta0) (cwV 0 hts gX10_sum_X10_bad rfl rfl rfl (by decide +kernel) ⟨Nat.le_of_ble_eq_true rfl, Nat.le_of_ble_eq_true rfl⟩) rfl hl_170.1 rfl (Nat.le_of_ble_eq_true rfl) dX10_sum_171 ⟨Nat.zero_le _, Nat.zero_le _⟩ (fun v119 E116 H117 k118 W116 I116 G116 p116 => ?_)
        obtain ⟨q116, p116_0, p116_1, p116_2⟩ := p116
        have q116 := q116.symm
        subst q116
        have S116 : Now D TB cy (va_A (va_pl L E) sz) s L τ E_170 H117 k118 := ⟨W116, I116⟩
        refine lv_if_eq (tgt := 178) hx hb dX10_sum_174 (by decide) (fun c120 => ?_) (fun c120 => ?_)
        · skip
          have tc120 := nu_eq c120
          have uc120 : (0 : Int32).toInt = 0 := rfl
          refine lv_aload_n hx hb dX10_sum_178 rfl (lv_at hl_170 0 rfl) ?_
          refine tr_getr Z.1 Z.2.2.2.1 S116.1 S116.2 ha0 ta0 rfl rfl (fun _ h => List.mem_cons_of_mem _ (List.mem_append_right _ h)) 27 (by decide) rfl (hts _ (List.mem_of_getElem? (i := 2) rfl)) dX10_sum_179 (fun q121 eq121 hq121 tq121 => ?_)
          have tq121 : τ q121 = (78, 0) := tq121
          obtain ⟨v122, ev122, tv122⟩ : ∃ v : Int32, (Int8.ofInt (64)).toInt32 = v ∧ v.toInt = 64 := ⟨_, rfl, by decide +kernel⟩
          refine lv_bipush hx hb dX10_sum_182 ev122 ?_
          refine lv_iload_n hx hb dX10_sum_184 rfl (lv_at hl_170 1 rfl) ?_
          refine lv_imul hx hb dX10_sum_185 ?_
          refine lv_topi (fun v123 ev123 => ?_)
          have tv123 := nu_mulc' (64) ev123 (by omega) (by omega) (by omega)
          obtain ⟨v124, ev124, tv124⟩ : ∃ v : Int32, (Int8.ofInt (8)).toInt32 = v ∧ v.toInt = 8 := ⟨_, rfl, by decide +kernel⟩
          refine lv_bipush hx hb dX10_sum_186 ev124 ?_
          refine lv_iload_n hx hb dX10_sum_188 rfl (lv_at hl_170 2 rfl) ?_
          refine lv_imul hx hb dX10_sum_189 ?_
          refine lv_topi (fun v125 ev125 => ?_)
          have tv125 := nu_mulc' (8) ev125 (by omega) (by omega) (by omega)
          refine lv_iadd hx hb dX10_sum_190 ?_
          refine lv_topi (fun v126 ev126 => ?_)
          have tv126 := nu_add ev126 (by omega) (by omega)
          refine lv_iload_n hx hb dX10_sum_191 rfl (lv_at hl_170 3 rfl) ?_
          refine lv_iadd hx hb dX10_sum_192 ?_
          refine lv_topi (fun v127 ev127 => ?_)
          refine lv_iload hx hb dX10_sum_193 (lv_at hl_170 4 rfl) ?_
          refine lv_iload hx hb dX10_sum_195 (lv_at hl_170 5 rfl) ?_
          refine lv_imul hx hb dX10_sum_197 ?_
          refine lv_topi (fun v128 ev128 => ?_)
          refine tr_iast Z.1 Z.2.2.2.1 S116.1 S116.2 hq121 tq121 rfl (by omega) (by omega) (by have := fb_rng v128; omega) (by have := fb_rng v128; omega) dX10_sum_198 (fun E129 H130 k131 W129 I129 P129 => ?_)
          have S129 : Now D TB cy (va_A (va_pl L E) sz) s L τ E129 H130 k131 := ⟨W129, I129⟩
          have F129 : Fr L τ (inW [(11, 0), (75, 0), (77, 0), (78, 0), (79, 0)]) E E129 := Fr.set F_170 P129 tq121 rfl
          refine lv_aload_n hx hb dX10_sum_199 rfl (lv_at hl_170 0 rfl) ?_
          refine tr_getr Z.1 Z.2.2.2.1 S129.1 S129.2 ha0 ta0 rfl rfl (fun _ h => List.mem_cons_of_mem _ (List.mem_append_right _ h)) 28 (by decide) rfl (hts _ (List.mem_of_getElem? (i := 3) rfl)) dX10_sum_200 (fun q132 eq132 hq132 tq132 => ?_)
          have tq132 : τ q132 = (79, 0) := tq132
          have uq132 : qd = q132 := S129.2.2.2.2 _ hqd _ hq132 (tqd.trans tq132.symm) (by rw [tqd]; rfl)
          subst uq132
          obtain ⟨v133, ev133, tv133⟩ : ∃ v : Int32, (Int8.ofInt (64)).toInt32 = v ∧ v.toInt = 64 := ⟨_, rfl, by decide +kernel⟩
          refine lv_bipush hx hb dX10_sum_203 ev133 ?_
          refine lv_iload_n hx hb dX10_sum_205 rfl (lv_at hl_170 1 rfl) ?_
          refine lv_imul hx hb dX10_sum_206 ?_
          refine lv_topi (fun v134 ev134 => ?_)
          have tv134 := nu_mulc' (64) ev134 (by omega) (by omega) (by omega)
          obtain ⟨v135, ev135, tv135⟩ : ∃ v : Int32, (Int8.ofInt (8)).toInt32 = v ∧ v.toInt = 8 := ⟨_, rfl, by decide +kernel⟩
          refine lv_bipush hx hb dX10_sum_207 ev135 ?_
          refine lv_iload_n hx hb dX10_sum_209 rfl (lv_at hl_170 2 rfl) ?_
          refine lv_imul hx hb dX10_sum_210 ?_
          refine lv_topi (fun v136 ev136 => ?_)
          have tv136 := nu_mulc' (8) ev136 (by omega) (by omega) (by omega)
          refine lv_iadd hx hb dX10_sum_211 ?_
          refine lv_topi (fun v137 ev137 => ?_)
          have tv137 := nu_add ev137 (by omega) (by omega)
          refine lv_iload_n hx hb dX10_sum_212 rfl (lv_at hl_170 3 rfl) ?_
          refine lv_iadd hx hb dX10_sum_213 ?_
          refine lv_topi (fun v138 ev138 => ?_)
          refine lv_iload hx hb dX10_sum_214 (lv_at hl_170 6 rfl) ?_
          refine tr_iast Z.1 Z.2.2.2.1 S129.1 S129.2 hqd tqd rfl (by omega) (by omega) (by omega) (by omega) dX10_sum_216 (fun E139 H140 k141 W139 I139 P139 => ?_)
          have S139 : Now D TB cy (va_A (va_pl L E) sz) s L τ E139 H140 k141 := ⟨W139, I139⟩
          have F139 : Fr L τ (inW [(11, 0), (75, 0), (77, 0), (78, 0), (79, 0)]) E E139 := Fr.set F129 P139 tqd rfl
          obtain ⟨v142, ev142⟩ : ∃ y : Int32, x3_8 + Int32.ofInt (1) = y := ⟨_, rfl⟩
          have tv142 : v142.toInt = x3_8.toInt + (1) := by rw [← ev142]; exact (fb_addI (by rw [show (Int32.ofInt (1)).toInt = 1 from by decide +kernel]; omega) (by rw [show (Int32.ofInt (1)).toInt = 1 from by decide +kernel]; omega)).trans (by rw [show (Int32.ofInt (1)).toInt = 1 from by decide +kernel])
          refine lv_iinc (v := v142) (lv' := [(3, .int v142), (0, .ref a0), (1, .int a1), (2, .int a2), (4, .int x4_8), (8, .int x8_170), (9, .int x9_170)]) hx hb dX10_sum_217 hl_170 (k := 3) rfl ev142 (by decide) rfl (fun l143 hl144 => ?_)
          refine lv_aload_n hx hb dX10_sum_220 rfl (lv_at hl144 1 rfl) ?_
          refine tc_vv Z.1 Z.2.2.2.1 Z.2.2.2.2.1 Z.2.2.2.2.2 S139.1 S139.2 ha0 ta0 rfl rfl (k_X10_blanks l D cy S139.2 ha0 ta0) (cwV 0 hts gX10_sum_X10_blanks rfl rfl rfl (by decide +kernel) ⟨Nat.le_of_ble_eq_true rfl, Nat.le_of_ble_eq_true rfl⟩) rfl hl144.1 rfl (Nat.le_of_ble_eq_true rfl) dX10_sum_221 ⟨Nat.zero_le _, Nat.zero_le _⟩ (fun E145 H146 k147 W145 I145 G145 p145 => ?_)
          obtain ⟨p145_0, p145_1⟩ := p145
          have S145 : Now D TB cy (va_A (va_pl L E) sz) s L τ E145 H146 k147 := ⟨W145, I145⟩
          have F145 : Fr L τ (inW [(11, 0), (75, 0), (77, 0), (78, 0), (79, 0)]) E E145 := F139.trans (G145.mono (inW_mono (by decide)))
          rw [((fi_set P139 (ne_ro ta0 tqd (by decide))).trans ((fi_set P129 (ne_ro ta0 tq121 (by decide))).trans rfl))] at p145_0
          refine lv_aload_n hx hb dX10_sum_224 rfl (lv_at hl144 1 rfl) ?_
          refine tc_vi Z.1 Z.2.2.2.1 Z.2.2.2.2.1 Z.2.2.2.2.2 S145.1 S145.2 ha0 ta0 rfl rfl (k_X10_look l D cy S145.2 ha0 ta0) (cwV 0 hts gX10_sum_X10_look rfl rfl rfl (by decide +kernel) ⟨Nat.le_of_ble_eq_true rfl, Nat.le_of_ble_eq_true rfl⟩) rfl hl144.1 rfl (Nat.le_of_ble_eq_true rfl) dX10_sum_225 ⟨Nat.zero_le _, Nat.zero_le _⟩ (fun v152 E149 H150 k151 W149 I149 G149 p149 => ?_)
          obtain ⟨q149, p149_0, p149_1, p149_2⟩ := p149
          have q149 := q149.symm
          subst q149
          have S149 : Now D TB cy (va_A (va_pl L E) sz) s L τ E145 H150 k151 := ⟨W149, I149⟩
          obtain ⟨v153, ev153, tv153⟩ : ∃ v : Int32, (Int8.ofInt (43)).toInt32 = v ∧ v.toInt = 43 := ⟨_, rfl, by decide +kernel⟩
          refine lv_bipush hx hb dX10_sum_228 ev153 ?_
          refine lv_icmp_eq (tgt := 242) hx hb dX10_sum_230 (by decide) (fun c154 => ?_) (fun c154 => ?_)
          · skip
            have tc154 := nu_eq c154
            exact J242 v142 E145 H150 k151 l143 S149 F145 (by have := fb_rng v142; have := fb_rng x8_170; omega) (by have := fb_rng v142; have := fb_rng x8_170; omega) (by have := fb_rng v142; have := fb_rng x8_170; omega) (by have := fb_rng v142; have := fb_rng x8_170; omega) (((z109.cell (P129.1 ql (ne_ro tql tq121 (by decide)))).cell (P139.1 ql (ne_ro tql tqd (by decide)))).cell (G145 ql hql (by rw [tql]; rfl))) (((G145 qm hqm (by rw [tqm]; rfl)).trans ((P139.1 qm (ne_ro tqm tqd (by decide))).trans (P129.1 qm (ne_ro tqm tq121 (by decide))))).trans z110) (fun j hj => ((ai_fr G145 hqd (by rw [tqd]; rfl)).trans ((ai_setk P139 (by show j ≠ v138.toInt.toNat; omega)).trans ((ai_set P129 (ne_ro tqd tq121 (by decide))).trans (z111 j hj))))) ((Parts.set (z112.keep (Grow.refl.cell (P129.1 ql (ne_ro tql tq121 (by decide)))) (P129.1 qd (ne_ro tqd tq121 (by decide)))) (fun h => ((Grow.refl.cell (P129.1 ql (ne_ro tql tq121 (by decide))))).one (z113 h)) P139 (by omega) (by omega) (by omega) (ne_ro tql tqd (by decide))).keep (Grow.refl.cell (G145 ql hql (by rw [tql]; rfl))) (G145 qd hqd (by rw [tqd]; rfl))) (fun k hk => ((p145_1 k (fw_sub (by decide) hk)).trans ((fi_set P139 (ne_ro ta0 tqd (by decide))).trans ((fi_set P129 (ne_ro ta0 tq121 (by decide))).trans (z114 k hk))))) (by have := fb_rng v142; have := fb_rng x8_170; omega) (lv_sub hl144 [1, 2, 3, 0] rfl)
          · skip
            have tc154 := nu_ne c154
            refine lv_aload_n hx hb dX10_sum_233 rfl (lv_at hl144 1 rfl) ?_
            refine tc_vi Z.1 Z.2.2.2.1 Z.2.2.2.2.1 Z.2.2.2.2.2 S149.1 S149.2 ha0 ta0 rfl rfl (k_X10_look l D cy S149.2 ha0 ta0) (cwV 0 hts gX10_sum_X10_look rfl rfl rfl (by decide +kernel) ⟨Nat.le_of_ble_eq_true rfl, Nat.le_of_ble_eq_true rfl⟩) rfl hl144.1 rfl (Nat.le_of_ble_eq_true rfl) dX10_sum_234 ⟨Nat.zero_le _, Nat.zero_le _⟩ (fun v158 E155 H156 k157 W155 I155 G155 p155 => ?_)
            obtain ⟨q155, p155_0, p155_1, p155_2⟩ := p155
            have q155 := q155.symm
            subst q155
            have S155 : Now D TB cy (va_A (va_pl L E) sz) s L τ E145 H156 k157 := ⟨W155, I155⟩
            obtain ⟨v159, ev159, tv159⟩ : ∃ v : Int32, (Int8.ofInt (45)).toInt32 = v ∧ v.toInt = 45 := ⟨_, rfl, by decide +kernel⟩
            refine lv_bipush hx hb dX10_sum_237 ev159 ?_
            refine lv_icmp_ne (tgt := 246) hx hb dX10_sum_239 (by decide) (fun c160 => ?_) (fun c160 => ?_)
            · skip
              have tc160 := nu_ne c160
              obtain ⟨v161, ev161, tv161⟩ : ∃ v : Int32, Int32.ofInt (0) = v ∧ v.toInt = 0 := ⟨_, rfl, by decide +kernel⟩
              refine lv_iconst hx hb dX10_sum_246 ev161 ?_
              exact J247 v142 v161 E145 H156 k157 l143 S155 F145 (by have := fb_rng v142; have := fb_rng x8_170; omega) (by have := fb_rng v142; have := fb_rng x8_170; omega) (by have := fb_rng v142; have := fb_rng x8_170; omega) (by have := fb_rng v142; have := fb_rng x8_170; omega) (by have := fb_rng v142; have := fb_rng x8_170; omega) (by have := fb_rng v142; have := fb_rng x8_170; omega) (((z109.cell (P129.1 ql (ne_ro tql tq121 (by decide)))).cell (P139.1 ql (ne_ro tql tqd (by decide)))).cell (G145 ql hql (by rw [tql]; rfl))) (((G145 qm hqm (by rw [tqm]; rfl)).trans ((P139.1 qm (ne_ro tqm tqd (by decide))).trans (P129.1 qm (ne_ro tqm tq121 (by decide))))).trans z110) (fun j hj => ((ai_fr G145 hqd (by rw [tqd]; rfl)).trans ((ai_setk P139 (by show j ≠ v138.toInt.toNat; omega)).trans ((ai_set P129 (ne_ro tqd tq121 (by decide))).trans (z111 j hj))))) ((Parts.set (z112.keep (Grow.refl.cell (P129.1 ql (ne_ro tql tq121 (by decide)))) (P129.1 qd (ne_ro tqd tq121 (by decide)))) (fun h => ((Grow.refl.cell (P129.1 ql (ne_ro tql tq121 (by decide))))).one (z113 h)) P139 (by omega) (by omega) (by omega) (ne_ro tql tqd (by decide))).keep (Grow.refl.cell (G145 ql hql (by rw [tql]; rfl))) (G145 qd hqd (by rw [tqd]; rfl))) (fun k hk => ((p145_1 k (fw_sub (by decide) hk)).trans ((fi_set P139 (ne_ro ta0 tqd (by decide))).trans ((fi_set P129 (ne_ro ta0 tq121 (by decide))).trans (z114 k hk))))) (by have := fb_rng v142; have := fb_rng x8_170; omega) (lv_sub hl144 [1, 2, 3, 0] rfl)
            · skip
              have tc160 := nu_eq c160
              exact J242 v142 E145 H156 k157 l143 S155 F145 (by have := fb_rng v142; have := fb_rng x8_170; omega) (by have := fb_rng v142; have := fb_rng x8_170; omega) (by have := fb_rng v142; have := fb_rng x8_170; omega) (by have := fb_rng v142; have := fb_rng x8_170; omega) (((z109.cell (P129.1 ql (ne_ro tql tq121 (by decide)))).cell (P139.1 ql (ne_ro tql tqd (by decide)))).cell (G145 ql hql (by rw [tql]; rfl))) (((G145 qm hqm (by rw [tqm]; rfl)).trans ((P139.1 qm (ne_ro tqm tqd (by decide))).trans (P129.1 qm (ne_ro tqm tq121 (by decide))))).trans z110) (fun j hj => ((ai_fr G145 hqd (by rw [tqd]; rfl)).trans ((ai_setk P139 (by show j ≠ v138.toInt.toNat; omega)).trans ((ai_set P129 (ne_ro tqd tq121 (by decide))).trans (z111 j hj))))) ((Parts.set (z112.keep (Grow.refl.cell (P129.1 ql (ne_ro tql tq121 (by decide)))) (P129.1 qd (ne_ro tqd tq121 (by decide)))) (fun h => ((Grow.refl.cell (P129.1 ql (ne_ro tql tq121 (by decide))))).one (z113 h)) P139 (by omega) (by omega) (by omega) (ne_ro tql tqd (by decide))).keep (Grow.refl.cell (G145 ql hql (by rw [tql]; rfl))) (G145 qd hqd (by rw [tqd]; rfl))) (fun k hk => ((p145_1 k (fw_sub (by decide) hk)).trans ((fi_set P139 (ne_ro ta0 tqd (by decide))).trans ((fi_set P129 (ne_ro ta0 tq121 (by decide))).trans (z114 k hk))))) (by have := fb_rng v142; have := fb_rng x8_170; omega) (lv_sub hl144 [1, 2, 3, 0] rfl)
        · skip
          have tc120 := nu_ne c120
          have uc120 : (0 : Int32).toInt = 0 := rfl
          rw [← hQ]
          exact en_v Z S116 F_170 ⟨z109, (fun j _ => congrFun (ai_cell z110) j), (fun j hj => (z111 j hj)), (fun h => absurd h (by omega)), (fun k hk => (z114 k hk))⟩ dX10_sum_177
      have J113 : ∀ (x7_113 : Int32) (x8_113 : Int32) (x9_113 : Int32) (E_113 : Ec) (H_113 : Heap) (k_113 : List Loc) (l_113 : Array Slot), Now D TB cy (va_A (va_pl L E) sz) s L τ E_113 H_113 k_113 → Fr L τ (inW [(11, 0), (75, 0), (77, 0), (78, 0), (79, 0)]) E E_113 → (0 ≤ a1.toInt) → (a1.toInt ≤ 49) → (0 ≤ a2.toInt) → (a2.toInt ≤ 7) → (-1 ≤ x4_8.toInt) → (x4_8.toInt ≤ 1) → (0 ≤ x7_113.toInt) → (x7_113.toInt ≤ 1) → (8 ≤ x9_113.toInt) → (x9_113.toInt ≤ 8) → (Grow E E_113 ql a1.toInt.toNat) → (E_113 qm = E qm) → (∀ j : Nat, ¬ (64 * a1.toInt.toNat + 8 * a2.toInt.toNat ≤ j ∧ j < 64 * a1.toInt.toNat + 8 * a2.toInt.toNat + 8) → ai E_113 qd j = ai E qd j) → (Parts E_113 ql qd a1.toInt.toNat (64 * a1.toInt.toNat + 8 * a2.toInt.toNat) x3_8 ) → (∀ k : Nat, k ∉ ([5, 6, 22] : List Nat) → fi E_113 a0 k = fi E a0 k) → (0 ≤ (fi E_113 a0 22).toInt ∧ (fi E_113 a0 22).toInt ≤ 120 ∧ (fi E_8 a0 22).toInt ≤ (fi E_113 a0 22).toInt) → (-2147483648 ≤ (fi E_113 a0 5).toInt ∧ (fi E_113 a0 5).toInt ≤ 2147483647 ∧ (x3_8.toInt = 8 → 0 < (fi E_113 a0 5).toInt)) → lv_has l_113 10 [(0, .ref a0), (1, .int a1), (2, .int a2), (3, .int x3_8), (4, .int x4_8), (7, .int x7_113), (8, .int x8_113), (9, .int x9_113)] → W p l e { frames := 3, cells := 0, slots := 0, locals := 72 } s m args below meth c H_113 k_113 0 0 QQ (F0 m 113 l_113 []) := by
        intro x7_113 x8_113 x9_113 E_113 H_113 k_113 l_113 S_113 F_113 z162 z163 z164 z165 z166 z167 z168 z169 z170 z171 z172 z173 z174 z175 z176 z177 z178 hl_113
        refine lv_aload_n hx hb dX10_sum_113 rfl (lv_at hl_113 0 rfl) ?_
        refine tc_vi Z.1 Z.2.2.2.1 Z.2.2.2.2.1 Z.2.2.2.2.2 S_113.1 S_113.2 ha0 ta0 rfl rfl (k_X10_bad l D cy S_113.2 ha0 ta0) (cwV 0 hts gX10_sum_X10_bad rfl rfl rfl (by decide +kernel) ⟨Nat.le_of_ble_eq_true rfl, Nat.le_of_ble_eq_true rfl⟩) rfl hl_113.1 rfl (Nat.le_of_ble_eq_true rfl) dX10_sum_114 ⟨Nat.zero_le _, Nat.zero_le _⟩ (fun v182 E179 H180 k181 W179 I179 G179 p179 => ?_)
        obtain ⟨q179, p179_0, p179_1, p179_2⟩ := p179
        have q179 := q179.symm
        subst q179
        have S179 : Now D TB cy (va_A (va_pl L E) sz) s L τ E_113 H180 k181 := ⟨W179, I179⟩
        refine lv_if_eq (tgt := 121) hx hb dX10_sum_117 (by decide) (fun c183 => ?_) (fun c183 => ?_)
        · skip
          have tc183 := nu_eq c183
          have uc183 : (0 : Int32).toInt = 0 := rfl
          refine lv_iload hx hb dX10_sum_121 (lv_at hl_113 5 rfl) ?_
          refine lv_if_eq (tgt := 163) hx hb dX10_sum_123 (by decide) (fun c184 => ?_) (fun c184 => ?_)
          · skip
            have tc184 := nu_eq c184
            have uc184 : (0 : Int32).toInt = 0 := rfl
            refine lv_aload_n hx hb dX10_sum_163 rfl (lv_at hl_113 0 rfl) ?_
            refine lv_iload_n hx hb dX10_sum_164 rfl (lv_at hl_113 1 rfl) ?_
            refine tc_vi Z.1 Z.2.2.2.1 Z.2.2.2.2.1 Z.2.2.2.2.2 S179.1 S179.2 ha0 ta0 rfl rfl (k_X10_name l D cy S179.2 ha0 ta0 a1 (by omega) (by omega) hql tql) (cwV 1 hts gX10_sum_X10_name rfl rfl rfl (by decide +kernel) ⟨Nat.le_of_ble_eq_true rfl, Nat.le_of_ble_eq_true rfl⟩) rfl hl_113.1 rfl (Nat.le_of_ble_eq_true rfl) dX10_sum_165 ⟨Nat.zero_le _, Nat.zero_le _⟩ (fun v188 E185 H186 k187 W185 I185 G185 p185 => ?_)
            obtain ⟨p185_0, p185_1, p185_2, p185_3, p185_4, p185_5⟩ := p185
            have S185 : Now D TB cy (va_A (va_pl L E) sz) s L τ E185 H186 k187 := ⟨W185, I185⟩
            have F185 : Fr L τ (inW [(11, 0), (75, 0), (77, 0), (78, 0), (79, 0)]) E E185 := F_113.trans (G185.mono (inW_mono (by decide)))
            refine lv_istore (lv' := [(9, .int v188), (0, .ref a0), (1, .int a1), (2, .int a2), (3, .int x3_8), (4, .int x4_8), (7, .int x7_113), (8, .int x8_113)]) hx hb dX10_sum_168 hl_113 (by decide) rfl (fun l189 hl190 => ?_)
            exact J170 x8_113 v188 E185 H186 k187 l189 S185 F185 (by have := fb_rng x3_8; have := fb_rng x8_113; omega) (by have := fb_rng x3_8; have := fb_rng x8_113; omega) (by have := fb_rng x3_8; have := fb_rng x8_113; omega) (by have := fb_rng x3_8; have := fb_rng x8_113; omega) (by have := fb_rng x3_8; have := fb_rng x8_113; omega) (by have := fb_rng x3_8; have := fb_rng x8_113; omega) (by have := fb_rng x3_8; have := fb_rng x8_113; omega) (by have := fb_rng x3_8; have := fb_rng x8_113; omega) (z172.trans p185_0) ((G185 qm hqm (by rw [tqm]; rfl)).trans z173) (fun j hj => ((ai_fr G185 hqd (by rw [tqd]; rfl)).trans (z174 j hj))) (z175.keep (Grow.refl.trans p185_0) (G185 qd hqd (by rw [tqd]; rfl))) p185_1 (fun k hk => ((p185_5 k (fw_sub (by decide) hk)).trans (z176 k hk))) (by have := fb_rng x3_8; have := fb_rng x8_113; omega) (lv_sub hl190 [1, 2, 3, 4, 5, 7, 0] rfl)
          · skip
            have tc184 := nu_ne c184
            have uc184 : (0 : Int32).toInt = 0 := rfl
            refine lv_aload_n hx hb dX10_sum_126 rfl (lv_at hl_113 0 rfl) ?_
            refine tc_vv Z.1 Z.2.2.2.1 Z.2.2.2.2.1 Z.2.2.2.2.2 S179.1 S179.2 ha0 ta0 rfl rfl (k_X10_blanks l D cy S179.2 ha0 ta0) (cwV 0 hts gX10_sum_X10_blanks rfl rfl rfl (by decide +kernel) ⟨Nat.le_of_ble_eq_true rfl, Nat.le_of_ble_eq_true rfl⟩) rfl hl_113.1 rfl (Nat.le_of_ble_eq_true rfl) dX10_sum_127 ⟨Nat.zero_le _, Nat.zero_le _⟩ (fun E191 H192 k193 W191 I191 G191 p191 => ?_)
            obtain ⟨p191_0, p191_1⟩ := p191
            have S191 : Now D TB cy (va_A (va_pl L E) sz) s L τ E191 H192 k193 := ⟨W191, I191⟩
            have F191 : Fr L τ (inW [(11, 0), (75, 0), (77, 0), (78, 0), (79, 0)]) E E191 := F_113.trans (G191.mono (inW_mono (by decide)))
            refine lv_aload_n hx hb dX10_sum_130 rfl (lv_at hl_113 0 rfl) ?_
            refine tc_vi Z.1 Z.2.2.2.1 Z.2.2.2.2.1 Z.2.2.2.2.2 S191.1 S191.2 ha0 ta0 rfl rfl (k_X10_look l D cy S191.2 ha0 ta0) (cwV 0 hts gX10_sum_X10_look rfl rfl rfl (by decide +kernel) ⟨Nat.le_of_ble_eq_true rfl, Nat.le_of_ble_eq_true rfl⟩) rfl hl_113.1 rfl (Nat.le_of_ble_eq_true rfl) dX10_sum_131 ⟨Nat.zero_le _, Nat.zero_le _⟩ (fun v198 E195 H196 k197 W195 I195 G195 p195 => ?_)
            obtain ⟨q195, p195_0, p195_1, p195_2⟩ := p195
            have q195 := q195.symm
            subst q195
            have S195 : Now D TB cy (va_A (va_pl L E) sz) s L τ E191 H196 k197 := ⟨W195, I195⟩
            obtain ⟨v199, ev199, tv199⟩ : ∃ v : Int32, (Int8.ofInt (42)).toInt32 = v ∧ v.toInt = 42 := ⟨_, rfl, by decide +kernel⟩
            refine lv_bipush hx hb dX10_sum_134 ev199 ?_
            refine lv_icmp_ne (tgt := 170) hx hb dX10_sum_136 (by decide) (fun c200 => ?_) (fun c200 => ?_)
            · skip
              have tc200 := nu_ne c200
              exact J170 x8_113 x9_113 E191 H196 k197 l_113 S195 F191 (by have := fb_rng x3_8; have := fb_rng x8_113; omega) (by have := fb_rng x3_8; have := fb_rng x8_113; omega) (by have := fb_rng x3_8; have := fb_rng x8_113; omega) (by have := fb_rng x3_8; have := fb_rng x8_113; omega) (by have := fb_rng x3_8; have := fb_rng x8_113; omega) (by have := fb_rng x3_8; have := fb_rng x8_113; omega) (by have := fb_rng x3_8; have := fb_rng x8_113; omega) (by have := fb_rng x3_8; have := fb_rng x8_113; omega) (z172.cell (G191 ql hql (by rw [tql]; rfl))) ((G191 qm hqm (by rw [tqm]; rfl)).trans z173) (fun j hj => ((ai_fr G191 hqd (by rw [tqd]; rfl)).trans (z174 j hj))) (z175.keep (Grow.refl.cell (G191 ql hql (by rw [tql]; rfl))) (G191 qd hqd (by rw [tqd]; rfl))) (fun h => by omega) (fun k hk => ((p191_1 k (fw_sub (by decide) hk)).trans (z176 k hk))) (by have := fb_rng x3_8; have := fb_rng x8_113; omega) (lv_sub hl_113 [0, 1, 2, 3, 4, 6, 7] rfl)
            · skip
              have tc200 := nu_eq c200
              refine lv_aload_n hx hb dX10_sum_139 rfl (lv_at hl_113 0 rfl) ?_
              refine lv_dup hx hb dX10_sum_140 rfl ?_
              refine tr_geti Z.1 Z.2.2.2.1 S195.1 S195.2 ha0 ta0 rfl rfl (fun _ h => List.mem_cons_of_mem _ (List.mem_append_right _ h)) 22 (by decide) rfl (hts _ (List.mem_of_getElem? (i := 1) rfl)) dX10_sum_141 (fun v201 ev201 lv201 uv201 => ?_)
              have wv201 : v201 = (fi E191 a0 22) := ev201.symm.trans rfl
              have xv201 : v201.toInt = (fi E191 a0 22).toInt := by rw [wv201]
              obtain ⟨v202, ev202, tv202⟩ : ∃ v : Int32, Int32.ofInt (1) = v ∧ v.toInt = 1 := ⟨_, rfl, by decide +kernel⟩
              refine lv_iconst hx hb dX10_sum_144 ev202 ?_
              refine lv_iadd hx hb dX10_sum_145 ?_
              refine lv_topi (fun v203 ev203 => ?_)
              have tv203 := nu_add ev203 (by omega) (by omega)
              refine tr_puti Z.1 Z.2.2.2.1 S195.1 S195.2 ha0 ta0 rfl rfl (fun _ h => List.mem_cons_of_mem _ (List.mem_append_right _ h)) tyX10_ok nmX10 22 (by decide) rfl rfl rfl (hts _ (List.mem_of_getElem? (i := 1) rfl)) dX10_sum_146 (by omega) (by omega) (fun E204 H205 k206 W204 I204 P204 => ?_)
              have S204 : Now D TB cy (va_A (va_pl L E) sz) s L τ E204 H205 k206 := ⟨W204, I204⟩
              have F204 : Fr L τ (inW [(11, 0), (75, 0), (77, 0), (78, 0), (79, 0)]) E E204 := Fr.put F191 P204 ta0 rfl
              refine lv_aload_n hx hb dX10_sum_149 rfl (lv_at hl_113 0 rfl) ?_
              refine tc_vv Z.1 Z.2.2.2.1 Z.2.2.2.2.1 Z.2.2.2.2.2 S204.1 S204.2 ha0 ta0 rfl rfl (k_X10_blanks l D cy S204.2 ha0 ta0) (cwV 0 hts gX10_sum_X10_blanks rfl rfl rfl (by decide +kernel) ⟨Nat.le_of_ble_eq_true rfl, Nat.le_of_ble_eq_true rfl⟩) rfl hl_113.1 rfl (Nat.le_of_ble_eq_true rfl) dX10_sum_150 ⟨Nat.zero_le _, Nat.zero_le _⟩ (fun E207 H208 k209 W207 I207 G207 p207 => ?_)
              obtain ⟨p207_0, p207_1⟩ := p207
              have S207 : Now D TB cy (va_A (va_pl L E) sz) s L τ E207 H208 k209 := ⟨W207, I207⟩
              have F207 : Fr L τ (inW [(11, 0), (75, 0), (77, 0), (78, 0), (79, 0)]) E E207 := F204.trans (G207.mono (inW_mono (by decide)))
              rw [(fi_at P204)] at p207_0
              refine lv_aload_n hx hb dX10_sum_153 rfl (lv_at hl_113 0 rfl) ?_
              refine lv_iload_n hx hb dX10_sum_154 rfl (lv_at hl_113 1 rfl) ?_
              refine tc_vi Z.1 Z.2.2.2.1 Z.2.2.2.2.1 Z.2.2.2.2.2 S207.1 S207.2 ha0 ta0 rfl rfl (k_X10_name l D cy S207.2 ha0 ta0 a1 (by omega) (by omega) hql tql) (cwV 1 hts gX10_sum_X10_name rfl rfl rfl (by decide +kernel) ⟨Nat.le_of_ble_eq_true rfl, Nat.le_of_ble_eq_true rfl⟩) rfl hl_113.1 rfl (Nat.le_of_ble_eq_true rfl) dX10_sum_155 ⟨Nat.zero_le _, Nat.zero_le _⟩ (fun v214 E211 H212 k213 W211 I211 G211 p211 => ?_)
              obtain ⟨p211_0, p211_1, p211_2, p211_3, p211_4, p211_5⟩ := p211
              have S211 : Now D TB cy (va_A (va_pl L E) sz) s L τ E211 H212 k213 := ⟨W211, I211⟩
              have F211 : Fr L τ (inW [(11, 0), (75, 0), (77, 0), (78, 0), (79, 0)]) E E211 := F207.trans (G211.mono (inW_mono (by decide)))
              refine lv_istore (lv' := [(9, .int v214), (0, .ref a0), (1, .int a1), (2, .int a2), (3, .int x3_8), (4, .int x4_8), (7, .int x7_113), (8, .int x8_113)]) hx hb dX10_sum_158 hl_113 (by decide) rfl (fun l215 hl216 => ?_)
              refine lv_goto (tgt := 170) hx hb dX10_sum_160 (by decide) ?_
              exact J170 x8_113 v214 E211 H212 k213 l215 S211 F211 (by have := fb_rng x3_8; have := fb_rng x8_113; omega) (by have := fb_rng x3_8; have := fb_rng x8_113; omega) (by have := fb_rng x3_8; have := fb_rng x8_113; omega) (by have := fb_rng x3_8; have := fb_rng x8_113; omega) (by have := fb_rng x3_8; have := fb_rng x8_113; omega) (by have := fb_rng x3_8; have := fb_rng x8_113; omega) (by have := fb_rng x3_8; have := fb_rng x8_113; omega) (by have := fb_rng x3_8; have := fb_rng x8_113; omega) ((((z172.cell (G191 ql hql (by rw [tql]; rfl))).cell (P204.1 ql (ne_ro tql ta0 (by decide)))).cell (G207 ql hql (by rw [tql]; rfl))).trans p211_0) (((G211 qm hqm (by rw [tqm]; rfl)).trans ((G207 qm hqm (by rw [tqm]; rfl)).trans ((P204.1 qm (ne_ro tqm ta0 (by decide))).trans (G191 qm hqm (by rw [tqm]; rfl))))).trans z173) (fun j hj => ((ai_fr G211 hqd (by rw [tqd]; rfl)).trans ((ai_fr G207 hqd (by rw [tqd]; rfl)).trans ((ai_put P204 (ne_ro tqd ta0 (by decide))).trans ((ai_fr G191 hqd (by rw [tqd]; rfl)).trans (z174 j hj)))))) (z175.keep ((((Grow.refl.cell (G191 ql hql (by rw [tql]; rfl))).cell (P204.1 ql (ne_ro tql ta0 (by decide)))).cell (G207 ql hql (by rw [tql]; rfl))).trans p211_0) ((G211 qd hqd (by rw [tqd]; rfl)).trans ((G207 qd hqd (by rw [tqd]; rfl)).trans ((P204.1 qd (ne_ro tqd ta0 (by decide))).trans (G191 qd hqd (by rw [tqd]; rfl)))))) p211_1 (fun k hk => ((p211_5 k (fw_sub (by decide) hk)).trans ((p207_1 k (fw_sub (by decide) hk)).trans ((fi_put P204 (Or.inr (fw_ne (by decide) hk))).trans ((p191_1 k (fw_sub (by decide) hk)).trans (z176 k hk)))))) (by have := fb_rng x3_8; have := fb_rng x8_113; omega) (lv_sub hl216 [1, 2, 3, 4, 5, 7, 0] rfl)
        · skip
          have tc183 := nu_ne c183
          have uc183 : (0 : Int32).toInt = 0 := rfl
          rw [← hQ]
          exact en_v Z S179 F_113 ⟨z172, (fun j _ => congrFun (ai_cell z173) j), (fun j hj => (z174 j hj)), (fun h => absurd h (by omega)), (fun k hk => (z176 k hk))⟩ dX10_sum_120
      have J100 : ∀ (x6_100 : Int32) (x7_100 : Int32) (x8_100 : Int32) (x9_100 : Int32) (E_100 : Ec) (H_100 : Heap) (k_100 : List Loc) (l_100 : Array Slot), Now D TB cy (va_A (va_pl L E) sz) s L τ E_100 H_100 k_100 → Fr L τ (inW [(11, 0), (75, 0), (77, 0), (78, 0), (79, 0)]) E E_100 → (0 ≤ a1.toInt) → (a1.toInt ≤ 49) → (0 ≤ a2.toInt) → (a2.toInt ≤ 7) → (-1 ≤ x4_8.toInt) → (x4_8.toInt ≤ 1) → (0 ≤ x6_100.toInt) → (x6_100.toInt ≤ 120) → (0 ≤ x7_100.toInt) → (x7_100.toInt ≤ 1) → (8 ≤ x9_100.toInt) → (x9_100.toInt ≤ 8) → (Grow E E_100 ql a1.toInt.toNat) → (E_100 qm = E qm) → (∀ j : Nat, ¬ (64 * a1.toInt.toNat + 8 * a2.toInt.toNat ≤ j ∧ j < 64 * a1.toInt.toNat + 8 * a2.toInt.toNat + 8) → ai E_100 qd j = ai E qd j) → (Parts E_100 ql qd a1.toInt.toNat (64 * a1.toInt.toNat + 8 * a2.toInt.toNat) x3_8 ) → (∀ k : Nat, k ∉ ([5, 6, 22] : List Nat) → fi E_100 a0 k = fi E a0 k) → (0 ≤ (fi E_100 a0 22).toInt ∧ (fi E_100 a0 22).toInt ≤ 120 ∧ (fi E_8 a0 22).toInt ≤ (fi E_100 a0 22).toInt) → lv_has l_100 10 [(0, .ref a0), (1, .int a1), (2, .int a2), (3, .int x3_8), (4, .int x4_8), (6, .int x6_100), (7, .int x7_100), (8, .int x8_100), (9, .int x9_100)] → W p l e { frames := 3, cells := 0, slots := 0, locals := 72 } s m args below meth c H_100 k_100 0 0 QQ (F0 m 100 l_100 []) := by
        intro x6_100 x7_100 x8_100 x9_100 E_100 H_100 k_100 l_100 S_100 F_100 z217 z218 z219 z220 z221 z222 z223 z224 z225 z226 z227 z228 z229 z230 z231 z232 z233 z234 hl_100
        refine lv_iload_n hx hb dX10_sum_100 rfl (lv_at hl_100 3 rfl) ?_
        obtain ⟨v235, ev235, tv235⟩ : ∃ v : Int32, (Int8.ofInt (8)).toInt32 = v ∧ v.toInt = 8 := ⟨_, rfl, by decide +kernel⟩
        refine lv_bipush hx hb dX10_sum_101 ev235 ?_
        refine lv_icmp_ne (tgt := 113) hx hb dX10_sum_103 (by decide) (fun c236 => ?_) (fun c236 => ?_)
        · skip
          have tc236 := nu_ne c236
          exact J113 x7_100 x8_100 x9_100 E_100 H_100 k_100 l_100 S_100 F_100 (by have := fb_rng x3_8; have := fb_rng x8_100; omega) (by have := fb_rng x3_8; have := fb_rng x8_100; omega) (by have := fb_rng x3_8; have := fb_rng x8_100; omega) (by have := fb_rng x3_8; have := fb_rng x8_100; omega) (by have := fb_rng x3_8; have := fb_rng x8_100; omega) (by have := fb_rng x3_8; have := fb_rng x8_100; omega) (by have := fb_rng x3_8; have := fb_rng x8_100; omega) (by have := fb_rng x3_8; have := fb_rng x8_100; omega) (by have := fb_rng x3_8; have := fb_rng x8_100; omega) (by have := fb_rng x3_8; have := fb_rng x8_100; omega) z229 z230 (fun j hj => (z231 j hj)) (z232.keep Grow.refl rfl) (fun k hk => (z233 k hk)) (by have := fb_rng x3_8; have := fb_rng x8_100; omega) (fi_rng S_100.2 ha0 ta0 rfl rfl) (lv_sub hl_100 [0, 1, 2, 3, 4, 6, 7, 8] rfl)
        · skip
          have tc236 := nu_eq c236
          refine lv_aload_n hx hb dX10_sum_106 rfl (lv_at hl_100 0 rfl) ?_
          obtain ⟨v237, ev237, tv237⟩ : ∃ v : Int32, Int32.ofInt (3) = v ∧ v.toInt = 3 := ⟨_, rfl, by decide +kernel⟩
          refine lv_iconst hx hb dX10_sum_107 ev237 ?_
          refine lv_iload hx hb dX10_sum_108 (lv_at hl_100 5 rfl) ?_
          refine tc_vv Z.1 Z.2.2.2.1 Z.2.2.2.2.1 Z.2.2.2.2.2 S_100.1 S_100.2 ha0 ta0 rfl rfl (k_X10_wrong l D cy S_100.2 ha0 ta0 v237 (by omega) (by omega) x6_100) (cwV 2 hts gX10_sum_X10_wrong rfl rfl rfl (by decide +kernel) ⟨Nat.le_of_ble_eq_true rfl, Nat.le_of_ble_eq_true rfl⟩) rfl hl_100.1 rfl (Nat.le_of_ble_eq_true rfl) dX10_sum_110 ⟨Nat.zero_le _, Nat.zero_le _⟩ (fun E238 H239 k240 W238 I238 G238 p238 => ?_)
          obtain ⟨p238_0, p238_1⟩ := p238
          have S238 : Now D TB cy (va_A (va_pl L E) sz) s L τ E238 H239 k240 := ⟨W238, I238⟩
          have F238 : Fr L τ (inW [(11, 0), (75, 0), (77, 0), (78, 0), (79, 0)]) E E238 := F_100.trans (G238.mono (inW_mono (by decide)))
          exact J113 x7_100 x8_100 x9_100 E238 H239 k240 l_100 S238 F238 (by have := fb_rng x8_100; omega) (by have := fb_rng x8_100; omega) (by have := fb_rng x8_100; omega) (by have := fb_rng x8_100; omega) (by have := fb_rng x8_100; omega) (by have := fb_rng x8_100; omega) (by have := fb_rng x8_100; omega) (by have := fb_rng x8_100; omega) (by have := fb_rng x8_100; omega) (by have := fb_rng x8_100; omega) (z229.cell (G238 ql hql (by rw [tql]; rfl))) ((G238 qm hqm (by rw [tqm]; rfl)).trans z230) (fun j hj => ((ai_fr G238 hqd (by rw [tqd]; rfl)).trans (z231 j hj))) (z232.keep (Grow.refl.cell (G238 ql hql (by rw [tql]; rfl))) (G238 qd hqd (by rw [tqd]; rfl))) (fun k hk => ((p238_1 k (fw_sub (by decide) hk)).trans (z233 k hk))) (by rw [((p238_1 22 (by decide)).trans rfl)]; have := fb_rng x8_100; omega) (by have := fb_rng x8_100; omega) (lv_sub hl_100 [0, 1, 2, 3, 4, 6, 7, 8] rfl)
      have J82 : ∀ (x6_82 : Int32) (x7_82 : Int32) (E_82 : Ec) (H_82 : Heap) (k_82 : List Loc) (l_82 : Array Slot), Now D TB cy (va_A (va_pl L E) sz) s L τ E_82 H_82 k_82 → Fr L τ (inW [(11, 0), (75, 0), (77, 0), (78, 0), (79, 0)]) E E_82 → (0 ≤ a1.toInt) → (a1.toInt ≤ 49) → (0 ≤ a2.toInt) → (a2.toInt ≤ 7) → (-1 ≤ x4_8.toInt) → (x4_8.toInt ≤ 1) → (0 ≤ x6_82.toInt) → (x6_82.toInt ≤ 120) → (0 ≤ x7_82.toInt) → (x7_82.toInt ≤ 1) → (Grow E E_82 ql a1.toInt.toNat) → (E_82 qm = E qm) → (∀ j : Nat, ¬ (64 * a1.toInt.toNat + 8 * a2.toInt.toNat ≤ j ∧ j < 64 * a1.toInt.toNat + 8 * a2.toInt.toNat + 8) → ai E_82 qd j = ai E qd j) → (Parts E_82 ql qd a1.toInt.toNat (64 * a1.toInt.toNat + 8 * a2.toInt.toNat) x3_8 ) → (∀ k : Nat, k ∉ ([5, 6, 22] : List Nat) → fi E_82 a0 k = fi E a0 k) → (0 ≤ (fi E_82 a0 22).toInt ∧ (fi E_82 a0 22).toInt ≤ 120 ∧ (fi E_8 a0 22).toInt ≤ (fi E_82 a0 22).toInt) → lv_has l_82 10 [(0, .ref a0), (1, .int a1), (2, .int a2), (3, .int x3_8), (4, .int x4_8), (6, .int x6_82), (7, .int x7_82)] → W p l e { frames := 3, cells := 0, slots := 0, locals := 72 } s m args below meth c H_82 k_82 0 0 QQ (F0 m 82 l_82 []) := by
        intro x6_82 x7_82 E_82 H_82 k_82 l_82 S_82 F_82 z242 z243 z244 z245 z246 z247 z248 z249 z250 z251 z252 z253 z254 z255 z256 z257 hl_82
        obtain ⟨v258, ev258, tv258⟩ : ∃ v : Int32, Int32.ofInt (1) = v ∧ v.toInt = 1 := ⟨_, rfl, by decide +kernel⟩
        refine lv_iconst hx hb dX10_sum_82 ev258 ?_
        refine lv_istore (lv' := [(8, .int v258), (0, .ref a0), (1, .int a1), (2, .int a2), (3, .int x3_8), (4, .int x4_8), (6, .int x6_82), (7, .int x7_82)]) hx hb dX10_sum_83 hl_82 (by decide) rfl (fun l259 hl260 => ?_)
        obtain ⟨v261, ev261, tv261⟩ : ∃ v : Int32, (Int8.ofInt (8)).toInt32 = v ∧ v.toInt = 8 := ⟨_, rfl, by decide +kernel⟩
        refine lv_bipush hx hb dX10_sum_85 ev261 ?_
        refine lv_istore (lv' := [(9, .int v261), (8, .int v258), (0, .ref a0), (1, .int a1), (2, .int a2), (3, .int x3_8), (4, .int x4_8), (6, .int x6_82), (7, .int x7_82)]) hx hb dX10_sum_87 hl260 (by decide) rfl (fun l262 hl263 => ?_)
        refine lv_iload hx hb dX10_sum_89 (lv_at hl263 8 rfl) ?_
        refine lv_if_eq (tgt := 100) hx hb dX10_sum_91 (by decide) (fun c264 => ?_) (fun c264 => ?_)
        · skip
          have tc264 := nu_eq c264
          have uc264 : (0 : Int32).toInt = 0 := rfl
          exact J100 x6_82 x7_82 v258 v261 E_82 H_82 k_82 l262 S_82 F_82 (by have := fb_rng x3_8; omega) (by have := fb_rng x3_8; omega) (by have := fb_rng x3_8; omega) (by have := fb_rng x3_8; omega) (by have := fb_rng x3_8; omega) (by have := fb_rng x3_8; omega) (by have := fb_rng x3_8; omega) (by have := fb_rng x3_8; omega) (by have := fb_rng x3_8; omega) (by have := fb_rng x3_8; omega) (by have := fb_rng x3_8; omega) (by have := fb_rng x3_8; omega) z252 z253 (fun j hj => (z254 j hj)) (z255.keep Grow.refl rfl) (fun k hk => (z256 k hk)) (by have := fb_rng x3_8; omega) (lv_sub hl263 [2, 3, 4, 5, 6, 7, 8, 1, 0] rfl)
        · skip
          have tc264 := nu_ne c264
          have uc264 : (0 : Int32).toInt = 0 := rfl
          refine lv_aload_n hx hb dX10_sum_94 rfl (lv_at hl263 2 rfl) ?_
          refine tc_vi Z.1 Z.2.2.2.1 Z.2.2.2.2.1 Z.2.2.2.2.2 S_82.1 S_82.2 ha0 ta0 rfl rfl (k_X10_digits l D cy S_82.2 ha0 ta0) (cwV 0 hts gX10_sum_X10_digits rfl rfl rfl (by decide +kernel) ⟨Nat.le_of_ble_eq_true rfl, Nat.le_of_ble_eq_true rfl⟩) rfl hl263.1 rfl (Nat.le_of_ble_eq_true rfl) dX10_sum_95 ⟨Nat.zero_le _, Nat.zero_le _⟩ (fun v268 E265 H266 k267 W265 I265 G265 p265 => ?_)
          obtain ⟨p265_0, p265_1⟩ := p265
          have S265 : Now D TB cy (va_A (va_pl L E) sz) s L τ E265 H266 k267 := ⟨W265, I265⟩
          have F265 : Fr L τ (inW [(11, 0), (75, 0), (77, 0), (78, 0), (79, 0)]) E E265 := F_82.trans (G265.mono (inW_mono (by decide)))
          refine lv_istore (lv' := [(8, .int v268), (9, .int v261), (0, .ref a0), (1, .int a1), (2, .int a2), (3, .int x3_8), (4, .int x4_8), (6, .int x6_82), (7, .int x7_82)]) hx hb dX10_sum_98 hl263 (by decide) rfl (fun l269 hl270 => ?_)
          exact J100 x6_82 x7_82 v268 v261 E265 H266 k267 l269 S265 F265 (by have := fb_rng v268; have := fb_rng x3_8; omega) (by have := fb_rng v268; have := fb_rng x3_8; omega) (by have := fb_rng v268; have := fb_rng x3_8; omega) (by have := fb_rng v268; have := fb_rng x3_8; omega) (by have := fb_rng v268; have := fb_rng x3_8; omega) (by have := fb_rng v268; have := fb_rng x3_8; omega) (by have := fb_rng v268; have := fb_rng x3_8; omega) (by have := fb_rng v268; have := fb_rng x3_8; omega) (by have := fb_rng v268; have := fb_rng x3_8; omega) (by have := fb_rng v268; have := fb_rng x3_8; omega) (by have := fb_rng v268; have := fb_rng x3_8; omega) (by have := fb_rng v268; have := fb_rng x3_8; omega) (z252.cell (G265 ql hql (by rw [tql]; rfl))) ((G265 qm hqm (by rw [tqm]; rfl)).trans z253) (fun j hj => ((ai_fr G265 hqd (by rw [tqd]; rfl)).trans (z254 j hj))) (z255.keep (Grow.refl.cell (G265 ql hql (by rw [tql]; rfl))) (G265 qd hqd (by rw [tqd]; rfl))) (fun k hk => ((p265_1 k (fw_sub (by decide) hk)).trans (z256 k hk))) (by have := fb_rng v268; have := fb_rng x3_8; omega) (lv_sub hl270 [2, 3, 4, 5, 6, 7, 8, 0, 1] rfl)
      have J53 : ∀ (x6_53 : Int32) (y0_53 : Int32) (E_53 : Ec) (H_53 : Heap) (k_53 : List Loc) (l_53 : Array Slot), Now D TB cy (va_A (va_pl L E) sz) s L τ E_53 H_53 k_53 → Fr L τ (inW [(11, 0), (75, 0), (77, 0), (78, 0), (79, 0)]) E E_53 → (0 ≤ a1.toInt) → (a1.toInt ≤ 49) → (0 ≤ a2.toInt) → (a2.toInt ≤ 7) → (-1 ≤ x4_8.toInt) → (x4_8.toInt ≤ 1) → (0 ≤ x6_53.toInt) → (x6_53.toInt ≤ 120) → (0 ≤ y0_53.toInt) → (y0_53.toInt ≤ 1) → (Grow E E_53 ql a1.toInt.toNat) → (E_53 qm = E qm) → (∀ j : Nat, ¬ (64 * a1.toInt.toNat + 8 * a2.toInt.toNat ≤ j ∧ j < 64 * a1.toInt.toNat + 8 * a2.toInt.toNat + 8) → ai E_53 qd j = ai E qd j) → (Parts E_53 ql qd a1.toInt.toNat (64 * a1.toInt.toNat + 8 * a2.toInt.toNat) x3_8 ) → (∀ k : Nat, k ∉ ([5, 6, 22] : List Nat) → fi E_53 a0 k = fi E a0 k) → (0 ≤ (fi E_53 a0 22).toInt ∧ (fi E_53 a0 22).toInt ≤ 120 ∧ (fi E_8 a0 22).toInt ≤ (fi E_53 a0 22).toInt) → lv_has l_53 10 [(0, .ref a0), (1, .int a1), (2, .int a2), (3, .int x3_8), (4, .int x4_8), (6, .int x6_53)] → W p l e { frames := 3, cells := 0, slots := 0, locals := 72 } s m args below meth c H_53 k_53 0 0 QQ (F0 m 53 l_53 [.int y0_53]) := by
        intro x6_53 y0_53 E_53 H_53 k_53 l_53 S_53 F_53 z271 z272 z273 z274 z275 z276 z277 z278 z279 z280 z281 z282 z283 z284 z285 z286 hl_53
        refine lv_istore (lv' := [(7, .int y0_53), (0, .ref a0), (1, .int a1), (2, .int a2), (3, .int x3_8), (4, .int x4_8), (6, .int x6_53)]) hx hb dX10_sum_53 hl_53 (by decide) rfl (fun l287 hl288 => ?_)
        refine lv_iload hx hb dX10_sum_55 (lv_at hl288 0 rfl) ?_
        refine lv_if_ne (tgt := 82) hx hb dX10_sum_57 (by decide) (fun c289 => ?_) (fun c289 => ?_)
        · skip
          have tc289 := nu_ne c289
          have uc289 : (0 : Int32).toInt = 0 := rfl
          exact J82 x6_53 y0_53 E_53 H_53 k_53 l287 S_53 F_53 (by have := fb_rng x3_8; omega) (by have := fb_rng x3_8; omega) (by have := fb_rng x3_8; omega) (by have := fb_rng x3_8; omega) (by have := fb_rng x3_8; omega) (by have := fb_rng x3_8; omega) (by have := fb_rng x3_8; omega) (by have := fb_rng x3_8; omega) (by have := fb_rng x3_8; omega) (by have := fb_rng x3_8; omega) z281 z282 (fun j hj => (z283 j hj)) (z284.keep Grow.refl rfl) (fun k hk => (z285 k hk)) (by have := fb_rng x3_8; omega) (lv_sub hl288 [1, 2, 3, 4, 5, 6, 0] rfl)
        · skip
          have tc289 := nu_eq c289
          have uc289 : (0 : Int32).toInt = 0 := rfl
          refine lv_aload_n hx hb dX10_sum_60 rfl (lv_at hl288 1 rfl) ?_
          refine lv_aload_n hx hb dX10_sum_61 rfl (lv_at hl288 1 rfl) ?_
          refine tc_vl Z.1 Z.2.2.2.1 Z.2.2.2.2.1 Z.2.2.2.2.2 S_53.1 S_53.2 ha0 ta0 rfl rfl (k_X10_wordAt l D cy S_53.2 ha0 ta0) (cwV 0 hts gX10_sum_X10_wordAt rfl rfl rfl (by decide +kernel) ⟨Nat.le_of_ble_eq_true rfl, Nat.le_of_ble_eq_true rfl⟩) rfl hl288.1 rfl (Nat.le_of_ble_eq_true rfl) dX10_sum_62 ⟨Nat.zero_le _, Nat.zero_le _⟩ (fun v293 E290 H291 k292 W290 I290 G290 p290 => ?_)
          have q290 := p290
          have q290 := q290.symm
          subst q290
          have S290 : Now D TB cy (va_A (va_pl L E) sz) s L τ E_53 H291 k292 := ⟨W290, I290⟩
          refine tc_vi Z.1 Z.2.2.2.1 Z.2.2.2.2.1 Z.2.2.2.2.2 S290.1 S290.2 ha0 ta0 rfl rfl (k_X10_nameOf l D cy S290.2 ha0 ta0 v293) (cwV 1 hts gX10_sum_X10_nameOf rfl rfl rfl (by decide +kernel) ⟨Nat.le_of_ble_eq_true rfl, Nat.le_of_ble_eq_true rfl⟩) rfl hl288.1 rfl (Nat.le_of_ble_eq_true rfl) dX10_sum_65 ⟨Nat.zero_le _, Nat.zero_le _⟩ (fun v297 E294 H295 k296 W294 I294 G294 p294 => ?_)
          obtain ⟨q294, p294_0, p294_1⟩ := p294
          have q294 := q294.symm
          subst q294
          have S294 : Now D TB cy (va_A (va_pl L E) sz) s L τ E_53 H295 k296 := ⟨W294, I294⟩
          obtain ⟨v298, ev298, tv298⟩ : ∃ v : Int32, Int32.ofInt (-1) = v ∧ v.toInt = -1 := ⟨_, rfl, by decide +kernel⟩
          refine lv_iconst hx hb dX10_sum_68 ev298 ?_
          refine lv_icmp_ne (tgt := 82) hx hb dX10_sum_69 (by decide) (fun c299 => ?_) (fun c299 => ?_)
          · skip
            have tc299 := nu_ne c299
            exact J82 x6_53 y0_53 E_53 H295 k296 l287 S294 F_53 (by have := fb_rng x3_8; omega) (by have := fb_rng x3_8; omega) (by have := fb_rng x3_8; omega) (by have := fb_rng x3_8; omega) (by have := fb_rng x3_8; omega) (by have := fb_rng x3_8; omega) (by have := fb_rng x3_8; omega) (by have := fb_rng x3_8; omega) (by have := fb_rng x3_8; omega) (by have := fb_rng x3_8; omega) z281 z282 (fun j hj => (z283 j hj)) (z284.keep Grow.refl rfl) (fun k hk => (z285 k hk)) (by have := fb_rng x3_8; omega) (lv_sub hl288 [1, 2, 3, 4, 5, 6, 0] rfl)
          · skip
            have tc299 := nu_eq c299
            refine lv_aload_n hx hb dX10_sum_72 rfl (lv_at hl288 1 rfl) ?_
            obtain ⟨v300, ev300, tv300⟩ : ∃ v : Int32, Int32.ofInt (1) = v ∧ v.toInt = 1 := ⟨_, rfl, by decide +kernel⟩
            refine lv_iconst hx hb dX10_sum_73 ev300 ?_
            refine lv_aload_n hx hb dX10_sum_74 rfl (lv_at hl288 1 rfl) ?_
            refine tr_geti Z.1 Z.2.2.2.1 S294.1 S294.2 ha0 ta0 rfl rfl (fun _ h => List.mem_cons_of_mem _ (List.mem_append_right _ h)) 22 (by decide) rfl (hts _ (List.mem_of_getElem? (i := 1) rfl)) dX10_sum_75 (fun v301 ev301 lv301 uv301 => ?_)
            have wv301 : v301 = (fi E_53 a0 22) := ev301.symm.trans rfl
            have xv301 : v301.toInt = (fi E_53 a0 22).toInt := by rw [wv301]
            refine tc_vv Z.1 Z.2.2.2.1 Z.2.2.2.2.1 Z.2.2.2.2.2 S294.1 S294.2 ha0 ta0 rfl rfl (k_X10_wrong l D cy S294.2 ha0 ta0 v300 (by omega) (by omega) v301) (cwV 2 hts gX10_sum_X10_wrong rfl rfl rfl (by decide +kernel) ⟨Nat.le_of_ble_eq_true rfl, Nat.le_of_ble_eq_true rfl⟩) rfl hl288.1 rfl (Nat.le_of_ble_eq_true rfl) dX10_sum_78 ⟨Nat.zero_le _, Nat.zero_le _⟩ (fun E302 H303 k304 W302 I302 G302 p302 => ?_)
            obtain ⟨p302_0, p302_1⟩ := p302
            have S302 : Now D TB cy (va_A (va_pl L E) sz) s L τ E302 H303 k304 := ⟨W302, I302⟩
            have F302 : Fr L τ (inW [(11, 0), (75, 0), (77, 0), (78, 0), (79, 0)]) E E302 := F_53.trans (G302.mono (inW_mono (by decide)))
            rw [← hQ]
            exact en_v Z S302 F302 ⟨(z281.cell (G302 ql hql (by rw [tql]; rfl))), (fun j _ => congrFun (ai_cell ((G302 qm hqm (by rw [tqm]; rfl)).trans z282)) j), (fun j hj => ((ai_fr G302 hqd (by rw [tqd]; rfl)).trans (z283 j hj))), (fun h => absurd h (by omega)), (fun k hk => ((p302_1 k (fw_sub (by decide) hk)).trans (z285 k hk)))⟩ dX10_sum_81
      have J52 : ∀ (x6_52 : Int32) (E_52 : Ec) (H_52 : Heap) (k_52 : List Loc) (l_52 : Array Slot), Now D TB cy (va_A (va_pl L E) sz) s L τ E_52 H_52 k_52 → Fr L τ (inW [(11, 0), (75, 0), (77, 0), (78, 0), (79, 0)]) E E_52 → (0 ≤ a1.toInt) → (a1.toInt ≤ 49) → (0 ≤ a2.toInt) → (a2.toInt ≤ 7) → (-1 ≤ x4_8.toInt) → (x4_8.toInt ≤ 1) → (0 ≤ x6_52.toInt) → (x6_52.toInt ≤ 120) → (Grow E E_52 ql a1.toInt.toNat) → (E_52 qm = E qm) → (∀ j : Nat, ¬ (64 * a1.toInt.toNat + 8 * a2.toInt.toNat ≤ j ∧ j < 64 * a1.toInt.toNat + 8 * a2.toInt.toNat + 8) → ai E_52 qd j = ai E qd j) → (Parts E_52 ql qd a1.toInt.toNat (64 * a1.toInt.toNat + 8 * a2.toInt.toNat) x3_8 ) → (∀ k : Nat, k ∉ ([5, 6, 22] : List Nat) → fi E_52 a0 k = fi E a0 k) → (0 ≤ (fi E_52 a0 22).toInt ∧ (fi E_52 a0 22).toInt ≤ 120 ∧ (fi E_8 a0 22).toInt ≤ (fi E_52 a0 22).toInt) → lv_has l_52 10 [(0, .ref a0), (1, .int a1), (2, .int a2), (3, .int x3_8), (4, .int x4_8), (6, .int x6_52)] → W p l e { frames := 3, cells := 0, slots := 0, locals := 72 } s m args below meth c H_52 k_52 0 0 QQ (F0 m 52 l_52 []) := by
        intro x6_52 E_52 H_52 k_52 l_52 S_52 F_52 z306 z307 z308 z309 z310 z311 z312 z313 z314 z315 z316 z317 z318 z319 hl_52
        obtain ⟨v320, ev320, tv320⟩ : ∃ v : Int32, Int32.ofInt (0) = v ∧ v.toInt = 0 := ⟨_, rfl, by decide +kernel⟩
        refine lv_iconst hx hb dX10_sum_52 ev320 ?_
        exact J53 x6_52 v320 E_52 H_52 k_52 l_52 S_52 F_52 (by have := fb_rng x3_8; omega) (by have := fb_rng x3_8; omega) (by have := fb_rng x3_8; omega) (by have := fb_rng x3_8; omega) (by have := fb_rng x3_8; omega) (by have := fb_rng x3_8; omega) (by have := fb_rng x3_8; omega) (by have := fb_rng x3_8; omega) (by have := fb_rng x3_8; omega) (by have := fb_rng x3_8; omega) z314 z315 (fun j hj => (z316 j hj)) (z317.keep Grow.refl rfl) (fun k hk => (z318 k hk)) (by have := fb_rng x3_8; omega) (lv_sub hl_52 [0, 1, 2, 3, 4, 5] rfl)
      refine lv_iload hx hb dX10_sum_8 (lv_at hl_8 5 rfl) ?_
      refine lv_if_eq (tgt := 283) hx hb dX10_sum_10 (by decide) (fun c321 => ?_) (fun c321 => ?_)
      · skip
        have tc321 := nu_eq c321
        have uc321 : (0 : Int32).toInt = 0 := rfl
        exact J283 x3_8 E_8 H_8 k_8 l_8 S_8 F_8 (by have := fb_rng x3_8; omega) (by have := fb_rng x3_8; omega) (by have := fb_rng x3_8; omega) (by have := fb_rng x3_8; omega) z25 z26 (fun j hj => (z27 j hj)) (z28.keep Grow.refl rfl) (fun k hk => (z29 k hk)) (lv_sub hl_8 [0, 1, 2, 3] rfl)
      · skip
        have tc321 := nu_ne c321
        have uc321 : (0 : Int32).toInt = 0 := rfl
        refine lv_aload_n hx hb dX10_sum_13 rfl (lv_at hl_8 0 rfl) ?_
        refine tc_vi Z.1 Z.2.2.2.1 Z.2.2.2.2.1 Z.2.2.2.2.2 S_8.1 S_8.2 ha0 ta0 rfl rfl (k_X10_bad l D cy S_8.2 ha0 ta0) (cwV 0 hts gX10_sum_X10_bad rfl rfl rfl (by decide +kernel) ⟨Nat.le_of_ble_eq_true rfl, Nat.le_of_ble_eq_true rfl⟩) rfl hl_8.1 rfl (Nat.le_of_ble_eq_true rfl) dX10_sum_14 ⟨Nat.zero_le _, Nat.zero_le _⟩ (fun v325 E322 H323 k324 W322 I322 G322 p322 => ?_)
        obtain ⟨q322, p322_0, p322_1, p322_2⟩ := p322
        have q322 := q322.symm
        subst q322
        have S322 : Now D TB cy (va_A (va_pl L E) sz) s L τ E_8 H323 k324 := ⟨W322, I322⟩
        refine lv_if_ne (tgt := 283) hx hb dX10_sum_17 (by decide) (fun c326 => ?_) (fun c326 => ?_)
        · skip
          have tc326 := nu_ne c326
          have uc326 : (0 : Int32).toInt = 0 := rfl
          exact J283 x3_8 E_8 H323 k324 l_8 S322 F_8 (by have := fb_rng x3_8; omega) (by have := fb_rng x3_8; omega) (by have := fb_rng x3_8; omega) (by have := fb_rng x3_8; omega) z25 z26 (fun j hj => (z27 j hj)) (z28.keep Grow.refl rfl) (fun k hk => (z29 k hk)) (lv_sub hl_8 [0, 1, 2, 3] rfl)
        · skip
          have tc326 := nu_eq c326
          have uc326 : (0 : Int32).toInt = 0 := rfl
          refine lv_aload_n hx hb dX10_sum_20 rfl (lv_at hl_8 0 rfl) ?_
          refine tc_vv Z.1 Z.2.2.2.1 Z.2.2.2.2.1 Z.2.2.2.2.2 S322.1 S322.2 ha0 ta0 rfl rfl (k_X10_blanks l D cy S322.2 ha0 ta0) (cwV 0 hts gX10_sum_X10_blanks rfl rfl rfl (by decide +kernel) ⟨Nat.le_of_ble_eq_true rfl, Nat.le_of_ble_eq_true rfl⟩) rfl hl_8.1 rfl (Nat.le_of_ble_eq_true rfl) dX10_sum_21 ⟨Nat.zero_le _, Nat.zero_le _⟩ (fun E327 H328 k329 W327 I327 G327 p327 => ?_)
          obtain ⟨p327_0, p327_1⟩ := p327
          have S327 : Now D TB cy (va_A (va_pl L E) sz) s L τ E327 H328 k329 := ⟨W327, I327⟩
          have F327 : Fr L τ (inW [(11, 0), (75, 0), (77, 0), (78, 0), (79, 0)]) E E327 := F_8.trans (G327.mono (inW_mono (by decide)))
          refine lv_aload_n hx hb dX10_sum_24 rfl (lv_at hl_8 0 rfl) ?_
          refine tr_geti Z.1 Z.2.2.2.1 S327.1 S327.2 ha0 ta0 rfl rfl (fun _ h => List.mem_cons_of_mem _ (List.mem_append_right _ h)) 22 (by decide) rfl (hts _ (List.mem_of_getElem? (i := 1) rfl)) dX10_sum_25 (fun v331 ev331 lv331 uv331 => ?_)
          have wv331 : v331 = (fi E327 a0 22) := ev331.symm.trans rfl
          have xv331 : v331.toInt = (fi E327 a0 22).toInt := by rw [wv331]
          refine lv_istore (lv' := [(6, .int v331), (0, .ref a0), (1, .int a1), (2, .int a2), (3, .int x3_8), (4, .int x4_8), (5, .int x5_8)]) hx hb dX10_sum_28 hl_8 (by decide) rfl (fun l332 hl333 => ?_)
          refine lv_aload_n hx hb dX10_sum_30 rfl (lv_at hl333 1 rfl) ?_
          refine tc_vi Z.1 Z.2.2.2.1 Z.2.2.2.2.1 Z.2.2.2.2.2 S327.1 S327.2 ha0 ta0 rfl rfl (k_X10_look l D cy S327.2 ha0 ta0) (cwV 0 hts gX10_sum_X10_look rfl rfl rfl (by decide +kernel) ⟨Nat.le_of_ble_eq_true rfl, Nat.le_of_ble_eq_true rfl⟩) rfl hl333.1 rfl (Nat.le_of_ble_eq_true rfl) dX10_sum_31 ⟨Nat.zero_le _, Nat.zero_le _⟩ (fun v337 E334 H335 k336 W334 I334 G334 p334 => ?_)
          obtain ⟨q334, p334_0, p334_1, p334_2⟩ := p334
          have q334 := q334.symm
          subst q334
          have S334 : Now D TB cy (va_A (va_pl L E) sz) s L τ E327 H335 k336 := ⟨W334, I334⟩
          rw [ev331] at p334_0
          obtain ⟨v338, ev338, tv338⟩ : ∃ v : Int32, (Int8.ofInt (48)).toInt32 = v ∧ v.toInt = 48 := ⟨_, rfl, by decide +kernel⟩
          refine lv_bipush hx hb dX10_sum_34 ev338 ?_
          refine lv_icmp_lt (tgt := 52) hx hb dX10_sum_36 (by decide) (fun c339 => ?_) (fun c339 => ?_)
          · skip
            have tc339 := nu_lt c339
            exact J52 v331 E327 H335 k336 l332 S334 F327 (by have := fb_rng x3_8; omega) (by have := fb_rng x3_8; omega) (by have := fb_rng x3_8; omega) (by have := fb_rng x3_8; omega) (by have := fb_rng x3_8; omega) (by have := fb_rng x3_8; omega) (by have := fb_rng x3_8; omega) (by have := fb_rng x3_8; omega) (z25.cell (G327 ql hql (by rw [tql]; rfl))) ((G327 qm hqm (by rw [tqm]; rfl)).trans z26) (fun j hj => ((ai_fr G327 hqd (by rw [tqd]; rfl)).trans (z27 j hj))) (z28.keep (Grow.refl.cell (G327 ql hql (by rw [tql]; rfl))) (G327 qd hqd (by rw [tqd]; rfl))) (fun k hk => ((p327_1 k (fw_sub (by decide) hk)).trans (z29 k hk))) (by rw [ev331]; have := fb_rng x3_8; omega) (lv_sub hl333 [1, 2, 3, 4, 5, 0] rfl)
          · skip
            have tc339 := nu_nlt c339
            refine lv_aload_n hx hb dX10_sum_39 rfl (lv_at hl333 1 rfl) ?_
            refine tc_vi Z.1 Z.2.2.2.1 Z.2.2.2.2.1 Z.2.2.2.2.2 S334.1 S334.2 ha0 ta0 rfl rfl (k_X10_look l D cy S334.2 ha0 ta0) (cwV 0 hts gX10_sum_X10_look rfl rfl rfl (by decide +kernel) ⟨Nat.le_of_ble_eq_true rfl, Nat.le_of_ble_eq_true rfl⟩) rfl hl333.1 rfl (Nat.le_of_ble_eq_true rfl) dX10_sum_40 ⟨Nat.zero_le _, Nat.zero_le _⟩ (fun v343 E340 H341 k342 W340 I340 G340 p340 => ?_)
            obtain ⟨q340, p340_0, p340_1, p340_2⟩ := p340
            have q340 := q340.symm
            subst q340
            have S340 : Now D TB cy (va_A (va_pl L E) sz) s L τ E327 H341 k342 := ⟨W340, I340⟩
            rw [ev331] at p340_0
            obtain ⟨v344, ev344, tv344⟩ : ∃ v : Int32, (Int8.ofInt (57)).toInt32 = v ∧ v.toInt = 57 := ⟨_, rfl, by decide +kernel⟩
            refine lv_bipush hx hb dX10_sum_43 ev344 ?_
            refine lv_icmp_gt (tgt := 52) hx hb dX10_sum_45 (by decide) (fun c345 => ?_) (fun c345 => ?_)
            · skip
              have tc345 := nu_lt c345
              exact J52 v331 E327 H341 k342 l332 S340 F327 (by have := fb_rng x3_8; omega) (by have := fb_rng x3_8; omega) (by have := fb_rng x3_8; omega) (by have := fb_rng x3_8; omega) (by have := fb_rng x3_8; omega) (by have := fb_rng x3_8; omega) (by have := fb_rng x3_8; omega) (by have := fb_rng x3_8; omega) (z25.cell (G327 ql hql (by rw [tql]; rfl))) ((G327 qm hqm (by rw [tqm]; rfl)).trans z26) (fun j hj => ((ai_fr G327 hqd (by rw [tqd]; rfl)).trans (z27 j hj))) (z28.keep (Grow.refl.cell (G327 ql hql (by rw [tql]; rfl))) (G327 qd hqd (by rw [tqd]; rfl))) (fun k hk => ((p327_1 k (fw_sub (by decide) hk)).trans (z29 k hk))) (by rw [ev331]; have := fb_rng x3_8; omega) (lv_sub hl333 [1, 2, 3, 4, 5, 0] rfl)
            · skip
              have tc345 := nu_nlt c345
              obtain ⟨v346, ev346, tv346⟩ : ∃ v : Int32, Int32.ofInt (1) = v ∧ v.toInt = 1 := ⟨_, rfl, by decide +kernel⟩
              refine lv_iconst hx hb dX10_sum_48 ev346 ?_
              refine lv_goto (tgt := 53) hx hb dX10_sum_49 (by decide) ?_
              exact J53 v331 v346 E327 H341 k342 l332 S340 F327 (by have := fb_rng x3_8; omega) (by have := fb_rng x3_8; omega) (by have := fb_rng x3_8; omega) (by have := fb_rng x3_8; omega) (by have := fb_rng x3_8; omega) (by have := fb_rng x3_8; omega) (by have := fb_rng x3_8; omega) (by have := fb_rng x3_8; omega) (by have := fb_rng x3_8; omega) (by have := fb_rng x3_8; omega) (z25.cell (G327 ql hql (by rw [tql]; rfl))) ((G327 qm hqm (by rw [tqm]; rfl)).trans z26) (fun j hj => ((ai_fr G327 hqd (by rw [tqd]; rfl)).trans (z27 j hj))) (z28.keep (Grow.refl.cell (G327 ql hql (by rw [tql]; rfl))) (G327 qd hqd (by rw [tqd]; rfl))) (fun k hk => ((p327_1 k (fw_sub (by decide) hk)).trans (z29 k hk))) (by rw [ev331]; have := fb_rng x3_8; omega) (lv_sub hl333 [1, 2, 3, 4, 5, 0] rfl)
  obtain ⟨v347, ev347, tv347⟩ : ∃ v : Int32, Int32.ofInt (0) = v ∧ v.toInt = 0 := ⟨_, rfl, by decide +kernel⟩
  refine lv_iconst hx hb dX10_sum_0 ev347 ?_
  refine lv_istore_n (lv' := [(3, .int v347), (0, .ref a0), (1, .int a1), (2, .int a2)]) hx hb dX10_sum_1 rfl hl (by decide) rfl (fun l348 hl349 => ?_)
  obtain ⟨v350, ev350, tv350⟩ : ∃ v : Int32, Int32.ofInt (1) = v ∧ v.toInt = 1 := ⟨_, rfl, by decide +kernel⟩
  refine lv_iconst hx hb dX10_sum_2 ev350 ?_
  refine lv_istore (lv' := [(4, .int v350), (3, .int v347), (0, .ref a0), (1, .int a1), (2, .int a2)]) hx hb dX10_sum_3 hl349 (by decide) rfl (fun l351 hl352 => ?_)
  obtain ⟨v353, ev353, tv353⟩ : ∃ v : Int32, Int32.ofInt (1) = v ∧ v.toInt = 1 := ⟨_, rfl, by decide +kernel⟩
  refine lv_iconst hx hb dX10_sum_5 ev353 ?_
  refine lv_istore (lv' := [(5, .int v353), (4, .int v350), (3, .int v347), (0, .ref a0), (1, .int a1), (2, .int a2)]) hx hb dX10_sum_6 hl352 (by decide) rfl (fun l354 hl355 => ?_)
  exact J8 _ v347 v350 v353 E s.heap [] l354 S0 F0_ (by omega) (by omega) (by omega) (by omega) (by omega) (by omega) (by omega) (by omega) Grow.refl rfl (fun j hj => rfl) (fun i hi _ => absurd hi (by omega)) (fun k hk => ((fun k hk => rfl) k hk)) (by omega) (Nat.lt_succ_self _) (lv_sub hl355 [3, 4, 5, 2, 1, 0] rfl)

