set_option maxRecDepth 20000 in
theorem ggX10_name_X10_wordAt : GoodIn wsX10_name wsX10_wordAt := goodIn_r _ [7, 1, 8, 9, 10, 11, 12, 13, 14, 6, 15, 42, 43, 44, 45, 46, 47, 48, 49, 50, 51, 52, 53, 54, 55, 56, 57, 58, 59, 60, 61, 62, 63, 64, 65, 66, 67, 68, 69, 70, 71, 72, 73, 74, 75, 76, 77, 78, 79, 80, 81, 82, 83, 84, 85, 86, 87, 88, 89] (by decide +kernel) (by decide +kernel)
set_option maxRecDepth 20000 in
theorem gX10_name_X10_wordAt : GoodIn wsX10_name (wsV RX10 178 RX10 yX10_wordAt wsX10_wordAt) := goodIn_app (goodIn_of _ (by decide +kernel)) ggX10_name_X10_wordAt
set_option maxRecDepth 20000 in
theorem ggX10_name_X10_nameOf : GoodIn wsX10_name wsX10_nameOf := goodIn_r _ [19, 20, 21, 22, 6, 23, 10, 11] (by decide +kernel) (by decide +kernel)
set_option maxRecDepth 20000 in
theorem gX10_name_X10_nameOf : GoodIn wsX10_name (wsV RX10 182 RX10 yX10_nameOf wsX10_nameOf) := goodIn_app (goodIn_of _ (by decide +kernel)) ggX10_name_X10_nameOf
set_option maxRecDepth 20000 in
theorem ggX10_name_X10_wrong : GoodIn wsX10_name wsX10_wrong := goodIn_r _ [27, 28, 29, 42, 43, 44, 45, 46, 47, 48, 49, 50, 51, 52, 53, 54, 55, 56, 57, 58, 59, 60, 61, 62, 63, 64, 65, 66, 67, 68, 69, 70, 71, 72, 73, 74, 75, 76, 77, 78, 79, 80, 81, 82, 83, 84, 85, 86, 87, 88, 89] (by decide +kernel) (by decide +kernel)
set_option maxRecDepth 20000 in
theorem gX10_name_X10_wrong : GoodIn wsX10_name (wsV RX10 174 RX10 yX10_wrong wsX10_wrong) := goodIn_app (goodIn_of _ (by decide +kernel)) ggX10_name_X10_wrong
set_option maxRecDepth 20000 in
theorem ggX10_name_X10_passWord : GoodIn wsX10_name wsX10_passWord := goodIn_r _ [33, 1, 34, 35, 36, 6, 37, 8, 9, 12, 13, 14, 15, 42, 43, 44, 45, 46, 47, 48, 49, 50, 51, 52, 53, 54, 55, 56, 57, 58, 59, 60, 61, 62, 63, 64, 65, 66, 67, 68, 69, 70, 71, 72, 73, 74, 75, 76, 77, 78, 79, 80, 81, 82, 83, 84, 85, 86, 87, 88, 89] (by decide +kernel) (by decide +kernel)
set_option maxRecDepth 20000 in
theorem gX10_name_X10_passWord : GoodIn wsX10_name (wsV RX10 186 RX10 yX10_passWord wsX10_passWord) := goodIn_app (goodIn_of _ (by decide +kernel)) ggX10_name_X10_passWord
set_option maxRecDepth 20000 in
theorem ggX10_name_X10_blanks : GoodIn wsX10_name wsX10_blanks := goodIn_r _ [41, 1, 34, 35, 36, 6, 37, 8, 9, 42, 43, 44, 45, 46, 47, 48, 49, 50, 51, 52, 53, 54, 55, 56, 57, 58, 59, 60, 61, 62, 63, 64, 65, 66, 67, 68, 69, 70, 71, 72, 73, 74, 75, 76, 77, 78, 79, 80, 81, 82, 83, 84, 85, 86, 87, 88, 89] (by decide +kernel) (by decide +kernel)
set_option maxRecDepth 20000 in
theorem gX10_name_X10_blanks : GoodIn wsX10_name (wsV RX10 189 RX10 yX10_blanks wsX10_blanks) := goodIn_app (goodIn_of _ (by decide +kernel)) ggX10_name_X10_blanks
set_option maxRecDepth 20000 in
theorem ggX10_name_X10_look : GoodIn wsX10_name wsX10_look := goodIn_r _ [37, 1, 8, 9, 42, 43, 44, 45, 46, 47, 48, 49, 50, 51, 52, 53, 54, 55, 56, 57, 58, 59, 60, 61, 62, 63, 64, 65, 66, 67, 68, 69, 70, 71, 72, 73, 74, 75, 76, 77, 78, 79, 80, 81, 82, 83, 84, 85, 86, 87, 88, 89] (by decide +kernel) (by decide +kernel)
set_option maxRecDepth 20000 in
theorem gX10_name_X10_look : GoodIn wsX10_name (wsV RX10 157 RX10 yX10_look wsX10_look) := goodIn_app (goodIn_of _ (by decide +kernel)) ggX10_name_X10_look
theorem dX10_name_0 : decode cX10_name 0 = .ok (.aload_n 0, 1) := by decide +kernel
theorem dX10_name_1 : decode cX10_name 1 = .ok (.aload_n 0, 1) := by decide +kernel
theorem dX10_name_2 : decode cX10_name 2 = .ok (.invokevirtual 178, 3) := by decide +kernel
theorem dX10_name_5 : decode cX10_name 5 = .ok (.invokevirtual 182, 3) := by decide +kernel
theorem dX10_name_8 : decode cX10_name 8 = .ok (.istore_n 2, 1) := by decide +kernel
theorem dX10_name_9 : decode cX10_name 9 = .ok (.iload_n 2, 1) := by decide +kernel
theorem dX10_name_10 : decode cX10_name 10 = .ok (.iconst (-1), 1) := by decide +kernel
theorem dX10_name_11 : decode cX10_name 11 = .ok (.if_icmp .ne 14, 3) := by decide +kernel
theorem dX10_name_14 : decode cX10_name 14 = .ok (.aload_n 0, 1) := by decide +kernel
theorem dX10_name_15 : decode cX10_name 15 = .ok (.iconst 1, 1) := by decide +kernel
theorem dX10_name_16 : decode cX10_name 16 = .ok (.aload_n 0, 1) := by decide +kernel
theorem dX10_name_17 : decode cX10_name 17 = .ok (.getfield 151, 3) := by decide +kernel
theorem dX10_name_20 : decode cX10_name 20 = .ok (.invokevirtual 174, 3) := by decide +kernel
theorem dX10_name_23 : decode cX10_name 23 = .ok (.iconst 0, 1) := by decide +kernel
theorem dX10_name_24 : decode cX10_name 24 = .ok (.ireturn, 1) := by decide +kernel
theorem dX10_name_25 : decode cX10_name 25 = .ok (.aload_n 0, 1) := by decide +kernel
theorem dX10_name_26 : decode cX10_name 26 = .ok (.invokevirtual 186, 3) := by decide +kernel
theorem dX10_name_29 : decode cX10_name 29 = .ok (.aload_n 0, 1) := by decide +kernel
theorem dX10_name_30 : decode cX10_name 30 = .ok (.invokevirtual 189, 3) := by decide +kernel
theorem dX10_name_33 : decode cX10_name 33 = .ok (.aload_n 0, 1) := by decide +kernel
theorem dX10_name_34 : decode cX10_name 34 = .ok (.invokevirtual 157, 3) := by decide +kernel
theorem dX10_name_37 : decode cX10_name 37 = .ok (.bipush 39, 2) := by decide +kernel
theorem dX10_name_39 : decode cX10_name 39 = .ok (.if_icmp .eq 5, 3) := by decide +kernel
theorem dX10_name_42 : decode cX10_name 42 = .ok (.iload_n 2, 1) := by decide +kernel
theorem dX10_name_43 : decode cX10_name 43 = .ok (.ireturn, 1) := by decide +kernel
theorem dX10_name_44 : decode cX10_name 44 = .ok (.aload_n 0, 1) := by decide +kernel
theorem dX10_name_45 : decode cX10_name 45 = .ok (.dup, 1) := by decide +kernel
theorem dX10_name_46 : decode cX10_name 46 = .ok (.getfield 151, 3) := by decide +kernel
theorem dX10_name_49 : decode cX10_name 49 = .ok (.iconst 1, 1) := by decide +kernel
theorem dX10_name_50 : decode cX10_name 50 = .ok (.iadd, 1) := by decide +kernel
theorem dX10_name_51 : decode cX10_name 51 = .ok (.putfield 151, 3) := by decide +kernel
theorem dX10_name_54 : decode cX10_name 54 = .ok (.aload_n 0, 1) := by decide +kernel
theorem dX10_name_55 : decode cX10_name 55 = .ok (.getfield 61, 3) := by decide +kernel
theorem dX10_name_58 : decode cX10_name 58 = .ok (.iload_n 1, 1) := by decide +kernel
theorem dX10_name_59 : decode cX10_name 59 = .ok (.iconst 1, 1) := by decide +kernel
theorem dX10_name_60 : decode cX10_name 60 = .ok (.bastore, 1) := by decide +kernel
theorem dX10_name_61 : decode cX10_name 61 = .ok (.iload_n 2, 1) := by decide +kernel
theorem dX10_name_62 : decode cX10_name 62 = .ok (.bipush 16, 2) := by decide +kernel
theorem dX10_name_64 : decode cX10_name 64 = .ok (.iadd, 1) := by decide +kernel
theorem dX10_name_65 : decode cX10_name 65 = .ok (.ireturn, 1) := by decide +kernel
set_option maxHeartbeats 4000000 in
set_option maxRecDepth 100000 in
theorem k_X10_name (l : Launch) (D : va_G) (cy : Nat → ClassId) {L : List Nat} {τ : Nat → Ro} {E : Ec} (hI : Inv TB cy L τ E) {a0 : Nat} (ha0 : a0 ∈ L) (ta0 : τ a0 = (11, 0)) (a1 : Int32) (la1 : 0 ≤ a1.toInt) (ua1 : a1.toInt ≤ 49) {ql : Nat} (hql : ql ∈ L) (tql : τ ql = (75, 0)) : CtI l yX10_name wsX10_name { frames := 2, cells := 0, slots := 0, locals := 50 } D TB cy L τ E [.ref a0, .int a1] (inW [(11, 0), (75, 0)]) (fun r E' => (Grow E E' ql a1.toInt.toNat) ∧ (15 < r.toInt → (ai E' ql a1.toInt.toNat).toInt = 1) ∧ ((fi E a0 22).toInt ≤ (fi E' a0 22).toInt) ∧ 0 ≤ r.toInt ∧ r.toInt ≤ 23 ∧ (∀ k : Nat, k ∉ ([5, 6, 22] : List Nat) → fi E' a0 k = fi E a0 k)) := by
  intro sz
  refine sta (cc := cX10_name) (maxL := 3) hI (by decide) rfl (Nat.le_of_ble_eq_true rfl) (fun p e s m args below meth c ls hsz Z S0 hl => ?_)
  have hx := Z.1.1
  have hb := Z.1.2.1
  have hts := Z.1.2.2.2.2
  have F0_ : Fr L τ (inW [(11, 0), (75, 0)]) E E := Fr.refl
  have hl : lv_has ls 3 [(0, .ref a0), (1, .int a1)] := hl
  generalize hQ : MQ below _ args s 0 0 _ = QQ
  have kz_a0_22 := fi_rng (k := 22) hI ha0 ta0 rfl rfl
  refine lv_aload_n hx hb dX10_name_0 rfl (lv_at hl 0 rfl) ?_
  refine lv_aload_n hx hb dX10_name_1 rfl (lv_at hl 0 rfl) ?_
  refine tc_vl Z.1 Z.2.2.2.1 Z.2.2.2.2.1 Z.2.2.2.2.2 S0.1 S0.2 ha0 ta0 rfl rfl (k_X10_wordAt l D cy S0.2 ha0 ta0) (cwV 0 hts gX10_name_X10_wordAt rfl rfl rfl (by decide +kernel) ⟨Nat.le_of_ble_eq_true rfl, Nat.le_of_ble_eq_true rfl⟩) rfl hl.1 rfl (Nat.le_of_ble_eq_true rfl) dX10_name_2 ⟨Nat.zero_le _, Nat.zero_le _⟩ (fun v4 E1 H2 k3 W1 I1 G1 p1 => ?_)
  have q1 := p1
  have q1 := q1.symm
  subst q1
  have S1 : Now D TB cy (va_A (va_pl L E) sz) s L τ E H2 k3 := ⟨W1, I1⟩
  refine tc_vi Z.1 Z.2.2.2.1 Z.2.2.2.2.1 Z.2.2.2.2.2 S1.1 S1.2 ha0 ta0 rfl rfl (k_X10_nameOf l D cy S1.2 ha0 ta0 v4) (cwV 1 hts gX10_name_X10_nameOf rfl rfl rfl (by decide +kernel) ⟨Nat.le_of_ble_eq_true rfl, Nat.le_of_ble_eq_true rfl⟩) rfl hl.1 rfl (Nat.le_of_ble_eq_true rfl) dX10_name_5 ⟨Nat.zero_le _, Nat.zero_le _⟩ (fun v8 E5 H6 k7 W5 I5 G5 p5 => ?_)
  obtain ⟨q5, p5_0, p5_1⟩ := p5
  have q5 := q5.symm
  subst q5
  have S5 : Now D TB cy (va_A (va_pl L E) sz) s L τ E H6 k7 := ⟨W5, I5⟩
  refine lv_istore_n (lv' := [(2, .int v8), (0, .ref a0), (1, .int a1)]) hx hb dX10_name_8 rfl hl (by decide) rfl (fun l9 hl10 => ?_)
  refine lv_iload_n hx hb dX10_name_9 rfl (lv_at hl10 0 rfl) ?_
  obtain ⟨v11, ev11, tv11⟩ : ∃ v : Int32, Int32.ofInt (-1) = v ∧ v.toInt = -1 := ⟨_, rfl, by decide +kernel⟩
  refine lv_iconst hx hb dX10_name_10 ev11 ?_
  refine lv_icmp_ne (tgt := 25) hx hb dX10_name_11 (by decide) (fun c12 => ?_) (fun c12 => ?_)
  · skip
    have tc12 := nu_ne c12
    refine lv_aload_n hx hb dX10_name_25 rfl (lv_at hl10 1 rfl) ?_
    refine tc_vv Z.1 Z.2.2.2.1 Z.2.2.2.2.1 Z.2.2.2.2.2 S5.1 S5.2 ha0 ta0 rfl rfl (k_X10_passWord l D cy S5.2 ha0 ta0) (cwV 0 hts gX10_name_X10_passWord rfl rfl rfl (by decide +kernel) ⟨Nat.le_of_ble_eq_true rfl, Nat.le_of_ble_eq_true rfl⟩) rfl hl10.1 rfl (Nat.le_of_ble_eq_true rfl) dX10_name_26 ⟨Nat.zero_le _, Nat.zero_le _⟩ (fun E13 H14 k15 W13 I13 G13 p13 => ?_)
    obtain ⟨p13_0, p13_1⟩ := p13
    have S13 : Now D TB cy (va_A (va_pl L E) sz) s L τ E13 H14 k15 := ⟨W13, I13⟩
    have F13 : Fr L τ (inW [(11, 0), (75, 0)]) E E13 := F0_.trans (G13.mono (inW_mono (by decide)))
    have kz13_22 := fi_rng (k := 22) S13.2 ha0 ta0 rfl rfl
    refine lv_aload_n hx hb dX10_name_29 rfl (lv_at hl10 1 rfl) ?_
    refine tc_vv Z.1 Z.2.2.2.1 Z.2.2.2.2.1 Z.2.2.2.2.2 S13.1 S13.2 ha0 ta0 rfl rfl (k_X10_blanks l D cy S13.2 ha0 ta0) (cwV 0 hts gX10_name_X10_blanks rfl rfl rfl (by decide +kernel) ⟨Nat.le_of_ble_eq_true rfl, Nat.le_of_ble_eq_true rfl⟩) rfl hl10.1 rfl (Nat.le_of_ble_eq_true rfl) dX10_name_30 ⟨Nat.zero_le _, Nat.zero_le _⟩ (fun E17 H18 k19 W17 I17 G17 p17 => ?_)
    obtain ⟨p17_0, p17_1⟩ := p17
    have S17 : Now D TB cy (va_A (va_pl L E) sz) s L τ E17 H18 k19 := ⟨W17, I17⟩
    have F17 : Fr L τ (inW [(11, 0), (75, 0)]) E E17 := F13.trans (G17.mono (inW_mono (by decide)))
    have kz17_22 := fi_rng (k := 22) S17.2 ha0 ta0 rfl rfl
    refine lv_aload_n hx hb dX10_name_33 rfl (lv_at hl10 1 rfl) ?_
    refine tc_vi Z.1 Z.2.2.2.1 Z.2.2.2.2.1 Z.2.2.2.2.2 S17.1 S17.2 ha0 ta0 rfl rfl (k_X10_look l D cy S17.2 ha0 ta0) (cwV 0 hts gX10_name_X10_look rfl rfl rfl (by decide +kernel) ⟨Nat.le_of_ble_eq_true rfl, Nat.le_of_ble_eq_true rfl⟩) rfl hl10.1 rfl (Nat.le_of_ble_eq_true rfl) dX10_name_34 ⟨Nat.zero_le _, Nat.zero_le _⟩ (fun v24 E21 H22 k23 W21 I21 G21 p21 => ?_)
    obtain ⟨q21, p21_0, p21_1, p21_2⟩ := p21
    have q21 := q21.symm
    subst q21
    have S21 : Now D TB cy (va_A (va_pl L E) sz) s L τ E17 H22 k23 := ⟨W21, I21⟩
    obtain ⟨v25, ev25, tv25⟩ : ∃ v : Int32, (Int8.ofInt (39)).toInt32 = v ∧ v.toInt = 39 := ⟨_, rfl, by decide +kernel⟩
    refine lv_bipush hx hb dX10_name_37 ev25 ?_
    refine lv_icmp_eq (tgt := 44) hx hb dX10_name_39 (by decide) (fun c26 => ?_) (fun c26 => ?_)
    · skip
      have tc26 := nu_eq c26
      refine lv_aload_n hx hb dX10_name_44 rfl (lv_at hl10 1 rfl) ?_
      refine lv_dup hx hb dX10_name_45 rfl ?_
      refine tr_geti Z.1 Z.2.2.2.1 S21.1 S21.2 ha0 ta0 rfl rfl (fun _ h => List.mem_cons_of_mem _ (List.mem_append_right _ h)) 22 (by decide) rfl (hts _ (List.mem_of_getElem? (i := 1) rfl)) dX10_name_46 (fun v27 ev27 lv27 uv27 => ?_)
      have wv27 : v27 = (fi E17 a0 22) := ev27.symm.trans rfl
      have xv27 : v27.toInt = (fi E17 a0 22).toInt := by rw [wv27]
      obtain ⟨v28, ev28, tv28⟩ : ∃ v : Int32, Int32.ofInt (1) = v ∧ v.toInt = 1 := ⟨_, rfl, by decide +kernel⟩
      refine lv_iconst hx hb dX10_name_49 ev28 ?_
      refine lv_iadd hx hb dX10_name_50 ?_
      refine lv_topi (fun v29 ev29 => ?_)
      have tv29 := nu_add ev29 (by omega) (by omega)
      refine tr_puti Z.1 Z.2.2.2.1 S21.1 S21.2 ha0 ta0 rfl rfl (fun _ h => List.mem_cons_of_mem _ (List.mem_append_right _ h)) tyX10_ok nmX10 22 (by decide) rfl rfl rfl (hts _ (List.mem_of_getElem? (i := 1) rfl)) dX10_name_51 (by omega) (by omega) (fun E30 H31 k32 W30 I30 P30 => ?_)
      have S30 : Now D TB cy (va_A (va_pl L E) sz) s L τ E30 H31 k32 := ⟨W30, I30⟩
      have F30 : Fr L τ (inW [(11, 0), (75, 0)]) E E30 := Fr.put F17 P30 ta0 rfl
      refine lv_aload_n hx hb dX10_name_54 rfl (lv_at hl10 1 rfl) ?_
      refine tr_getr Z.1 Z.2.2.2.1 S30.1 S30.2 ha0 ta0 rfl rfl (fun _ h => List.mem_cons_of_mem _ (List.mem_append_right _ h)) 24 (by decide) rfl (hts _ (List.mem_of_getElem? (i := 2) rfl)) dX10_name_55 (fun q33 eq33 hq33 tq33 => ?_)
      have tq33 : τ q33 = (75, 0) := tq33
      have uq33 : ql = q33 := S30.2.2.2.2 _ hql _ hq33 (tql.trans tq33.symm) (by rw [tql]; rfl)
      subst uq33
      refine lv_iload_n hx hb dX10_name_58 rfl (lv_at hl10 2 rfl) ?_
      obtain ⟨v34, ev34, tv34⟩ : ∃ v : Int32, Int32.ofInt (1) = v ∧ v.toInt = 1 := ⟨_, rfl, by decide +kernel⟩
      refine lv_iconst hx hb dX10_name_59 ev34 ?_
      refine tr_zast Z.1 Z.2.2.2.1 S30.1 S30.2 hql tql rfl (by omega) (by omega) (by omega) (by omega) dX10_name_60 (fun E35 H36 k37 W35 I35 P35 => ?_)
      have S35 : Now D TB cy (va_A (va_pl L E) sz) s L τ E35 H36 k37 := ⟨W35, I35⟩
      have F35 : Fr L τ (inW [(11, 0), (75, 0)]) E E35 := Fr.set F30 P35 tql rfl
      refine lv_iload_n hx hb dX10_name_61 rfl (lv_at hl10 0 rfl) ?_
      obtain ⟨v38, ev38, tv38⟩ : ∃ v : Int32, (Int8.ofInt (16)).toInt32 = v ∧ v.toInt = 16 := ⟨_, rfl, by decide +kernel⟩
      refine lv_bipush hx hb dX10_name_62 ev38 ?_
      refine lv_iadd hx hb dX10_name_64 ?_
      refine lv_topi (fun v39 ev39 => ?_)
      have tv39 := nu_add ev39 (by omega) (by omega)
      rw [← hQ]
      exact en_i Z S35 F35 ⟨(((((Grow.refl (s := a1.toInt.toNat)).cell (G13 ql hql (by rw [tql]; rfl))).cell (G17 ql hql (by rw [tql]; rfl))).cell (P30.1 ql (ne_ro tql ta0 (by decide)))).trans (grow_set P35 (by omega) rfl)), (fun _ => by have q := P35.2.1; have q2 : (ai E35 ql a1.toInt.toNat) = v34 := q; rw [q2]; omega), (by rw [((fi_set P35 (ne_ro ta0 tql (by decide))).trans (fi_at P30))]; omega), (by omega), (by omega), (fun k hk => ((fi_set P35 (ne_ro ta0 tql (by decide))).trans ((fi_put P30 (Or.inr (fw_ne (by decide) hk))).trans ((p17_1 k (fw_sub (by decide) hk)).trans ((p13_1 k (fw_sub (by decide) hk)).trans ((fun k hk => rfl) k hk))))))⟩ dX10_name_65
    · skip
      have tc26 := nu_ne c26
      refine lv_iload_n hx hb dX10_name_42 rfl (lv_at hl10 0 rfl) ?_
      rw [← hQ]
      exact en_i Z S21 F17 ⟨(((Grow.refl (s := a1.toInt.toNat)).cell (G13 ql hql (by rw [tql]; rfl))).cell (G17 ql hql (by rw [tql]; rfl))), (fun h => by omega), (by omega), (by omega), (by omega), (fun k hk => ((p17_1 k (fw_sub (by decide) hk)).trans ((p13_1 k (fw_sub (by decide) hk)).trans ((fun k hk => rfl) k hk))))⟩ dX10_name_43
  · skip
    have tc12 := nu_eq c12
    refine lv_aload_n hx hb dX10_name_14 rfl (lv_at hl10 1 rfl) ?_
    obtain ⟨v40, ev40, tv40⟩ : ∃ v : Int32, Int32.ofInt (1) = v ∧ v.toInt = 1 := ⟨_, rfl, by decide +kernel⟩
    refine lv_iconst hx hb dX10_name_15 ev40 ?_
    refine lv_aload_n hx hb dX10_name_16 rfl (lv_at hl10 1 rfl) ?_
    refine tr_geti Z.1 Z.2.2.2.1 S5.1 S5.2 ha0 ta0 rfl rfl (fun _ h => List.mem_cons_of_mem _ (List.mem_append_right _ h)) 22 (by decide) rfl (hts _ (List.mem_of_getElem? (i := 1) rfl)) dX10_name_17 (fun v41 ev41 lv41 uv41 => ?_)
    have wv41 : v41 = (fi E a0 22) := ev41.symm.trans rfl
    have xv41 : v41.toInt = (fi E a0 22).toInt := by rw [wv41]
    refine tc_vv Z.1 Z.2.2.2.1 Z.2.2.2.2.1 Z.2.2.2.2.2 S5.1 S5.2 ha0 ta0 rfl rfl (k_X10_wrong l D cy S5.2 ha0 ta0 v40 (by omega) (by omega) v41) (cwV 2 hts gX10_name_X10_wrong rfl rfl rfl (by decide +kernel) ⟨Nat.le_of_ble_eq_true rfl, Nat.le_of_ble_eq_true rfl⟩) rfl hl10.1 rfl (Nat.le_of_ble_eq_true rfl) dX10_name_20 ⟨Nat.zero_le _, Nat.zero_le _⟩ (fun E42 H43 k44 W42 I42 G42 p42 => ?_)
    obtain ⟨p42_0, p42_1⟩ := p42
    have S42 : Now D TB cy (va_A (va_pl L E) sz) s L τ E42 H43 k44 := ⟨W42, I42⟩
    have F42 : Fr L τ (inW [(11, 0), (75, 0)]) E E42 := F0_.trans (G42.mono (inW_mono (by decide)))
    have kz42_5 := fi_rng (k := 5) S42.2 ha0 ta0 rfl rfl
    obtain ⟨v46, ev46, tv46⟩ : ∃ v : Int32, Int32.ofInt (0) = v ∧ v.toInt = 0 := ⟨_, rfl, by decide +kernel⟩
    refine lv_iconst hx hb dX10_name_23 ev46 ?_
    rw [← hQ]
    exact en_i Z S42 F42 ⟨((Grow.refl (s := a1.toInt.toNat)).cell (G42 ql hql (by rw [tql]; rfl))), (fun h => by omega), (by rw [((p42_1 22 (by decide)).trans ev41)]; omega), (by omega), (by omega), (fun k hk => ((p42_1 k (fw_sub (by decide) hk)).trans ((fun k hk => rfl) k hk)))⟩ dX10_name_24

set_option maxRecDepth 20000 in
theorem ggX10_sum_X10_bad : GoodIn wsX10_sum wsX10_bad := goodIn_r _ [9, 10, 57, 58, 59, 60, 61, 62, 63, 64, 65, 66, 67, 68, 69, 70, 71, 72, 73, 74, 75, 76, 77, 78, 79, 80, 81, 82, 83, 84, 85, 86, 87, 88, 89, 90, 91, 92, 93, 94, 95, 96, 97, 98, 99, 100, 101, 102, 103, 104] (by decide +kernel) (by decide +kernel)
set_option maxRecDepth 20000 in
theorem gX10_sum_X10_bad : GoodIn wsX10_sum (wsV RX10 192 RX10 yX10_bad wsX10_bad) := goodIn_app (goodIn_of _ (by decide +kernel)) ggX10_sum_X10_bad
set_option maxRecDepth 20000 in
theorem ggX10_sum_X10_blanks : GoodIn wsX10_sum wsX10_blanks := goodIn_r _ [14, 1, 15, 16, 17, 8, 18, 19, 20, 57, 58, 59, 60, 61, 62, 63, 64, 65, 66, 67, 68, 69, 70, 71, 72, 73, 74, 75, 76, 77, 78, 79, 80, 81, 82, 83, 84, 85, 86, 87, 88, 89, 90, 91, 92, 93, 94, 95, 96, 97, 98, 99, 100, 101, 102, 103, 104] (by decide +kernel) (by decide +kernel)
set_option maxRecDepth 20000 in
theorem gX10_sum_X10_blanks : GoodIn wsX10_sum (wsV RX10 189 RX10 yX10_blanks wsX10_blanks) := goodIn_app (goodIn_of _ (by decide +kernel)) ggX10_sum_X10_blanks
set_option maxRecDepth 20000 in
theorem ggX10_sum_X10_look : GoodIn wsX10_sum wsX10_look := goodIn_r _ [18, 1, 19, 20, 57, 58, 59, 60, 61, 62, 63, 64, 65, 66, 67, 68, 69, 70, 71, 72, 73, 74, 75, 76, 77, 78, 79, 80, 81, 82, 83, 84, 85, 86, 87, 88, 89, 90, 91, 92, 93, 94, 95, 96, 97, 98, 99, 100, 101, 102, 103, 104] (by decide +kernel) (by decide +kernel)
set_option maxRecDepth 20000 in
theorem gX10_sum_X10_look : GoodIn wsX10_sum (wsV RX10 157 RX10 yX10_look wsX10_look) := goodIn_app (goodIn_of _ (by decide +kernel)) ggX10_sum_X10_look
set_option maxRecDepth 20000 in
theorem ggX10_sum_X10_wordAt : GoodIn wsX10_sum wsX10_wordAt := goodIn_r _ [24, 1, 19, 20, 25, 26, 27, 28, 29, 8, 30, 57, 58, 59, 60, 61, 62, 63, 64, 65, 66, 67, 68, 69, 70, 71, 72, 73, 74, 75, 76, 77, 78, 79, 80, 81, 82, 83, 84, 85, 86, 87, 88, 89, 90, 91, 92, 93, 94, 95, 96, 97, 98, 99, 100, 101, 102, 103, 104] (by decide +kernel) (by decide +kernel)
set_option maxRecDepth 20000 in
theorem gX10_sum_X10_wordAt : GoodIn wsX10_sum (wsV RX10 178 RX10 yX10_wordAt wsX10_wordAt) := goodIn_app (goodIn_of _ (by decide +kernel)) ggX10_sum_X10_wordAt
set_option maxRecDepth 20000 in
theorem ggX10_sum_X10_nameOf : GoodIn wsX10_sum wsX10_nameOf := goodIn_r _ [34, 35, 36, 37, 8, 38, 25, 26] (by decide +kernel) (by decide +kernel)
set_option maxRecDepth 20000 in
theorem gX10_sum_X10_nameOf : GoodIn wsX10_sum (wsV RX10 182 RX10 yX10_nameOf wsX10_nameOf) := goodIn_app (goodIn_of _ (by decide +kernel)) ggX10_sum_X10_nameOf
set_option maxRecDepth 20000 in
theorem ggX10_sum_X10_wrong : GoodIn wsX10_sum wsX10_wrong := goodIn_r _ [42, 10, 43, 57, 58, 59, 60, 61, 62, 63, 64, 65, 66, 67, 68, 69, 70, 71, 72, 73, 74, 75, 76, 77, 78, 79, 80, 81, 82, 83, 84, 85, 86, 87, 88, 89, 90, 91, 92, 93, 94, 95, 96, 97, 98, 99, 100, 101, 102, 103, 104] (by decide +kernel) (by decide +kernel)
set_option maxRecDepth 20000 in
theorem gX10_sum_X10_wrong : GoodIn wsX10_sum (wsV RX10 174 RX10 yX10_wrong wsX10_wrong) := goodIn_app (goodIn_of _ (by decide +kernel)) ggX10_sum_X10_wrong
set_option maxRecDepth 20000 in
theorem ggX10_sum_X10_digits : GoodIn wsX10_sum wsX10_digits := goodIn_r _ [47, 1, 15, 16, 17, 8, 18, 19, 20, 39, 40, 41, 42, 10, 43, 57, 58, 59, 60, 61, 62, 63, 64, 65, 66, 67, 68, 69, 70, 71, 72, 73, 74, 75, 76, 77, 78, 79, 80, 81, 82, 83, 84, 85, 86, 87, 88, 89, 90, 91, 92, 93, 94, 95, 96, 97, 98, 99, 100, 101, 102, 103, 104] (by decide +kernel) (by decide +kernel)
set_option maxRecDepth 20000 in
theorem gX10_sum_X10_digits : GoodIn wsX10_sum (wsV RX10 196 RX10 yX10_digits wsX10_digits) := goodIn_app (goodIn_of _ (by decide +kernel)) ggX10_sum_X10_digits
set_option maxRecDepth 20000 in
theorem ggX10_sum_X10_name : GoodIn wsX10_sum wsX10_name := goodIn_r _ [51, 1, 52, 21, 22, 23, 8, 24, 19, 20, 25, 26, 27, 28, 29, 30, 31, 32, 33, 34, 35, 36, 37, 38, 39, 40, 41, 42, 10, 43, 53, 54, 55, 56, 15, 16, 17, 18, 11, 12, 13, 14, 57, 58, 59, 60, 61, 62, 63, 64, 65, 66, 67, 68, 69, 70, 71, 72, 73, 74, 75, 76, 77, 78, 79, 80, 81, 82, 83, 84, 85, 86, 87, 88, 89, 90, 91, 92, 93, 94, 95, 96, 97, 98, 99, 100, 101, 102, 103, 104] (by decide +kernel) (by decide +kernel)
set_option maxRecDepth 20000 in
theorem gX10_sum_X10_name : GoodIn wsX10_sum (wsV RX10 199 RX10 yX10_name wsX10_name) := goodIn_app (goodIn_of _ (by decide +kernel)) ggX10_sum_X10_name
theorem dX10_sum_0 : decode cX10_sum 0 = .ok (.iconst 0, 1) := by decide +kernel
theorem dX10_sum_1 : decode cX10_sum 1 = .ok (.istore_n 3, 1) := by decide +kernel
theorem dX10_sum_2 : decode cX10_sum 2 = .ok (.iconst 1, 1) := by decide +kernel
theorem dX10_sum_3 : decode cX10_sum 3 = .ok (.istore 4, 2) := by decide +kernel
theorem dX10_sum_5 : decode cX10_sum 5 = .ok (.iconst 1, 1) := by decide +kernel
theorem dX10_sum_6 : decode cX10_sum 6 = .ok (.istore 5, 2) := by decide +kernel
theorem dX10_sum_8 : decode cX10_sum 8 = .ok (.iload 5, 2) := by decide +kernel
theorem dX10_sum_10 : decode cX10_sum 10 = .ok (.ifCond .eq 273, 3) := by decide +kernel
theorem dX10_sum_13 : decode cX10_sum 13 = .ok (.aload_n 0, 1) := by decide +kernel
theorem dX10_sum_14 : decode cX10_sum 14 = .ok (.invokevirtual 192, 3) := by decide +kernel
theorem dX10_sum_17 : decode cX10_sum 17 = .ok (.ifCond .ne 266, 3) := by decide +kernel
theorem dX10_sum_20 : decode cX10_sum 20 = .ok (.aload_n 0, 1) := by decide +kernel
theorem dX10_sum_21 : decode cX10_sum 21 = .ok (.invokevirtual 189, 3) := by decide +kernel
theorem dX10_sum_24 : decode cX10_sum 24 = .ok (.aload_n 0, 1) := by decide +kernel
theorem dX10_sum_25 : decode cX10_sum 25 = .ok (.getfield 151, 3) := by decide +kernel
theorem dX10_sum_28 : decode cX10_sum 28 = .ok (.istore 6, 2) := by decide +kernel
theorem dX10_sum_30 : decode cX10_sum 30 = .ok (.aload_n 0, 1) := by decide +kernel
theorem dX10_sum_31 : decode cX10_sum 31 = .ok (.invokevirtual 157, 3) := by decide +kernel
theorem dX10_sum_34 : decode cX10_sum 34 = .ok (.bipush 48, 2) := by decide +kernel
theorem dX10_sum_36 : decode cX10_sum 36 = .ok (.if_icmp .lt 16, 3) := by decide +kernel
theorem dX10_sum_39 : decode cX10_sum 39 = .ok (.aload_n 0, 1) := by decide +kernel
theorem dX10_sum_40 : decode cX10_sum 40 = .ok (.invokevirtual 157, 3) := by decide +kernel
theorem dX10_sum_43 : decode cX10_sum 43 = .ok (.bipush 57, 2) := by decide +kernel
theorem dX10_sum_45 : decode cX10_sum 45 = .ok (.if_icmp .gt 7, 3) := by decide +kernel
theorem dX10_sum_48 : decode cX10_sum 48 = .ok (.iconst 1, 1) := by decide +kernel
theorem dX10_sum_49 : decode cX10_sum 49 = .ok (.goto 4, 3) := by decide +kernel
theorem dX10_sum_52 : decode cX10_sum 52 = .ok (.iconst 0, 1) := by decide +kernel
theorem dX10_sum_53 : decode cX10_sum 53 = .ok (.istore 7, 2) := by decide +kernel
theorem dX10_sum_55 : decode cX10_sum 55 = .ok (.iload 7, 2) := by decide +kernel
theorem dX10_sum_57 : decode cX10_sum 57 = .ok (.ifCond .ne 25, 3) := by decide +kernel
theorem dX10_sum_60 : decode cX10_sum 60 = .ok (.aload_n 0, 1) := by decide +kernel
theorem dX10_sum_61 : decode cX10_sum 61 = .ok (.aload_n 0, 1) := by decide +kernel
theorem dX10_sum_62 : decode cX10_sum 62 = .ok (.invokevirtual 178, 3) := by decide +kernel
theorem dX10_sum_65 : decode cX10_sum 65 = .ok (.invokevirtual 182, 3) := by decide +kernel
theorem dX10_sum_68 : decode cX10_sum 68 = .ok (.iconst (-1), 1) := by decide +kernel
theorem dX10_sum_69 : decode cX10_sum 69 = .ok (.if_icmp .ne 13, 3) := by decide +kernel
theorem dX10_sum_72 : decode cX10_sum 72 = .ok (.aload_n 0, 1) := by decide +kernel
theorem dX10_sum_73 : decode cX10_sum 73 = .ok (.iconst 1, 1) := by decide +kernel
theorem dX10_sum_74 : decode cX10_sum 74 = .ok (.aload_n 0, 1) := by decide +kernel
theorem dX10_sum_75 : decode cX10_sum 75 = .ok (.getfield 151, 3) := by decide +kernel
theorem dX10_sum_78 : decode cX10_sum 78 = .ok (.invokevirtual 174, 3) := by decide +kernel
theorem dX10_sum_81 : decode cX10_sum 81 = .ok (.return_, 1) := by decide +kernel
theorem dX10_sum_82 : decode cX10_sum 82 = .ok (.iconst 1, 1) := by decide +kernel
theorem dX10_sum_83 : decode cX10_sum 83 = .ok (.istore 8, 2) := by decide +kernel
theorem dX10_sum_85 : decode cX10_sum 85 = .ok (.bipush 8, 2) := by decide +kernel
theorem dX10_sum_87 : decode cX10_sum 87 = .ok (.istore 9, 2) := by decide +kernel
theorem dX10_sum_89 : decode cX10_sum 89 = .ok (.iload 7, 2) := by decide +kernel
theorem dX10_sum_91 : decode cX10_sum 91 = .ok (.ifCond .eq 9, 3) := by decide +kernel
theorem dX10_sum_94 : decode cX10_sum 94 = .ok (.aload_n 0, 1) := by decide +kernel
theorem dX10_sum_95 : decode cX10_sum 95 = .ok (.invokevirtual 196, 3) := by decide +kernel
theorem dX10_sum_98 : decode cX10_sum 98 = .ok (.istore 8, 2) := by decide +kernel
theorem dX10_sum_100 : decode cX10_sum 100 = .ok (.iload_n 3, 1) := by decide +kernel
theorem dX10_sum_101 : decode cX10_sum 101 = .ok (.bipush 8, 2) := by decide +kernel
theorem dX10_sum_103 : decode cX10_sum 103 = .ok (.if_icmp .ne 10, 3) := by decide +kernel
theorem dX10_sum_106 : decode cX10_sum 106 = .ok (.aload_n 0, 1) := by decide +kernel
theorem dX10_sum_107 : decode cX10_sum 107 = .ok (.iconst 3, 1) := by decide +kernel
theorem dX10_sum_108 : decode cX10_sum 108 = .ok (.iload 6, 2) := by decide +kernel
theorem dX10_sum_110 : decode cX10_sum 110 = .ok (.invokevirtual 174, 3) := by decide +kernel
theorem dX10_sum_113 : decode cX10_sum 113 = .ok (.aload_n 0, 1) := by decide +kernel
theorem dX10_sum_114 : decode cX10_sum 114 = .ok (.invokevirtual 192, 3) := by decide +kernel
theorem dX10_sum_117 : decode cX10_sum 117 = .ok (.ifCond .eq 4, 3) := by decide +kernel
theorem dX10_sum_120 : decode cX10_sum 120 = .ok (.return_, 1) := by decide +kernel
theorem dX10_sum_121 : decode cX10_sum 121 = .ok (.iload 7, 2) := by decide +kernel
theorem dX10_sum_123 : decode cX10_sum 123 = .ok (.ifCond .eq 40, 3) := by decide +kernel
theorem dX10_sum_126 : decode cX10_sum 126 = .ok (.aload_n 0, 1) := by decide +kernel
theorem dX10_sum_127 : decode cX10_sum 127 = .ok (.invokevirtual 189, 3) := by decide +kernel
theorem dX10_sum_130 : decode cX10_sum 130 = .ok (.aload_n 0, 1) := by decide +kernel
theorem dX10_sum_131 : decode cX10_sum 131 = .ok (.invokevirtual 157, 3) := by decide +kernel
theorem dX10_sum_134 : decode cX10_sum 134 = .ok (.bipush 42, 2) := by decide +kernel
theorem dX10_sum_136 : decode cX10_sum 136 = .ok (.if_icmp .ne 34, 3) := by decide +kernel
theorem dX10_sum_139 : decode cX10_sum 139 = .ok (.aload_n 0, 1) := by decide +kernel
theorem dX10_sum_140 : decode cX10_sum 140 = .ok (.dup, 1) := by decide +kernel
theorem dX10_sum_141 : decode cX10_sum 141 = .ok (.getfield 151, 3) := by decide +kernel
theorem dX10_sum_144 : decode cX10_sum 144 = .ok (.iconst 1, 1) := by decide +kernel
theorem dX10_sum_145 : decode cX10_sum 145 = .ok (.iadd, 1) := by decide +kernel
theorem dX10_sum_146 : decode cX10_sum 146 = .ok (.putfield 151, 3) := by decide +kernel
theorem dX10_sum_149 : decode cX10_sum 149 = .ok (.aload_n 0, 1) := by decide +kernel
theorem dX10_sum_150 : decode cX10_sum 150 = .ok (.invokevirtual 189, 3) := by decide +kernel
theorem dX10_sum_153 : decode cX10_sum 153 = .ok (.aload_n 0, 1) := by decide +kernel
theorem dX10_sum_154 : decode cX10_sum 154 = .ok (.iload_n 1, 1) := by decide +kernel
theorem dX10_sum_155 : decode cX10_sum 155 = .ok (.invokevirtual 199, 3) := by decide +kernel
theorem dX10_sum_158 : decode cX10_sum 158 = .ok (.istore 9, 2) := by decide +kernel
theorem dX10_sum_160 : decode cX10_sum 160 = .ok (.goto 10, 3) := by decide +kernel
theorem dX10_sum_163 : decode cX10_sum 163 = .ok (.aload_n 0, 1) := by decide +kernel
theorem dX10_sum_164 : decode cX10_sum 164 = .ok (.iload_n 1, 1) := by decide +kernel
theorem dX10_sum_165 : decode cX10_sum 165 = .ok (.invokevirtual 199, 3) := by decide +kernel
theorem dX10_sum_168 : decode cX10_sum 168 = .ok (.istore 9, 2) := by decide +kernel
theorem dX10_sum_170 : decode cX10_sum 170 = .ok (.aload_n 0, 1) := by decide +kernel
theorem dX10_sum_171 : decode cX10_sum 171 = .ok (.invokevirtual 192, 3) := by decide +kernel
theorem dX10_sum_174 : decode cX10_sum 174 = .ok (.ifCond .eq 4, 3) := by decide +kernel
theorem dX10_sum_177 : decode cX10_sum 177 = .ok (.return_, 1) := by decide +kernel
theorem dX10_sum_178 : decode cX10_sum 178 = .ok (.aload_n 0, 1) := by decide +kernel
theorem dX10_sum_179 : decode cX10_sum 179 = .ok (.getfield 70, 3) := by decide +kernel
theorem dX10_sum_182 : decode cX10_sum 182 = .ok (.bipush 64, 2) := by decide +kernel
theorem dX10_sum_184 : decode cX10_sum 184 = .ok (.iload_n 1, 1) := by decide +kernel
theorem dX10_sum_185 : decode cX10_sum 185 = .ok (.imul, 1) := by decide +kernel
theorem dX10_sum_186 : decode cX10_sum 186 = .ok (.bipush 8, 2) := by decide +kernel
theorem dX10_sum_188 : decode cX10_sum 188 = .ok (.iload_n 2, 1) := by decide +kernel
theorem dX10_sum_189 : decode cX10_sum 189 = .ok (.imul, 1) := by decide +kernel
theorem dX10_sum_190 : decode cX10_sum 190 = .ok (.iadd, 1) := by decide +kernel
theorem dX10_sum_191 : decode cX10_sum 191 = .ok (.iload_n 3, 1) := by decide +kernel
theorem dX10_sum_192 : decode cX10_sum 192 = .ok (.iadd, 1) := by decide +kernel
theorem dX10_sum_193 : decode cX10_sum 193 = .ok (.iload 4, 2) := by decide +kernel
theorem dX10_sum_195 : decode cX10_sum 195 = .ok (.iload 8, 2) := by decide +kernel
theorem dX10_sum_197 : decode cX10_sum 197 = .ok (.imul, 1) := by decide +kernel
theorem dX10_sum_198 : decode cX10_sum 198 = .ok (.iastore, 1) := by decide +kernel
theorem dX10_sum_199 : decode cX10_sum 199 = .ok (.aload_n 0, 1) := by decide +kernel
theorem dX10_sum_200 : decode cX10_sum 200 = .ok (.getfield 73, 3) := by decide +kernel
theorem dX10_sum_203 : decode cX10_sum 203 = .ok (.bipush 64, 2) := by decide +kernel
theorem dX10_sum_205 : decode cX10_sum 205 = .ok (.iload_n 1, 1) := by decide +kernel
theorem dX10_sum_206 : decode cX10_sum 206 = .ok (.imul, 1) := by decide +kernel
theorem dX10_sum_207 : decode cX10_sum 207 = .ok (.bipush 8, 2) := by decide +kernel
theorem dX10_sum_209 : decode cX10_sum 209 = .ok (.iload_n 2, 1) := by decide +kernel
theorem dX10_sum_210 : decode cX10_sum 210 = .ok (.imul, 1) := by decide +kernel
theorem dX10_sum_211 : decode cX10_sum 211 = .ok (.iadd, 1) := by decide +kernel
theorem dX10_sum_212 : decode cX10_sum 212 = .ok (.iload_n 3, 1) := by decide +kernel
theorem dX10_sum_213 : decode cX10_sum 213 = .ok (.iadd, 1) := by decide +kernel
theorem dX10_sum_214 : decode cX10_sum 214 = .ok (.iload 9, 2) := by decide +kernel
theorem dX10_sum_216 : decode cX10_sum 216 = .ok (.iastore, 1) := by decide +kernel
theorem dX10_sum_217 : decode cX10_sum 217 = .ok (.iinc 3 1, 3) := by decide +kernel
theorem dX10_sum_220 : decode cX10_sum 220 = .ok (.aload_n 0, 1) := by decide +kernel
theorem dX10_sum_221 : decode cX10_sum 221 = .ok (.invokevirtual 189, 3) := by decide +kernel
theorem dX10_sum_224 : decode cX10_sum 224 = .ok (.aload_n 0, 1) := by decide +kernel
theorem dX10_sum_225 : decode cX10_sum 225 = .ok (.invokevirtual 157, 3) := by decide +kernel
theorem dX10_sum_228 : decode cX10_sum 228 = .ok (.bipush 43, 2) := by decide +kernel
theorem dX10_sum_230 : decode cX10_sum 230 = .ok (.if_icmp .eq 12, 3) := by decide +kernel
theorem dX10_sum_233 : decode cX10_sum 233 = .ok (.aload_n 0, 1) := by decide +kernel
theorem dX10_sum_234 : decode cX10_sum 234 = .ok (.invokevirtual 157, 3) := by decide +kernel
theorem dX10_sum_237 : decode cX10_sum 237 = .ok (.bipush 45, 2) := by decide +kernel
theorem dX10_sum_239 : decode cX10_sum 239 = .ok (.if_icmp .ne 7, 3) := by decide +kernel
theorem dX10_sum_242 : decode cX10_sum 242 = .ok (.iconst 1, 1) := by decide +kernel
theorem dX10_sum_243 : decode cX10_sum 243 = .ok (.goto 4, 3) := by decide +kernel
theorem dX10_sum_246 : decode cX10_sum 246 = .ok (.iconst 0, 1) := by decide +kernel
theorem dX10_sum_247 : decode cX10_sum 247 = .ok (.istore 5, 2) := by decide +kernel
theorem dX10_sum_249 : decode cX10_sum 249 = .ok (.aload_n 0, 1) := by decide +kernel
theorem dX10_sum_250 : decode cX10_sum 250 = .ok (.invokevirtual 157, 3) := by decide +kernel
theorem dX10_sum_253 : decode cX10_sum 253 = .ok (.bipush 45, 2) := by decide +kernel
theorem dX10_sum_255 : decode cX10_sum 255 = .ok (.if_icmp .ne 7, 3) := by decide +kernel
theorem dX10_sum_258 : decode cX10_sum 258 = .ok (.iconst (-1), 1) := by decide +kernel
theorem dX10_sum_259 : decode cX10_sum 259 = .ok (.goto 4, 3) := by decide +kernel
theorem dX10_sum_262 : decode cX10_sum 262 = .ok (.iconst 1, 1) := by decide +kernel
theorem dX10_sum_263 : decode cX10_sum 263 = .ok (.istore 4, 2) := by decide +kernel
theorem dX10_sum_265 : decode cX10_sum 265 = .ok (.iload 5, 2) := by decide +kernel
theorem dX10_sum_267 : decode cX10_sum 267 = .ok (.ifCond .eq 13, 3) := by decide +kernel
theorem dX10_sum_270 : decode cX10_sum 270 = .ok (.aload_n 0, 1) := by decide +kernel
theorem dX10_sum_271 : decode cX10_sum 271 = .ok (.dup, 1) := by decide +kernel
theorem dX10_sum_272 : decode cX10_sum 272 = .ok (.getfield 151, 3) := by decide +kernel
theorem dX10_sum_275 : decode cX10_sum 275 = .ok (.iconst 1, 1) := by decide +kernel
theorem dX10_sum_276 : decode cX10_sum 276 = .ok (.iadd, 1) := by decide +kernel
theorem dX10_sum_277 : decode cX10_sum 277 = .ok (.putfield 151, 3) := by decide +kernel
theorem dX10_sum_280 : decode cX10_sum 280 = .ok (.goto (-272), 3) := by decide +kernel
theorem dX10_sum_283 : decode cX10_sum 283 = .ok (.aload_n 0, 1) := by decide +kernel
theorem dX10_sum_284 : decode cX10_sum 284 = .ok (.getfield 67, 3) := by decide +kernel
theorem dX10_sum_287 : decode cX10_sum 287 = .ok (.bipush 8, 2) := by decide +kernel
theorem dX10_sum_289 : decode cX10_sum 289 = .ok (.iload_n 1, 1) := by decide +kernel
theorem dX10_sum_290 : decode cX10_sum 290 = .ok (.imul, 1) := by decide +kernel
theorem dX10_sum_291 : decode cX10_sum 291 = .ok (.iload_n 2, 1) := by decide +kernel
theorem dX10_sum_292 : decode cX10_sum 292 = .ok (.iadd, 1) := by decide +kernel
theorem dX10_sum_293 : decode cX10_sum 293 = .ok (.iload_n 3, 1) := by decide +kernel
theorem dX10_sum_294 : decode cX10_sum 294 = .ok (.iastore, 1) := by decide +kernel
theorem dX10_sum_295 : decode cX10_sum 295 = .ok (.return_, 1) := by decide +kernel
set_option maxHeartbeats 4000000 in
set_option maxRecDepth 100000 in
theorem k_X10_sum (l : Launch) (D : va_G) (cy : Nat → ClassId) {L : List Nat} {τ : Nat → Ro} {E : Ec} (hI : Inv TB cy L τ E) {a0 : Nat} (ha0 : a0 ∈ L) (ta0 : τ a0 = (11, 0)) (a1 : Int32) (la1 : 0 ≤ a1.toInt) (ua1 : a1.toInt ≤ 49) (a2 : Int32) (la2 : 0 ≤ a2.toInt) (ua2 : a2.toInt ≤ 7) {ql : Nat} (hql : ql ∈ L) (tql : τ ql = (75, 0)) {qm : Nat} (hqm : qm ∈ L) (tqm : τ qm = (77, 0)) {qd : Nat} (hqd : qd ∈ L) (tqd : τ qd = (79, 0)) : CtV l yX10_sum wsX10_sum { frames := 3, cells := 0, slots := 0, locals := 72 } D TB cy L τ E [.ref a0, .int a1, .int a2] (inW [(11, 0), (75, 0), (77, 0), (78, 0), (79, 0)]) (fun E' => (Grow E E' ql a1.toInt.toNat) ∧ (∀ j : Nat, j ≠ 8 * a1.toInt.toNat + a2.toInt.toNat → ai E' qm j = ai E qm j) ∧ (∀ j : Nat, ¬ (64 * a1.toInt.toNat + 8 * a2.toInt.toNat ≤ j ∧ j < 64 * a1.toInt.toNat + 8 * a2.toInt.toNat + 8) → ai E' qd j = ai E qd j) ∧ ((fi E' a0 5).toInt ≤ 0 → PartOK E' ql qm qd a1.toInt.toNat a2.toInt.toNat) ∧ (∀ k : Nat, k ∉ ([5, 6, 22] : List Nat) → fi E' a0 k = fi E a0 k)) := by
  intro sz
  refine sta (cc := cX10_sum) (maxL := 10) hI (by decide) rfl (Nat.le_of_ble_eq_true rfl) (fun p e s m args below meth c ls hsz Z S0 hl => ?_)
  have hx := Z.1.1
  have hb := Z.1.2.1
  have hts := Z.1.2.2.2.2
  have F0_ : Fr L τ (inW [(11, 0), (75, 0), (77, 0), (78, 0), (79, 0)]) E E := Fr.refl
  have hl : lv_has ls 10 [(0, .ref a0), (1, .int a1), (2, .int a2)] := hl
  generalize hQ : MQ below _ args s 0 0 _ = QQ
  have kz_a0_22 := fi_rng (k := 22) hI ha0 ta0 rfl rfl
  have kz_a0_5 := fi_rng (k := 5) hI ha0 ta0 rfl rfl
  have J283 : ∀ (x3_283 : Int32) (E_283 : Ec) (H_283 : Heap) (k_283 : List Loc) (l_283 : Array Slot), Now D TB cy (va_A (va_pl L E) sz) s L τ E_283 H_283 k_283 → Fr L τ (inW [(11, 0), (75, 0), (77, 0), (78, 0), (79, 0)]) E E_283 → (0 ≤ a1.toInt) → (a1.toInt ≤ 49) → (0 ≤ a2.toInt) → (a2.toInt ≤ 7) → (0 ≤ x3_283.toInt) → (x3_283.toInt ≤ 8) → (Grow E E_283 ql a1.toInt.toNat) → (E_283 qm = E qm) → (∀ j : Nat, ¬ (64 * a1.toInt.toNat + 8 * a2.toInt.toNat ≤ j ∧ j < 64 * a1.toInt.toNat + 8 * a2.toInt.toNat + 8) → ai E_283 qd j = ai E qd j) → (Parts E_283 ql qd a1.toInt.toNat (64 * a1.toInt.toNat + 8 * a2.toInt.toNat) x3_283 ) → (∀ k : Nat, k ∉ ([5, 6, 22] : List Nat) → fi E_283 a0 k = fi E a0 k) → lv_has l_283 10 [(0, .ref a0), (1, .int a1), (2, .int a2), (3, .int x3_283)] → W p l e { frames := 3, cells := 0, slots := 0, locals := 72 } s m args below meth c H_283 k_283 0 0 QQ (F0 m 283 l_283 []) := by
    intro x3_283 E_283 H_283 k_283 l_283 S_283 F_283 z1 z2 z3 z4 z5 z6 z7 z8 z9 z10 z11 hl_283
    refine lv_aload_n hx hb dX10_sum_283 rfl (lv_at hl_283 0 rfl) ?_
    refine tr_getr Z.1 Z.2.2.2.1 S_283.1 S_283.2 ha0 ta0 rfl rfl (fun _ h => List.mem_cons_of_mem _ (List.mem_append_right _ h)) 26 (by decide) rfl (hts _ (List.mem_of_getElem? (i := 4) rfl)) dX10_sum_284 (fun q12 eq12 hq12 tq12 => ?_)
    have tq12 : τ q12 = (77, 0) := tq12
    have uq12 : qm = q12 := S_283.2.2.2.2 _ hqm _ hq12 (tqm.trans tq12.symm) (by rw [tqm]; rfl)
    subst uq12
    obtain ⟨v13, ev13, tv13⟩ : ∃ v : Int32, (Int8.ofInt (8)).toInt32 = v ∧ v.toInt = 8 := ⟨_, rfl, by decide +kernel⟩
    refine lv_bipush hx hb dX10_sum_287 ev13 ?_
    refine lv_iload_n hx hb dX10_sum_289 rfl (lv_at hl_283 1 rfl) ?_
    refine lv_imul hx hb dX10_sum_290 ?_
    refine lv_topi (fun v14 ev14 => ?_)
    have tv14 := nu_mulc' (8) ev14 (by omega) (by omega) (by omega)
    refine lv_iload_n hx hb dX10_sum_291 rfl (lv_at hl_283 2 rfl) ?_
    refine lv_iadd hx hb dX10_sum_292 ?_
    refine lv_topi (fun v15 ev15 => ?_)
    have tv15 := nu_add ev15 (by omega) (by omega)
    refine lv_iload_n hx hb dX10_sum_293 rfl (lv_at hl_283 3 rfl) ?_
    refine tr_iast Z.1 Z.2.2.2.1 S_283.1 S_283.2 hqm tqm rfl (by omega) (by omega) (by omega) (by omega) dX10_sum_294 (fun E16 H17 k18 W16 I16 P16 => ?_)
    have S16 : Now D TB cy (va_A (va_pl L E) sz) s L τ E16 H17 k18 := ⟨W16, I16⟩
    have F16 : Fr L τ (inW [(11, 0), (75, 0), (77, 0), (78, 0), (79, 0)]) E E16 := Fr.set F_283 P16 tqm rfl
    rw [← hQ]
    exact en_v Z S16 F16 ⟨(z7.cell (P16.1 ql (ne_ro tql tqm (by decide)))), (fun j hj => (P16.2.2 j (by show j ≠ v15.toInt.toNat; omega)).trans (congrFun (ai_cell z8) j)), (fun j hj => ((ai_set P16 (ne_ro tqd tqm (by decide))).trans (z9 j hj))), (fun _ => Parts.ok z10 P16 (by omega) (ne_ro tql tqm (by decide)) (ne_ro tqd tqm (by decide))), (fun k hk => ((fi_set P16 (ne_ro ta0 tqm (by decide))).trans (z11 k hk)))⟩ dX10_sum_295
  have J8 : ∀ (n : Nat) (x3_8 : Int32) (x4_8 : Int32) (x5_8 : Int32) (E_8 : Ec) (H_8 : Heap) (k_8 : List Loc) (l_8 : Array Slot), Now D TB cy (va_A (va_pl L E) sz) s L τ E_8 H_8 k_8 → Fr L τ (inW [(11, 0), (75, 0), (77, 0), (78, 0), (79, 0)]) E E_8 → (0 ≤ a1.toInt) → (a1.toInt ≤ 49) → (0 ≤ a2.toInt) → (a2.toInt ≤ 7) → (0 ≤ x3_8.toInt) → (x3_8.toInt ≤ 8) → (-1 ≤ x4_8.toInt) → (x4_8.toInt ≤ 1) → (0 ≤ x5_8.toInt) → (x5_8.toInt ≤ 1) → (Grow E E_8 ql a1.toInt.toNat) → (E_8 qm = E qm) → (∀ j : Nat, ¬ (64 * a1.toInt.toNat + 8 * a2.toInt.toNat ≤ j ∧ j < 64 * a1.toInt.toNat + 8 * a2.toInt.toNat + 8) → ai E_8 qd j = ai E qd j) → (Parts E_8 ql qd a1.toInt.toNat (64 * a1.toInt.toNat + 8 * a2.toInt.toNat) x3_8 ) → (∀ k : Nat, k ∉ ([5, 6, 22] : List Nat) → fi E_8 a0 k = fi E a0 k) → (0 ≤ (fi E_8 a0 22).toInt ∧ (fi E_8 a0 22).toInt ≤ 120) → (2 * (120 - (fi E_8 a0 22).toInt) + x5_8.toInt).toNat < n → lv_has l_8 10 [(0, .ref a0), (1, .int a1), (2, .int a2), (3, .int x3_8), (4, .int x4_8), (5, .int x5_8)] → W p l e { frames := 3, cells := 0, slots := 0, locals := 72 } s m args below meth c H_8 k_8 0 0 QQ (F0 m 8 l_8 []) := by
    intro n
    induction n with
    | zero => intro x3_8 x4_8 x5_8 E_8 H_8 k_8 l_8 S_8 F_8 z19 z20 z21 z22 z23 z24 z25 z26 z27 z28 z29 z30 z31 z32 z33 z34 hm hl_8; exact absurd hm (Nat.not_lt_zero _)
    | succ n ih =>
      intro x3_8 x4_8 x5_8 E_8 H_8 k_8 l_8 S_8 F_8 z19 z20 z21 z22 z23 z24 z25 z26 z27 z28 z29 z30 z31 z32 z33 z34 hm hl_8
      have ih_8 := ih
      have J280 : ∀ (x3_280 : Int32) (x4_280 : Int32) (x5_280 : Int32) (E_280 : Ec) (H_280 : Heap) (k_280 : List Loc) (l_280 : Array Slot), Now D TB cy (va_A (va_pl L E) sz) s L τ E_280 H_280 k_280 → Fr L τ (inW [(11, 0), (75, 0), (77, 0), (78, 0), (79, 0)]) E E_280 → (0 ≤ a1.toInt) → (a1.toInt ≤ 49) → (0 ≤ a2.toInt) → (a2.toInt ≤ 7) → (1 ≤ x3_280.toInt) → (x3_280.toInt ≤ 8) → (-1 ≤ x4_280.toInt) → (x4_280.toInt ≤ 1) → (0 ≤ x5_280.toInt) → (x5_280.toInt ≤ 1) → (Grow E E_280 ql a1.toInt.toNat) → (E_280 qm = E qm) → (∀ j : Nat, ¬ (64 * a1.toInt.toNat + 8 * a2.toInt.toNat ≤ j ∧ j < 64 * a1.toInt.toNat + 8 * a2.toInt.toNat + 8) → ai E_280 qd j = ai E qd j) → (Parts E_280 ql qd a1.toInt.toNat (64 * a1.toInt.toNat + 8 * a2.toInt.toNat) x3_280 ) → (∀ k : Nat, k ∉ ([5, 6, 22] : List Nat) → fi E_280 a0 k = fi E a0 k) → (0 ≤ (fi E_280 a0 22).toInt ∧ (fi E_280 a0 22).toInt ≤ 120 ∧ (fi E_8 a0 22).toInt + x5_280.toInt ≤ (fi E_280 a0 22).toInt ∧ x5_8.toInt = 1) → lv_has l_280 10 [(0, .ref a0), (1, .int a1), (2, .int a2), (3, .int x3_280), (4, .int x4_280), (5, .int x5_280)] → W p l e { frames := 3, cells := 0, slots := 0, locals := 72 } s m args below meth c H_280 k_280 0 0 QQ (F0 m 280 l_280 []) := by
        intro x3_280 x4_280 x5_280 E_280 H_280 k_280 l_280 S_280 F_280 z35 z36 z37 z38 z39 z40 z41 z42 z43 z44 z45 z46 z47 z48 z49 z50 hl_280
        refine lv_goto (tgt := 8) hx hb dX10_sum_280 (by decide) ?_
        exact ih_8 x3_280 x4_280 x5_280 E_280 H_280 k_280 l_280 S_280 F_280 (by omega) (by omega) (by omega) (by omega) (by omega) (by omega) (by omega) (by omega) (by omega) (by omega) z45 z46 (fun j hj => (z47 j hj)) (z48.keep (Grow.refl (s := a1.toInt.toNat)) rfl) (fun k hk => (z49 k hk)) (by omega) (by omega) (lv_sub hl_280 [0, 1, 2, 3, 4, 5] rfl)
      have J263 : ∀ (x3_263 : Int32) (x5_263 : Int32) (y0_263 : Int32) (E_263 : Ec) (H_263 : Heap) (k_263 : List Loc) (l_263 : Array Slot), Now D TB cy (va_A (va_pl L E) sz) s L τ E_263 H_263 k_263 → Fr L τ (inW [(11, 0), (75, 0), (77, 0), (78, 0), (79, 0)]) E E_263 → (0 ≤ a1.toInt) → (a1.toInt ≤ 49) → (0 ≤ a2.toInt) → (a2.toInt ≤ 7) → (1 ≤ x3_263.toInt) → (x3_263.toInt ≤ 8) → (0 ≤ x5_263.toInt) → (x5_263.toInt ≤ 1) → (-1 ≤ y0_263.toInt) → (y0_263.toInt ≤ 1) → (Grow E E_263 ql a1.toInt.toNat) → (E_263 qm = E qm) → (∀ j : Nat, ¬ (64 * a1.toInt.toNat + 8 * a2.toInt.toNat ≤ j ∧ j < 64 * a1.toInt.toNat + 8 * a2.toInt.toNat + 8) → ai E_263 qd j = ai E qd j) → (Parts E_263 ql qd a1.toInt.toNat (64 * a1.toInt.toNat + 8 * a2.toInt.toNat) x3_263 ) → (∀ k : Nat, k ∉ ([5, 6, 22] : List Nat) → fi E_263 a0 k = fi E a0 k) → (0 ≤ (fi E_263 a0 22).toInt ∧ (fi E_263 a0 22).toInt ≤ 120 ∧ (fi E_8 a0 22).toInt ≤ (fi E_263 a0 22).toInt ∧ (x5_263.toInt = 1 → (fi E_263 a0 22).toInt ≤ 119) ∧ x5_8.toInt = 1) → lv_has l_263 10 [(0, .ref a0), (1, .int a1), (2, .int a2), (3, .int x3_263), (5, .int x5_263)] → W p l e { frames := 3, cells := 0, slots := 0, locals := 72 } s m args below meth c H_263 k_263 0 0 QQ (F0 m 263 l_263 [.int y0_263]) := by
        intro x3_263 x5_263 y0_263 E_263 H_263 k_263 l_263 S_263 F_263 z51 z52 z53 z54 z55 z56 z57 z58 z59 z60 z61 z62 z63 z64 z65 z66 hl_263
        refine lv_istore (lv' := [(4, .int y0_263), (0, .ref a0), (1, .int a1), (2, .int a2), (3, .int x3_263), (5, .int x5_263)]) hx hb dX10_sum_263 hl_263 (by decide) rfl (fun l67 hl68 => ?_)
        refine lv_iload hx hb dX10_sum_265 (lv_at hl68 5 rfl) ?_
        refine lv_if_eq (tgt := 280) hx hb dX10_sum_267 (by decide) (fun c69 => ?_) (fun c69 => ?_)
        · skip
          have tc69 := nu_eq c69
          have uc69 : (0 : Int32).toInt = 0 := rfl
          exact J280 x3_263 y0_263 x5_263 E_263 H_263 k_263 l67 S_263 F_263 (by omega) (by omega) (by omega) (by omega) (by omega) (by omega) (by omega) (by omega) (by omega) (by omega) z61 z62 (fun j hj => (z63 j hj)) (z64.keep (Grow.refl (s := a1.toInt.toNat)) rfl) (fun k hk => (z65 k hk)) (by omega) (lv_sub hl68 [1, 2, 3, 4, 0, 5] rfl)
        · skip
          have tc69 := nu_ne c69
          have uc69 : (0 : Int32).toInt = 0 := rfl
          refine lv_aload_n hx hb dX10_sum_270 rfl (lv_at hl68 1 rfl) ?_
          refine lv_dup hx hb dX10_sum_271 rfl ?_
          refine tr_geti Z.1 Z.2.2.2.1 S_263.1 S_263.2 ha0 ta0 rfl rfl (fun _ h => List.mem_cons_of_mem _ (List.mem_append_right _ h)) 22 (by decide) rfl (hts _ (List.mem_of_getElem? (i := 1) rfl)) dX10_sum_272 (fun v70 ev70 lv70 uv70 => ?_)
          have wv70 : v70 = (fi E_263 a0 22) := ev70.symm.trans rfl
          have xv70 : v70.toInt = (fi E_263 a0 22).toInt := by rw [wv70]
          obtain ⟨v71, ev71, tv71⟩ : ∃ v : Int32, Int32.ofInt (1) = v ∧ v.toInt = 1 := ⟨_, rfl, by decide +kernel⟩
          refine lv_iconst hx hb dX10_sum_275 ev71 ?_
          refine lv_iadd hx hb dX10_sum_276 ?_
          refine lv_topi (fun v72 ev72 => ?_)
          have tv72 := nu_add ev72 (by omega) (by omega)
          refine tr_puti Z.1 Z.2.2.2.1 S_263.1 S_263.2 ha0 ta0 rfl rfl (fun _ h => List.mem_cons_of_mem _ (List.mem_append_right _ h)) tyX10_ok nmX10 22 (by decide) rfl rfl rfl (hts _ (List.mem_of_getElem? (i := 1) rfl)) dX10_sum_277 (by omega) (by omega) (fun E73 H74 k75 W73 I73 P73 => ?_)
          have S73 : Now D TB cy (va_A (va_pl L E) sz) s L τ E73 H74 k75 := ⟨W73, I73⟩
          have F73 : Fr L τ (inW [(11, 0), (75, 0), (77, 0), (78, 0), (79, 0)]) E E73 := Fr.put F_263 P73 ta0 rfl
          exact J280 x3_263 y0_263 x5_263 E73 H74 k75 l67 S73 F73 (by omega) (by omega) (by omega) (by omega) (by omega) (by omega) (by omega) (by omega) (by omega) (by omega) (z61.cell (P73.1 ql (ne_ro tql ta0 (by decide)))) ((P73.1 qm (ne_ro tqm ta0 (by decide))).trans z62) (fun j hj => ((ai_put P73 (ne_ro tqd ta0 (by decide))).trans (z63 j hj))) (z64.keep ((Grow.refl (s := a1.toInt.toNat)).cell (P73.1 ql (ne_ro tql ta0 (by decide)))) (P73.1 qd (ne_ro tqd ta0 (by decide)))) (fun k hk => ((fi_put P73 (Or.inr (fw_ne (by decide) hk))).trans (z65 k hk))) (by rw [(fi_at P73)]; omega) (lv_sub hl68 [1, 2, 3, 4, 0, 5] rfl)
      have J247 : ∀ (x3_247 : Int32) (y0_247 : Int32) (E_247 : Ec) (H_247 : Heap) (k_247 : List Loc) (l_247 : Array Slot), Now D TB cy (va_A (va_pl L E) sz) s L τ E_247 H_247 k_247 → Fr L τ (inW [(11, 0), (75, 0), (77, 0), (78, 0), (79, 0)]) E E_247 → (0 ≤ a1.toInt) → (a1.toInt ≤ 49) → (0 ≤ a2.toInt) → (a2.toInt ≤ 7) → (1 ≤ x3_247.toInt) → (x3_247.toInt ≤ 8) → (0 ≤ y0_247.toInt) → (y0_247.toInt ≤ 1) → (Grow E E_247 ql a1.toInt.toNat) → (E_247 qm = E qm) → (∀ j : Nat, ¬ (64 * a1.toInt.toNat + 8 * a2.toInt.toNat ≤ j ∧ j < 64 * a1.toInt.toNat + 8 * a2.toInt.toNat + 8) → ai E_247 qd j = ai E qd j) → (Parts E_247 ql qd a1.toInt.toNat (64 * a1.toInt.toNat + 8 * a2.toInt.toNat) x3_247 ) → (∀ k : Nat, k ∉ ([5, 6, 22] : List Nat) → fi E_247 a0 k = fi E a0 k) → (0 ≤ (fi E_247 a0 22).toInt ∧ (fi E_247 a0 22).toInt ≤ 120 ∧ (fi E_8 a0 22).toInt ≤ (fi E_247 a0 22).toInt ∧ (y0_247.toInt = 1 → (fi E_247 a0 22).toInt ≤ 119) ∧ x5_8.toInt = 1) → lv_has l_247 10 [(0, .ref a0), (1, .int a1), (2, .int a2), (3, .int x3_247)] → W p l e { frames := 3, cells := 0, slots := 0, locals := 72 } s m args below meth c H_247 k_247 0 0 QQ (F0 m 247 l_247 [.int y0_247]) := by
        intro x3_247 y0_247 E_247 H_247 k_247 l_247 S_247 F_247 z76 z77 z78 z79 z80 z81 z82 z83 z84 z85 z86 z87 z88 z89 hl_247
        refine lv_istore (lv' := [(5, .int y0_247), (0, .ref a0), (1, .int a1), (2, .int a2), (3, .int x3_247)]) hx hb dX10_sum_247 hl_247 (by decide) rfl (fun l90 hl91 => ?_)
        refine lv_aload_n hx hb dX10_sum_249 rfl (lv_at hl91 1 rfl) ?_
        refine tc_vi Z.1 Z.2.2.2.1 Z.2.2.2.2.1 Z.2.2.2.2.2 S_247.1 S_247.2 ha0 ta0 rfl rfl (k_X10_look l D cy S_247.2 ha0 ta0) (cwV 0 hts gX10_sum_X10_look rfl rfl rfl (by decide +kernel) ⟨Nat.le_of_ble_eq_true rfl, Nat.le_of_ble_eq_true rfl⟩) rfl hl91.1 rfl (Nat.le_of_ble_eq_true rfl) dX10_sum_250 ⟨Nat.zero_le _, Nat.zero_le _⟩ (fun v95 E92 H93 k94 W92 I92 G92 p92 => ?_)
        obtain ⟨q92, p92_0, p92_1, p92_2⟩ := p92
        have q92 := q92.symm
        subst q92
        have S92 : Now D TB cy (va_A (va_pl L E) sz) s L τ E_247 H93 k94 := ⟨W92, I92⟩
        obtain ⟨v96, ev96, tv96⟩ : ∃ v : Int32, (Int8.ofInt (45)).toInt32 = v ∧ v.toInt = 45 := ⟨_, rfl, by decide +kernel⟩
        refine lv_bipush hx hb dX10_sum_253 ev96 ?_
        refine lv_icmp_ne (tgt := 262) hx hb dX10_sum_255 (by decide) (fun c97 => ?_) (fun c97 => ?_)
        · skip
          have tc97 := nu_ne c97
          obtain ⟨v98, ev98, tv98⟩ : ∃ v : Int32, Int32.ofInt (1) = v ∧ v.toInt = 1 := ⟨_, rfl, by decide +kernel⟩
          refine lv_iconst hx hb dX10_sum_262 ev98 ?_
          exact J263 x3_247 y0_247 v98 E_247 H93 k94 l90 S92 F_247 (by omega) (by omega) (by omega) (by omega) (by omega) (by omega) (by omega) (by omega) (by omega) (by omega) z84 z85 (fun j hj => (z86 j hj)) (z87.keep (Grow.refl (s := a1.toInt.toNat)) rfl) (fun k hk => (z88 k hk)) (by omega) (lv_sub hl91 [1, 2, 3, 4, 0] rfl)
        · skip
          have tc97 := nu_eq c97
          obtain ⟨v99, ev99, tv99⟩ : ∃ v : Int32, Int32.ofInt (-1) = v ∧ v.toInt = -1 := ⟨_, rfl, by decide +kernel⟩
          refine lv_iconst hx hb dX10_sum_258 ev99 ?_
          refine lv_goto (tgt := 263) hx hb dX10_sum_259 (by decide) ?_
          exact J263 x3_247 y0_247 v99 E_247 H93 k94 l90 S92 F_247 (by omega) (by omega) (by omega) (by omega) (by omega) (by omega) (by omega) (by omega) (by omega) (by omega) z84 z85 (fun j hj => (z86 j hj)) (z87.keep (Grow.refl (s := a1.toInt.toNat)) rfl) (fun k hk => (z88 k hk)) (by omega) (lv_sub hl91 [1, 2, 3, 4, 0] rfl)
      have J242 : ∀ (x3_242 : Int32) (E_242 : Ec) (H_242 : Heap) (k_242 : List Loc) (l_242 : Array Slot), Now D TB cy (va_A (va_pl L E) sz) s L τ E_242 H_242 k_242 → Fr L τ (inW [(11, 0), (75, 0), (77, 0), (78, 0), (79, 0)]) E E_242 → (0 ≤ a1.toInt) → (a1.toInt ≤ 49) → (0 ≤ a2.toInt) → (a2.toInt ≤ 7) → (1 ≤ x3_242.toInt) → (x3_242.toInt ≤ 8) → (Grow E E_242 ql a1.toInt.toNat) → (E_242 qm = E qm) → (∀ j : Nat, ¬ (64 * a1.toInt.toNat + 8 * a2.toInt.toNat ≤ j ∧ j < 64 * a1.toInt.toNat + 8 * a2.toInt.toNat + 8) → ai E_242 qd j = ai E qd j) → (Parts E_242 ql qd a1.toInt.toNat (64 * a1.toInt.toNat + 8 * a2.toInt.toNat) x3_242 ) → (∀ k : Nat, k ∉ ([5, 6, 22] : List Nat) → fi E_242 a0 k = fi E a0 k) → (0 ≤ (fi E_242 a0 22).toInt ∧ (fi E_242 a0 22).toInt ≤ 119 ∧ (fi E_8 a0 22).toInt ≤ (fi E_242 a0 22).toInt ∧ x5_8.toInt = 1) → lv_has l_242 10 [(0, .ref a0), (1, .int a1), (2, .int a2), (3, .int x3_242)] → W p l e { frames := 3, cells := 0, slots := 0, locals := 72 } s m args below meth c H_242 k_242 0 0 QQ (F0 m 242 l_242 []) := by
        intro x3_242 E_242 H_242 k_242 l_242 S_242 F_242 z100 z101 z102 z103 z104 z105 z106 z107 z108 z109 z110 z111 hl_242
        obtain ⟨v112, ev112, tv112⟩ : ∃ v : Int32, Int32.ofInt (1) = v ∧ v.toInt = 1 := ⟨_, rfl, by decide +kernel⟩
        refine lv_iconst hx hb dX10_sum_242 ev112 ?_
        refine lv_goto (tgt := 247) hx hb dX10_sum_243 (by decide) ?_
        exact J247 x3_242 v112 E_242 H_242 k_242 l_242 S_242 F_242 (by omega) (by omega) (by omega) (by omega) (by omega) (by omega) (by omega) (by omega) z106 z107 (fun j hj => (z108 j hj)) (z109.keep (Grow.refl (s := a1.toInt.toNat)) rfl) (fun k hk => (z110 k hk)) (by omega) (lv_sub hl_242 [0, 1, 2, 3] rfl)
      have J170 : ∀ (x8_170 : Int32) (x9_170 : Int32) (E_170 : Ec) (H_170 : Heap) (k_170 : List Loc) (l_170 : Array Slot), Now D TB cy (va_A (va_pl L E) sz) s L τ E_170 H_170 k_170 → Fr L τ (inW [(11, 0), (75, 0), (77, 0), (78, 0), (79, 0)]) E E_170 → (0 ≤ a1.toInt) → (a1.toInt ≤ 49) → (0 ≤ a2.toInt) → (a2.toInt ≤ 7) → (0 ≤ x3_8.toInt) → (x3_8.toInt ≤ 7) → (-1 ≤ x4_8.toInt) → (x4_8.toInt ≤ 1) → (0 ≤ x9_170.toInt) → (x9_170.toInt ≤ 23) → (Grow E E_170 ql a1.toInt.toNat) → (E_170 qm = E qm) → (∀ j : Nat, ¬ (64 * a1.toInt.toNat + 8 * a2.toInt.toNat ≤ j ∧ j < 64 * a1.toInt.toNat + 8 * a2.toInt.toNat + 8) → ai E_170 qd j = ai E qd j) → (Parts E_170 ql qd a1.toInt.toNat (64 * a1.toInt.toNat + 8 * a2.toInt.toNat) x3_8 ) → (15 < x9_170.toInt → (ai E_170 ql a1.toInt.toNat).toInt = 1) → (∀ k : Nat, k ∉ ([5, 6, 22] : List Nat) → fi E_170 a0 k = fi E a0 k) → (0 ≤ (fi E_170 a0 22).toInt ∧ (fi E_170 a0 22).toInt ≤ 120 ∧ (fi E_8 a0 22).toInt ≤ (fi E_170 a0 22).toInt ∧ x5_8.toInt = 1) → lv_has l_170 10 [(0, .ref a0), (1, .int a1), (2, .int a2), (3, .int x3_8), (4, .int x4_8), (8, .int x8_170), (9, .int x9_170)] → W p l e { frames := 3, cells := 0, slots := 0, locals := 72 } s m args below meth c H_170 k_170 0 0 QQ (F0 m 170 l_170 []) := by
        intro x8_170 x9_170 E_170 H_170 k_170 l_170 S_170 F_170 z113 z114 z115 z116 z117 z118 z119 z120 z121 z122 z123 z124 z125 z126 z127 z128 z129 hl_170
        refine lv_aload_n hx hb dX10_sum_170 rfl (lv_at hl_170 0 rfl) ?_
        refine tc_vi Z.1 Z.2.2.2.1 Z.2.2.2.2.1 Z.2.2.2.2.2 S_170.1 S_170.2 ha0 ta0 rfl rfl (k_X10_bad l D cy S_170.2 ha0 ta0) (cwV 0 hts gX10_sum_X10_bad rfl rfl rfl (by decide +kernel) ⟨Nat.le_of_ble_eq_true rfl, Nat.le_of_ble_eq_true rfl⟩) rfl hl_170.1 rfl (Nat.le_of_ble_eq_true rfl) dX10_sum_171 ⟨Nat.zero_le _, Nat.zero_le _⟩ (fun v133 E130 H131 k132 W130 I130 G130 p130 => ?_)
        obtain ⟨q130, p130_0, p130_1, p130_2⟩ := p130
        have q130 := q130.symm
        subst q130
        have S130 : Now D TB cy (va_A (va_pl L E) sz) s L τ E_170 H131 k132 := ⟨W130, I130⟩
        have kz130_5 := fi_rng (k := 5) S130.2 ha0 ta0 rfl rfl
        refine lv_if_eq (tgt := 178) hx hb dX10_sum_174 (by decide) (fun c134 => ?_) (fun c134 => ?_)
        · skip
          have tc134 := nu_eq c134
          have uc134 : (0 : Int32).toInt = 0 := rfl
          refine lv_aload_n hx hb dX10_sum_178 rfl (lv_at hl_170 0 rfl) ?_
          refine tr_getr Z.1 Z.2.2.2.1 S130.1 S130.2 ha0 ta0 rfl rfl (fun _ h => List.mem_cons_of_mem _ (List.mem_append_right _ h)) 27 (by decide) rfl (hts _ (List.mem_of_getElem? (i := 2) rfl)) dX10_sum_179 (fun q135 eq135 hq135 tq135 => ?_)
          have tq135 : τ q135 = (78, 0) := tq135
          obtain ⟨v136, ev136, tv136⟩ : ∃ v : Int32, (Int8.ofInt (64)).toInt32 = v ∧ v.toInt = 64 := ⟨_, rfl, by decide +kernel⟩
          refine lv_bipush hx hb dX10_sum_182 ev136 ?_
          refine lv_iload_n hx hb dX10_sum_184 rfl (lv_at hl_170 1 rfl) ?_
          refine lv_imul hx hb dX10_sum_185 ?_
          refine lv_topi (fun v137 ev137 => ?_)
          have tv137 := nu_mulc' (64) ev137 (by omega) (by omega) (by omega)
          obtain ⟨v138, ev138, tv138⟩ : ∃ v : Int32, (Int8.ofInt (8)).toInt32 = v ∧ v.toInt = 8 := ⟨_, rfl, by decide +kernel⟩
          refine lv_bipush hx hb dX10_sum_186 ev138 ?_
          refine lv_iload_n hx hb dX10_sum_188 rfl (lv_at hl_170 2 rfl) ?_
          refine lv_imul hx hb dX10_sum_189 ?_
          refine lv_topi (fun v139 ev139 => ?_)
          have tv139 := nu_mulc' (8) ev139 (by omega) (by omega) (by omega)
          refine lv_iadd hx hb dX10_sum_190 ?_
          refine lv_topi (fun v140 ev140 => ?_)
          have tv140 := nu_add ev140 (by omega) (by omega)
          refine lv_iload_n hx hb dX10_sum_191 rfl (lv_at hl_170 3 rfl) ?_
          refine lv_iadd hx hb dX10_sum_192 ?_
          refine lv_topi (fun v141 ev141 => ?_)
          have tv141 := nu_add ev141 (by omega) (by omega)
          refine lv_iload hx hb dX10_sum_193 (lv_at hl_170 4 rfl) ?_
          refine lv_iload hx hb dX10_sum_195 (lv_at hl_170 5 rfl) ?_
          refine lv_imul hx hb dX10_sum_197 ?_
          refine lv_topi (fun v142 ev142 => ?_)
          refine tr_iast Z.1 Z.2.2.2.1 S130.1 S130.2 hq135 tq135 rfl (by omega) (by omega) (by have := fb_rng v142; omega) (by have := fb_rng v142; omega) dX10_sum_198 (fun E143 H144 k145 W143 I143 P143 => ?_)
          have S143 : Now D TB cy (va_A (va_pl L E) sz) s L τ E143 H144 k145 := ⟨W143, I143⟩
          have F143 : Fr L τ (inW [(11, 0), (75, 0), (77, 0), (78, 0), (79, 0)]) E E143 := Fr.set F_170 P143 tq135 rfl
          refine lv_aload_n hx hb dX10_sum_199 rfl (lv_at hl_170 0 rfl) ?_
          refine tr_getr Z.1 Z.2.2.2.1 S143.1 S143.2 ha0 ta0 rfl rfl (fun _ h => List.mem_cons_of_mem _ (List.mem_append_right _ h)) 28 (by decide) rfl (hts _ (List.mem_of_getElem? (i := 3) rfl)) dX10_sum_200 (fun q146 eq146 hq146 tq146 => ?_)
          have tq146 : τ q146 = (79, 0) := tq146
          have uq146 : qd = q146 := S143.2.2.2.2 _ hqd _ hq146 (tqd.trans tq146.symm) (by rw [tqd]; rfl)
          subst uq146
          obtain ⟨v147, ev147, tv147⟩ : ∃ v : Int32, (Int8.ofInt (64)).toInt32 = v ∧ v.toInt = 64 := ⟨_, rfl, by decide +kernel⟩
          refine lv_bipush hx hb dX10_sum_203 ev147 ?_
          refine lv_iload_n hx hb dX10_sum_205 rfl (lv_at hl_170 1 rfl) ?_
          refine lv_imul hx hb dX10_sum_206 ?_
          refine lv_topi (fun v148 ev148 => ?_)
          have tv148 := nu_mulc' (64) ev148 (by omega) (by omega) (by omega)
          obtain ⟨v149, ev149, tv149⟩ : ∃ v : Int32, (Int8.ofInt (8)).toInt32 = v ∧ v.toInt = 8 := ⟨_, rfl, by decide +kernel⟩
          refine lv_bipush hx hb dX10_sum_207 ev149 ?_
          refine lv_iload_n hx hb dX10_sum_209 rfl (lv_at hl_170 2 rfl) ?_
          refine lv_imul hx hb dX10_sum_210 ?_
          refine lv_topi (fun v150 ev150 => ?_)
          have tv150 := nu_mulc' (8) ev150 (by omega) (by omega) (by omega)
          refine lv_iadd hx hb dX10_sum_211 ?_
          refine lv_topi (fun v151 ev151 => ?_)
          have tv151 := nu_add ev151 (by omega) (by omega)
          refine lv_iload_n hx hb dX10_sum_212 rfl (lv_at hl_170 3 rfl) ?_
          refine lv_iadd hx hb dX10_sum_213 ?_
          refine lv_topi (fun v152 ev152 => ?_)
          have tv152 := nu_add ev152 (by omega) (by omega)
          refine lv_iload hx hb dX10_sum_214 (lv_at hl_170 6 rfl) ?_
          refine tr_iast Z.1 Z.2.2.2.1 S143.1 S143.2 hqd tqd rfl (by omega) (by omega) (by omega) (by omega) dX10_sum_216 (fun E153 H154 k155 W153 I153 P153 => ?_)
          have S153 : Now D TB cy (va_A (va_pl L E) sz) s L τ E153 H154 k155 := ⟨W153, I153⟩
          have F153 : Fr L τ (inW [(11, 0), (75, 0), (77, 0), (78, 0), (79, 0)]) E E153 := Fr.set F143 P153 tqd rfl
          obtain ⟨v156, ev156⟩ : ∃ y : Int32, x3_8 + Int32.ofInt (1) = y := ⟨_, rfl⟩
          have tv156 : v156.toInt = x3_8.toInt + (1) := by rw [← ev156]; exact (fb_addI (by rw [show (Int32.ofInt (1)).toInt = 1 from by decide +kernel]; omega) (by rw [show (Int32.ofInt (1)).toInt = 1 from by decide +kernel]; omega)).trans (by rw [show (Int32.ofInt (1)).toInt = 1 from by decide +kernel])
          refine lv_iinc (v := v156) (lv' := [(3, .int v156), (0, .ref a0), (1, .int a1), (2, .int a2), (4, .int x4_8), (8, .int x8_170), (9, .int x9_170)]) hx hb dX10_sum_217 hl_170 (k := 3) rfl ev156 (by decide) rfl (fun l157 hl158 => ?_)
          refine lv_aload_n hx hb dX10_sum_220 rfl (lv_at hl158 1 rfl) ?_
          refine tc_vv Z.1 Z.2.2.2.1 Z.2.2.2.2.1 Z.2.2.2.2.2 S153.1 S153.2 ha0 ta0 rfl rfl (k_X10_blanks l D cy S153.2 ha0 ta0) (cwV 0 hts gX10_sum_X10_blanks rfl rfl rfl (by decide +kernel) ⟨Nat.le_of_ble_eq_true rfl, Nat.le_of_ble_eq_true rfl⟩) rfl hl158.1 rfl (Nat.le_of_ble_eq_true rfl) dX10_sum_221 ⟨Nat.zero_le _, Nat.zero_le _⟩ (fun E159 H160 k161 W159 I159 G159 p159 => ?_)
          obtain ⟨p159_0, p159_1⟩ := p159
          have S159 : Now D TB cy (va_A (va_pl L E) sz) s L τ E159 H160 k161 := ⟨W159, I159⟩
          have F159 : Fr L τ (inW [(11, 0), (75, 0), (77, 0), (78, 0), (79, 0)]) E E159 := F153.trans (G159.mono (inW_mono (by decide)))
          rw [((fi_set P153 (ne_ro ta0 tqd (by decide))).trans ((fi_set P143 (ne_ro ta0 tq135 (by decide))).trans rfl))] at p159_0
          have kz159_22 := fi_rng (k := 22) S159.2 ha0 ta0 rfl rfl
          refine lv_aload_n hx hb dX10_sum_224 rfl (lv_at hl158 1 rfl) ?_
          refine tc_vi Z.1 Z.2.2.2.1 Z.2.2.2.2.1 Z.2.2.2.2.2 S159.1 S159.2 ha0 ta0 rfl rfl (k_X10_look l D cy S159.2 ha0 ta0) (cwV 0 hts gX10_sum_X10_look rfl rfl rfl (by decide +kernel) ⟨Nat.le_of_ble_eq_true rfl, Nat.le_of_ble_eq_true rfl⟩) rfl hl158.1 rfl (Nat.le_of_ble_eq_true rfl) dX10_sum_225 ⟨Nat.zero_le _, Nat.zero_le _⟩ (fun v166 E163 H164 k165 W163 I163 G163 p163 => ?_)
          obtain ⟨q163, p163_0, p163_1, p163_2⟩ := p163
          have q163 := q163.symm
          subst q163
          have S163 : Now D TB cy (va_A (va_pl L E) sz) s L τ E159 H164 k165 := ⟨W163, I163⟩
          obtain ⟨v167, ev167, tv167⟩ : ∃ v : Int32, (Int8.ofInt (43)).toInt32 = v ∧ v.toInt = 43 := ⟨_, rfl, by decide +kernel⟩
          refine lv_bipush hx hb dX10_sum_228 ev167 ?_
          refine lv_icmp_eq (tgt := 242) hx hb dX10_sum_230 (by decide) (fun c168 => ?_) (fun c168 => ?_)
          · skip
            have tc168 := nu_eq c168
            exact J242 v156 E159 H164 k165 l157 S163 F159 (by have := fb_rng x8_170; omega) (by have := fb_rng x8_170; omega) (by have := fb_rng x8_170; omega) (by have := fb_rng x8_170; omega) (by have := fb_rng x8_170; omega) (by have := fb_rng x8_170; omega) (((z123.cell (P143.1 ql (ne_ro tql tq135 (by decide)))).cell (P153.1 ql (ne_ro tql tqd (by decide)))).cell (G159 ql hql (by rw [tql]; rfl))) (((G159 qm hqm (by rw [tqm]; rfl)).trans ((P153.1 qm (ne_ro tqm tqd (by decide))).trans (P143.1 qm (ne_ro tqm tq135 (by decide))))).trans z124) (fun j hj => ((ai_fr G159 hqd (by rw [tqd]; rfl)).trans ((ai_setk P153 (by show j ≠ v152.toInt.toNat; omega)).trans ((ai_set P143 (ne_ro tqd tq135 (by decide))).trans (z125 j hj))))) ((Parts.set (z126.keep ((Grow.refl (s := a1.toInt.toNat)).cell (P143.1 ql (ne_ro tql tq135 (by decide)))) (P143.1 qd (ne_ro tqd tq135 (by decide)))) (fun h => (((Grow.refl (s := a1.toInt.toNat)).cell (P143.1 ql (ne_ro tql tq135 (by decide))))).one (z127 h)) P153 (by omega) (by omega) (by omega) (ne_ro tql tqd (by decide))).keep ((Grow.refl (s := a1.toInt.toNat)).cell (G159 ql hql (by rw [tql]; rfl))) (G159 qd hqd (by rw [tqd]; rfl))) (fun k hk => ((p159_1 k (fw_sub (by decide) hk)).trans ((fi_set P153 (ne_ro ta0 tqd (by decide))).trans ((fi_set P143 (ne_ro ta0 tq135 (by decide))).trans (z128 k hk))))) (by have := fb_rng x8_170; omega) (lv_sub hl158 [1, 2, 3, 0] rfl)
          · skip
            have tc168 := nu_ne c168
            refine lv_aload_n hx hb dX10_sum_233 rfl (lv_at hl158 1 rfl) ?_
            refine tc_vi Z.1 Z.2.2.2.1 Z.2.2.2.2.1 Z.2.2.2.2.2 S163.1 S163.2 ha0 ta0 rfl rfl (k_X10_look l D cy S163.2 ha0 ta0) (cwV 0 hts gX10_sum_X10_look rfl rfl rfl (by decide +kernel) ⟨Nat.le_of_ble_eq_true rfl, Nat.le_of_ble_eq_true rfl⟩) rfl hl158.1 rfl (Nat.le_of_ble_eq_true rfl) dX10_sum_234 ⟨Nat.zero_le _, Nat.zero_le _⟩ (fun v172 E169 H170 k171 W169 I169 G169 p169 => ?_)
            obtain ⟨q169, p169_0, p169_1, p169_2⟩ := p169
            have q169 := q169.symm
            subst q169
            have S169 : Now D TB cy (va_A (va_pl L E) sz) s L τ E159 H170 k171 := ⟨W169, I169⟩
            obtain ⟨v173, ev173, tv173⟩ : ∃ v : Int32, (Int8.ofInt (45)).toInt32 = v ∧ v.toInt = 45 := ⟨_, rfl, by decide +kernel⟩
            refine lv_bipush hx hb dX10_sum_237 ev173 ?_
            refine lv_icmp_ne (tgt := 246) hx hb dX10_sum_239 (by decide) (fun c174 => ?_) (fun c174 => ?_)
            · skip
              have tc174 := nu_ne c174
              obtain ⟨v175, ev175, tv175⟩ : ∃ v : Int32, Int32.ofInt (0) = v ∧ v.toInt = 0 := ⟨_, rfl, by decide +kernel⟩
              refine lv_iconst hx hb dX10_sum_246 ev175 ?_
              exact J247 v156 v175 E159 H170 k171 l157 S169 F159 (by have := fb_rng x8_170; omega) (by have := fb_rng x8_170; omega) (by have := fb_rng x8_170; omega) (by have := fb_rng x8_170; omega) (by have := fb_rng x8_170; omega) (by have := fb_rng x8_170; omega) (by have := fb_rng x8_170; omega) (by have := fb_rng x8_170; omega) (((z123.cell (P143.1 ql (ne_ro tql tq135 (by decide)))).cell (P153.1 ql (ne_ro tql tqd (by decide)))).cell (G159 ql hql (by rw [tql]; rfl))) (((G159 qm hqm (by rw [tqm]; rfl)).trans ((P153.1 qm (ne_ro tqm tqd (by decide))).trans (P143.1 qm (ne_ro tqm tq135 (by decide))))).trans z124) (fun j hj => ((ai_fr G159 hqd (by rw [tqd]; rfl)).trans ((ai_setk P153 (by show j ≠ v152.toInt.toNat; omega)).trans ((ai_set P143 (ne_ro tqd tq135 (by decide))).trans (z125 j hj))))) ((Parts.set (z126.keep ((Grow.refl (s := a1.toInt.toNat)).cell (P143.1 ql (ne_ro tql tq135 (by decide)))) (P143.1 qd (ne_ro tqd tq135 (by decide)))) (fun h => (((Grow.refl (s := a1.toInt.toNat)).cell (P143.1 ql (ne_ro tql tq135 (by decide))))).one (z127 h)) P153 (by omega) (by omega) (by omega) (ne_ro tql tqd (by decide))).keep ((Grow.refl (s := a1.toInt.toNat)).cell (G159 ql hql (by rw [tql]; rfl))) (G159 qd hqd (by rw [tqd]; rfl))) (fun k hk => ((p159_1 k (fw_sub (by decide) hk)).trans ((fi_set P153 (ne_ro ta0 tqd (by decide))).trans ((fi_set P143 (ne_ro ta0 tq135 (by decide))).trans (z128 k hk))))) (by have := fb_rng x8_170; omega) (lv_sub hl158 [1, 2, 3, 0] rfl)
            · skip
              have tc174 := nu_eq c174
              exact J242 v156 E159 H170 k171 l157 S169 F159 (by have := fb_rng x8_170; omega) (by have := fb_rng x8_170; omega) (by have := fb_rng x8_170; omega) (by have := fb_rng x8_170; omega) (by have := fb_rng x8_170; omega) (by have := fb_rng x8_170; omega) (((z123.cell (P143.1 ql (ne_ro tql tq135 (by decide)))).cell (P153.1 ql (ne_ro tql tqd (by decide)))).cell (G159 ql hql (by rw [tql]; rfl))) (((G159 qm hqm (by rw [tqm]; rfl)).trans ((P153.1 qm (ne_ro tqm tqd (by decide))).trans (P143.1 qm (ne_ro tqm tq135 (by decide))))).trans z124) (fun j hj => ((ai_fr G159 hqd (by rw [tqd]; rfl)).trans ((ai_setk P153 (by show j ≠ v152.toInt.toNat; omega)).trans ((ai_set P143 (ne_ro tqd tq135 (by decide))).trans (z125 j hj))))) ((Parts.set (z126.keep ((Grow.refl (s := a1.toInt.toNat)).cell (P143.1 ql (ne_ro tql tq135 (by decide)))) (P143.1 qd (ne_ro tqd tq135 (by decide)))) (fun h => (((Grow.refl (s := a1.toInt.toNat)).cell (P143.1 ql (ne_ro tql tq135 (by decide))))).one (z127 h)) P153 (by omega) (by omega) (by omega) (ne_ro tql tqd (by decide))).keep ((Grow.refl (s := a1.toInt.toNat)).cell (G159 ql hql (by rw [tql]; rfl))) (G159 qd hqd (by rw [tqd]; rfl))) (fun k hk => ((p159_1 k (fw_sub (by decide) hk)).trans ((fi_set P153 (ne_ro ta0 tqd (by decide))).trans ((fi_set P143 (ne_ro ta0 tq135 (by decide))).trans (z128 k hk))))) (by have := fb_rng x8_170; omega) (lv_sub hl158 [1, 2, 3, 0] rfl)
        · skip
          have tc134 := nu_ne c134
          have uc134 : (0 : Int32).toInt = 0 := rfl
          rw [← hQ]
          exact en_v Z S130 F_170 ⟨z123, (fun j _ => congrFun (ai_cell z124) j), (fun j hj => (z125 j hj)), (fun h => absurd h (by omega)), (fun k hk => (z128 k hk))⟩ dX10_sum_177
      have J113 : ∀ (x7_113 : Int32) (x8_113 : Int32) (x9_113 : Int32) (E_113 : Ec) (H_113 : Heap) (k_113 : List Loc) (l_113 : Array Slot), Now D TB cy (va_A (va_pl L E) sz) s L τ E_113 H_113 k_113 → Fr L τ (inW [(11, 0), (75, 0), (77, 0), (78, 0), (79, 0)]) E E_113 → (0 ≤ a1.toInt) → (a1.toInt ≤ 49) → (0 ≤ a2.toInt) → (a2.toInt ≤ 7) → (0 ≤ x3_8.toInt) → (x3_8.toInt ≤ 8) → (-1 ≤ x4_8.toInt) → (x4_8.toInt ≤ 1) → (0 ≤ x7_113.toInt) → (x7_113.toInt ≤ 1) → (8 ≤ x9_113.toInt) → (x9_113.toInt ≤ 8) → (Grow E E_113 ql a1.toInt.toNat) → (E_113 qm = E qm) → (∀ j : Nat, ¬ (64 * a1.toInt.toNat + 8 * a2.toInt.toNat ≤ j ∧ j < 64 * a1.toInt.toNat + 8 * a2.toInt.toNat + 8) → ai E_113 qd j = ai E qd j) → (Parts E_113 ql qd a1.toInt.toNat (64 * a1.toInt.toNat + 8 * a2.toInt.toNat) x3_8 ) → (∀ k : Nat, k ∉ ([5, 6, 22] : List Nat) → fi E_113 a0 k = fi E a0 k) → (0 ≤ (fi E_113 a0 22).toInt ∧ (fi E_113 a0 22).toInt ≤ 120 ∧ (fi E_8 a0 22).toInt ≤ (fi E_113 a0 22).toInt ∧ x5_8.toInt = 1) → (-2147483648 ≤ (fi E_113 a0 5).toInt ∧ (fi E_113 a0 5).toInt ≤ 2147483647 ∧ (x3_8.toInt = 8 → 0 < (fi E_113 a0 5).toInt)) → lv_has l_113 10 [(0, .ref a0), (1, .int a1), (2, .int a2), (3, .int x3_8), (4, .int x4_8), (7, .int x7_113), (8, .int x8_113), (9, .int x9_113)] → W p l e { frames := 3, cells := 0, slots := 0, locals := 72 } s m args below meth c H_113 k_113 0 0 QQ (F0 m 113 l_113 []) := by
        intro x7_113 x8_113 x9_113 E_113 H_113 k_113 l_113 S_113 F_113 z176 z177 z178 z179 z180 z181 z182 z183 z184 z185 z186 z187 z188 z189 z190 z191 z192 z193 z194 hl_113
        refine lv_aload_n hx hb dX10_sum_113 rfl (lv_at hl_113 0 rfl) ?_
        refine tc_vi Z.1 Z.2.2.2.1 Z.2.2.2.2.1 Z.2.2.2.2.2 S_113.1 S_113.2 ha0 ta0 rfl rfl (k_X10_bad l D cy S_113.2 ha0 ta0) (cwV 0 hts gX10_sum_X10_bad rfl rfl rfl (by decide +kernel) ⟨Nat.le_of_ble_eq_true rfl, Nat.le_of_ble_eq_true rfl⟩) rfl hl_113.1 rfl (Nat.le_of_ble_eq_true rfl) dX10_sum_114 ⟨Nat.zero_le _, Nat.zero_le _⟩ (fun v198 E195 H196 k197 W195 I195 G195 p195 => ?_)
        obtain ⟨q195, p195_0, p195_1, p195_2⟩ := p195
        have q195 := q195.symm
        subst q195
        have S195 : Now D TB cy (va_A (va_pl L E) sz) s L τ E_113 H196 k197 := ⟨W195, I195⟩
        refine lv_if_eq (tgt := 121) hx hb dX10_sum_117 (by decide) (fun c199 => ?_) (fun c199 => ?_)
        · skip
          have tc199 := nu_eq c199
          have uc199 : (0 : Int32).toInt = 0 := rfl
          refine lv_iload hx hb dX10_sum_121 (lv_at hl_113 5 rfl) ?_
          refine lv_if_eq (tgt := 163) hx hb dX10_sum_123 (by decide) (fun c200 => ?_) (fun c200 => ?_)
          · skip
            have tc200 := nu_eq c200
            have uc200 : (0 : Int32).toInt = 0 := rfl
            refine lv_aload_n hx hb dX10_sum_163 rfl (lv_at hl_113 0 rfl) ?_
            refine lv_iload_n hx hb dX10_sum_164 rfl (lv_at hl_113 1 rfl) ?_
            refine tc_vi Z.1 Z.2.2.2.1 Z.2.2.2.2.1 Z.2.2.2.2.2 S195.1 S195.2 ha0 ta0 rfl rfl (k_X10_name l D cy S195.2 ha0 ta0 a1 (by omega) (by omega) hql tql) (cwV 1 hts gX10_sum_X10_name rfl rfl rfl (by decide +kernel) ⟨Nat.le_of_ble_eq_true rfl, Nat.le_of_ble_eq_true rfl⟩) rfl hl_113.1 rfl (Nat.le_of_ble_eq_true rfl) dX10_sum_165 ⟨Nat.zero_le _, Nat.zero_le _⟩ (fun v204 E201 H202 k203 W201 I201 G201 p201 => ?_)
            obtain ⟨p201_0, p201_1, p201_2, p201_3, p201_4, p201_5⟩ := p201
            have S201 : Now D TB cy (va_A (va_pl L E) sz) s L τ E201 H202 k203 := ⟨W201, I201⟩
            have F201 : Fr L τ (inW [(11, 0), (75, 0), (77, 0), (78, 0), (79, 0)]) E E201 := F_113.trans (G201.mono (inW_mono (by decide)))
            have kz201_22 := fi_rng (k := 22) S201.2 ha0 ta0 rfl rfl
            refine lv_istore (lv' := [(9, .int v204), (0, .ref a0), (1, .int a1), (2, .int a2), (3, .int x3_8), (4, .int x4_8), (7, .int x7_113), (8, .int x8_113)]) hx hb dX10_sum_168 hl_113 (by decide) rfl (fun l205 hl206 => ?_)
            exact J170 x8_113 v204 E201 H202 k203 l205 S201 F201 (by have := fb_rng x8_113; omega) (by have := fb_rng x8_113; omega) (by have := fb_rng x8_113; omega) (by have := fb_rng x8_113; omega) (by have := fb_rng x8_113; omega) (by have := fb_rng x8_113; omega) (by have := fb_rng x8_113; omega) (by have := fb_rng x8_113; omega) (by have := fb_rng x8_113; omega) (by have := fb_rng x8_113; omega) (z188.trans p201_0) ((G201 qm hqm (by rw [tqm]; rfl)).trans z189) (fun j hj => ((ai_fr G201 hqd (by rw [tqd]; rfl)).trans (z190 j hj))) (z191.keep ((Grow.refl (s := a1.toInt.toNat)).trans p201_0) (G201 qd hqd (by rw [tqd]; rfl))) p201_1 (fun k hk => ((p201_5 k (fw_sub (by decide) hk)).trans (z192 k hk))) (by have := fb_rng x8_113; omega) (lv_sub hl206 [1, 2, 3, 4, 5, 7, 0] rfl)
          · skip
            have tc200 := nu_ne c200
            have uc200 : (0 : Int32).toInt = 0 := rfl
            refine lv_aload_n hx hb dX10_sum_126 rfl (lv_at hl_113 0 rfl) ?_
            refine tc_vv Z.1 Z.2.2.2.1 Z.2.2.2.2.1 Z.2.2.2.2.2 S195.1 S195.2 ha0 ta0 rfl rfl (k_X10_blanks l D cy S195.2 ha0 ta0) (cwV 0 hts gX10_sum_X10_blanks rfl rfl rfl (by decide +kernel) ⟨Nat.le_of_ble_eq_true rfl, Nat.le_of_ble_eq_true rfl⟩) rfl hl_113.1 rfl (Nat.le_of_ble_eq_true rfl) dX10_sum_127 ⟨Nat.zero_le _, Nat.zero_le _⟩ (fun E207 H208 k209 W207 I207 G207 p207 => ?_)
            obtain ⟨p207_0, p207_1⟩ := p207
            have S207 : Now D TB cy (va_A (va_pl L E) sz) s L τ E207 H208 k209 := ⟨W207, I207⟩
            have F207 : Fr L τ (inW [(11, 0), (75, 0), (77, 0), (78, 0), (79, 0)]) E E207 := F_113.trans (G207.mono (inW_mono (by decide)))
            have kz207_22 := fi_rng (k := 22) S207.2 ha0 ta0 rfl rfl
            refine lv_aload_n hx hb dX10_sum_130 rfl (lv_at hl_113 0 rfl) ?_
            refine tc_vi Z.1 Z.2.2.2.1 Z.2.2.2.2.1 Z.2.2.2.2.2 S207.1 S207.2 ha0 ta0 rfl rfl (k_X10_look l D cy S207.2 ha0 ta0) (cwV 0 hts gX10_sum_X10_look rfl rfl rfl (by decide +kernel) ⟨Nat.le_of_ble_eq_true rfl, Nat.le_of_ble_eq_true rfl⟩) rfl hl_113.1 rfl (Nat.le_of_ble_eq_true rfl) dX10_sum_131 ⟨Nat.zero_le _, Nat.zero_le _⟩ (fun v214 E211 H212 k213 W211 I211 G211 p211 => ?_)
            obtain ⟨q211, p211_0, p211_1, p211_2⟩ := p211
            have q211 := q211.symm
            subst q211
            have S211 : Now D TB cy (va_A (va_pl L E) sz) s L τ E207 H212 k213 := ⟨W211, I211⟩
            obtain ⟨v215, ev215, tv215⟩ : ∃ v : Int32, (Int8.ofInt (42)).toInt32 = v ∧ v.toInt = 42 := ⟨_, rfl, by decide +kernel⟩
            refine lv_bipush hx hb dX10_sum_134 ev215 ?_
            refine lv_icmp_ne (tgt := 170) hx hb dX10_sum_136 (by decide) (fun c216 => ?_) (fun c216 => ?_)
            · skip
              have tc216 := nu_ne c216
              exact J170 x8_113 x9_113 E207 H212 k213 l_113 S211 F207 (by have := fb_rng x8_113; omega) (by have := fb_rng x8_113; omega) (by have := fb_rng x8_113; omega) (by have := fb_rng x8_113; omega) (by have := fb_rng x8_113; omega) (by have := fb_rng x8_113; omega) (by have := fb_rng x8_113; omega) (by have := fb_rng x8_113; omega) (by have := fb_rng x8_113; omega) (by have := fb_rng x8_113; omega) (z188.cell (G207 ql hql (by rw [tql]; rfl))) ((G207 qm hqm (by rw [tqm]; rfl)).trans z189) (fun j hj => ((ai_fr G207 hqd (by rw [tqd]; rfl)).trans (z190 j hj))) (z191.keep ((Grow.refl (s := a1.toInt.toNat)).cell (G207 ql hql (by rw [tql]; rfl))) (G207 qd hqd (by rw [tqd]; rfl))) (fun h => by omega) (fun k hk => ((p207_1 k (fw_sub (by decide) hk)).trans (z192 k hk))) (by have := fb_rng x8_113; omega) (lv_sub hl_113 [0, 1, 2, 3, 4, 6, 7] rfl)
            · skip
              have tc216 := nu_eq c216
              refine lv_aload_n hx hb dX10_sum_139 rfl (lv_at hl_113 0 rfl) ?_
              refine lv_dup hx hb dX10_sum_140 rfl ?_
              refine tr_geti Z.1 Z.2.2.2.1 S211.1 S211.2 ha0 ta0 rfl rfl (fun _ h => List.mem_cons_of_mem _ (List.mem_append_right _ h)) 22 (by decide) rfl (hts _ (List.mem_of_getElem? (i := 1) rfl)) dX10_sum_141 (fun v217 ev217 lv217 uv217 => ?_)
              have wv217 : v217 = (fi E207 a0 22) := ev217.symm.trans rfl
              have xv217 : v217.toInt = (fi E207 a0 22).toInt := by rw [wv217]
              obtain ⟨v218, ev218, tv218⟩ : ∃ v : Int32, Int32.ofInt (1) = v ∧ v.toInt = 1 := ⟨_, rfl, by decide +kernel⟩
              refine lv_iconst hx hb dX10_sum_144 ev218 ?_
              refine lv_iadd hx hb dX10_sum_145 ?_
              refine lv_topi (fun v219 ev219 => ?_)
              have tv219 := nu_add ev219 (by omega) (by omega)
              refine tr_puti Z.1 Z.2.2.2.1 S211.1 S211.2 ha0 ta0 rfl rfl (fun _ h => List.mem_cons_of_mem _ (List.mem_append_right _ h)) tyX10_ok nmX10 22 (by decide) rfl rfl rfl (hts _ (List.mem_of_getElem? (i := 1) rfl)) dX10_sum_146 (by omega) (by omega) (fun E220 H221 k222 W220 I220 P220 => ?_)
              have S220 : Now D TB cy (va_A (va_pl L E) sz) s L τ E220 H221 k222 := ⟨W220, I220⟩
              have F220 : Fr L τ (inW [(11, 0), (75, 0), (77, 0), (78, 0), (79, 0)]) E E220 := Fr.put F207 P220 ta0 rfl
              refine lv_aload_n hx hb dX10_sum_149 rfl (lv_at hl_113 0 rfl) ?_
              refine tc_vv Z.1 Z.2.2.2.1 Z.2.2.2.2.1 Z.2.2.2.2.2 S220.1 S220.2 ha0 ta0 rfl rfl (k_X10_blanks l D cy S220.2 ha0 ta0) (cwV 0 hts gX10_sum_X10_blanks rfl rfl rfl (by decide +kernel) ⟨Nat.le_of_ble_eq_true rfl, Nat.le_of_ble_eq_true rfl⟩) rfl hl_113.1 rfl (Nat.le_of_ble_eq_true rfl) dX10_sum_150 ⟨Nat.zero_le _, Nat.zero_le _⟩ (fun E223 H224 k225 W223 I223 G223 p223 => ?_)
              obtain ⟨p223_0, p223_1⟩ := p223
              have S223 : Now D TB cy (va_A (va_pl L E) sz) s L τ E223 H224 k225 := ⟨W223, I223⟩
              have F223 : Fr L τ (inW [(11, 0), (75, 0), (77, 0), (78, 0), (79, 0)]) E E223 := F220.trans (G223.mono (inW_mono (by decide)))
              rw [(fi_at P220)] at p223_0
              have kz223_22 := fi_rng (k := 22) S223.2 ha0 ta0 rfl rfl
              refine lv_aload_n hx hb dX10_sum_153 rfl (lv_at hl_113 0 rfl) ?_
              refine lv_iload_n hx hb dX10_sum_154 rfl (lv_at hl_113 1 rfl) ?_
              refine tc_vi Z.1 Z.2.2.2.1 Z.2.2.2.2.1 Z.2.2.2.2.2 S223.1 S223.2 ha0 ta0 rfl rfl (k_X10_name l D cy S223.2 ha0 ta0 a1 (by omega) (by omega) hql tql) (cwV 1 hts gX10_sum_X10_name rfl rfl rfl (by decide +kernel) ⟨Nat.le_of_ble_eq_true rfl, Nat.le_of_ble_eq_true rfl⟩) rfl hl_113.1 rfl (Nat.le_of_ble_eq_true rfl) dX10_sum_155 ⟨Nat.zero_le _, Nat.zero_le _⟩ (fun v230 E227 H228 k229 W227 I227 G227 p227 => ?_)
              obtain ⟨p227_0, p227_1, p227_2, p227_3, p227_4, p227_5⟩ := p227
              have S227 : Now D TB cy (va_A (va_pl L E) sz) s L τ E227 H228 k229 := ⟨W227, I227⟩
              have F227 : Fr L τ (inW [(11, 0), (75, 0), (77, 0), (78, 0), (79, 0)]) E E227 := F223.trans (G227.mono (inW_mono (by decide)))
              have kz227_22 := fi_rng (k := 22) S227.2 ha0 ta0 rfl rfl
              refine lv_istore (lv' := [(9, .int v230), (0, .ref a0), (1, .int a1), (2, .int a2), (3, .int x3_8), (4, .int x4_8), (7, .int x7_113), (8, .int x8_113)]) hx hb dX10_sum_158 hl_113 (by decide) rfl (fun l231 hl232 => ?_)
              refine lv_goto (tgt := 170) hx hb dX10_sum_160 (by decide) ?_
              exact J170 x8_113 v230 E227 H228 k229 l231 S227 F227 (by have := fb_rng x8_113; omega) (by have := fb_rng x8_113; omega) (by have := fb_rng x8_113; omega) (by have := fb_rng x8_113; omega) (by have := fb_rng x8_113; omega) (by have := fb_rng x8_113; omega) (by have := fb_rng x8_113; omega) (by have := fb_rng x8_113; omega) (by have := fb_rng x8_113; omega) (by have := fb_rng x8_113; omega) ((((z188.cell (G207 ql hql (by rw [tql]; rfl))).cell (P220.1 ql (ne_ro tql ta0 (by decide)))).cell (G223 ql hql (by rw [tql]; rfl))).trans p227_0) (((G227 qm hqm (by rw [tqm]; rfl)).trans ((G223 qm hqm (by rw [tqm]; rfl)).trans ((P220.1 qm (ne_ro tqm ta0 (by decide))).trans (G207 qm hqm (by rw [tqm]; rfl))))).trans z189) (fun j hj => ((ai_fr G227 hqd (by rw [tqd]; rfl)).trans ((ai_fr G223 hqd (by rw [tqd]; rfl)).trans ((ai_put P220 (ne_ro tqd ta0 (by decide))).trans ((ai_fr G207 hqd (by rw [tqd]; rfl)).trans (z190 j hj)))))) (z191.keep (((((Grow.refl (s := a1.toInt.toNat)).cell (G207 ql hql (by rw [tql]; rfl))).cell (P220.1 ql (ne_ro tql ta0 (by decide)))).cell (G223 ql hql (by rw [tql]; rfl))).trans p227_0) ((G227 qd hqd (by rw [tqd]; rfl)).trans ((G223 qd hqd (by rw [tqd]; rfl)).trans ((P220.1 qd (ne_ro tqd ta0 (by decide))).trans (G207 qd hqd (by rw [tqd]; rfl)))))) p227_1 (fun k hk => ((p227_5 k (fw_sub (by decide) hk)).trans ((p223_1 k (fw_sub (by decide) hk)).trans ((fi_put P220 (Or.inr (fw_ne (by decide) hk))).trans ((p207_1 k (fw_sub (by decide) hk)).trans (z192 k hk)))))) (by have := fb_rng x8_113; omega) (lv_sub hl232 [1, 2, 3, 4, 5, 7, 0] rfl)
        · skip
          have tc199 := nu_ne c199
          have uc199 : (0 : Int32).toInt = 0 := rfl
          rw [← hQ]
          exact en_v Z S195 F_113 ⟨z188, (fun j _ => congrFun (ai_cell z189) j), (fun j hj => (z190 j hj)), (fun h => absurd h (by omega)), (fun k hk => (z192 k hk))⟩ dX10_sum_120
      have J100 : ∀ (x6_100 : Int32) (x7_100 : Int32) (x8_100 : Int32) (x9_100 : Int32) (E_100 : Ec) (H_100 : Heap) (k_100 : List Loc) (l_100 : Array Slot), Now D TB cy (va_A (va_pl L E) sz) s L τ E_100 H_100 k_100 → Fr L τ (inW [(11, 0), (75, 0), (77, 0), (78, 0), (79, 0)]) E E_100 → (0 ≤ a1.toInt) → (a1.toInt ≤ 49) → (0 ≤ a2.toInt) → (a2.toInt ≤ 7) → (0 ≤ x3_8.toInt) → (x3_8.toInt ≤ 8) → (-1 ≤ x4_8.toInt) → (x4_8.toInt ≤ 1) → (0 ≤ x6_100.toInt) → (x6_100.toInt ≤ 120) → (0 ≤ x7_100.toInt) → (x7_100.toInt ≤ 1) → (8 ≤ x9_100.toInt) → (x9_100.toInt ≤ 8) → (Grow E E_100 ql a1.toInt.toNat) → (E_100 qm = E qm) → (∀ j : Nat, ¬ (64 * a1.toInt.toNat + 8 * a2.toInt.toNat ≤ j ∧ j < 64 * a1.toInt.toNat + 8 * a2.toInt.toNat + 8) → ai E_100 qd j = ai E qd j) → (Parts E_100 ql qd a1.toInt.toNat (64 * a1.toInt.toNat + 8 * a2.toInt.toNat) x3_8 ) → (∀ k : Nat, k ∉ ([5, 6, 22] : List Nat) → fi E_100 a0 k = fi E a0 k) → (0 ≤ (fi E_100 a0 22).toInt ∧ (fi E_100 a0 22).toInt ≤ 120 ∧ (fi E_8 a0 22).toInt ≤ (fi E_100 a0 22).toInt ∧ x5_8.toInt = 1) → (-2147483648 ≤ (fi E_100 a0 5).toInt ∧ (fi E_100 a0 5).toInt ≤ 2147483647) → lv_has l_100 10 [(0, .ref a0), (1, .int a1), (2, .int a2), (3, .int x3_8), (4, .int x4_8), (6, .int x6_100), (7, .int x7_100), (8, .int x8_100), (9, .int x9_100)] → W p l e { frames := 3, cells := 0, slots := 0, locals := 72 } s m args below meth c H_100 k_100 0 0 QQ (F0 m 100 l_100 []) := by
        intro x6_100 x7_100 x8_100 x9_100 E_100 H_100 k_100 l_100 S_100 F_100 z233 z234 z235 z236 z237 z238 z239 z240 z241 z242 z243 z244 z245 z246 z247 z248 z249 z250 z251 z252 z253 hl_100
        refine lv_iload_n hx hb dX10_sum_100 rfl (lv_at hl_100 3 rfl) ?_
        obtain ⟨v254, ev254, tv254⟩ : ∃ v : Int32, (Int8.ofInt (8)).toInt32 = v ∧ v.toInt = 8 := ⟨_, rfl, by decide +kernel⟩
        refine lv_bipush hx hb dX10_sum_101 ev254 ?_
        refine lv_icmp_ne (tgt := 113) hx hb dX10_sum_103 (by decide) (fun c255 => ?_) (fun c255 => ?_)
        · skip
          have tc255 := nu_ne c255
          exact J113 x7_100 x8_100 x9_100 E_100 H_100 k_100 l_100 S_100 F_100 (by have := fb_rng x8_100; omega) (by have := fb_rng x8_100; omega) (by have := fb_rng x8_100; omega) (by have := fb_rng x8_100; omega) (by have := fb_rng x8_100; omega) (by have := fb_rng x8_100; omega) (by have := fb_rng x8_100; omega) (by have := fb_rng x8_100; omega) (by have := fb_rng x8_100; omega) (by have := fb_rng x8_100; omega) (by have := fb_rng x8_100; omega) (by have := fb_rng x8_100; omega) z247 z248 (fun j hj => (z249 j hj)) (z250.keep (Grow.refl (s := a1.toInt.toNat)) rfl) (fun k hk => (z251 k hk)) (by have := fb_rng x8_100; omega) (by have := fb_rng x8_100; omega) (lv_sub hl_100 [0, 1, 2, 3, 4, 6, 7, 8] rfl)
        · skip
          have tc255 := nu_eq c255
          refine lv_aload_n hx hb dX10_sum_106 rfl (lv_at hl_100 0 rfl) ?_
          obtain ⟨v256, ev256, tv256⟩ : ∃ v : Int32, Int32.ofInt (3) = v ∧ v.toInt = 3 := ⟨_, rfl, by decide +kernel⟩
          refine lv_iconst hx hb dX10_sum_107 ev256 ?_
          refine lv_iload hx hb dX10_sum_108 (lv_at hl_100 5 rfl) ?_
          refine tc_vv Z.1 Z.2.2.2.1 Z.2.2.2.2.1 Z.2.2.2.2.2 S_100.1 S_100.2 ha0 ta0 rfl rfl (k_X10_wrong l D cy S_100.2 ha0 ta0 v256 (by omega) (by omega) x6_100) (cwV 2 hts gX10_sum_X10_wrong rfl rfl rfl (by decide +kernel) ⟨Nat.le_of_ble_eq_true rfl, Nat.le_of_ble_eq_true rfl⟩) rfl hl_100.1 rfl (Nat.le_of_ble_eq_true rfl) dX10_sum_110 ⟨Nat.zero_le _, Nat.zero_le _⟩ (fun E257 H258 k259 W257 I257 G257 p257 => ?_)
          obtain ⟨p257_0, p257_1⟩ := p257
          have S257 : Now D TB cy (va_A (va_pl L E) sz) s L τ E257 H258 k259 := ⟨W257, I257⟩
          have F257 : Fr L τ (inW [(11, 0), (75, 0), (77, 0), (78, 0), (79, 0)]) E E257 := F_100.trans (G257.mono (inW_mono (by decide)))
          have kz257_5 := fi_rng (k := 5) S257.2 ha0 ta0 rfl rfl
          exact J113 x7_100 x8_100 x9_100 E257 H258 k259 l_100 S257 F257 (by have := fb_rng x8_100; omega) (by have := fb_rng x8_100; omega) (by have := fb_rng x8_100; omega) (by have := fb_rng x8_100; omega) (by have := fb_rng x8_100; omega) (by have := fb_rng x8_100; omega) (by have := fb_rng x8_100; omega) (by have := fb_rng x8_100; omega) (by have := fb_rng x8_100; omega) (by have := fb_rng x8_100; omega) (by have := fb_rng x8_100; omega) (by have := fb_rng x8_100; omega) (z247.cell (G257 ql hql (by rw [tql]; rfl))) ((G257 qm hqm (by rw [tqm]; rfl)).trans z248) (fun j hj => ((ai_fr G257 hqd (by rw [tqd]; rfl)).trans (z249 j hj))) (z250.keep ((Grow.refl (s := a1.toInt.toNat)).cell (G257 ql hql (by rw [tql]; rfl))) (G257 qd hqd (by rw [tqd]; rfl))) (fun k hk => ((p257_1 k (fw_sub (by decide) hk)).trans (z251 k hk))) (by rw [((p257_1 22 (by decide)).trans rfl)]; have := fb_rng x8_100; omega) (by have := fb_rng x8_100; omega) (lv_sub hl_100 [0, 1, 2, 3, 4, 6, 7, 8] rfl)
      have J82 : ∀ (x6_82 : Int32) (x7_82 : Int32) (E_82 : Ec) (H_82 : Heap) (k_82 : List Loc) (l_82 : Array Slot), Now D TB cy (va_A (va_pl L E) sz) s L τ E_82 H_82 k_82 → Fr L τ (inW [(11, 0), (75, 0), (77, 0), (78, 0), (79, 0)]) E E_82 → (0 ≤ a1.toInt) → (a1.toInt ≤ 49) → (0 ≤ a2.toInt) → (a2.toInt ≤ 7) → (0 ≤ x3_8.toInt) → (x3_8.toInt ≤ 8) → (-1 ≤ x4_8.toInt) → (x4_8.toInt ≤ 1) → (0 ≤ x6_82.toInt) → (x6_82.toInt ≤ 120) → (0 ≤ x7_82.toInt) → (x7_82.toInt ≤ 1) → (Grow E E_82 ql a1.toInt.toNat) → (E_82 qm = E qm) → (∀ j : Nat, ¬ (64 * a1.toInt.toNat + 8 * a2.toInt.toNat ≤ j ∧ j < 64 * a1.toInt.toNat + 8 * a2.toInt.toNat + 8) → ai E_82 qd j = ai E qd j) → (Parts E_82 ql qd a1.toInt.toNat (64 * a1.toInt.toNat + 8 * a2.toInt.toNat) x3_8 ) → (∀ k : Nat, k ∉ ([5, 6, 22] : List Nat) → fi E_82 a0 k = fi E a0 k) → (0 ≤ (fi E_82 a0 22).toInt ∧ (fi E_82 a0 22).toInt ≤ 120 ∧ (fi E_8 a0 22).toInt ≤ (fi E_82 a0 22).toInt ∧ x5_8.toInt = 1) → lv_has l_82 10 [(0, .ref a0), (1, .int a1), (2, .int a2), (3, .int x3_8), (4, .int x4_8), (6, .int x6_82), (7, .int x7_82)] → W p l e { frames := 3, cells := 0, slots := 0, locals := 72 } s m args below meth c H_82 k_82 0 0 QQ (F0 m 82 l_82 []) := by
        intro x6_82 x7_82 E_82 H_82 k_82 l_82 S_82 F_82 z261 z262 z263 z264 z265 z266 z267 z268 z269 z270 z271 z272 z273 z274 z275 z276 z277 z278 hl_82
        obtain ⟨v279, ev279, tv279⟩ : ∃ v : Int32, Int32.ofInt (1) = v ∧ v.toInt = 1 := ⟨_, rfl, by decide +kernel⟩
        refine lv_iconst hx hb dX10_sum_82 ev279 ?_
        refine lv_istore (lv' := [(8, .int v279), (0, .ref a0), (1, .int a1), (2, .int a2), (3, .int x3_8), (4, .int x4_8), (6, .int x6_82), (7, .int x7_82)]) hx hb dX10_sum_83 hl_82 (by decide) rfl (fun l280 hl281 => ?_)
        obtain ⟨v282, ev282, tv282⟩ : ∃ v : Int32, (Int8.ofInt (8)).toInt32 = v ∧ v.toInt = 8 := ⟨_, rfl, by decide +kernel⟩
        refine lv_bipush hx hb dX10_sum_85 ev282 ?_
        refine lv_istore (lv' := [(9, .int v282), (8, .int v279), (0, .ref a0), (1, .int a1), (2, .int a2), (3, .int x3_8), (4, .int x4_8), (6, .int x6_82), (7, .int x7_82)]) hx hb dX10_sum_87 hl281 (by decide) rfl (fun l283 hl284 => ?_)
        refine lv_iload hx hb dX10_sum_89 (lv_at hl284 8 rfl) ?_
        refine lv_if_eq (tgt := 100) hx hb dX10_sum_91 (by decide) (fun c285 => ?_) (fun c285 => ?_)
        · skip
          have tc285 := nu_eq c285
          have uc285 : (0 : Int32).toInt = 0 := rfl
          exact J100 x6_82 x7_82 v279 v282 E_82 H_82 k_82 l283 S_82 F_82 (by omega) (by omega) (by omega) (by omega) (by omega) (by omega) (by omega) (by omega) (by omega) (by omega) (by omega) (by omega) (by omega) (by omega) z273 z274 (fun j hj => (z275 j hj)) (z276.keep (Grow.refl (s := a1.toInt.toNat)) rfl) (fun k hk => (z277 k hk)) (by omega) (fi_rng S_82.2 ha0 ta0 rfl rfl) (lv_sub hl284 [2, 3, 4, 5, 6, 7, 8, 1, 0] rfl)
        · skip
          have tc285 := nu_ne c285
          have uc285 : (0 : Int32).toInt = 0 := rfl
          refine lv_aload_n hx hb dX10_sum_94 rfl (lv_at hl284 2 rfl) ?_
          refine tc_vi Z.1 Z.2.2.2.1 Z.2.2.2.2.1 Z.2.2.2.2.2 S_82.1 S_82.2 ha0 ta0 rfl rfl (k_X10_digits l D cy S_82.2 ha0 ta0) (cwV 0 hts gX10_sum_X10_digits rfl rfl rfl (by decide +kernel) ⟨Nat.le_of_ble_eq_true rfl, Nat.le_of_ble_eq_true rfl⟩) rfl hl284.1 rfl (Nat.le_of_ble_eq_true rfl) dX10_sum_95 ⟨Nat.zero_le _, Nat.zero_le _⟩ (fun v289 E286 H287 k288 W286 I286 G286 p286 => ?_)
          obtain ⟨p286_0, p286_1⟩ := p286
          have S286 : Now D TB cy (va_A (va_pl L E) sz) s L τ E286 H287 k288 := ⟨W286, I286⟩
          have F286 : Fr L τ (inW [(11, 0), (75, 0), (77, 0), (78, 0), (79, 0)]) E E286 := F_82.trans (G286.mono (inW_mono (by decide)))
          have kz286_22 := fi_rng (k := 22) S286.2 ha0 ta0 rfl rfl
          refine lv_istore (lv' := [(8, .int v289), (9, .int v282), (0, .ref a0), (1, .int a1), (2, .int a2), (3, .int x3_8), (4, .int x4_8), (6, .int x6_82), (7, .int x7_82)]) hx hb dX10_sum_98 hl284 (by decide) rfl (fun l290 hl291 => ?_)
          exact J100 x6_82 x7_82 v289 v282 E286 H287 k288 l290 S286 F286 (by have := fb_rng v289; omega) (by have := fb_rng v289; omega) (by have := fb_rng v289; omega) (by have := fb_rng v289; omega) (by have := fb_rng v289; omega) (by have := fb_rng v289; omega) (by have := fb_rng v289; omega) (by have := fb_rng v289; omega) (by have := fb_rng v289; omega) (by have := fb_rng v289; omega) (by have := fb_rng v289; omega) (by have := fb_rng v289; omega) (by have := fb_rng v289; omega) (by have := fb_rng v289; omega) (z273.cell (G286 ql hql (by rw [tql]; rfl))) ((G286 qm hqm (by rw [tqm]; rfl)).trans z274) (fun j hj => ((ai_fr G286 hqd (by rw [tqd]; rfl)).trans (z275 j hj))) (z276.keep ((Grow.refl (s := a1.toInt.toNat)).cell (G286 ql hql (by rw [tql]; rfl))) (G286 qd hqd (by rw [tqd]; rfl))) (fun k hk => ((p286_1 k (fw_sub (by decide) hk)).trans (z277 k hk))) (by have := fb_rng v289; omega) (fi_rng S286.2 ha0 ta0 rfl rfl) (lv_sub hl291 [2, 3, 4, 5, 6, 7, 8, 0, 1] rfl)
      have J53 : ∀ (x6_53 : Int32) (y0_53 : Int32) (E_53 : Ec) (H_53 : Heap) (k_53 : List Loc) (l_53 : Array Slot), Now D TB cy (va_A (va_pl L E) sz) s L τ E_53 H_53 k_53 → Fr L τ (inW [(11, 0), (75, 0), (77, 0), (78, 0), (79, 0)]) E E_53 → (0 ≤ a1.toInt) → (a1.toInt ≤ 49) → (0 ≤ a2.toInt) → (a2.toInt ≤ 7) → (0 ≤ x3_8.toInt) → (x3_8.toInt ≤ 8) → (-1 ≤ x4_8.toInt) → (x4_8.toInt ≤ 1) → (0 ≤ x6_53.toInt) → (x6_53.toInt ≤ 120) → (0 ≤ y0_53.toInt) → (y0_53.toInt ≤ 1) → (Grow E E_53 ql a1.toInt.toNat) → (E_53 qm = E qm) → (∀ j : Nat, ¬ (64 * a1.toInt.toNat + 8 * a2.toInt.toNat ≤ j ∧ j < 64 * a1.toInt.toNat + 8 * a2.toInt.toNat + 8) → ai E_53 qd j = ai E qd j) → (Parts E_53 ql qd a1.toInt.toNat (64 * a1.toInt.toNat + 8 * a2.toInt.toNat) x3_8 ) → (∀ k : Nat, k ∉ ([5, 6, 22] : List Nat) → fi E_53 a0 k = fi E a0 k) → (0 ≤ (fi E_53 a0 22).toInt ∧ (fi E_53 a0 22).toInt ≤ 120 ∧ (fi E_8 a0 22).toInt ≤ (fi E_53 a0 22).toInt ∧ x5_8.toInt = 1) → lv_has l_53 10 [(0, .ref a0), (1, .int a1), (2, .int a2), (3, .int x3_8), (4, .int x4_8), (6, .int x6_53)] → W p l e { frames := 3, cells := 0, slots := 0, locals := 72 } s m args below meth c H_53 k_53 0 0 QQ (F0 m 53 l_53 [.int y0_53]) := by
        intro x6_53 y0_53 E_53 H_53 k_53 l_53 S_53 F_53 z292 z293 z294 z295 z296 z297 z298 z299 z300 z301 z302 z303 z304 z305 z306 z307 z308 z309 hl_53
        refine lv_istore (lv' := [(7, .int y0_53), (0, .ref a0), (1, .int a1), (2, .int a2), (3, .int x3_8), (4, .int x4_8), (6, .int x6_53)]) hx hb dX10_sum_53 hl_53 (by decide) rfl (fun l310 hl311 => ?_)
        refine lv_iload hx hb dX10_sum_55 (lv_at hl311 0 rfl) ?_
        refine lv_if_ne (tgt := 82) hx hb dX10_sum_57 (by decide) (fun c312 => ?_) (fun c312 => ?_)
        · skip
          have tc312 := nu_ne c312
          have uc312 : (0 : Int32).toInt = 0 := rfl
          exact J82 x6_53 y0_53 E_53 H_53 k_53 l310 S_53 F_53 (by omega) (by omega) (by omega) (by omega) (by omega) (by omega) (by omega) (by omega) (by omega) (by omega) (by omega) (by omega) z304 z305 (fun j hj => (z306 j hj)) (z307.keep (Grow.refl (s := a1.toInt.toNat)) rfl) (fun k hk => (z308 k hk)) (by omega) (lv_sub hl311 [1, 2, 3, 4, 5, 6, 0] rfl)
        · skip
          have tc312 := nu_eq c312
          have uc312 : (0 : Int32).toInt = 0 := rfl
          refine lv_aload_n hx hb dX10_sum_60 rfl (lv_at hl311 1 rfl) ?_
          refine lv_aload_n hx hb dX10_sum_61 rfl (lv_at hl311 1 rfl) ?_
          refine tc_vl Z.1 Z.2.2.2.1 Z.2.2.2.2.1 Z.2.2.2.2.2 S_53.1 S_53.2 ha0 ta0 rfl rfl (k_X10_wordAt l D cy S_53.2 ha0 ta0) (cwV 0 hts gX10_sum_X10_wordAt rfl rfl rfl (by decide +kernel) ⟨Nat.le_of_ble_eq_true rfl, Nat.le_of_ble_eq_true rfl⟩) rfl hl311.1 rfl (Nat.le_of_ble_eq_true rfl) dX10_sum_62 ⟨Nat.zero_le _, Nat.zero_le _⟩ (fun v316 E313 H314 k315 W313 I313 G313 p313 => ?_)
          have q313 := p313
          have q313 := q313.symm
          subst q313
          have S313 : Now D TB cy (va_A (va_pl L E) sz) s L τ E_53 H314 k315 := ⟨W313, I313⟩
          refine tc_vi Z.1 Z.2.2.2.1 Z.2.2.2.2.1 Z.2.2.2.2.2 S313.1 S313.2 ha0 ta0 rfl rfl (k_X10_nameOf l D cy S313.2 ha0 ta0 v316) (cwV 1 hts gX10_sum_X10_nameOf rfl rfl rfl (by decide +kernel) ⟨Nat.le_of_ble_eq_true rfl, Nat.le_of_ble_eq_true rfl⟩) rfl hl311.1 rfl (Nat.le_of_ble_eq_true rfl) dX10_sum_65 ⟨Nat.zero_le _, Nat.zero_le _⟩ (fun v320 E317 H318 k319 W317 I317 G317 p317 => ?_)
          obtain ⟨q317, p317_0, p317_1⟩ := p317
          have q317 := q317.symm
          subst q317
          have S317 : Now D TB cy (va_A (va_pl L E) sz) s L τ E_53 H318 k319 := ⟨W317, I317⟩
          obtain ⟨v321, ev321, tv321⟩ : ∃ v : Int32, Int32.ofInt (-1) = v ∧ v.toInt = -1 := ⟨_, rfl, by decide +kernel⟩
          refine lv_iconst hx hb dX10_sum_68 ev321 ?_
          refine lv_icmp_ne (tgt := 82) hx hb dX10_sum_69 (by decide) (fun c322 => ?_) (fun c322 => ?_)
          · skip
            have tc322 := nu_ne c322
            exact J82 x6_53 y0_53 E_53 H318 k319 l310 S317 F_53 (by omega) (by omega) (by omega) (by omega) (by omega) (by omega) (by omega) (by omega) (by omega) (by omega) (by omega) (by omega) z304 z305 (fun j hj => (z306 j hj)) (z307.keep (Grow.refl (s := a1.toInt.toNat)) rfl) (fun k hk => (z308 k hk)) (by omega) (lv_sub hl311 [1, 2, 3, 4, 5, 6, 0] rfl)
          · skip
            have tc322 := nu_eq c322
            refine lv_aload_n hx hb dX10_sum_72 rfl (lv_at hl311 1 rfl) ?_
            obtain ⟨v323, ev323, tv323⟩ : ∃ v : Int32, Int32.ofInt (1) = v ∧ v.toInt = 1 := ⟨_, rfl, by decide +kernel⟩
            refine lv_iconst hx hb dX10_sum_73 ev323 ?_
            refine lv_aload_n hx hb dX10_sum_74 rfl (lv_at hl311 1 rfl) ?_
            refine tr_geti Z.1 Z.2.2.2.1 S317.1 S317.2 ha0 ta0 rfl rfl (fun _ h => List.mem_cons_of_mem _ (List.mem_append_right _ h)) 22 (by decide) rfl (hts _ (List.mem_of_getElem? (i := 1) rfl)) dX10_sum_75 (fun v324 ev324 lv324 uv324 => ?_)
            have wv324 : v324 = (fi E_53 a0 22) := ev324.symm.trans rfl
            have xv324 : v324.toInt = (fi E_53 a0 22).toInt := by rw [wv324]
            refine tc_vv Z.1 Z.2.2.2.1 Z.2.2.2.2.1 Z.2.2.2.2.2 S317.1 S317.2 ha0 ta0 rfl rfl (k_X10_wrong l D cy S317.2 ha0 ta0 v323 (by omega) (by omega) v324) (cwV 2 hts gX10_sum_X10_wrong rfl rfl rfl (by decide +kernel) ⟨Nat.le_of_ble_eq_true rfl, Nat.le_of_ble_eq_true rfl⟩) rfl hl311.1 rfl (Nat.le_of_ble_eq_true rfl) dX10_sum_78 ⟨Nat.zero_le _, Nat.zero_le _⟩ (fun E325 H326 k327 W325 I325 G325 p325 => ?_)
            obtain ⟨p325_0, p325_1⟩ := p325
            have S325 : Now D TB cy (va_A (va_pl L E) sz) s L τ E325 H326 k327 := ⟨W325, I325⟩
            have F325 : Fr L τ (inW [(11, 0), (75, 0), (77, 0), (78, 0), (79, 0)]) E E325 := F_53.trans (G325.mono (inW_mono (by decide)))
            have kz325_5 := fi_rng (k := 5) S325.2 ha0 ta0 rfl rfl
            rw [← hQ]
            exact en_v Z S325 F325 ⟨(z304.cell (G325 ql hql (by rw [tql]; rfl))), (fun j _ => congrFun (ai_cell ((G325 qm hqm (by rw [tqm]; rfl)).trans z305)) j), (fun j hj => ((ai_fr G325 hqd (by rw [tqd]; rfl)).trans (z306 j hj))), (fun h => absurd h (by omega)), (fun k hk => ((p325_1 k (fw_sub (by decide) hk)).trans (z308 k hk)))⟩ dX10_sum_81
      have J52 : ∀ (x6_52 : Int32) (E_52 : Ec) (H_52 : Heap) (k_52 : List Loc) (l_52 : Array Slot), Now D TB cy (va_A (va_pl L E) sz) s L τ E_52 H_52 k_52 → Fr L τ (inW [(11, 0), (75, 0), (77, 0), (78, 0), (79, 0)]) E E_52 → (0 ≤ a1.toInt) → (a1.toInt ≤ 49) → (0 ≤ a2.toInt) → (a2.toInt ≤ 7) → (0 ≤ x3_8.toInt) → (x3_8.toInt ≤ 8) → (-1 ≤ x4_8.toInt) → (x4_8.toInt ≤ 1) → (0 ≤ x6_52.toInt) → (x6_52.toInt ≤ 120) → (Grow E E_52 ql a1.toInt.toNat) → (E_52 qm = E qm) → (∀ j : Nat, ¬ (64 * a1.toInt.toNat + 8 * a2.toInt.toNat ≤ j ∧ j < 64 * a1.toInt.toNat + 8 * a2.toInt.toNat + 8) → ai E_52 qd j = ai E qd j) → (Parts E_52 ql qd a1.toInt.toNat (64 * a1.toInt.toNat + 8 * a2.toInt.toNat) x3_8 ) → (∀ k : Nat, k ∉ ([5, 6, 22] : List Nat) → fi E_52 a0 k = fi E a0 k) → (0 ≤ (fi E_52 a0 22).toInt ∧ (fi E_52 a0 22).toInt ≤ 120 ∧ (fi E_8 a0 22).toInt ≤ (fi E_52 a0 22).toInt ∧ x5_8.toInt = 1) → lv_has l_52 10 [(0, .ref a0), (1, .int a1), (2, .int a2), (3, .int x3_8), (4, .int x4_8), (6, .int x6_52)] → W p l e { frames := 3, cells := 0, slots := 0, locals := 72 } s m args below meth c H_52 k_52 0 0 QQ (F0 m 52 l_52 []) := by
        intro x6_52 E_52 H_52 k_52 l_52 S_52 F_52 z329 z330 z331 z332 z333 z334 z335 z336 z337 z338 z339 z340 z341 z342 z343 z344 hl_52
        obtain ⟨v345, ev345, tv345⟩ : ∃ v : Int32, Int32.ofInt (0) = v ∧ v.toInt = 0 := ⟨_, rfl, by decide +kernel⟩
        refine lv_iconst hx hb dX10_sum_52 ev345 ?_
        exact J53 x6_52 v345 E_52 H_52 k_52 l_52 S_52 F_52 (by omega) (by omega) (by omega) (by omega) (by omega) (by omega) (by omega) (by omega) (by omega) (by omega) (by omega) (by omega) z339 z340 (fun j hj => (z341 j hj)) (z342.keep (Grow.refl (s := a1.toInt.toNat)) rfl) (fun k hk => (z343 k hk)) (by omega) (lv_sub hl_52 [0, 1, 2, 3, 4, 5] rfl)
      refine lv_iload hx hb dX10_sum_8 (lv_at hl_8 5 rfl) ?_
      refine lv_if_eq (tgt := 283) hx hb dX10_sum_10 (by decide) (fun c346 => ?_) (fun c346 => ?_)
      · skip
        have tc346 := nu_eq c346
        have uc346 : (0 : Int32).toInt = 0 := rfl
        exact J283 x3_8 E_8 H_8 k_8 l_8 S_8 F_8 (by omega) (by omega) (by omega) (by omega) (by omega) (by omega) z29 z30 (fun j hj => (z31 j hj)) (z32.keep (Grow.refl (s := a1.toInt.toNat)) rfl) (fun k hk => (z33 k hk)) (lv_sub hl_8 [0, 1, 2, 3] rfl)
      · skip
        have tc346 := nu_ne c346
        have uc346 : (0 : Int32).toInt = 0 := rfl
        refine lv_aload_n hx hb dX10_sum_13 rfl (lv_at hl_8 0 rfl) ?_
        refine tc_vi Z.1 Z.2.2.2.1 Z.2.2.2.2.1 Z.2.2.2.2.2 S_8.1 S_8.2 ha0 ta0 rfl rfl (k_X10_bad l D cy S_8.2 ha0 ta0) (cwV 0 hts gX10_sum_X10_bad rfl rfl rfl (by decide +kernel) ⟨Nat.le_of_ble_eq_true rfl, Nat.le_of_ble_eq_true rfl⟩) rfl hl_8.1 rfl (Nat.le_of_ble_eq_true rfl) dX10_sum_14 ⟨Nat.zero_le _, Nat.zero_le _⟩ (fun v350 E347 H348 k349 W347 I347 G347 p347 => ?_)
        obtain ⟨q347, p347_0, p347_1, p347_2⟩ := p347
        have q347 := q347.symm
        subst q347
        have S347 : Now D TB cy (va_A (va_pl L E) sz) s L τ E_8 H348 k349 := ⟨W347, I347⟩
        have kz347_5 := fi_rng (k := 5) S347.2 ha0 ta0 rfl rfl
        refine lv_if_ne (tgt := 283) hx hb dX10_sum_17 (by decide) (fun c351 => ?_) (fun c351 => ?_)
        · skip
          have tc351 := nu_ne c351
          have uc351 : (0 : Int32).toInt = 0 := rfl
          exact J283 x3_8 E_8 H348 k349 l_8 S347 F_8 (by omega) (by omega) (by omega) (by omega) (by omega) (by omega) z29 z30 (fun j hj => (z31 j hj)) (z32.keep (Grow.refl (s := a1.toInt.toNat)) rfl) (fun k hk => (z33 k hk)) (lv_sub hl_8 [0, 1, 2, 3] rfl)
        · skip
          have tc351 := nu_eq c351
          have uc351 : (0 : Int32).toInt = 0 := rfl
          refine lv_aload_n hx hb dX10_sum_20 rfl (lv_at hl_8 0 rfl) ?_
          refine tc_vv Z.1 Z.2.2.2.1 Z.2.2.2.2.1 Z.2.2.2.2.2 S347.1 S347.2 ha0 ta0 rfl rfl (k_X10_blanks l D cy S347.2 ha0 ta0) (cwV 0 hts gX10_sum_X10_blanks rfl rfl rfl (by decide +kernel) ⟨Nat.le_of_ble_eq_true rfl, Nat.le_of_ble_eq_true rfl⟩) rfl hl_8.1 rfl (Nat.le_of_ble_eq_true rfl) dX10_sum_21 ⟨Nat.zero_le _, Nat.zero_le _⟩ (fun E352 H353 k354 W352 I352 G352 p352 => ?_)
          obtain ⟨p352_0, p352_1⟩ := p352
          have S352 : Now D TB cy (va_A (va_pl L E) sz) s L τ E352 H353 k354 := ⟨W352, I352⟩
          have F352 : Fr L τ (inW [(11, 0), (75, 0), (77, 0), (78, 0), (79, 0)]) E E352 := F_8.trans (G352.mono (inW_mono (by decide)))
          have kz352_22 := fi_rng (k := 22) S352.2 ha0 ta0 rfl rfl
          refine lv_aload_n hx hb dX10_sum_24 rfl (lv_at hl_8 0 rfl) ?_
          refine tr_geti Z.1 Z.2.2.2.1 S352.1 S352.2 ha0 ta0 rfl rfl (fun _ h => List.mem_cons_of_mem _ (List.mem_append_right _ h)) 22 (by decide) rfl (hts _ (List.mem_of_getElem? (i := 1) rfl)) dX10_sum_25 (fun v356 ev356 lv356 uv356 => ?_)
          have wv356 : v356 = (fi E352 a0 22) := ev356.symm.trans rfl
          have xv356 : v356.toInt = (fi E352 a0 22).toInt := by rw [wv356]
          refine lv_istore (lv' := [(6, .int v356), (0, .ref a0), (1, .int a1), (2, .int a2), (3, .int x3_8), (4, .int x4_8), (5, .int x5_8)]) hx hb dX10_sum_28 hl_8 (by decide) rfl (fun l357 hl358 => ?_)
          refine lv_aload_n hx hb dX10_sum_30 rfl (lv_at hl358 1 rfl) ?_
          refine tc_vi Z.1 Z.2.2.2.1 Z.2.2.2.2.1 Z.2.2.2.2.2 S352.1 S352.2 ha0 ta0 rfl rfl (k_X10_look l D cy S352.2 ha0 ta0) (cwV 0 hts gX10_sum_X10_look rfl rfl rfl (by decide +kernel) ⟨Nat.le_of_ble_eq_true rfl, Nat.le_of_ble_eq_true rfl⟩) rfl hl358.1 rfl (Nat.le_of_ble_eq_true rfl) dX10_sum_31 ⟨Nat.zero_le _, Nat.zero_le _⟩ (fun v362 E359 H360 k361 W359 I359 G359 p359 => ?_)
          obtain ⟨q359, p359_0, p359_1, p359_2⟩ := p359
          have q359 := q359.symm
          subst q359
          have S359 : Now D TB cy (va_A (va_pl L E) sz) s L τ E352 H360 k361 := ⟨W359, I359⟩
          rw [ev356] at p359_0
          obtain ⟨v363, ev363, tv363⟩ : ∃ v : Int32, (Int8.ofInt (48)).toInt32 = v ∧ v.toInt = 48 := ⟨_, rfl, by decide +kernel⟩
          refine lv_bipush hx hb dX10_sum_34 ev363 ?_
          refine lv_icmp_lt (tgt := 52) hx hb dX10_sum_36 (by decide) (fun c364 => ?_) (fun c364 => ?_)
          · skip
            have tc364 := nu_lt c364
            exact J52 v356 E352 H360 k361 l357 S359 F352 (by omega) (by omega) (by omega) (by omega) (by omega) (by omega) (by omega) (by omega) (by omega) (by omega) (z29.cell (G352 ql hql (by rw [tql]; rfl))) ((G352 qm hqm (by rw [tqm]; rfl)).trans z30) (fun j hj => ((ai_fr G352 hqd (by rw [tqd]; rfl)).trans (z31 j hj))) (z32.keep ((Grow.refl (s := a1.toInt.toNat)).cell (G352 ql hql (by rw [tql]; rfl))) (G352 qd hqd (by rw [tqd]; rfl))) (fun k hk => ((p352_1 k (fw_sub (by decide) hk)).trans (z33 k hk))) (by rw [ev356]; omega) (lv_sub hl358 [1, 2, 3, 4, 5, 0] rfl)
          · skip
            have tc364 := nu_nlt c364
            refine lv_aload_n hx hb dX10_sum_39 rfl (lv_at hl358 1 rfl) ?_
            refine tc_vi Z.1 Z.2.2.2.1 Z.2.2.2.2.1 Z.2.2.2.2.2 S359.1 S359.2 ha0 ta0 rfl rfl (k_X10_look l D cy S359.2 ha0 ta0) (cwV 0 hts gX10_sum_X10_look rfl rfl rfl (by decide +kernel) ⟨Nat.le_of_ble_eq_true rfl, Nat.le_of_ble_eq_true rfl⟩) rfl hl358.1 rfl (Nat.le_of_ble_eq_true rfl) dX10_sum_40 ⟨Nat.zero_le _, Nat.zero_le _⟩ (fun v368 E365 H366 k367 W365 I365 G365 p365 => ?_)
            obtain ⟨q365, p365_0, p365_1, p365_2⟩ := p365
            have q365 := q365.symm
            subst q365
            have S365 : Now D TB cy (va_A (va_pl L E) sz) s L τ E352 H366 k367 := ⟨W365, I365⟩
            rw [ev356] at p365_0
            obtain ⟨v369, ev369, tv369⟩ : ∃ v : Int32, (Int8.ofInt (57)).toInt32 = v ∧ v.toInt = 57 := ⟨_, rfl, by decide +kernel⟩
            refine lv_bipush hx hb dX10_sum_43 ev369 ?_
            refine lv_icmp_gt (tgt := 52) hx hb dX10_sum_45 (by decide) (fun c370 => ?_) (fun c370 => ?_)
            · skip
              have tc370 := nu_lt c370
              exact J52 v356 E352 H366 k367 l357 S365 F352 (by omega) (by omega) (by omega) (by omega) (by omega) (by omega) (by omega) (by omega) (by omega) (by omega) (z29.cell (G352 ql hql (by rw [tql]; rfl))) ((G352 qm hqm (by rw [tqm]; rfl)).trans z30) (fun j hj => ((ai_fr G352 hqd (by rw [tqd]; rfl)).trans (z31 j hj))) (z32.keep ((Grow.refl (s := a1.toInt.toNat)).cell (G352 ql hql (by rw [tql]; rfl))) (G352 qd hqd (by rw [tqd]; rfl))) (fun k hk => ((p352_1 k (fw_sub (by decide) hk)).trans (z33 k hk))) (by rw [ev356]; omega) (lv_sub hl358 [1, 2, 3, 4, 5, 0] rfl)
            · skip
              have tc370 := nu_nlt c370
              obtain ⟨v371, ev371, tv371⟩ : ∃ v : Int32, Int32.ofInt (1) = v ∧ v.toInt = 1 := ⟨_, rfl, by decide +kernel⟩
              refine lv_iconst hx hb dX10_sum_48 ev371 ?_
              refine lv_goto (tgt := 53) hx hb dX10_sum_49 (by decide) ?_
              exact J53 v356 v371 E352 H366 k367 l357 S365 F352 (by omega) (by omega) (by omega) (by omega) (by omega) (by omega) (by omega) (by omega) (by omega) (by omega) (by omega) (by omega) (z29.cell (G352 ql hql (by rw [tql]; rfl))) ((G352 qm hqm (by rw [tqm]; rfl)).trans z30) (fun j hj => ((ai_fr G352 hqd (by rw [tqd]; rfl)).trans (z31 j hj))) (z32.keep ((Grow.refl (s := a1.toInt.toNat)).cell (G352 ql hql (by rw [tql]; rfl))) (G352 qd hqd (by rw [tqd]; rfl))) (fun k hk => ((p352_1 k (fw_sub (by decide) hk)).trans (z33 k hk))) (by rw [ev356]; omega) (lv_sub hl358 [1, 2, 3, 4, 5, 0] rfl)
  obtain ⟨v372, ev372, tv372⟩ : ∃ v : Int32, Int32.ofInt (0) = v ∧ v.toInt = 0 := ⟨_, rfl, by decide +kernel⟩
  refine lv_iconst hx hb dX10_sum_0 ev372 ?_
  refine lv_istore_n (lv' := [(3, .int v372), (0, .ref a0), (1, .int a1), (2, .int a2)]) hx hb dX10_sum_1 rfl hl (by decide) rfl (fun l373 hl374 => ?_)
  obtain ⟨v375, ev375, tv375⟩ : ∃ v : Int32, Int32.ofInt (1) = v ∧ v.toInt = 1 := ⟨_, rfl, by decide +kernel⟩
  refine lv_iconst hx hb dX10_sum_2 ev375 ?_
  refine lv_istore (lv' := [(4, .int v375), (3, .int v372), (0, .ref a0), (1, .int a1), (2, .int a2)]) hx hb dX10_sum_3 hl374 (by decide) rfl (fun l376 hl377 => ?_)
  obtain ⟨v378, ev378, tv378⟩ : ∃ v : Int32, Int32.ofInt (1) = v ∧ v.toInt = 1 := ⟨_, rfl, by decide +kernel⟩
  refine lv_iconst hx hb dX10_sum_5 ev378 ?_
  refine lv_istore (lv' := [(5, .int v378), (4, .int v375), (3, .int v372), (0, .ref a0), (1, .int a1), (2, .int a2)]) hx hb dX10_sum_6 hl377 (by decide) rfl (fun l379 hl380 => ?_)
  exact J8 _ v372 v375 v378 E s.heap [] l379 S0 F0_ (by omega) (by omega) (by omega) (by omega) (by omega) (by omega) (by omega) (by omega) (by omega) (by omega) (Grow.refl (s := a1.toInt.toNat)) rfl (fun j hj => rfl) (fun i hi _ => absurd hi (by omega)) (fun k hk => ((fun k hk => rfl) k hk)) (by omega) (Nat.lt_succ_self _) (lv_sub hl380 [3, 4, 5, 2, 1, 0] rfl)

