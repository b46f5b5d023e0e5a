set_option maxHeartbeats 4000000 in
set_option maxRecDepth 100000 in
theorem k_X9_sweep_vt (l : Launch) (D : va_G) (cy : Nat → ClassId) {L : List Nat} {τ : Nat → Ro} {E : Ec} (hI : Inv TB cy L τ E) {a0 : Nat} (ha0 : a0 ∈ L) (ta0 : τ a0 = (0, 0)) {qb : Nat} (hqb : qb ∈ L) (tqb : τ qb = (9, 0)) : CtI l yX9_sweep wsX9_sweep { frames := 0, cells := 0, slots := 0, locals := 0 } D TB cy L τ E [.ref a0] (inW [(9, 0)]) (fun r E' => (r.toInt = (fi E qb 2).toInt ∧ (fi E' qb 2).toInt = 0)) := by
  intro sz
  refine sta (cc := cX9_sweep) (maxL := 2) hI (by decide) rfl (Nat.le_of_ble_eq_true rfl) (fun p e s m args below meth c ls hsz Z S0 hl => ?_)
  have hx := Z.1.1
  have hb := Z.1.2.1
  have hts := Z.1.2.2.2.2
  have F0_ : Fr L τ (inW [(9, 0)]) E E := Fr.refl
  have hl : lv_has ls 2 [(0, .ref a0)] := hl
  generalize hQ : MQ below _ args s 0 0 _ = QQ
  have kz_qb_2 := fi_rng (k := 2) hI hqb tqb rfl rfl
  refine lv_aload_n hx hb dX9_sweep_0 rfl (lv_at hl 0 rfl) ?_
  refine tr_getr Z.1 Z.2.2.2.1 S0.1 S0.2 ha0 ta0 rfl rfl (fun _ h => List.mem_cons_of_mem _ (List.mem_append_left _ (List.mem_append_right _ h))) 6 (by decide) rfl (hts _ (List.mem_of_getElem? (i := 1) rfl)) dX9_sweep_1 (fun q1 eq1 hq1 tq1 => ?_)
  have tq1 : τ q1 = (9, 0) := tq1
  have uq1 : qb = q1 := S0.2.2.2.2 _ hqb _ hq1 (tqb.trans tq1.symm) (by rw [tqb]; rfl)
  subst uq1
  refine tr_geti Z.1 Z.2.2.2.1 S0.1 S0.2 hqb tqb rfl rfl (fun _ h => List.mem_cons_of_mem _ (List.mem_append_right _ h)) 2 (by decide) rfl (hts _ (List.mem_of_getElem? (i := 2) rfl)) dX9_sweep_4 (fun v2 ev2 lv2 uv2 => ?_)
  have wv2 : v2 = (fi E qb 2) := ev2.symm.trans rfl
  have xv2 : v2.toInt = (fi E qb 2).toInt := by rw [wv2]
  refine lv_istore_n (lv' := [(1, .int v2), (0, .ref a0)]) hx hb dX9_sweep_7 rfl hl (by decide) rfl (fun l3 hl4 => ?_)
  refine lv_aload_n hx hb dX9_sweep_8 rfl (lv_at hl4 1 rfl) ?_
  refine tr_getr Z.1 Z.2.2.2.1 S0.1 S0.2 ha0 ta0 rfl rfl (fun _ h => List.mem_cons_of_mem _ (List.mem_append_left _ (List.mem_append_right _ h))) 6 (by decide) rfl (hts _ (List.mem_of_getElem? (i := 1) rfl)) dX9_sweep_9 (fun q5 eq5 hq5 tq5 => ?_)
  have tq5 : τ q5 = (9, 0) := tq5
  have uq5 : qb = q5 := S0.2.2.2.2 _ hqb _ hq5 (tqb.trans tq5.symm) (by rw [tqb]; rfl)
  subst uq5
  obtain ⟨v6, ev6, tv6⟩ : ∃ v : Int32, Int32.ofInt (0) = v ∧ v.toInt = 0 := ⟨_, rfl, by decide +kernel⟩
  refine lv_iconst hx hb dX9_sweep_12 ev6 ?_
  refine tr_puti Z.1 Z.2.2.2.1 S0.1 S0.2 hqb tqb rfl rfl (fun _ h => List.mem_cons_of_mem _ (List.mem_append_right _ h)) tyX0_ok nmX0 2 (by decide) rfl rfl rfl (hts _ (List.mem_of_getElem? (i := 2) rfl)) dX9_sweep_13 (by omega) (by omega) (fun E7 H8 k9 W7 I7 P7 => ?_)
  have S7 : Now D TB cy (va_A (va_pl L E) sz) s L τ E7 H8 k9 := ⟨W7, I7⟩
  have F7 : Fr L τ (inW [(9, 0)]) E E7 := Fr.put F0_ P7 tqb rfl
  refine lv_iload_n hx hb dX9_sweep_16 rfl (lv_at hl4 0 rfl) ?_
  rw [← hQ]
  exact en_i Z S7 F7 (by rw [(fi_at P7)]; omega) dX9_sweep_17

set_option maxHeartbeats 4000000 in
set_option maxRecDepth 100000 in
theorem k_X9_piece_vt (l : Launch) (D : va_G) (cy : Nat → ClassId) {L : List Nat} {τ : Nat → Ro} {E : Ec} (hI : Inv TB cy L τ E) {a0 : Nat} (ha0 : a0 ∈ L) (ta0 : τ a0 = (0, 0)) (a1 : Int32) {qb : Nat} (hqb : qb ∈ L) (tqb : τ qb = (9, 0)) : CtI l yX9_piece wsX9_piece { frames := 1, cells := 0, slots := 0, locals := 22 } D TB cy L τ E [.ref a0, .int a1] (inW [(0, 0), (9, 0), (39, 0)]) (fun r E' => ((1 ≤ a1.toInt ∧ a1.toInt ≤ 10000 ∧ (fi E qb 2).toInt < 12 ∧ r.toInt = (fi E qb 2).toInt + 1 ∧ (fi E' qb 2).toInt = (fi E qb 2).toInt + 1) ∨ (r.toInt = -1 ∧ (fi E' qb 2).toInt = (fi E qb 2).toInt ∧ ¬ (1 ≤ a1.toInt ∧ a1.toInt ≤ 10000 ∧ (fi E qb 2).toInt < 12)))) := by
  intro sz
  refine sta (cc := cX9_piece) (maxL := 2) hI (by decide) rfl (Nat.le_of_ble_eq_true rfl) (fun p e s m args below meth c ls hsz Z S0 hl => ?_)
  have hx := Z.1.1
  have hb := Z.1.2.1
  have hts := Z.1.2.2.2.2
  have F0_ : Fr L τ (inW [(0, 0), (9, 0), (39, 0)]) E E := Fr.refl
  have hl : lv_has ls 2 [(0, .ref a0), (1, .int a1)] := hl
  generalize hQ : MQ below _ args s 0 0 _ = QQ
  have kz_qb_2 := fi_rng (k := 2) hI hqb tqb rfl rfl
  refine lv_iload_n hx hb dX9_piece_0 rfl (lv_at hl 1 rfl) ?_
  obtain ⟨v1, ev1, tv1⟩ : ∃ v : Int32, Int32.ofInt (1) = v ∧ v.toInt = 1 := ⟨_, rfl, by decide +kernel⟩
  refine lv_iconst hx hb dX9_piece_1 ev1 ?_
  obtain ⟨v2, ev2, tv2⟩ : ∃ v : Int32, (Int16.ofInt (10000)).toInt32 = v ∧ v.toInt = 10000 := ⟨_, rfl, by decide +kernel⟩
  refine lv_sipush hx hb dX9_piece_2 ev2 ?_
  refine tc_si Z.1 Z.2.2.2.1 Z.2.2.2.2.1 Z.2.2.2.2.2 S0.1 (k_X9_within l D cy S0.2 a1 v1 v2) (va_cwS 3 hts gX9_piece_X9_within rfl rfl rfl (by decide +kernel) ⟨Nat.le_of_ble_eq_true rfl, Nat.le_of_ble_eq_true rfl⟩) rfl hl.1 rfl (Nat.le_of_ble_eq_true rfl) dX9_piece_5 ⟨Nat.zero_le _, Nat.zero_le _⟩ (fun v6 E3 H4 k5 W3 I3 G3 p3 => ?_)
  obtain ⟨q3, p3_0, p3_1, p3_2⟩ := p3
  have q3 := q3.symm
  subst q3
  have S3 : Now D TB cy (va_A (va_pl L E) sz) s L τ E H4 k5 := ⟨W3, I3⟩
  refine lv_if_ne (tgt := 17) hx hb dX9_piece_8 (by decide) (fun c7 => ?_) (fun c7 => ?_)
  · skip
    have tc7 := nu_ne c7
    have uc7 : (0 : Int32).toInt = 0 := rfl
    refine lv_aload_n hx hb dX9_piece_17 rfl (lv_at hl 0 rfl) ?_
    refine tr_getr Z.1 Z.2.2.2.1 S3.1 S3.2 ha0 ta0 rfl rfl (fun _ h => List.mem_cons_of_mem _ (List.mem_append_left _ (List.mem_append_right _ h))) 6 (by decide) rfl (hts _ (List.mem_of_getElem? (i := 1) rfl)) dX9_piece_18 (fun q8 eq8 hq8 tq8 => ?_)
    have tq8 : τ q8 = (9, 0) := tq8
    have uq8 : qb = q8 := S3.2.2.2.2 _ hqb _ hq8 (tqb.trans tq8.symm) (by rw [tqb]; rfl)
    subst uq8
    refine tr_geti Z.1 Z.2.2.2.1 S3.1 S3.2 hqb tqb rfl rfl (fun _ h => List.mem_cons_of_mem _ (List.mem_append_right _ h)) 2 (by decide) rfl (hts _ (List.mem_of_getElem? (i := 2) rfl)) dX9_piece_21 (fun v9 ev9 lv9 uv9 => ?_)
    have wv9 : v9 = (fi E qb 2) := ev9.symm.trans rfl
    have xv9 : v9.toInt = (fi E qb 2).toInt := by rw [wv9]
    obtain ⟨v10, ev10, tv10⟩ : ∃ v : Int32, (Int8.ofInt (12)).toInt32 = v ∧ v.toInt = 12 := ⟨_, rfl, by decide +kernel⟩
    refine lv_bipush hx hb dX9_piece_24 ev10 ?_
    refine lv_icmp_lt (tgt := 35) hx hb dX9_piece_26 (by decide) (fun c11 => ?_) (fun c11 => ?_)
    · skip
      have tc11 := nu_lt c11
      refine lv_aload_n hx hb dX9_piece_35 rfl (lv_at hl 0 rfl) ?_
      obtain ⟨v12, ev12, tv12⟩ : ∃ v : Int32, Int32.ofInt (0) = v ∧ v.toInt = 0 := ⟨_, rfl, by decide +kernel⟩
      refine lv_iconst hx hb dX9_piece_36 ev12 ?_
      refine tr_puti Z.1 Z.2.2.2.1 S3.1 S3.2 ha0 ta0 rfl rfl (fun _ h => List.mem_cons_of_mem _ (List.mem_append_left _ (List.mem_append_right _ h))) tyX9_ok nmX9 9 (by decide) rfl rfl rfl (hts _ (List.mem_of_getElem? (i := 3) rfl)) dX9_piece_37 (by have := fb_rng v12; omega) (by have := fb_rng v12; omega) (fun E13 H14 k15 W13 I13 P13 => ?_)
      have S13 : Now D TB cy (va_A (va_pl L E) sz) s L τ E13 H14 k15 := ⟨W13, I13⟩
      have F13 : Fr L τ (inW [(0, 0), (9, 0), (39, 0)]) E E13 := Fr.put F0_ P13 ta0 rfl
      refine lv_aload_n hx hb dX9_piece_40 rfl (lv_at hl 0 rfl) ?_
      refine tr_getr Z.1 Z.2.2.2.1 S13.1 S13.2 ha0 ta0 rfl rfl (fun _ h => List.mem_cons_of_mem _ (List.mem_append_left _ (List.mem_append_right _ h))) 6 (by decide) rfl (hts _ (List.mem_of_getElem? (i := 1) rfl)) dX9_piece_41 (fun q16 eq16 hq16 tq16 => ?_)
      have tq16 : τ q16 = (9, 0) := tq16
      have uq16 : qb = q16 := S13.2.2.2.2 _ hqb _ hq16 (tqb.trans tq16.symm) (by rw [tqb]; rfl)
      subst uq16
      refine tr_getr Z.1 Z.2.2.2.1 S13.1 S13.2 hqb tqb rfl rfl (fun _ h => List.mem_cons_of_mem _ (List.mem_append_right _ h)) 0 (by decide) rfl (hts _ (List.mem_of_getElem? (i := 4) rfl)) dX9_piece_44 (fun q17 eq17 hq17 tq17 => ?_)
      have tq17 : τ q17 = (39, 0) := tq17
      refine lv_aload_n hx hb dX9_piece_47 rfl (lv_at hl 0 rfl) ?_
      refine tr_getr Z.1 Z.2.2.2.1 S13.1 S13.2 ha0 ta0 rfl rfl (fun _ h => List.mem_cons_of_mem _ (List.mem_append_left _ (List.mem_append_right _ h))) 6 (by decide) rfl (hts _ (List.mem_of_getElem? (i := 1) rfl)) dX9_piece_48 (fun q18 eq18 hq18 tq18 => ?_)
      have tq18 : τ q18 = (9, 0) := tq18
      have uq18 : qb = q18 := S13.2.2.2.2 _ hqb _ hq18 (tqb.trans tq18.symm) (by rw [tqb]; rfl)
      subst uq18
      refine tr_geti Z.1 Z.2.2.2.1 S13.1 S13.2 hqb tqb rfl rfl (fun _ h => List.mem_cons_of_mem _ (List.mem_append_right _ h)) 2 (by decide) rfl (hts _ (List.mem_of_getElem? (i := 2) rfl)) dX9_piece_51 (fun v19 ev19 lv19 uv19 => ?_)
      have wv19 : v19 = v9 := ev19.symm.trans ((fi_put (k := 2) P13 (Or.inl (ne_ro tqb ta0 (by decide)))).trans ev9)
      have xv19 : v19.toInt = v9.toInt := by rw [wv19]
      refine lv_iload_n hx hb dX9_piece_54 rfl (lv_at hl 1 rfl) ?_
      refine tr_iast Z.1 Z.2.2.2.1 S13.1 S13.2 hq17 tq17 rfl (by omega) (by omega) (by have := fb_rng a1; omega) (by have := fb_rng a1; omega) dX9_piece_55 (fun E20 H21 k22 W20 I20 P20 => ?_)
      have S20 : Now D TB cy (va_A (va_pl L E) sz) s L τ E20 H21 k22 := ⟨W20, I20⟩
      have F20 : Fr L τ (inW [(0, 0), (9, 0), (39, 0)]) E E20 := Fr.set F13 P20 tq17 rfl
      refine lv_aload_n hx hb dX9_piece_56 rfl (lv_at hl 0 rfl) ?_
      refine tr_getr Z.1 Z.2.2.2.1 S20.1 S20.2 ha0 ta0 rfl rfl (fun _ h => List.mem_cons_of_mem _ (List.mem_append_left _ (List.mem_append_right _ h))) 6 (by decide) rfl (hts _ (List.mem_of_getElem? (i := 1) rfl)) dX9_piece_57 (fun q23 eq23 hq23 tq23 => ?_)
      have tq23 : τ q23 = (9, 0) := tq23
      have uq23 : qb = q23 := S20.2.2.2.2 _ hqb _ hq23 (tqb.trans tq23.symm) (by rw [tqb]; rfl)
      subst uq23
      refine lv_dup hx hb dX9_piece_60 rfl ?_
      refine tr_geti Z.1 Z.2.2.2.1 S20.1 S20.2 hqb tqb rfl rfl (fun _ h => List.mem_cons_of_mem _ (List.mem_append_right _ h)) 2 (by decide) rfl (hts _ (List.mem_of_getElem? (i := 2) rfl)) dX9_piece_61 (fun v24 ev24 lv24 uv24 => ?_)
      have wv24 : v24 = v19 := ev24.symm.trans ((fi_set (k := 2) P20 (ne_ro tqb tq17 (by decide))).trans ev19)
      have xv24 : v24.toInt = v19.toInt := by rw [wv24]
      obtain ⟨v25, ev25, tv25⟩ : ∃ v : Int32, Int32.ofInt (1) = v ∧ v.toInt = 1 := ⟨_, rfl, by decide +kernel⟩
      refine lv_iconst hx hb dX9_piece_64 ev25 ?_
      refine lv_iadd hx hb dX9_piece_65 ?_
      refine lv_topi (fun v26 ev26 => ?_)
      have tv26 := nu_add ev26 (by omega) (by omega)
      refine tr_puti Z.1 Z.2.2.2.1 S20.1 S20.2 hqb tqb rfl rfl (fun _ h => List.mem_cons_of_mem _ (List.mem_append_right _ h)) tyX0_ok nmX0 2 (by decide) rfl rfl rfl (hts _ (List.mem_of_getElem? (i := 2) rfl)) dX9_piece_66 (by omega) (by omega) (fun E27 H28 k29 W27 I27 P27 => ?_)
      have S27 : Now D TB cy (va_A (va_pl L E) sz) s L τ E27 H28 k29 := ⟨W27, I27⟩
      have F27 : Fr L τ (inW [(0, 0), (9, 0), (39, 0)]) E E27 := Fr.put F20 P27 tqb rfl
      refine lv_aload_n hx hb dX9_piece_69 rfl (lv_at hl 0 rfl) ?_
      refine tr_getr Z.1 Z.2.2.2.1 S27.1 S27.2 ha0 ta0 rfl rfl (fun _ h => List.mem_cons_of_mem _ (List.mem_append_left _ (List.mem_append_right _ h))) 6 (by decide) rfl (hts _ (List.mem_of_getElem? (i := 1) rfl)) dX9_piece_70 (fun q30 eq30 hq30 tq30 => ?_)
      have tq30 : τ q30 = (9, 0) := tq30
      have uq30 : qb = q30 := S27.2.2.2.2 _ hqb _ hq30 (tqb.trans tq30.symm) (by rw [tqb]; rfl)
      subst uq30
      refine tr_geti Z.1 Z.2.2.2.1 S27.1 S27.2 hqb tqb rfl rfl (fun _ h => List.mem_cons_of_mem _ (List.mem_append_right _ h)) 2 (by decide) rfl (hts _ (List.mem_of_getElem? (i := 2) rfl)) dX9_piece_73 (fun v31 ev31 lv31 uv31 => ?_)
      have wv31 : v31 = v26 := ev31.symm.trans (fi_at P27)
      have xv31 : v31.toInt = v26.toInt := by rw [wv31]
      rw [← hQ]
      exact en_i Z S27 F27 (by rw [ev31]; omega) dX9_piece_76
    · skip
      have tc11 := nu_nlt c11
      refine lv_aload_n hx hb dX9_piece_29 rfl (lv_at hl 0 rfl) ?_
      obtain ⟨v32, ev32, tv32⟩ : ∃ v : Int32, Int32.ofInt (3) = v ∧ v.toInt = 3 := ⟨_, rfl, by decide +kernel⟩
      refine lv_iconst hx hb dX9_piece_30 ev32 ?_
      refine tc_vi Z.1 Z.2.2.2.1 Z.2.2.2.2.1 Z.2.2.2.2.2 S3.1 S3.2 ha0 ta0 rfl rfl (k_X9_refuse l D cy S3.2 ha0 ta0 v32) (cwV 1 hts gX9_piece_X9_refuse rfl rfl rfl (by decide +kernel) ⟨Nat.le_of_ble_eq_true rfl, Nat.le_of_ble_eq_true rfl⟩) rfl hl.1 rfl (Nat.le_of_ble_eq_true rfl) dX9_piece_31 ⟨Nat.zero_le _, Nat.zero_le _⟩ (fun v36 E33 H34 k35 W33 I33 G33 p33 => ?_)
      obtain ⟨p33_0, p33_1⟩ := p33
      have S33 : Now D TB cy (va_A (va_pl L E) sz) s L τ E33 H34 k35 := ⟨W33, I33⟩
      have F33 : Fr L τ (inW [(0, 0), (9, 0), (39, 0)]) E E33 := F0_.trans (G33.mono (inW_mono (by decide)))
      rw [← hQ]
      exact en_i Z S33 F33 (by rw [((fi_fr (k := 2) G33 hqb (by rw [tqb]; rfl)).trans ev9)]; omega) dX9_piece_34
  · skip
    have tc7 := nu_eq c7
    have uc7 : (0 : Int32).toInt = 0 := rfl
    refine lv_aload_n hx hb dX9_piece_11 rfl (lv_at hl 0 rfl) ?_
    obtain ⟨v37, ev37, tv37⟩ : ∃ v : Int32, Int32.ofInt (1) = v ∧ v.toInt = 1 := ⟨_, rfl, by decide +kernel⟩
    refine lv_iconst hx hb dX9_piece_12 ev37 ?_
    refine tc_vi Z.1 Z.2.2.2.1 Z.2.2.2.2.1 Z.2.2.2.2.2 S3.1 S3.2 ha0 ta0 rfl rfl (k_X9_refuse l D cy S3.2 ha0 ta0 v37) (cwV 1 hts gX9_piece_X9_refuse rfl rfl rfl (by decide +kernel) ⟨Nat.le_of_ble_eq_true rfl, Nat.le_of_ble_eq_true rfl⟩) rfl hl.1 rfl (Nat.le_of_ble_eq_true rfl) dX9_piece_13 ⟨Nat.zero_le _, Nat.zero_le _⟩ (fun v41 E38 H39 k40 W38 I38 G38 p38 => ?_)
    obtain ⟨p38_0, p38_1⟩ := p38
    have S38 : Now D TB cy (va_A (va_pl L E) sz) s L τ E38 H39 k40 := ⟨W38, I38⟩
    have F38 : Fr L τ (inW [(0, 0), (9, 0), (39, 0)]) E E38 := F0_.trans (G38.mono (inW_mono (by decide)))
    rw [← hQ]
    exact en_i Z S38 F38 (by rw [((fi_fr (k := 2) G38 hqb (by rw [tqb]; rfl)).trans rfl)]; omega) dX9_piece_16

