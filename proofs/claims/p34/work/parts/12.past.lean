set_option maxRecDepth 20000 in
theorem ggX3_keep_X4_copy : GoodIn wsX3_keep wsX4_copy := goodIn_r _ [12, 13, 14, 15, 16, 17, 18, 19, 20, 21, 22, 23, 24, 25, 26, 27, 28, 29, 30, 31, 32, 36, 37, 38, 39, 40, 41, 42, 43, 44, 45, 46, 47, 48, 49, 50, 51] (by decide +kernel) (by decide +kernel)
set_option maxRecDepth 20000 in
theorem gX3_keep_X4_copy : GoodIn wsX3_keep (wsV RX3 23 RX4 yX4_copy wsX4_copy) := goodIn_app (goodIn_of _ (by decide +kernel)) ggX3_keep_X4_copy
theorem dX3_keep_0 : decode cX3_keep 0 = .ok (.aload_n 0, 1) := by decide +kernel
theorem dX3_keep_1 : decode cX3_keep 1 = .ok (.getfield 11, 3) := by decide +kernel
theorem dX3_keep_4 : decode cX3_keep 4 = .ok (.aload_n 0, 1) := by decide +kernel
theorem dX3_keep_5 : decode cX3_keep 5 = .ok (.getfield 15, 3) := by decide +kernel
theorem dX3_keep_8 : decode cX3_keep 8 = .ok (.aaload, 1) := by decide +kernel
theorem dX3_keep_9 : decode cX3_keep 9 = .ok (.aload_n 1, 1) := by decide +kernel
theorem dX3_keep_10 : decode cX3_keep 10 = .ok (.invokevirtual 23, 3) := by decide +kernel
theorem dX3_keep_13 : decode cX3_keep 13 = .ok (.aload_n 0, 1) := by decide +kernel
theorem dX3_keep_14 : decode cX3_keep 14 = .ok (.aload_n 0, 1) := by decide +kernel
theorem dX3_keep_15 : decode cX3_keep 15 = .ok (.getfield 15, 3) := by decide +kernel
theorem dX3_keep_18 : decode cX3_keep 18 = .ok (.iconst 1, 1) := by decide +kernel
theorem dX3_keep_19 : decode cX3_keep 19 = .ok (.iadd, 1) := by decide +kernel
theorem dX3_keep_20 : decode cX3_keep 20 = .ok (.bipush 40, 2) := by decide +kernel
theorem dX3_keep_22 : decode cX3_keep 22 = .ok (.irem, 1) := by decide +kernel
theorem dX3_keep_23 : decode cX3_keep 23 = .ok (.putfield 15, 3) := by decide +kernel
theorem dX3_keep_26 : decode cX3_keep 26 = .ok (.aload_n 0, 1) := by decide +kernel
theorem dX3_keep_27 : decode cX3_keep 27 = .ok (.aload_n 0, 1) := by decide +kernel
theorem dX3_keep_28 : decode cX3_keep 28 = .ok (.getfield 19, 3) := by decide +kernel
theorem dX3_keep_31 : decode cX3_keep 31 = .ok (.iconst 1, 1) := by decide +kernel
theorem dX3_keep_32 : decode cX3_keep 32 = .ok (.iadd, 1) := by decide +kernel
theorem dX3_keep_33 : decode cX3_keep 33 = .ok (.bipush 40, 2) := by decide +kernel
theorem dX3_keep_35 : decode cX3_keep 35 = .ok (.invokestatic 27, 3) := by decide +kernel
theorem dX3_keep_38 : decode cX3_keep 38 = .ok (.putfield 19, 3) := by decide +kernel
theorem dX3_keep_41 : decode cX3_keep 41 = .ok (.return_, 1) := by decide +kernel
set_option maxHeartbeats 4000000 in
set_option maxRecDepth 100000 in
theorem k_X3_keep (l : Launch) (D : va_G) (cy : Nat → ClassId) {L : List Nat} {τ : Nat → Ro} {E : Ec} (hI : Inv TB cy L τ E) {a0 : Nat} (ha0 : a0 ∈ L) (ta0 : τ a0 = (4, 0)) {a1 : Nat} (ha1 : a1 ∈ L) (ta1 : τ a1 = (1, 0)) : CtV l yX3_keep wsX3_keep { frames := 2, cells := 0, slots := 0, locals := 62 } D TB cy L τ E [.ref a0, .ref a1] (inW [(1, 1), (20, 1), (21, 1), (22, 1), (23, 1), (24, 1), (25, 1), (26, 1), (27, 1), (4, 0)]) (fun E' => True) := by
  intro sz
  refine sta (cc := cX3_keep) (maxL := 2) hI (by decide) rfl (Nat.le_of_ble_eq_true rfl) (fun p e s m args below meth c ls hsz Z S0 hl => ?_)
  have hx := Z.1.1
  have hb := Z.1.2.1
  have hts := Z.1.2.2.2.2
  have F0_ : Fr L τ (inW [(1, 1), (20, 1), (21, 1), (22, 1), (23, 1), (24, 1), (25, 1), (26, 1), (27, 1), (4, 0)]) E E := Fr.refl
  have hl : lv_has ls 2 [(0, .ref a0), (1, .ref a1)] := hl
  generalize hQ : MQ below _ args s 0 0 _ = QQ
  refine lv_aload_n hx hb dX3_keep_0 rfl (lv_at hl 0 rfl) ?_
  refine tr_getr Z.1 Z.2.2.2.1 S0.1 S0.2 ha0 ta0 rfl rfl (fun _ h => List.mem_cons_of_mem _ (List.mem_append_left _ (List.mem_append_right _ h))) 0 (by decide) rfl (hts _ (List.mem_of_getElem? (i := 1) rfl)) dX3_keep_1 (fun q1 eq1 hq1 tq1 => ?_)
  have tq1 : τ q1 = (29, 0) := tq1
  refine lv_aload_n hx hb dX3_keep_4 rfl (lv_at hl 0 rfl) ?_
  refine tr_geti Z.1 Z.2.2.2.1 S0.1 S0.2 ha0 ta0 rfl rfl (fun _ h => List.mem_cons_of_mem _ (List.mem_append_left _ (List.mem_append_right _ h))) 1 (by decide) rfl (hts _ (List.mem_of_getElem? (i := 2) rfl)) dX3_keep_5 (fun v2 ev2 lv2 uv2 => ?_)
  refine tr_aaldr (ra := 1) (rb := 1) Z.1 Z.2.2.2.1 S0.1 S0.2 hq1 tq1 rfl rfl rfl rfl (by omega) (by omega) dX3_keep_8 (fun q3 eq3 hq3 tq3 => ?_)
  have tq3 : τ q3 = (1, 1) := tq3
  refine lv_aload_n hx hb dX3_keep_9 rfl (lv_at hl 1 rfl) ?_
  refine tc_vv Z.1 Z.2.2.2.1 Z.2.2.2.2.1 Z.2.2.2.2.2 S0.1 S0.2 hq3 tq3 rfl rfl (k_X4_copy_v10 l D cy S0.2 hq3 tq3 ha1 ta1) (cwV 1 hts gX3_keep_X4_copy rfl rfl rfl (by decide +kernel) ⟨Nat.le_of_ble_eq_true rfl, Nat.le_of_ble_eq_true rfl⟩) rfl hl.1 rfl (Nat.le_of_ble_eq_true rfl) dX3_keep_10 ⟨Nat.zero_le _, Nat.zero_le _⟩ (fun E4 H5 k6 W4 I4 G4 p4 => ?_)
  have S4 : Now D TB cy (va_A (va_pl L E) sz) s L τ E4 H5 k6 := ⟨W4, I4⟩
  have F4 : Fr L τ (inW [(1, 1), (20, 1), (21, 1), (22, 1), (23, 1), (24, 1), (25, 1), (26, 1), (27, 1), (4, 0)]) E E4 := F0_.trans (G4.mono (inW_mono (by decide)))
  refine lv_aload_n hx hb dX3_keep_13 rfl (lv_at hl 0 rfl) ?_
  refine lv_aload_n hx hb dX3_keep_14 rfl (lv_at hl 0 rfl) ?_
  refine tr_geti Z.1 Z.2.2.2.1 S4.1 S4.2 ha0 ta0 rfl rfl (fun _ h => List.mem_cons_of_mem _ (List.mem_append_left _ (List.mem_append_right _ h))) 1 (by decide) rfl (hts _ (List.mem_of_getElem? (i := 2) rfl)) dX3_keep_15 (fun v8 ev8 lv8 uv8 => ?_)
  have wv8 : v8 = v2 := ev8.symm.trans ((fi_fr G4 ha0 (by rw [ta0]; rfl)).trans ev2)
  have xv8 : v8.toInt = v2.toInt := by rw [wv8]
  obtain ⟨v9, ev9, tv9⟩ : ∃ v : Int32, Int32.ofInt (1) = v ∧ v.toInt = 1 := ⟨_, rfl, by decide +kernel⟩
  refine lv_iconst hx hb dX3_keep_18 ev9 ?_
  refine lv_iadd hx hb dX3_keep_19 ?_
  refine lv_topi (fun v10 ev10 => ?_)
  have tv10 := nu_add ev10 (by omega) (by omega)
  obtain ⟨v11, ev11, tv11⟩ : ∃ v : Int32, (Int8.ofInt (40)).toInt32 = v ∧ v.toInt = 40 := ⟨_, rfl, by decide +kernel⟩
  refine lv_bipush hx hb dX3_keep_20 ev11 ?_
  refine lv_irem hx hb dX3_keep_22 (fun q => by have := nu_eq0 q; omega) ?_
  refine lv_topi (fun v12 ev12 => ?_)
  have tv12 := nu_remc (40) ev12 (by omega) (by omega) (by omega)
  refine tr_puti Z.1 Z.2.2.2.1 S4.1 S4.2 ha0 ta0 rfl rfl (fun _ h => List.mem_cons_of_mem _ (List.mem_append_left _ (List.mem_append_right _ h))) tyX3_ok nmX3 1 (by decide) rfl rfl rfl (hts _ (List.mem_of_getElem? (i := 2) rfl)) dX3_keep_23 (by omega) (by omega) (fun E13 H14 k15 W13 I13 P13 => ?_)
  have S13 : Now D TB cy (va_A (va_pl L E) sz) s L τ E13 H14 k15 := ⟨W13, I13⟩
  have F13 : Fr L τ (inW [(1, 1), (20, 1), (21, 1), (22, 1), (23, 1), (24, 1), (25, 1), (26, 1), (27, 1), (4, 0)]) E E13 := Fr.put F4 P13 ta0 rfl
  refine lv_aload_n hx hb dX3_keep_26 rfl (lv_at hl 0 rfl) ?_
  refine lv_aload_n hx hb dX3_keep_27 rfl (lv_at hl 0 rfl) ?_
  refine tr_geti Z.1 Z.2.2.2.1 S13.1 S13.2 ha0 ta0 rfl rfl (fun _ h => List.mem_cons_of_mem _ (List.mem_append_left _ (List.mem_append_right _ h))) 2 (by decide) rfl (hts _ (List.mem_of_getElem? (i := 3) rfl)) dX3_keep_28 (fun v16 ev16 lv16 uv16 => ?_)
  obtain ⟨v17, ev17, tv17⟩ : ∃ v : Int32, Int32.ofInt (1) = v ∧ v.toInt = 1 := ⟨_, rfl, by decide +kernel⟩
  refine lv_iconst hx hb dX3_keep_31 ev17 ?_
  refine lv_iadd hx hb dX3_keep_32 ?_
  refine lv_topi (fun v18 ev18 => ?_)
  have tv18 := nu_add ev18 (by omega) (by omega)
  obtain ⟨v19, ev19, tv19⟩ : ∃ v : Int32, (Int8.ofInt (40)).toInt32 = v ∧ v.toInt = 40 := ⟨_, rfl, by decide +kernel⟩
  refine lv_bipush hx hb dX3_keep_33 ev19 ?_
  refine va_mmin hx hb (Z.1.2.2.1.trans hl.1.symm) Z.1.2.2.2.1 (hts _ (List.mem_of_getElem? (i := 4) rfl)) (hts _ (List.mem_of_getElem? (i := 5) rfl)) (hts _ (List.mem_of_getElem? (i := 6) rfl)) (hts _ (List.mem_of_getElem? (i := 7) rfl)) (Nat.le_of_ble_eq_true rfl) (Nat.le_of_ble_eq_true rfl) (Nat.zero_le _) (Nat.zero_le _) dX3_keep_35 ?_
  refine lv_topi (fun v20 ev20 => ?_)
  have tv20 := nu_min ev20
  refine tr_puti Z.1 Z.2.2.2.1 S13.1 S13.2 ha0 ta0 rfl rfl (fun _ h => List.mem_cons_of_mem _ (List.mem_append_left _ (List.mem_append_right _ h))) tyX3_ok nmX3 2 (by decide) rfl rfl rfl (hts _ (List.mem_of_getElem? (i := 3) rfl)) dX3_keep_38 (by omega) (by omega) (fun E21 H22 k23 W21 I21 P21 => ?_)
  have S21 : Now D TB cy (va_A (va_pl L E) sz) s L τ E21 H22 k23 := ⟨W21, I21⟩
  have F21 : Fr L τ (inW [(1, 1), (20, 1), (21, 1), (22, 1), (23, 1), (24, 1), (25, 1), (26, 1), (27, 1), (4, 0)]) E E21 := Fr.put F13 P21 ta0 rfl
  rw [← hQ]
  exact en_v Z S21 F21 trivial dX3_keep_41

set_option maxRecDepth 20000 in
theorem ggX3_takeBack_X4_copy : GoodIn wsX3_takeBack wsX4_copy := goodIn_r _ [8, 9, 10, 11, 12, 13, 14, 15, 16, 17, 18, 19, 20, 21, 22, 23, 24, 25, 26, 27, 28, 32, 33, 34, 35, 36, 37, 38, 39, 40, 41, 42, 43, 44, 45, 46, 47] (by decide +kernel) (by decide +kernel)
set_option maxRecDepth 20000 in
theorem gX3_takeBack_X4_copy : GoodIn wsX3_takeBack (wsV RX3 23 RX4 yX4_copy wsX4_copy) := goodIn_app (goodIn_of _ (by decide +kernel)) ggX3_takeBack_X4_copy
theorem dX3_takeBack_0 : decode cX3_takeBack 0 = .ok (.aload_n 0, 1) := by decide +kernel
theorem dX3_takeBack_1 : decode cX3_takeBack 1 = .ok (.getfield 19, 3) := by decide +kernel
theorem dX3_takeBack_4 : decode cX3_takeBack 4 = .ok (.ifCond .gt 5, 3) := by decide +kernel
theorem dX3_takeBack_7 : decode cX3_takeBack 7 = .ok (.iconst 0, 1) := by decide +kernel
theorem dX3_takeBack_8 : decode cX3_takeBack 8 = .ok (.ireturn, 1) := by decide +kernel
theorem dX3_takeBack_9 : decode cX3_takeBack 9 = .ok (.aload_n 0, 1) := by decide +kernel
theorem dX3_takeBack_10 : decode cX3_takeBack 10 = .ok (.aload_n 0, 1) := by decide +kernel
theorem dX3_takeBack_11 : decode cX3_takeBack 11 = .ok (.getfield 15, 3) := by decide +kernel
theorem dX3_takeBack_14 : decode cX3_takeBack 14 = .ok (.bipush 40, 2) := by decide +kernel
theorem dX3_takeBack_16 : decode cX3_takeBack 16 = .ok (.iadd, 1) := by decide +kernel
theorem dX3_takeBack_17 : decode cX3_takeBack 17 = .ok (.iconst 1, 1) := by decide +kernel
theorem dX3_takeBack_18 : decode cX3_takeBack 18 = .ok (.isub, 1) := by decide +kernel
theorem dX3_takeBack_19 : decode cX3_takeBack 19 = .ok (.bipush 40, 2) := by decide +kernel
theorem dX3_takeBack_21 : decode cX3_takeBack 21 = .ok (.irem, 1) := by decide +kernel
theorem dX3_takeBack_22 : decode cX3_takeBack 22 = .ok (.putfield 15, 3) := by decide +kernel
theorem dX3_takeBack_25 : decode cX3_takeBack 25 = .ok (.aload_n 0, 1) := by decide +kernel
theorem dX3_takeBack_26 : decode cX3_takeBack 26 = .ok (.dup, 1) := by decide +kernel
theorem dX3_takeBack_27 : decode cX3_takeBack 27 = .ok (.getfield 19, 3) := by decide +kernel
theorem dX3_takeBack_30 : decode cX3_takeBack 30 = .ok (.iconst 1, 1) := by decide +kernel
theorem dX3_takeBack_31 : decode cX3_takeBack 31 = .ok (.isub, 1) := by decide +kernel
theorem dX3_takeBack_32 : decode cX3_takeBack 32 = .ok (.putfield 19, 3) := by decide +kernel
theorem dX3_takeBack_35 : decode cX3_takeBack 35 = .ok (.aload_n 1, 1) := by decide +kernel
theorem dX3_takeBack_36 : decode cX3_takeBack 36 = .ok (.aload_n 0, 1) := by decide +kernel
theorem dX3_takeBack_37 : decode cX3_takeBack 37 = .ok (.getfield 11, 3) := by decide +kernel
theorem dX3_takeBack_40 : decode cX3_takeBack 40 = .ok (.aload_n 0, 1) := by decide +kernel
theorem dX3_takeBack_41 : decode cX3_takeBack 41 = .ok (.getfield 15, 3) := by decide +kernel
theorem dX3_takeBack_44 : decode cX3_takeBack 44 = .ok (.aaload, 1) := by decide +kernel
theorem dX3_takeBack_45 : decode cX3_takeBack 45 = .ok (.invokevirtual 23, 3) := by decide +kernel
theorem dX3_takeBack_48 : decode cX3_takeBack 48 = .ok (.iconst 1, 1) := by decide +kernel
theorem dX3_takeBack_49 : decode cX3_takeBack 49 = .ok (.ireturn, 1) := by decide +kernel
set_option maxHeartbeats 4000000 in
set_option maxRecDepth 100000 in
theorem k_X3_takeBack (l : Launch) (D : va_G) (cy : Nat → ClassId) {L : List Nat} {τ : Nat → Ro} {E : Ec} (hI : Inv TB cy L τ E) {a0 : Nat} (ha0 : a0 ∈ L) (ta0 : τ a0 = (4, 0)) {a1 : Nat} (ha1 : a1 ∈ L) (ta1 : τ a1 = (1, 0)) : CtI l yX3_takeBack wsX3_takeBack { frames := 2, cells := 0, slots := 0, locals := 62 } D TB cy L τ E [.ref a0, .ref a1] (inW [(1, 0), (20, 0), (21, 0), (22, 0), (23, 0), (24, 0), (25, 0), (26, 0), (27, 0), (4, 0)]) (fun r E' => 0 ≤ r.toInt ∧ r.toInt ≤ 1) := by
  intro sz
  refine sta (cc := cX3_takeBack) (maxL := 2) hI (by decide) rfl (Nat.le_of_ble_eq_true rfl) (fun p e s m args below meth c ls hsz Z S0 hl => ?_)
  have hx := Z.1.1
  have hb := Z.1.2.1
  have hts := Z.1.2.2.2.2
  have F0_ : Fr L τ (inW [(1, 0), (20, 0), (21, 0), (22, 0), (23, 0), (24, 0), (25, 0), (26, 0), (27, 0), (4, 0)]) E E := Fr.refl
  have hl : lv_has ls 2 [(0, .ref a0), (1, .ref a1)] := hl
  generalize hQ : MQ below _ args s 0 0 _ = QQ
  refine lv_aload_n hx hb dX3_takeBack_0 rfl (lv_at hl 0 rfl) ?_
  refine tr_geti Z.1 Z.2.2.2.1 S0.1 S0.2 ha0 ta0 rfl rfl (fun _ h => List.mem_cons_of_mem _ (List.mem_append_left _ (List.mem_append_right _ h))) 2 (by decide) rfl (hts _ (List.mem_of_getElem? (i := 1) rfl)) dX3_takeBack_1 (fun v1 ev1 lv1 uv1 => ?_)
  refine lv_if_gt (tgt := 9) hx hb dX3_takeBack_4 (by decide) (fun c2 => ?_) (fun c2 => ?_)
  · skip
    have tc2 := nu_lt c2
    have uc2 : (0 : Int32).toInt = 0 := rfl
    refine lv_aload_n hx hb dX3_takeBack_9 rfl (lv_at hl 0 rfl) ?_
    refine lv_aload_n hx hb dX3_takeBack_10 rfl (lv_at hl 0 rfl) ?_
    refine tr_geti Z.1 Z.2.2.2.1 S0.1 S0.2 ha0 ta0 rfl rfl (fun _ h => List.mem_cons_of_mem _ (List.mem_append_left _ (List.mem_append_right _ h))) 1 (by decide) rfl (hts _ (List.mem_of_getElem? (i := 2) rfl)) dX3_takeBack_11 (fun v3 ev3 lv3 uv3 => ?_)
    obtain ⟨v4, ev4, tv4⟩ : ∃ v : Int32, (Int8.ofInt (40)).toInt32 = v ∧ v.toInt = 40 := ⟨_, rfl, by decide +kernel⟩
    refine lv_bipush hx hb dX3_takeBack_14 ev4 ?_
    refine lv_iadd hx hb dX3_takeBack_16 ?_
    refine lv_topi (fun v5 ev5 => ?_)
    have tv5 := nu_add ev5 (by omega) (by omega)
    obtain ⟨v6, ev6, tv6⟩ : ∃ v : Int32, Int32.ofInt (1) = v ∧ v.toInt = 1 := ⟨_, rfl, by decide +kernel⟩
    refine lv_iconst hx hb dX3_takeBack_17 ev6 ?_
    refine lv_isub hx hb dX3_takeBack_18 ?_
    refine lv_topi (fun v7 ev7 => ?_)
    have tv7 := nu_sub ev7 (by omega) (by omega)
    obtain ⟨v8, ev8, tv8⟩ : ∃ v : Int32, (Int8.ofInt (40)).toInt32 = v ∧ v.toInt = 40 := ⟨_, rfl, by decide +kernel⟩
    refine lv_bipush hx hb dX3_takeBack_19 ev8 ?_
    refine lv_irem hx hb dX3_takeBack_21 (fun q => by have := nu_eq0 q; omega) ?_
    refine lv_topi (fun v9 ev9 => ?_)
    have tv9 := nu_remc (40) ev9 (by omega) (by omega) (by omega)
    refine tr_puti Z.1 Z.2.2.2.1 S0.1 S0.2 ha0 ta0 rfl rfl (fun _ h => List.mem_cons_of_mem _ (List.mem_append_left _ (List.mem_append_right _ h))) tyX3_ok nmX3 1 (by decide) rfl rfl rfl (hts _ (List.mem_of_getElem? (i := 2) rfl)) dX3_takeBack_22 (by omega) (by omega) (fun E10 H11 k12 W10 I10 P10 => ?_)
    have S10 : Now D TB cy (va_A (va_pl L E) sz) s L τ E10 H11 k12 := ⟨W10, I10⟩
    have F10 : Fr L τ (inW [(1, 0), (20, 0), (21, 0), (22, 0), (23, 0), (24, 0), (25, 0), (26, 0), (27, 0), (4, 0)]) E E10 := Fr.put F0_ P10 ta0 rfl
    refine lv_aload_n hx hb dX3_takeBack_25 rfl (lv_at hl 0 rfl) ?_
    refine lv_dup hx hb dX3_takeBack_26 rfl ?_
    refine tr_geti Z.1 Z.2.2.2.1 S10.1 S10.2 ha0 ta0 rfl rfl (fun _ h => List.mem_cons_of_mem _ (List.mem_append_left _ (List.mem_append_right _ h))) 2 (by decide) rfl (hts _ (List.mem_of_getElem? (i := 1) rfl)) dX3_takeBack_27 (fun v13 ev13 lv13 uv13 => ?_)
    have wv13 : v13 = v1 := ev13.symm.trans ((fi_put P10 (Or.inr (by decide))).trans ev1)
    have xv13 : v13.toInt = v1.toInt := by rw [wv13]
    obtain ⟨v14, ev14, tv14⟩ : ∃ v : Int32, Int32.ofInt (1) = v ∧ v.toInt = 1 := ⟨_, rfl, by decide +kernel⟩
    refine lv_iconst hx hb dX3_takeBack_30 ev14 ?_
    refine lv_isub hx hb dX3_takeBack_31 ?_
    refine lv_topi (fun v15 ev15 => ?_)
    have tv15 := nu_sub ev15 (by omega) (by omega)
    refine tr_puti Z.1 Z.2.2.2.1 S10.1 S10.2 ha0 ta0 rfl rfl (fun _ h => List.mem_cons_of_mem _ (List.mem_append_left _ (List.mem_append_right _ h))) tyX3_ok nmX3 2 (by decide) rfl rfl rfl (hts _ (List.mem_of_getElem? (i := 1) rfl)) dX3_takeBack_32 (by omega) (by omega) (fun E16 H17 k18 W16 I16 P16 => ?_)
    have S16 : Now D TB cy (va_A (va_pl L E) sz) s L τ E16 H17 k18 := ⟨W16, I16⟩
    have F16 : Fr L τ (inW [(1, 0), (20, 0), (21, 0), (22, 0), (23, 0), (24, 0), (25, 0), (26, 0), (27, 0), (4, 0)]) E E16 := Fr.put F10 P16 ta0 rfl
    refine lv_aload_n hx hb dX3_takeBack_35 rfl (lv_at hl 1 rfl) ?_
    refine lv_aload_n hx hb dX3_takeBack_36 rfl (lv_at hl 0 rfl) ?_
    refine tr_getr Z.1 Z.2.2.2.1 S16.1 S16.2 ha0 ta0 rfl rfl (fun _ h => List.mem_cons_of_mem _ (List.mem_append_left _ (List.mem_append_right _ h))) 0 (by decide) rfl (hts _ (List.mem_of_getElem? (i := 3) rfl)) dX3_takeBack_37 (fun q19 eq19 hq19 tq19 => ?_)
    have tq19 : τ q19 = (29, 0) := tq19
    refine lv_aload_n hx hb dX3_takeBack_40 rfl (lv_at hl 0 rfl) ?_
    refine tr_geti Z.1 Z.2.2.2.1 S16.1 S16.2 ha0 ta0 rfl rfl (fun _ h => List.mem_cons_of_mem _ (List.mem_append_left _ (List.mem_append_right _ h))) 1 (by decide) rfl (hts _ (List.mem_of_getElem? (i := 2) rfl)) dX3_takeBack_41 (fun v20 ev20 lv20 uv20 => ?_)
    have wv20 : v20 = v9 := ev20.symm.trans ((fi_put P16 (Or.inr (by decide))).trans (fi_at P10))
    have xv20 : v20.toInt = v9.toInt := by rw [wv20]
    refine tr_aaldr (ra := 1) (rb := 1) Z.1 Z.2.2.2.1 S16.1 S16.2 hq19 tq19 rfl rfl rfl rfl (by omega) (by omega) dX3_takeBack_44 (fun q21 eq21 hq21 tq21 => ?_)
    have tq21 : τ q21 = (1, 1) := tq21
    refine tc_vv Z.1 Z.2.2.2.1 Z.2.2.2.2.1 Z.2.2.2.2.2 S16.1 S16.2 ha1 ta1 rfl rfl (k_X4_copy_v01 l D cy S16.2 ha1 ta1 hq21 tq21) (cwV 1 hts gX3_takeBack_X4_copy rfl rfl rfl (by decide +kernel) ⟨Nat.le_of_ble_eq_true rfl, Nat.le_of_ble_eq_true rfl⟩) rfl hl.1 rfl (Nat.le_of_ble_eq_true rfl) dX3_takeBack_45 ⟨Nat.zero_le _, Nat.zero_le _⟩ (fun E22 H23 k24 W22 I22 G22 p22 => ?_)
    have S22 : Now D TB cy (va_A (va_pl L E) sz) s L τ E22 H23 k24 := ⟨W22, I22⟩
    have F22 : Fr L τ (inW [(1, 0), (20, 0), (21, 0), (22, 0), (23, 0), (24, 0), (25, 0), (26, 0), (27, 0), (4, 0)]) E E22 := F16.trans (G22.mono (inW_mono (by decide)))
    obtain ⟨v26, ev26, tv26⟩ : ∃ v : Int32, Int32.ofInt (1) = v ∧ v.toInt = 1 := ⟨_, rfl, by decide +kernel⟩
    refine lv_iconst hx hb dX3_takeBack_48 ev26 ?_
    rw [← hQ]
    exact en_z Z S22 F22 (zo v26 (by omega)) ⟨(by omega), (by omega)⟩ dX3_takeBack_49
  · skip
    have tc2 := nu_nlt c2
    have uc2 : (0 : Int32).toInt = 0 := rfl
    obtain ⟨v27, ev27, tv27⟩ : ∃ v : Int32, Int32.ofInt (0) = v ∧ v.toInt = 0 := ⟨_, rfl, by decide +kernel⟩
    refine lv_iconst hx hb dX3_takeBack_7 ev27 ?_
    rw [← hQ]
    exact en_z Z S0 F0_ (zo v27 (by omega)) ⟨(by omega), (by omega)⟩ dX3_takeBack_8

