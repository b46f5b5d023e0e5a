set_option maxRecDepth 20000 in
theorem ggX9_path_X9_within : GoodIn wsX9_path wsX9_within := goodIn_r _ [9] (by decide +kernel) (by decide +kernel)
set_option maxRecDepth 20000 in
theorem gX9_path_X9_within : GoodIn wsX9_path (va_wsS RX9 73 yX9_within wsX9_within) := goodIn_app (goodIn_of _ (by decide +kernel)) ggX9_path_X9_within
set_option maxRecDepth 20000 in
theorem ggX9_path_X9_deny : GoodIn wsX9_path wsX9_deny := goodIn_r _ [13, 14, 66, 67, 68, 69, 70, 71, 72, 73, 74, 75, 76] (by decide +kernel) (by decide +kernel)
set_option maxRecDepth 20000 in
theorem gX9_path_X9_deny : GoodIn wsX9_path (wsV RX9 77 RX9 yX9_deny wsX9_deny) := goodIn_app (goodIn_of _ (by decide +kernel)) ggX9_path_X9_deny
set_option maxRecDepth 20000 in
theorem ggX9_path_X9_beginAct : GoodIn wsX9_path wsX9_beginAct := goodIn_r _ [18, 14, 19, 20, 21, 8, 22, 23, 1, 24, 25, 26, 27, 28, 29, 30, 31, 32, 33, 34, 35, 36, 37, 38, 39, 40, 41, 42, 43, 44, 45, 46, 47, 48, 49, 50, 51, 52, 53, 54, 55, 56, 57, 58, 59, 60, 61, 66, 67, 68, 69, 70, 71, 72, 73, 74, 75, 76, 93, 94, 95, 77, 78, 79, 80, 81, 82, 83, 84, 85, 86, 87, 88, 89, 90, 91, 92] (by decide +kernel) (by decide +kernel)
set_option maxRecDepth 20000 in
theorem gX9_path_X9_beginAct : GoodIn wsX9_path (wsV RX9 81 RX9 yX9_beginAct wsX9_beginAct) := goodIn_app (goodIn_of _ (by decide +kernel)) ggX9_path_X9_beginAct
set_option maxRecDepth 20000 in
theorem ggX9_path_J7_fill_53178 : GoodIn wsX9_path wsJ7_fill_53178 := goodIn_r _ [65] (by decide +kernel) (by decide +kernel)
set_option maxRecDepth 20000 in
theorem gX9_path_J7_fill_53178 : GoodIn wsX9_path (va_wsS RX9 102 yJ7_fill_53178 wsJ7_fill_53178) := goodIn_app (goodIn_of _ (by decide +kernel)) ggX9_path_J7_fill_53178
theorem dX9_path_0 : decode cX9_path 0 = .ok (.iload_n 1, 1) := by decide +kernel
theorem dX9_path_1 : decode cX9_path 1 = .ok (.iconst 1, 1) := by decide +kernel
theorem dX9_path_2 : decode cX9_path 2 = .ok (.iconst 3, 1) := by decide +kernel
theorem dX9_path_3 : decode cX9_path 3 = .ok (.invokestatic 73, 3) := by decide +kernel
theorem dX9_path_6 : decode cX9_path 6 = .ok (.ifCond .ne 9, 3) := by decide +kernel
theorem dX9_path_9 : decode cX9_path 9 = .ok (.aload_n 0, 1) := by decide +kernel
theorem dX9_path_10 : decode cX9_path 10 = .ok (.iconst 1, 1) := by decide +kernel
theorem dX9_path_11 : decode cX9_path 11 = .ok (.invokevirtual 77, 3) := by decide +kernel
theorem dX9_path_14 : decode cX9_path 14 = .ok (.ireturn, 1) := by decide +kernel
theorem dX9_path_15 : decode cX9_path 15 = .ok (.aload_n 0, 1) := by decide +kernel
theorem dX9_path_16 : decode cX9_path 16 = .ok (.invokevirtual 81, 3) := by decide +kernel
theorem dX9_path_19 : decode cX9_path 19 = .ok (.aload_n 0, 1) := by decide +kernel
theorem dX9_path_20 : decode cX9_path 20 = .ok (.getfield 10, 3) := by decide +kernel
theorem dX9_path_23 : decode cX9_path 23 = .ok (.iload_n 1, 1) := by decide +kernel
theorem dX9_path_24 : decode cX9_path 24 = .ok (.putfield 96, 3) := by decide +kernel
theorem dX9_path_27 : decode cX9_path 27 = .ok (.aload_n 0, 1) := by decide +kernel
theorem dX9_path_28 : decode cX9_path 28 = .ok (.getfield 10, 3) := by decide +kernel
theorem dX9_path_31 : decode cX9_path 31 = .ok (.getfield 99, 3) := by decide +kernel
theorem dX9_path_34 : decode cX9_path 34 = .ok (.iconst 4, 1) := by decide +kernel
theorem dX9_path_35 : decode cX9_path 35 = .ok (.invokestatic 102, 3) := by decide +kernel
theorem dX9_path_38 : decode cX9_path 38 = .ok (.aload_n 0, 1) := by decide +kernel
theorem dX9_path_39 : decode cX9_path 39 = .ok (.getfield 10, 3) := by decide +kernel
theorem dX9_path_42 : decode cX9_path 42 = .ok (.getfield 108, 3) := by decide +kernel
theorem dX9_path_45 : decode cX9_path 45 = .ok (.sipush 1000, 3) := by decide +kernel
theorem dX9_path_48 : decode cX9_path 48 = .ok (.invokestatic 102, 3) := by decide +kernel
theorem dX9_path_51 : decode cX9_path 51 = .ok (.aload_n 0, 1) := by decide +kernel
theorem dX9_path_52 : decode cX9_path 52 = .ok (.getfield 10, 3) := by decide +kernel
theorem dX9_path_55 : decode cX9_path 55 = .ok (.getfield 111, 3) := by decide +kernel
theorem dX9_path_58 : decode cX9_path 58 = .ok (.iconst 0, 1) := by decide +kernel
theorem dX9_path_59 : decode cX9_path 59 = .ok (.invokestatic 102, 3) := by decide +kernel
theorem dX9_path_62 : decode cX9_path 62 = .ok (.iconst 1, 1) := by decide +kernel
theorem dX9_path_63 : decode cX9_path 63 = .ok (.ireturn, 1) := by decide +kernel
set_option maxHeartbeats 4000000 in
set_option maxRecDepth 100000 in
theorem k_X9_path (l : Launch) (D : va_G) (cy : Nat → ClassId) {L : List Nat} {τ : Nat → Ro} {E : Ec} (hI : Inv TB cy L τ E) {a0 : Nat} (ha0 : a0 ∈ L) (ta0 : τ a0 = (0, 0)) (a1 : Int32) : CtI l yX9_path wsX9_path { frames := 5, cells := 0, slots := 0, locals := 123 } D TB cy L τ E [.ref a0, .int a1] (inW [(1, 1), (20, 1), (21, 1), (22, 1), (23, 1), (24, 1), (25, 1), (26, 1), (27, 1), (4, 0), (0, 0), (1, 0), (20, 0), (21, 0), (22, 0), (23, 0), (24, 0), (25, 0), (26, 0), (27, 0)]) (fun r E' => ((r.toInt = 1 ∧ 1 ≤ a1.toInt ∧ a1.toInt ≤ 3) ∨ (r.toInt = 0 ∧ ¬ (1 ≤ a1.toInt ∧ a1.toInt ≤ 3))) ∧ 0 ≤ r.toInt ∧ r.toInt ≤ 1) := by
  intro sz
  refine sta (cc := cX9_path) (maxL := 2) hI (by decide) rfl (Nat.le_of_ble_eq_true rfl) (fun p e s m args below meth c ls hsz Z S0 hl => ?_)
  have hx := Z.1.1
  have hb := Z.1.2.1
  have hts := Z.1.2.2.2.2
  have F0_ : Fr L τ (inW [(1, 1), (20, 1), (21, 1), (22, 1), (23, 1), (24, 1), (25, 1), (26, 1), (27, 1), (4, 0), (0, 0), (1, 0), (20, 0), (21, 0), (22, 0), (23, 0), (24, 0), (25, 0), (26, 0), (27, 0)]) E E := Fr.refl
  have hl : lv_has ls 2 [(0, .ref a0), (1, .int a1)] := hl
  generalize hQ : MQ below _ args s 0 0 _ = QQ
  refine lv_iload_n hx hb dX9_path_0 rfl (lv_at hl 1 rfl) ?_
  obtain ⟨v1, ev1, tv1⟩ : ∃ v : Int32, Int32.ofInt (1) = v ∧ v.toInt = 1 := ⟨_, rfl, by decide +kernel⟩
  refine lv_iconst hx hb dX9_path_1 ev1 ?_
  obtain ⟨v2, ev2, tv2⟩ : ∃ v : Int32, Int32.ofInt (3) = v ∧ v.toInt = 3 := ⟨_, rfl, by decide +kernel⟩
  refine lv_iconst hx hb dX9_path_2 ev2 ?_
  refine tc_si Z.1 Z.2.2.2.1 Z.2.2.2.2.1 Z.2.2.2.2.2 S0.1 (k_X9_within l D cy S0.2 a1 v1 v2) (va_cwS 3 hts gX9_path_X9_within rfl rfl rfl (by decide +kernel) ⟨Nat.le_of_ble_eq_true rfl, Nat.le_of_ble_eq_true rfl⟩) rfl hl.1 rfl (Nat.le_of_ble_eq_true rfl) dX9_path_3 ⟨Nat.zero_le _, Nat.zero_le _⟩ (fun v6 E3 H4 k5 W3 I3 G3 p3 => ?_)
  obtain ⟨q3, p3_0, p3_1, p3_2⟩ := p3
  have q3 := q3.symm
  subst q3
  have S3 : Now D TB cy (va_A (va_pl L E) sz) s L τ E H4 k5 := ⟨W3, I3⟩
  refine lv_if_ne (tgt := 15) hx hb dX9_path_6 (by decide) (fun c7 => ?_) (fun c7 => ?_)
  · skip
    have tc7 := nu_ne c7
    have uc7 : (0 : Int32).toInt = 0 := rfl
    refine lv_aload_n hx hb dX9_path_15 rfl (lv_at hl 0 rfl) ?_
    refine tc_vv Z.1 Z.2.2.2.1 Z.2.2.2.2.1 Z.2.2.2.2.2 S3.1 S3.2 ha0 ta0 rfl rfl (k_X9_beginAct l D cy S3.2 ha0 ta0) (cwV 0 hts gX9_path_X9_beginAct rfl rfl rfl (by decide +kernel) ⟨Nat.le_of_ble_eq_true rfl, Nat.le_of_ble_eq_true rfl⟩) rfl hl.1 rfl (Nat.le_of_ble_eq_true rfl) dX9_path_16 ⟨Nat.zero_le _, Nat.zero_le _⟩ (fun E8 H9 k10 W8 I8 G8 p8 => ?_)
    have S8 : Now D TB cy (va_A (va_pl L E) sz) s L τ E8 H9 k10 := ⟨W8, I8⟩
    have F8 : Fr L τ (inW [(1, 1), (20, 1), (21, 1), (22, 1), (23, 1), (24, 1), (25, 1), (26, 1), (27, 1), (4, 0), (0, 0), (1, 0), (20, 0), (21, 0), (22, 0), (23, 0), (24, 0), (25, 0), (26, 0), (27, 0)]) E E8 := F0_.trans (G8.mono (inW_mono (by decide)))
    refine lv_aload_n hx hb dX9_path_19 rfl (lv_at hl 0 rfl) ?_
    refine tr_getr Z.1 Z.2.2.2.1 S8.1 S8.2 ha0 ta0 rfl rfl (fun _ h => List.mem_cons_of_mem _ (List.mem_append_left _ (List.mem_append_left _ (List.mem_append_right _ h)))) 0 (by decide) rfl (hts _ (List.mem_of_getElem? (i := 1) rfl)) dX9_path_20 (fun q12 eq12 hq12 tq12 => ?_)
    have tq12 : τ q12 = (1, 0) := tq12
    refine lv_iload_n hx hb dX9_path_23 rfl (lv_at hl 1 rfl) ?_
    refine tr_puti Z.1 Z.2.2.2.1 S8.1 S8.2 hq12 tq12 rfl rfl (fun _ h => List.mem_cons_of_mem _ (List.mem_append_left _ (List.mem_append_right _ h))) tyX4_ok nmX4 4 (by decide) rfl rfl rfl (hts _ (List.mem_of_getElem? (i := 2) rfl)) dX9_path_24 (by omega) (by omega) (fun E13 H14 k15 W13 I13 P13 => ?_)
    have S13 : Now D TB cy (va_A (va_pl L E) sz) s L τ E13 H14 k15 := ⟨W13, I13⟩
    have F13 : Fr L τ (inW [(1, 1), (20, 1), (21, 1), (22, 1), (23, 1), (24, 1), (25, 1), (26, 1), (27, 1), (4, 0), (0, 0), (1, 0), (20, 0), (21, 0), (22, 0), (23, 0), (24, 0), (25, 0), (26, 0), (27, 0)]) E E13 := Fr.put F8 P13 tq12 rfl
    refine lv_aload_n hx hb dX9_path_27 rfl (lv_at hl 0 rfl) ?_
    refine tr_getr Z.1 Z.2.2.2.1 S13.1 S13.2 ha0 ta0 rfl rfl (fun _ h => List.mem_cons_of_mem _ (List.mem_append_left _ (List.mem_append_left _ (List.mem_append_right _ h)))) 0 (by decide) rfl (hts _ (List.mem_of_getElem? (i := 1) rfl)) dX9_path_28 (fun q16 eq16 hq16 tq16 => ?_)
    have tq16 : τ q16 = (1, 0) := tq16
    have uq16 : q12 = q16 := S13.2.2.2.2 _ hq12 _ hq16 (tq12.trans tq16.symm) (by rw [tq12]; rfl)
    subst uq16
    refine tr_getr Z.1 Z.2.2.2.1 S13.1 S13.2 hq12 tq12 rfl rfl (fun _ h => List.mem_cons_of_mem _ (List.mem_append_left _ (List.mem_append_right _ h))) 8 (by decide) rfl (hts _ (List.mem_of_getElem? (i := 3) rfl)) dX9_path_31 (fun q17 eq17 hq17 tq17 => ?_)
    have tq17 : τ q17 = (20, 0) := tq17
    obtain ⟨v18, ev18, tv18⟩ : ∃ v : Int32, Int32.ofInt (4) = v ∧ v.toInt = 4 := ⟨_, rfl, by decide +kernel⟩
    refine lv_iconst hx hb dX9_path_34 ev18 ?_
    refine tc_sv Z.1 Z.2.2.2.1 Z.2.2.2.2.1 Z.2.2.2.2.2 S13.1 (k_J7_fill_53178_v20_0 l D cy S13.2 hq17 tq17 v18) (va_cwS 2 hts gX9_path_J7_fill_53178 rfl rfl rfl (by decide +kernel) ⟨Nat.le_of_ble_eq_true rfl, Nat.le_of_ble_eq_true rfl⟩) rfl hl.1 rfl (Nat.le_of_ble_eq_true rfl) dX9_path_35 ⟨Nat.zero_le _, Nat.zero_le _⟩ (fun E19 H20 k21 W19 I19 G19 p19 => ?_)
    have S19 : Now D TB cy (va_A (va_pl L E) sz) s L τ E19 H20 k21 := ⟨W19, I19⟩
    have F19 : Fr L τ (inW [(1, 1), (20, 1), (21, 1), (22, 1), (23, 1), (24, 1), (25, 1), (26, 1), (27, 1), (4, 0), (0, 0), (1, 0), (20, 0), (21, 0), (22, 0), (23, 0), (24, 0), (25, 0), (26, 0), (27, 0)]) E E19 := F13.trans (G19.mono (inW_mono (by decide)))
    refine lv_aload_n hx hb dX9_path_38 rfl (lv_at hl 0 rfl) ?_
    refine tr_getr Z.1 Z.2.2.2.1 S19.1 S19.2 ha0 ta0 rfl rfl (fun _ h => List.mem_cons_of_mem _ (List.mem_append_left _ (List.mem_append_left _ (List.mem_append_right _ h)))) 0 (by decide) rfl (hts _ (List.mem_of_getElem? (i := 1) rfl)) dX9_path_39 (fun q23 eq23 hq23 tq23 => ?_)
    have tq23 : τ q23 = (1, 0) := tq23
    have uq23 : q12 = q23 := S19.2.2.2.2 _ hq12 _ hq23 (tq12.trans tq23.symm) (by rw [tq12]; rfl)
    subst uq23
    refine tr_getr Z.1 Z.2.2.2.1 S19.1 S19.2 hq12 tq12 rfl rfl (fun _ h => List.mem_cons_of_mem _ (List.mem_append_left _ (List.mem_append_right _ h))) 9 (by decide) rfl (hts _ (List.mem_of_getElem? (i := 4) rfl)) dX9_path_42 (fun q24 eq24 hq24 tq24 => ?_)
    have tq24 : τ q24 = (21, 0) := tq24
    obtain ⟨v25, ev25, tv25⟩ : ∃ v : Int32, (Int16.ofInt (1000)).toInt32 = v ∧ v.toInt = 1000 := ⟨_, rfl, by decide +kernel⟩
    refine lv_sipush hx hb dX9_path_45 ev25 ?_
    refine tc_sv Z.1 Z.2.2.2.1 Z.2.2.2.2.1 Z.2.2.2.2.2 S19.1 (k_J7_fill_53178_v21_0 l D cy S19.2 hq24 tq24 v25) (va_cwS 2 hts gX9_path_J7_fill_53178 rfl rfl rfl (by decide +kernel) ⟨Nat.le_of_ble_eq_true rfl, Nat.le_of_ble_eq_true rfl⟩) rfl hl.1 rfl (Nat.le_of_ble_eq_true rfl) dX9_path_48 ⟨Nat.zero_le _, Nat.zero_le _⟩ (fun E26 H27 k28 W26 I26 G26 p26 => ?_)
    have S26 : Now D TB cy (va_A (va_pl L E) sz) s L τ E26 H27 k28 := ⟨W26, I26⟩
    have F26 : Fr L τ (inW [(1, 1), (20, 1), (21, 1), (22, 1), (23, 1), (24, 1), (25, 1), (26, 1), (27, 1), (4, 0), (0, 0), (1, 0), (20, 0), (21, 0), (22, 0), (23, 0), (24, 0), (25, 0), (26, 0), (27, 0)]) E E26 := F19.trans (G26.mono (inW_mono (by decide)))
    refine lv_aload_n hx hb dX9_path_51 rfl (lv_at hl 0 rfl) ?_
    refine tr_getr Z.1 Z.2.2.2.1 S26.1 S26.2 ha0 ta0 rfl rfl (fun _ h => List.mem_cons_of_mem _ (List.mem_append_left _ (List.mem_append_left _ (List.mem_append_right _ h)))) 0 (by decide) rfl (hts _ (List.mem_of_getElem? (i := 1) rfl)) dX9_path_52 (fun q30 eq30 hq30 tq30 => ?_)
    have tq30 : τ q30 = (1, 0) := tq30
    have uq30 : q12 = q30 := S26.2.2.2.2 _ hq12 _ hq30 (tq12.trans tq30.symm) (by rw [tq12]; rfl)
    subst uq30
    refine tr_getr Z.1 Z.2.2.2.1 S26.1 S26.2 hq12 tq12 rfl rfl (fun _ h => List.mem_cons_of_mem _ (List.mem_append_left _ (List.mem_append_right _ h))) 10 (by decide) rfl (hts _ (List.mem_of_getElem? (i := 5) rfl)) dX9_path_55 (fun q31 eq31 hq31 tq31 => ?_)
    have tq31 : τ q31 = (22, 0) := tq31
    obtain ⟨v32, ev32, tv32⟩ : ∃ v : Int32, Int32.ofInt (0) = v ∧ v.toInt = 0 := ⟨_, rfl, by decide +kernel⟩
    refine lv_iconst hx hb dX9_path_58 ev32 ?_
    refine tc_sv Z.1 Z.2.2.2.1 Z.2.2.2.2.1 Z.2.2.2.2.2 S26.1 (k_J7_fill_53178_v22_0 l D cy S26.2 hq31 tq31 v32) (va_cwS 2 hts gX9_path_J7_fill_53178 rfl rfl rfl (by decide +kernel) ⟨Nat.le_of_ble_eq_true rfl, Nat.le_of_ble_eq_true rfl⟩) rfl hl.1 rfl (Nat.le_of_ble_eq_true rfl) dX9_path_59 ⟨Nat.zero_le _, Nat.zero_le _⟩ (fun E33 H34 k35 W33 I33 G33 p33 => ?_)
    have S33 : Now D TB cy (va_A (va_pl L E) sz) s L τ E33 H34 k35 := ⟨W33, I33⟩
    have F33 : Fr L τ (inW [(1, 1), (20, 1), (21, 1), (22, 1), (23, 1), (24, 1), (25, 1), (26, 1), (27, 1), (4, 0), (0, 0), (1, 0), (20, 0), (21, 0), (22, 0), (23, 0), (24, 0), (25, 0), (26, 0), (27, 0)]) E E33 := F26.trans (G33.mono (inW_mono (by decide)))
    obtain ⟨v37, ev37, tv37⟩ : ∃ v : Int32, Int32.ofInt (1) = v ∧ v.toInt = 1 := ⟨_, rfl, by decide +kernel⟩
    refine lv_iconst hx hb dX9_path_62 ev37 ?_
    rw [← hQ]
    exact en_z Z S33 F33 (zo v37 (by omega)) ⟨(by omega), (by omega), (by omega)⟩ dX9_path_63
  · skip
    have tc7 := nu_eq c7
    have uc7 : (0 : Int32).toInt = 0 := rfl
    refine lv_aload_n hx hb dX9_path_9 rfl (lv_at hl 0 rfl) ?_
    obtain ⟨v38, ev38, tv38⟩ : ∃ v : Int32, Int32.ofInt (1) = v ∧ v.toInt = 1 := ⟨_, rfl, by decide +kernel⟩
    refine lv_iconst hx hb dX9_path_10 ev38 ?_
    refine tc_vi Z.1 Z.2.2.2.1 Z.2.2.2.2.1 Z.2.2.2.2.2 S3.1 S3.2 ha0 ta0 rfl rfl (k_X9_deny l D cy S3.2 ha0 ta0 v38) (cwV 1 hts gX9_path_X9_deny rfl rfl rfl (by decide +kernel) ⟨Nat.le_of_ble_eq_true rfl, Nat.le_of_ble_eq_true rfl⟩) rfl hl.1 rfl (Nat.le_of_ble_eq_true rfl) dX9_path_11 ⟨Nat.zero_le _, Nat.zero_le _⟩ (fun v42 E39 H40 k41 W39 I39 G39 p39 => ?_)
    obtain ⟨p39_0, p39_1⟩ := p39
    have S39 : Now D TB cy (va_A (va_pl L E) sz) s L τ E39 H40 k41 := ⟨W39, I39⟩
    have F39 : Fr L τ (inW [(1, 1), (20, 1), (21, 1), (22, 1), (23, 1), (24, 1), (25, 1), (26, 1), (27, 1), (4, 0), (0, 0), (1, 0), (20, 0), (21, 0), (22, 0), (23, 0), (24, 0), (25, 0), (26, 0), (27, 0)]) E E39 := F0_.trans (G39.mono (inW_mono (by decide)))
    rw [← hQ]
    exact en_z Z S39 F39 (zo v42 (by omega)) ⟨(by omega), (by omega), (by omega)⟩ dX9_path_14

theorem dX9_rootOf_0 : decode cX9_rootOf 0 = .ok (.lconst 0, 1) := by decide +kernel
theorem dX9_rootOf_1 : decode cX9_rootOf 1 = .ok (.lstore_n 2, 1) := by decide +kernel
theorem dX9_rootOf_2 : decode cX9_rootOf 2 = .ok (.ldc2_w 304, 3) := by decide +kernel
theorem dX9_rootOf_5 : decode cX9_rootOf 5 = .ok (.lstore 4, 2) := by decide +kernel
theorem dX9_rootOf_7 : decode cX9_rootOf 7 = .ok (.lload 4, 2) := by decide +kernel
theorem dX9_rootOf_9 : decode cX9_rootOf 9 = .ok (.lconst 0, 1) := by decide +kernel
theorem dX9_rootOf_10 : decode cX9_rootOf 10 = .ok (.lcmp, 1) := by decide +kernel
theorem dX9_rootOf_11 : decode cX9_rootOf 11 = .ok (.ifCond .le 31, 3) := by decide +kernel
theorem dX9_rootOf_14 : decode cX9_rootOf 14 = .ok (.lload_n 2, 1) := by decide +kernel
theorem dX9_rootOf_15 : decode cX9_rootOf 15 = .ok (.lload 4, 2) := by decide +kernel
theorem dX9_rootOf_17 : decode cX9_rootOf 17 = .ok (.ladd, 1) := by decide +kernel
theorem dX9_rootOf_18 : decode cX9_rootOf 18 = .ok (.lstore 6, 2) := by decide +kernel
theorem dX9_rootOf_20 : decode cX9_rootOf 20 = .ok (.lload 6, 2) := by decide +kernel
theorem dX9_rootOf_22 : decode cX9_rootOf 22 = .ok (.lload 6, 2) := by decide +kernel
theorem dX9_rootOf_24 : decode cX9_rootOf 24 = .ok (.lmul, 1) := by decide +kernel
theorem dX9_rootOf_25 : decode cX9_rootOf 25 = .ok (.lload_n 0, 1) := by decide +kernel
theorem dX9_rootOf_26 : decode cX9_rootOf 26 = .ok (.lcmp, 1) := by decide +kernel
theorem dX9_rootOf_27 : decode cX9_rootOf 27 = .ok (.ifCond .gt 6, 3) := by decide +kernel
theorem dX9_rootOf_30 : decode cX9_rootOf 30 = .ok (.lload 6, 2) := by decide +kernel
theorem dX9_rootOf_32 : decode cX9_rootOf 32 = .ok (.lstore_n 2, 1) := by decide +kernel
theorem dX9_rootOf_33 : decode cX9_rootOf 33 = .ok (.lload 4, 2) := by decide +kernel
theorem dX9_rootOf_35 : decode cX9_rootOf 35 = .ok (.iconst 1, 1) := by decide +kernel
theorem dX9_rootOf_36 : decode cX9_rootOf 36 = .ok (.lshr, 1) := by decide +kernel
theorem dX9_rootOf_37 : decode cX9_rootOf 37 = .ok (.lstore 4, 2) := by decide +kernel
theorem dX9_rootOf_39 : decode cX9_rootOf 39 = .ok (.goto (-32), 3) := by decide +kernel
theorem dX9_rootOf_42 : decode cX9_rootOf 42 = .ok (.lload_n 2, 1) := by decide +kernel
theorem dX9_rootOf_43 : decode cX9_rootOf 43 = .ok (.l2i, 1) := by decide +kernel
theorem dX9_rootOf_44 : decode cX9_rootOf 44 = .ok (.ireturn, 1) := by decide +kernel
set_option maxHeartbeats 4000000 in
set_option maxRecDepth 100000 in
theorem k_X9_rootOf (l : Launch) (D : va_G) (cy : Nat → ClassId) {L : List Nat} {τ : Nat → Ro} {E : Ec} (hI : Inv TB cy L τ E) (a0 : Int64) : CtI l yX9_rootOf wsX9_rootOf { frames := 0, cells := 0, slots := 0, locals := 0 } D TB cy L τ E [.long a0] (inW []) (fun r E' => E' = E) := by
  intro sz
  refine sta (cc := cX9_rootOf) (maxL := 8) hI (by decide) rfl (Nat.le_of_ble_eq_true rfl) (fun p e s m args below meth c ls hsz Z S0 hl => ?_)
  have hx := Z.1.1
  have hb := Z.1.2.1
  have hts := Z.1.2.2.2.2
  have F0_ : Fr L τ (inW []) E E := Fr.refl
  have hl : lv_has ls 8 [(0, .long a0)] := hl
  generalize hQ : MQ below _ args s 0 0 _ = QQ
  have J7 : ∀ (n : Nat) (x2_7 : Int64) (x4_7 : Int64) (H_7 : Heap) (k_7 : List Loc) (l_7 : Array Slot), Now D TB cy (va_A (va_pl L E) sz) s L τ E H_7 k_7 → (0 ≤ x4_7.toInt) → (x4_7.toInt ≤ 65536) → (x4_7.toInt).toNat < n → lv_has l_7 8 [(0, .long a0), (2, .long x2_7), (4, .long x4_7)] → W p l e { frames := 0, cells := 0, slots := 0, locals := 0 } s m args below meth c H_7 k_7 0 0 QQ (F0 m 7 l_7 []) := by
    intro n
    induction n with
    | zero => intro x2_7 x4_7 H_7 k_7 l_7 S_7 z1 z2 hm hl_7; exact absurd hm (Nat.not_lt_zero _)
    | succ n ih =>
      intro x2_7 x4_7 H_7 k_7 l_7 S_7 z1 z2 hm hl_7
      have ih_7 := ih
      have J33 : ∀ (x2_33 : Int64) (H_33 : Heap) (k_33 : List Loc) (l_33 : Array Slot), Now D TB cy (va_A (va_pl L E) sz) s L τ E H_33 k_33 → (1 ≤ x4_7.toInt) → (x4_7.toInt ≤ 65536) → (x4_7.toInt = x4_7.toInt) → lv_has l_33 8 [(0, .long a0), (2, .long x2_33), (4, .long x4_7)] → W p l e { frames := 0, cells := 0, slots := 0, locals := 0 } s m args below meth c H_33 k_33 0 0 QQ (F0 m 33 l_33 []) := by
        intro x2_33 H_33 k_33 l_33 S_33 z3 z4 z5 hl_33
        refine lv_lload hx hb dX9_rootOf_33 (lv_at hl_33 2 rfl) ?_
        obtain ⟨v6, ev6, tv6⟩ : ∃ v : Int32, Int32.ofInt (1) = v ∧ v.toInt = 1 := ⟨_, rfl, by decide +kernel⟩
        refine lv_iconst hx hb dX9_rootOf_35 ev6 ?_
        obtain ⟨w7, ew7⟩ : ∃ z : Int64, x4_7 >>> (v6.toInt64 &&& 63) = z := ⟨_, rfl⟩
        refine lv_lshr hx hb dX9_rootOf_36 ew7 ?_
        have tw7 := nl_shr1 ew7 (by omega) (by omega)
        refine lv_lstore (lv' := [(4, .long w7), (0, .long a0), (2, .long x2_33)]) hx hb dX9_rootOf_37 hl_33 (by decide) rfl (fun l8 hl9 => ?_)
        refine lv_goto (tgt := 7) hx hb dX9_rootOf_39 (by decide) ?_
        exact ih_7 x2_33 w7 H_33 k_33 l8 S_33 (by omega) (by omega) (by omega) (lv_sub hl9 [1, 2, 0] rfl)
      refine lv_lload hx hb dX9_rootOf_7 (lv_at hl_7 2 rfl) ?_
      refine lv_lconst (v := 0) hx hb dX9_rootOf_9 (by decide +kernel) ?_
      refine lv_topl (fun w10 ew10 => ?_)
      have tw10 : w10.toInt = 0 := by rw [ew10]; decide +kernel
      refine W.lcmp hx hb dX9_rootOf_10 ?_
      refine lv_topi (fun v11 ev11 => ?_)
      have tv11 := nl_cmp ev11
      refine lv_if_le (tgt := 42) hx hb dX9_rootOf_11 (by decide) (fun c12 => ?_) (fun c12 => ?_)
      · skip
        have tc12 := nu_le c12
        have uc12 : (0 : Int32).toInt = 0 := rfl
        refine lv_lload_n hx hb dX9_rootOf_42 rfl (lv_at hl_7 1 rfl) ?_
        obtain ⟨v13, ev13⟩ : ∃ y : Int32, x2_7.toInt32 = y := ⟨_, rfl⟩
        refine lv_l2i hx hb dX9_rootOf_43 ev13 ?_
        rw [← hQ]
        exact en_i Z S_7 F0_ rfl dX9_rootOf_44
      · skip
        have tc12 := nu_nle c12
        have uc12 : (0 : Int32).toInt = 0 := rfl
        refine lv_lload_n hx hb dX9_rootOf_14 rfl (lv_at hl_7 1 rfl) ?_
        refine lv_lload hx hb dX9_rootOf_15 (lv_at hl_7 2 rfl) ?_
        refine lv_ladd hx hb dX9_rootOf_17 ?_
        refine lv_topl (fun w14 ew14 => ?_)
        refine lv_lstore (lv' := [(6, .long w14), (0, .long a0), (2, .long x2_7), (4, .long x4_7)]) hx hb dX9_rootOf_18 hl_7 (by decide) rfl (fun l15 hl16 => ?_)
        refine lv_lload hx hb dX9_rootOf_20 (lv_at hl16 0 rfl) ?_
        refine lv_lload hx hb dX9_rootOf_22 (lv_at hl16 0 rfl) ?_
        refine lv_lmul hx hb dX9_rootOf_24 ?_
        refine lv_topl (fun w17 ew17 => ?_)
        refine lv_lload_n hx hb dX9_rootOf_25 rfl (lv_at hl16 1 rfl) ?_
        refine W.lcmp hx hb dX9_rootOf_26 ?_
        refine lv_topi (fun v18 ev18 => ?_)
        have tv18 := nl_cmp ev18
        refine lv_if_gt (tgt := 33) hx hb dX9_rootOf_27 (by decide) (fun c19 => ?_) (fun c19 => ?_)
        · skip
          have tc19 := nu_lt c19
          have uc19 : (0 : Int32).toInt = 0 := rfl
          exact J33 x2_7 H_7 k_7 l15 S_7 (by omega) (by omega) (by omega) (lv_sub hl16 [1, 2, 3] rfl)
        · skip
          have tc19 := nu_nlt c19
          have uc19 : (0 : Int32).toInt = 0 := rfl
          refine lv_lload hx hb dX9_rootOf_30 (lv_at hl16 0 rfl) ?_
          refine lv_lstore_n (lv' := [(2, .long w14), (6, .long w14), (0, .long a0), (4, .long x4_7)]) hx hb dX9_rootOf_32 rfl hl16 (by decide) rfl (fun l20 hl21 => ?_)
          exact J33 w14 H_7 k_7 l20 S_7 (by omega) (by omega) (by omega) (lv_sub hl21 [2, 0, 3] rfl)
  refine lv_lconst (v := 0) hx hb dX9_rootOf_0 (by decide +kernel) ?_
  refine lv_topl (fun w22 ew22 => ?_)
  have tw22 : w22.toInt = 0 := by rw [ew22]; decide +kernel
  refine lv_lstore_n (lv' := [(2, .long w22), (0, .long a0)]) hx hb dX9_rootOf_1 rfl hl (by decide) rfl (fun l23 hl24 => ?_)
  refine lv_ldc2 (v := (65536)) hx hb Z.1.2.2.2.1 (hts _ (List.mem_of_getElem? (i := 1) rfl)) dX9_rootOf_2 ?_
  refine lv_topl (fun w25 ew25 => ?_)
  have tw25 : w25.toInt = 65536 := by rw [ew25]; decide +kernel
  refine lv_lstore (lv' := [(4, .long w25), (2, .long w22), (0, .long a0)]) hx hb dX9_rootOf_5 hl24 (by decide) rfl (fun l26 hl27 => ?_)
  exact J7 _ w22 w25 s.heap [] l26 S0 (by omega) (by omega) (Nat.lt_succ_self _) (lv_sub hl27 [2, 1, 0] rfl)

set_option maxRecDepth 20000 in
theorem ggX9_string_X9_within : GoodIn wsX9_string wsX9_within := goodIn_r _ [9] (by decide +kernel) (by decide +kernel)
set_option maxRecDepth 20000 in
theorem gX9_string_X9_within : GoodIn wsX9_string (va_wsS RX9 73 yX9_within wsX9_within) := goodIn_app (goodIn_of _ (by decide +kernel)) ggX9_string_X9_within
set_option maxRecDepth 20000 in
theorem ggX9_string_X9_refuse : GoodIn wsX9_string wsX9_refuse := goodIn_r _ [13, 3, 92, 93, 94, 95, 96, 97, 98, 99, 100, 101, 102] (by decide +kernel) (by decide +kernel)
set_option maxRecDepth 20000 in
theorem gX9_string_X9_refuse : GoodIn wsX9_string (wsV RX9 153 RX9 yX9_refuse wsX9_refuse) := goodIn_app (goodIn_of _ (by decide +kernel)) ggX9_string_X9_refuse
set_option maxRecDepth 20000 in
theorem ggX9_string_X9_laidRows : GoodIn wsX9_string wsX9_laidRows := goodIn_r _ [17, 18, 19, 1, 20, 21, 22, 23, 24, 25, 26, 27, 28, 29, 30, 31, 32, 33, 34, 35, 36, 37, 38, 39, 40, 41, 42, 43, 44, 45, 46, 47, 48, 49, 50, 8, 51, 52, 53, 54, 55, 56, 57, 58, 59, 60, 61, 62, 63, 64, 65, 66, 67, 68, 69, 70, 71, 72, 73, 74, 75, 76, 77, 78, 79, 80, 81, 82, 83, 92, 93, 94, 95, 96, 97, 98, 99, 100, 101, 102, 119, 120, 121, 122, 123, 103, 104, 105, 106, 107, 108, 109, 110, 111, 112, 113, 114, 115, 116, 117, 118] (by decide +kernel) (by decide +kernel)
set_option maxRecDepth 20000 in
theorem gX9_string_X9_laidRows : GoodIn wsX9_string (wsV RX9 121 RX9 yX9_laidRows wsX9_laidRows) := goodIn_app (goodIn_of _ (by decide +kernel)) ggX9_string_X9_laidRows
set_option maxRecDepth 20000 in
theorem ggX9_string_X6_riseOf : GoodIn wsX9_string wsX6_riseOf := goodIn_r _ [87, 25, 30, 119, 120, 121, 122, 123] (by decide +kernel) (by decide +kernel)
set_option maxRecDepth 20000 in
theorem gX9_string_X6_riseOf : GoodIn wsX9_string (wsV RX9 256 RX6 yX6_riseOf wsX6_riseOf) := goodIn_app (goodIn_of _ (by decide +kernel)) ggX9_string_X6_riseOf
set_option maxRecDepth 20000 in
theorem ggX9_string_X9_rootOf : GoodIn wsX9_string wsX9_rootOf := goodIn_r _ [90, 91] (by decide +kernel) (by decide +kernel)
set_option maxRecDepth 20000 in
theorem gX9_string_X9_rootOf : GoodIn wsX9_string (va_wsS RX9 261 yX9_rootOf wsX9_rootOf) := goodIn_app (goodIn_of _ (by decide +kernel)) ggX9_string_X9_rootOf
theorem dX9_string_0 : decode cX9_string 0 = .ok (.iload_n 1, 1) := by decide +kernel
theorem dX9_string_1 : decode cX9_string 1 = .ok (.iconst 0, 1) := by decide +kernel
theorem dX9_string_2 : decode cX9_string 2 = .ok (.aload_n 0, 1) := by decide +kernel
theorem dX9_string_3 : decode cX9_string 3 = .ok (.getfield 10, 3) := by decide +kernel
theorem dX9_string_6 : decode cX9_string 6 = .ok (.getfield 96, 3) := by decide +kernel
theorem dX9_string_9 : decode cX9_string 9 = .ok (.iconst 1, 1) := by decide +kernel
theorem dX9_string_10 : decode cX9_string 10 = .ok (.isub, 1) := by decide +kernel
theorem dX9_string_11 : decode cX9_string 11 = .ok (.invokestatic 73, 3) := by decide +kernel
theorem dX9_string_14 : decode cX9_string 14 = .ok (.ifCond .ne 9, 3) := by decide +kernel
theorem dX9_string_17 : decode cX9_string 17 = .ok (.aload_n 0, 1) := by decide +kernel
theorem dX9_string_18 : decode cX9_string 18 = .ok (.iconst 4, 1) := by decide +kernel
theorem dX9_string_19 : decode cX9_string 19 = .ok (.invokevirtual 153, 3) := by decide +kernel
theorem dX9_string_22 : decode cX9_string 22 = .ok (.ireturn, 1) := by decide +kernel
theorem dX9_string_23 : decode cX9_string 23 = .ok (.aload_n 0, 1) := by decide +kernel
theorem dX9_string_24 : decode cX9_string 24 = .ok (.iconst 0, 1) := by decide +kernel
theorem dX9_string_25 : decode cX9_string 25 = .ok (.putfield 66, 3) := by decide +kernel
theorem dX9_string_28 : decode cX9_string 28 = .ok (.aload_n 0, 1) := by decide +kernel
theorem dX9_string_29 : decode cX9_string 29 = .ok (.getfield 10, 3) := by decide +kernel
theorem dX9_string_32 : decode cX9_string 32 = .ok (.getfield 108, 3) := by decide +kernel
theorem dX9_string_35 : decode cX9_string 35 = .ok (.iload_n 1, 1) := by decide +kernel
theorem dX9_string_36 : decode cX9_string 36 = .ok (.iaload, 1) := by decide +kernel
theorem dX9_string_37 : decode cX9_string 37 = .ok (.i2l, 1) := by decide +kernel
theorem dX9_string_38 : decode cX9_string 38 = .ok (.lstore_n 2, 1) := by decide +kernel
theorem dX9_string_39 : decode cX9_string 39 = .ok (.aload_n 0, 1) := by decide +kernel
theorem dX9_string_40 : decode cX9_string 40 = .ok (.invokevirtual 121, 3) := by decide +kernel
theorem dX9_string_43 : decode cX9_string 43 = .ok (.iload_n 1, 1) := by decide +kernel
theorem dX9_string_44 : decode cX9_string 44 = .ok (.invokevirtual 256, 3) := by decide +kernel
theorem dX9_string_47 : decode cX9_string 47 = .ok (.i2l, 1) := by decide +kernel
theorem dX9_string_48 : decode cX9_string 48 = .ok (.lstore 4, 2) := by decide +kernel
theorem dX9_string_50 : decode cX9_string 50 = .ok (.ldc2_w 259, 3) := by decide +kernel
theorem dX9_string_53 : decode cX9_string 53 = .ok (.lload_n 2, 1) := by decide +kernel
theorem dX9_string_54 : decode cX9_string 54 = .ok (.lload_n 2, 1) := by decide +kernel
theorem dX9_string_55 : decode cX9_string 55 = .ok (.lmul, 1) := by decide +kernel
theorem dX9_string_56 : decode cX9_string 56 = .ok (.lload 4, 2) := by decide +kernel
theorem dX9_string_58 : decode cX9_string 58 = .ok (.lload 4, 2) := by decide +kernel
theorem dX9_string_60 : decode cX9_string 60 = .ok (.lmul, 1) := by decide +kernel
theorem dX9_string_61 : decode cX9_string 61 = .ok (.ladd, 1) := by decide +kernel
theorem dX9_string_62 : decode cX9_string 62 = .ok (.lmul, 1) := by decide +kernel
theorem dX9_string_63 : decode cX9_string 63 = .ok (.invokestatic 261, 3) := by decide +kernel
theorem dX9_string_66 : decode cX9_string 66 = .ok (.ireturn, 1) := by decide +kernel
set_option maxHeartbeats 4000000 in
set_option maxRecDepth 100000 in
theorem k_X9_string (l : Launch) (D : va_G) (cy : Nat → ClassId) {L : List Nat} {τ : Nat → Ro} {E : Ec} (hI : Inv TB cy L τ E) {a0 : Nat} (ha0 : a0 ∈ L) (ta0 : τ a0 = (0, 0)) (a1 : Int32) : CtI l yX9_string wsX9_string { frames := 5, cells := 0, slots := 0, locals := 114 } D TB cy L τ E [.ref a0, .int a1] (inW [(0, 0), (5, 0), (100, 0), (101, 0), (102, 0), (103, 0), (104, 0), (105, 0), (106, 0), (107, 0), (108, 0), (109, 0), (110, 0), (111, 0), (112, 0)]) (fun r E' => True) := by
  intro sz
  refine sta (cc := cX9_string) (maxL := 6) hI (by decide) rfl (Nat.le_of_ble_eq_true rfl) (fun p e s m args below meth c ls hsz Z S0 hl => ?_)
  have hx := Z.1.1
  have hb := Z.1.2.1
  have hts := Z.1.2.2.2.2
  have F0_ : Fr L τ (inW [(0, 0), (5, 0), (100, 0), (101, 0), (102, 0), (103, 0), (104, 0), (105, 0), (106, 0), (107, 0), (108, 0), (109, 0), (110, 0), (111, 0), (112, 0)]) E E := Fr.refl
  have hl : lv_has ls 6 [(0, .ref a0), (1, .int a1)] := hl
  generalize hQ : MQ below _ args s 0 0 _ = QQ
  refine lv_iload_n hx hb dX9_string_0 rfl (lv_at hl 1 rfl) ?_
  obtain ⟨v1, ev1, tv1⟩ : ∃ v : Int32, Int32.ofInt (0) = v ∧ v.toInt = 0 := ⟨_, rfl, by decide +kernel⟩
  refine lv_iconst hx hb dX9_string_1 ev1 ?_
  refine lv_aload_n hx hb dX9_string_2 rfl (lv_at hl 0 rfl) ?_
  refine tr_getr Z.1 Z.2.2.2.1 S0.1 S0.2 ha0 ta0 rfl rfl (fun _ h => List.mem_cons_of_mem _ (List.mem_append_left _ (List.mem_append_left _ (List.mem_append_right _ h)))) 0 (by decide) rfl (hts _ (List.mem_of_getElem? (i := 1) rfl)) dX9_string_3 (fun q2 eq2 hq2 tq2 => ?_)
  have tq2 : τ q2 = (1, 0) := tq2
  refine tr_geti Z.1 Z.2.2.2.1 S0.1 S0.2 hq2 tq2 rfl rfl (fun _ h => List.mem_cons_of_mem _ (List.mem_append_left _ (List.mem_append_right _ h))) 4 (by decide) rfl (hts _ (List.mem_of_getElem? (i := 2) rfl)) dX9_string_6 (fun v3 ev3 lv3 uv3 => ?_)
  obtain ⟨v4, ev4, tv4⟩ : ∃ v : Int32, Int32.ofInt (1) = v ∧ v.toInt = 1 := ⟨_, rfl, by decide +kernel⟩
  refine lv_iconst hx hb dX9_string_9 ev4 ?_
  refine lv_isub hx hb dX9_string_10 ?_
  refine lv_topi (fun v5 ev5 => ?_)
  have tv5 := nu_sub ev5 (by omega) (by omega)
  refine tc_si Z.1 Z.2.2.2.1 Z.2.2.2.2.1 Z.2.2.2.2.2 S0.1 (k_X9_within l D cy S0.2 a1 v1 v5) (va_cwS 3 hts gX9_string_X9_within rfl rfl rfl (by decide +kernel) ⟨Nat.le_of_ble_eq_true rfl, Nat.le_of_ble_eq_true rfl⟩) rfl hl.1 rfl (Nat.le_of_ble_eq_true rfl) dX9_string_11 ⟨Nat.zero_le _, Nat.zero_le _⟩ (fun v9 E6 H7 k8 W6 I6 G6 p6 => ?_)
  obtain ⟨q6, p6_0, p6_1, p6_2⟩ := p6
  have q6 := q6.symm
  subst q6
  have S6 : Now D TB cy (va_A (va_pl L E) sz) s L τ E H7 k8 := ⟨W6, I6⟩
  refine lv_if_ne (tgt := 23) hx hb dX9_string_14 (by decide) (fun c10 => ?_) (fun c10 => ?_)
  · skip
    have tc10 := nu_ne c10
    have uc10 : (0 : Int32).toInt = 0 := rfl
    refine lv_aload_n hx hb dX9_string_23 rfl (lv_at hl 0 rfl) ?_
    obtain ⟨v11, ev11, tv11⟩ : ∃ v : Int32, Int32.ofInt (0) = v ∧ v.toInt = 0 := ⟨_, rfl, by decide +kernel⟩
    refine lv_iconst hx hb dX9_string_24 ev11 ?_
    refine tr_puti Z.1 Z.2.2.2.1 S6.1 S6.2 ha0 ta0 rfl rfl (fun _ h => List.mem_cons_of_mem _ (List.mem_append_left _ (List.mem_append_left _ (List.mem_append_right _ h)))) tyX9_ok nmX9 9 (by decide) rfl rfl rfl (hts _ (List.mem_of_getElem? (i := 3) rfl)) dX9_string_25 (by have := fb_rng v11; omega) (by have := fb_rng v11; omega) (fun E12 H13 k14 W12 I12 P12 => ?_)
    have S12 : Now D TB cy (va_A (va_pl L E) sz) s L τ E12 H13 k14 := ⟨W12, I12⟩
    have F12 : Fr L τ (inW [(0, 0), (5, 0), (100, 0), (101, 0), (102, 0), (103, 0), (104, 0), (105, 0), (106, 0), (107, 0), (108, 0), (109, 0), (110, 0), (111, 0), (112, 0)]) E E12 := Fr.put F0_ P12 ta0 rfl
    refine lv_aload_n hx hb dX9_string_28 rfl (lv_at hl 0 rfl) ?_
    refine tr_getr Z.1 Z.2.2.2.1 S12.1 S12.2 ha0 ta0 rfl rfl (fun _ h => List.mem_cons_of_mem _ (List.mem_append_left _ (List.mem_append_left _ (List.mem_append_right _ h)))) 0 (by decide) rfl (hts _ (List.mem_of_getElem? (i := 1) rfl)) dX9_string_29 (fun q15 eq15 hq15 tq15 => ?_)
    have tq15 : τ q15 = (1, 0) := tq15
    have uq15 : q2 = q15 := S12.2.2.2.2 _ hq2 _ hq15 (tq2.trans tq15.symm) (by rw [tq2]; rfl)
    subst uq15
    refine tr_getr Z.1 Z.2.2.2.1 S12.1 S12.2 hq2 tq2 rfl rfl (fun _ h => List.mem_cons_of_mem _ (List.mem_append_left _ (List.mem_append_right _ h))) 9 (by decide) rfl (hts _ (List.mem_of_getElem? (i := 4) rfl)) dX9_string_32 (fun q16 eq16 hq16 tq16 => ?_)
    have tq16 : τ q16 = (21, 0) := tq16
    refine lv_iload_n hx hb dX9_string_35 rfl (lv_at hl 1 rfl) ?_
    refine tr_iald Z.1 Z.2.2.2.1 S12.1 S12.2 hq16 tq16 rfl (by omega) (by omega) dX9_string_36 (fun v17 ev17 lv17 uv17 => ?_)
    obtain ⟨w18, ew18⟩ : ∃ y : Int64, v17.toInt64 = y := ⟨_, rfl⟩
    refine lv_i2l hx hb dX9_string_37 ew18 ?_
    refine lv_lstore_n (lv' := [(2, .long w18), (0, .ref a0), (1, .int a1)]) hx hb dX9_string_38 rfl hl (by decide) rfl (fun l19 hl20 => ?_)
    refine lv_aload_n hx hb dX9_string_39 rfl (lv_at hl20 1 rfl) ?_
    refine tc_vq Z.1 Z.2.2.2.1 Z.2.2.2.2.1 Z.2.2.2.2.2 S12.1 S12.2 ha0 ta0 rfl rfl (k_X9_laidRows l D cy S12.2 ha0 ta0) (cwV 0 hts gX9_string_X9_laidRows rfl rfl rfl (by decide +kernel) ⟨Nat.le_of_ble_eq_true rfl, Nat.le_of_ble_eq_true rfl⟩) rfl hl20.1 rfl (Nat.le_of_ble_eq_true rfl) dX9_string_40 ⟨Nat.zero_le _, Nat.zero_le _⟩ (fun v24 E21 H22 k23 W21 I21 G21 p21 => ?_)
    have p21_0 := p21
    have S21 : Now D TB cy (va_A (va_pl L E) sz) s L τ E21 H22 k23 := ⟨W21, I21⟩
    have F21 : Fr L τ (inW [(0, 0), (5, 0), (100, 0), (101, 0), (102, 0), (103, 0), (104, 0), (105, 0), (106, 0), (107, 0), (108, 0), (109, 0), (110, 0), (111, 0), (112, 0)]) E E21 := F12.trans (G21.mono (inW_mono (by decide)))
    obtain ⟨q25, rfl, hq25, tq25⟩ := p21_0
    refine W.eq (g2 := F0 m 43 l19 [.ref q25]) rfl ?_
    refine lv_iload_n hx hb dX9_string_43 rfl (lv_at hl20 2 rfl) ?_
    refine tc_vi Z.1 Z.2.2.2.1 Z.2.2.2.2.1 Z.2.2.2.2.2 S21.1 S21.2 hq25 tq25 rfl rfl (k_X6_riseOf l D cy S21.2 hq25 tq25 a1) (cwV 1 hts gX9_string_X6_riseOf rfl rfl rfl (by decide +kernel) ⟨Nat.le_of_ble_eq_true rfl, Nat.le_of_ble_eq_true rfl⟩) rfl hl20.1 rfl (Nat.le_of_ble_eq_true rfl) dX9_string_44 ⟨Nat.zero_le _, Nat.zero_le _⟩ (fun v29 E26 H27 k28 W26 I26 G26 p26 => ?_)
    have q26 := p26
    have q26 := q26.symm
    subst q26
    have S26 : Now D TB cy (va_A (va_pl L E) sz) s L τ E21 H27 k28 := ⟨W26, I26⟩
    obtain ⟨w30, ew30⟩ : ∃ y : Int64, v29.toInt64 = y := ⟨_, rfl⟩
    refine lv_i2l hx hb dX9_string_47 ew30 ?_
    refine lv_lstore (lv' := [(4, .long w30), (2, .long w18), (0, .ref a0), (1, .int a1)]) hx hb dX9_string_48 hl20 (by decide) rfl (fun l31 hl32 => ?_)
    refine lv_ldc2 (v := (100)) hx hb Z.1.2.2.2.1 (hts _ (List.mem_of_getElem? (i := 5) rfl)) dX9_string_50 ?_
    refine lv_topl (fun w33 ew33 => ?_)
    have tw33 : w33.toInt = 100 := by rw [ew33]; decide +kernel
    refine lv_lload_n hx hb dX9_string_53 rfl (lv_at hl32 1 rfl) ?_
    refine lv_lload_n hx hb dX9_string_54 rfl (lv_at hl32 1 rfl) ?_
    refine lv_lmul hx hb dX9_string_55 ?_
    refine lv_topl (fun w34 ew34 => ?_)
    refine lv_lload hx hb dX9_string_56 (lv_at hl32 0 rfl) ?_
    refine lv_lload hx hb dX9_string_58 (lv_at hl32 0 rfl) ?_
    refine lv_lmul hx hb dX9_string_60 ?_
    refine lv_topl (fun w35 ew35 => ?_)
    refine lv_ladd hx hb dX9_string_61 ?_
    refine lv_topl (fun w36 ew36 => ?_)
    refine lv_lmul hx hb dX9_string_62 ?_
    refine lv_topl (fun w37 ew37 => ?_)
    refine tc_si Z.1 Z.2.2.2.1 Z.2.2.2.2.1 Z.2.2.2.2.2 S26.1 (k_X9_rootOf l D cy S26.2 w37) (va_cwS 1 hts gX9_string_X9_rootOf rfl rfl rfl (by decide +kernel) ⟨Nat.le_of_ble_eq_true rfl, Nat.le_of_ble_eq_true rfl⟩) rfl hl32.1 rfl (Nat.le_of_ble_eq_true rfl) dX9_string_63 ⟨Nat.zero_le _, Nat.zero_le _⟩ (fun v41 E38 H39 k40 W38 I38 G38 p38 => ?_)
    have q38 := p38
    have q38 := q38.symm
    subst q38
    have S38 : Now D TB cy (va_A (va_pl L E) sz) s L τ E21 H39 k40 := ⟨W38, I38⟩
    rw [← hQ]
    exact en_i Z S38 F21 trivial dX9_string_66
  · skip
    have tc10 := nu_eq c10
    have uc10 : (0 : Int32).toInt = 0 := rfl
    refine lv_aload_n hx hb dX9_string_17 rfl (lv_at hl 0 rfl) ?_
    obtain ⟨v42, ev42, tv42⟩ : ∃ v : Int32, Int32.ofInt (4) = v ∧ v.toInt = 4 := ⟨_, rfl, by decide +kernel⟩
    refine lv_iconst hx hb dX9_string_18 ev42 ?_
    refine tc_vi Z.1 Z.2.2.2.1 Z.2.2.2.2.1 Z.2.2.2.2.2 S6.1 S6.2 ha0 ta0 rfl rfl (k_X9_refuse l D cy S6.2 ha0 ta0 v42) (cwV 1 hts gX9_string_X9_refuse rfl rfl rfl (by decide +kernel) ⟨Nat.le_of_ble_eq_true rfl, Nat.le_of_ble_eq_true rfl⟩) rfl hl.1 rfl (Nat.le_of_ble_eq_true rfl) dX9_string_19 ⟨Nat.zero_le _, Nat.zero_le _⟩ (fun v46 E43 H44 k45 W43 I43 G43 p43 => ?_)
    obtain ⟨p43_0, p43_1⟩ := p43
    have S43 : Now D TB cy (va_A (va_pl L E) sz) s L τ E43 H44 k45 := ⟨W43, I43⟩
    have F43 : Fr L τ (inW [(0, 0), (5, 0), (100, 0), (101, 0), (102, 0), (103, 0), (104, 0), (105, 0), (106, 0), (107, 0), (108, 0), (109, 0), (110, 0), (111, 0), (112, 0)]) E E43 := F0_.trans (G43.mono (inW_mono (by decide)))
    rw [← hQ]
    exact en_i Z S43 F43 trivial dX9_string_22

theorem dX9_sheetNumber_0 : decode cX9_sheetNumber 0 = .ok (.aload_n 0, 1) := by decide +kernel
theorem dX9_sheetNumber_1 : decode cX9_sheetNumber 1 = .ok (.getfield 26, 3) := by decide +kernel
theorem dX9_sheetNumber_4 : decode cX9_sheetNumber 4 = .ok (.getfield 145, 3) := by decide +kernel
theorem dX9_sheetNumber_7 : decode cX9_sheetNumber 7 = .ok (.getstatic 301, 3) := by decide +kernel
theorem dX9_sheetNumber_10 : decode cX9_sheetNumber 10 = .ok (.iload_n 1, 1) := by decide +kernel
theorem dX9_sheetNumber_11 : decode cX9_sheetNumber 11 = .ok (.iconst 4, 1) := by decide +kernel
theorem dX9_sheetNumber_12 : decode cX9_sheetNumber 12 = .ok (.irem, 1) := by decide +kernel
theorem dX9_sheetNumber_13 : decode cX9_sheetNumber 13 = .ok (.iaload, 1) := by decide +kernel
theorem dX9_sheetNumber_14 : decode cX9_sheetNumber 14 = .ok (.aaload, 1) := by decide +kernel
theorem dX9_sheetNumber_15 : decode cX9_sheetNumber 15 = .ok (.iload_n 1, 1) := by decide +kernel
theorem dX9_sheetNumber_16 : decode cX9_sheetNumber 16 = .ok (.iconst 4, 1) := by decide +kernel
theorem dX9_sheetNumber_17 : decode cX9_sheetNumber 17 = .ok (.idiv, 1) := by decide +kernel
theorem dX9_sheetNumber_18 : decode cX9_sheetNumber 18 = .ok (.iaload, 1) := by decide +kernel
theorem dX9_sheetNumber_19 : decode cX9_sheetNumber 19 = .ok (.ireturn, 1) := by decide +kernel
set_option maxHeartbeats 4000000 in
set_option maxRecDepth 100000 in
theorem k_X9_sheetNumber (l : Launch) (D : va_G) (cy : Nat → ClassId) {L : List Nat} {τ : Nat → Ro} {E : Ec} (hI : Inv TB cy L τ E) {G : Sg} {a0 : Nat} (ha0 : a0 ∈ L) (ta0 : τ a0 = (0, 0)) (a1 : Int32) (la1 : 0 ≤ a1.toInt) (ua1 : a1.toInt ≤ 263) : CtI1 G l yX9_sheetNumber wsX9_sheetNumber { frames := 0, cells := 0, slots := 0, locals := 0 } D TB cy L τ E [.ref a0, .int a1] (inW []) (fun r E' => E' = E) := by
  intro sz
  refine sta1 (cc := cX9_sheetNumber) (maxL := 2) hI (by decide) rfl (Nat.le_of_ble_eq_true rfl) (fun p e s m args below meth c ls hsz Z SZ S0 hl => ?_)
  have hx := Z.1.1
  have hb := Z.1.2.1
  have hts := Z.1.2.2.2.2
  have F0_ : Fr L τ (inW []) E E := Fr.refl
  have hl : lv_has ls 2 [(0, .ref a0), (1, .int a1)] := hl
  generalize hQ : MQ below _ args s 0 0 _ = QQ
  refine lv_aload_n hx hb dX9_sheetNumber_0 rfl (lv_at hl 0 rfl) ?_
  refine tr_getr Z.1 Z.2.2.2.1 S0.1 S0.2 ha0 ta0 rfl rfl (fun _ h => List.mem_cons_of_mem _ (List.mem_append_left _ (List.mem_append_right _ h))) 2 (by decide) rfl (hts _ (List.mem_of_getElem? (i := 1) rfl)) dX9_sheetNumber_1 (fun q1 eq1 hq1 tq1 => ?_)
  have tq1 : τ q1 = (5, 0) := tq1
  refine tr_getr Z.1 Z.2.2.2.1 S0.1 S0.2 hq1 tq1 rfl rfl (fun _ h => List.mem_cons_of_mem _ (List.mem_append_right _ h)) 0 (by decide) rfl (hts _ (List.mem_of_getElem? (i := 2) rfl)) dX9_sheetNumber_4 (fun q2 eq2 hq2 tq2 => ?_)
  have tq2 : τ q2 = (30, 0) := tq2
  refine va_gets hx hb SZ.1.1 S0.1.2.2 Z.1.2.2.2.1 (hts _ (List.mem_of_getElem? (i := 3) rfl)) (fun _ h => h) dX9_sheetNumber_7 ?_
  refine lv_iload_n hx hb dX9_sheetNumber_10 rfl (lv_at hl 1 rfl) ?_
  obtain ⟨v3, ev3, tv3⟩ : ∃ v : Int32, Int32.ofInt (4) = v ∧ v.toInt = 4 := ⟨_, rfl, by decide +kernel⟩
  refine lv_iconst hx hb dX9_sheetNumber_11 ev3 ?_
  refine lv_irem hx hb dX9_sheetNumber_12 (fun q => by have := nu_eq0 q; omega) ?_
  refine lv_topi (fun v4 ev4 => ?_)
  have tv4 := nu_remc (4) ev4 (by omega) (by omega) (by omega)
  refine va_ti hx hb SZ.1.2 S0.1.2.2 (tr_in (by omega) (by omega)) rfl dX9_sheetNumber_13 ?_
  refine lv_topi (fun v5 ev5 => ?_)
  have tv5 := (show 0 ≤ v5.toInt ∧ v5.toInt ≤ 4 by rw [ev5]; exact sheetS_rng (tr_cl (n := 4) (by omega) (by omega)))
  refine tr_aaldr (ra := 100 + ((v5.toNatClampNeg : Nat) : Int)) (rb := 0) Z.1 Z.2.2.2.1 S0.1 S0.2 hq2 tq2 rfl rfl rfl rfl (by omega) (by omega) dX9_sheetNumber_14 (fun q6 eq6 hq6 tq6 => ?_)
  have nq6 : v5.toNatClampNeg ≤ 12 := by show v5.toInt.toNat ≤ 12; omega
  have tq6 : τ q6 = (100 + v5.toNatClampNeg, 0) := tq6.trans (Prod.ext (by show (100 + ((v5.toNatClampNeg : Nat) : Int)).toNat = 100 + v5.toNatClampNeg; omega) rfl)
  refine lv_iload_n hx hb dX9_sheetNumber_15 rfl (lv_at hl 1 rfl) ?_
  obtain ⟨v7, ev7, tv7⟩ : ∃ v : Int32, Int32.ofInt (4) = v ∧ v.toInt = 4 := ⟨_, rfl, by decide +kernel⟩
  refine lv_iconst hx hb dX9_sheetNumber_16 ev7 ?_
  refine lv_idiv hx hb dX9_sheetNumber_17 (fun q => by have := nu_eq0 q; omega) ?_
  refine lv_topi (fun v8 ev8 => ?_)
  have tv8 := nu_divc (4) ev8 (by omega) (by omega) (by omega)
  refine tr_ialdw Z.1 Z.2.2.2.1 S0.1 S0.2 hq6 tq6 (row_tab (by omega)) (by omega) (by omega) dX9_sheetNumber_18 (fun v9 ev9 => ?_)
  rw [← hQ]
  exact en_i Z S0 F0_ rfl dX9_sheetNumber_19

set_option maxRecDepth 20000 in
theorem ggX9_tell_X9_laidRows : GoodIn wsX9_tell wsX9_laidRows := goodIn_r _ [8, 9, 10, 11, 12, 13, 14, 15, 16, 17, 18, 19, 20, 21, 22, 23, 24, 25, 26, 27, 28, 29, 30, 31, 32, 33, 34, 35, 36, 37, 38, 39, 40, 41, 42, 7, 43, 44, 45, 46, 47, 48, 49, 50, 51, 52, 53, 54, 55, 56, 57, 58, 59, 60, 61, 62, 63, 64, 65, 66, 67, 68, 69, 70, 71, 72, 73, 74, 75, 87, 88, 89, 90, 91, 92, 93, 94, 95, 96, 97, 82, 83, 84, 85, 86, 98, 99, 100, 101, 102, 103, 104, 105, 106, 107, 108, 109, 110, 111, 112, 113] (by decide +kernel) (by decide +kernel)
set_option maxRecDepth 20000 in
theorem gX9_tell_X9_laidRows : GoodIn wsX9_tell (wsV RX9 121 RX9 yX9_laidRows wsX9_laidRows) := goodIn_app (goodIn_of _ (by decide +kernel)) ggX9_tell_X9_laidRows
set_option maxRecDepth 20000 in
theorem ggX9_tell_X9_sheetNumber : GoodIn wsX9_tell wsX9_sheetNumber := goodIn_r _ [79, 10, 80, 81, 87, 88, 89, 90, 91, 92, 93, 94, 95, 96, 97, 82, 83, 84, 85, 86] (by decide +kernel) (by decide +kernel)
set_option maxRecDepth 20000 in
theorem gX9_tell_X9_sheetNumber : GoodIn wsX9_tell (wsV RX9 274 RX9 yX9_sheetNumber wsX9_sheetNumber) := goodIn_app (goodIn_of _ (by decide +kernel)) ggX9_tell_X9_sheetNumber
theorem dX9_tell_0 : decode cX9_tell 0 = .ok (.aload_n 0, 1) := by decide +kernel
theorem dX9_tell_1 : decode cX9_tell 1 = .ok (.aload_n 0, 1) := by decide +kernel
theorem dX9_tell_2 : decode cX9_tell 2 = .ok (.invokevirtual 121, 3) := by decide +kernel
theorem dX9_tell_5 : decode cX9_tell 5 = .ok (.getfield 125, 3) := by decide +kernel
theorem dX9_tell_8 : decode cX9_tell 8 = .ok (.iconst 4, 1) := by decide +kernel
theorem dX9_tell_9 : decode cX9_tell 9 = .ok (.imul, 1) := by decide +kernel
theorem dX9_tell_10 : decode cX9_tell 10 = .ok (.putfield 62, 3) := by decide +kernel
theorem dX9_tell_13 : decode cX9_tell 13 = .ok (.iconst 0, 1) := by decide +kernel
theorem dX9_tell_14 : decode cX9_tell 14 = .ok (.istore_n 1, 1) := by decide +kernel
theorem dX9_tell_15 : decode cX9_tell 15 = .ok (.iload_n 1, 1) := by decide +kernel
theorem dX9_tell_16 : decode cX9_tell 16 = .ok (.aload_n 0, 1) := by decide +kernel
theorem dX9_tell_17 : decode cX9_tell 17 = .ok (.getfield 62, 3) := by decide +kernel
theorem dX9_tell_20 : decode cX9_tell 20 = .ok (.if_icmp .ge 20, 3) := by decide +kernel
theorem dX9_tell_23 : decode cX9_tell 23 = .ok (.aload_n 0, 1) := by decide +kernel
theorem dX9_tell_24 : decode cX9_tell 24 = .ok (.getfield 58, 3) := by decide +kernel
theorem dX9_tell_27 : decode cX9_tell 27 = .ok (.iload_n 1, 1) := by decide +kernel
theorem dX9_tell_28 : decode cX9_tell 28 = .ok (.aload_n 0, 1) := by decide +kernel
theorem dX9_tell_29 : decode cX9_tell 29 = .ok (.iload_n 1, 1) := by decide +kernel
theorem dX9_tell_30 : decode cX9_tell 30 = .ok (.invokevirtual 274, 3) := by decide +kernel
theorem dX9_tell_33 : decode cX9_tell 33 = .ok (.iastore, 1) := by decide +kernel
theorem dX9_tell_34 : decode cX9_tell 34 = .ok (.iinc 1 1, 3) := by decide +kernel
theorem dX9_tell_37 : decode cX9_tell 37 = .ok (.goto (-22), 3) := by decide +kernel
theorem dX9_tell_40 : decode cX9_tell 40 = .ok (.aload_n 0, 1) := by decide +kernel
theorem dX9_tell_41 : decode cX9_tell 41 = .ok (.getfield 62, 3) := by decide +kernel
theorem dX9_tell_44 : decode cX9_tell 44 = .ok (.ireturn, 1) := by decide +kernel
set_option maxHeartbeats 4000000 in
set_option maxRecDepth 100000 in
theorem k_X9_tell (l : Launch) (D : va_G) (cy : Nat → ClassId) {L : List Nat} {τ : Nat → Ro} {E : Ec} (hI : Inv TB cy L τ E) {G : Sg} {a0 : Nat} (ha0 : a0 ∈ L) (ta0 : τ a0 = (0, 0)) : CtI1 G l yX9_tell wsX9_tell { frames := 5, cells := 0, slots := 0, locals := 114 } D TB cy L τ E [.ref a0] (inW [(0, 0), (28, 0), (5, 0), (100, 0), (101, 0), (102, 0), (103, 0), (104, 0), (105, 0), (106, 0), (107, 0), (108, 0), (109, 0), (110, 0), (111, 0), (112, 0)]) (fun r E' => True) := by
  intro sz
  refine sta1 (cc := cX9_tell) (maxL := 2) hI (by decide) rfl (Nat.le_of_ble_eq_true rfl) (fun p e s m args below meth c ls hsz Z SZ S0 hl => ?_)
  have hx := Z.1.1
  have hb := Z.1.2.1
  have hts := Z.1.2.2.2.2
  have F0_ : Fr L τ (inW [(0, 0), (28, 0), (5, 0), (100, 0), (101, 0), (102, 0), (103, 0), (104, 0), (105, 0), (106, 0), (107, 0), (108, 0), (109, 0), (110, 0), (111, 0), (112, 0)]) E E := Fr.refl
  have hl : lv_has ls 2 [(0, .ref a0)] := hl
  generalize hQ : MQ below _ args s 0 0 _ = QQ
  have J15 : ∀ (n : Nat) (x1_15 : Int32) (E_15 : Ec) (H_15 : Heap) (k_15 : List Loc) (l_15 : Array Slot), Now D TB cy (va_A (va_pl L E) sz) s L τ E_15 H_15 k_15 → Fr L τ (inW [(0, 0), (28, 0), (5, 0), (100, 0), (101, 0), (102, 0), (103, 0), (104, 0), (105, 0), (106, 0), (107, 0), (108, 0), (109, 0), (110, 0), (111, 0), (112, 0)]) E E_15 → (0 ≤ x1_15.toInt) → (x1_15.toInt ≤ 264) → (264 - x1_15.toInt).toNat < n → lv_has l_15 2 [(0, .ref a0), (1, .int x1_15)] → W p l e { frames := 5, cells := 0, slots := 0, locals := 114 } s m args below meth c H_15 k_15 0 0 QQ (F0 m 15 l_15 []) := by
    intro n
    induction n with
    | zero => intro x1_15 E_15 H_15 k_15 l_15 S_15 F_15 z1 z2 hm hl_15; exact absurd hm (Nat.not_lt_zero _)
    | succ n ih =>
      intro x1_15 E_15 H_15 k_15 l_15 S_15 F_15 z1 z2 hm hl_15
      have ih_15 := ih
      refine lv_iload_n hx hb dX9_tell_15 rfl (lv_at hl_15 1 rfl) ?_
      refine lv_aload_n hx hb dX9_tell_16 rfl (lv_at hl_15 0 rfl) ?_
      refine tr_geti Z.1 Z.2.2.2.1 S_15.1 S_15.2 ha0 ta0 rfl rfl (fun _ h => List.mem_cons_of_mem _ (List.mem_append_left _ (List.mem_append_right _ h))) 8 (by decide) rfl (hts _ (List.mem_of_getElem? (i := 2) rfl)) dX9_tell_17 (fun v3 ev3 lv3 uv3 => ?_)
      refine lv_icmp_ge (tgt := 40) hx hb dX9_tell_20 (by decide) (fun c4 => ?_) (fun c4 => ?_)
      · skip
        have tc4 := nu_le c4
        refine lv_aload_n hx hb dX9_tell_40 rfl (lv_at hl_15 0 rfl) ?_
        refine tr_geti Z.1 Z.2.2.2.1 S_15.1 S_15.2 ha0 ta0 rfl rfl (fun _ h => List.mem_cons_of_mem _ (List.mem_append_left _ (List.mem_append_right _ h))) 8 (by decide) rfl (hts _ (List.mem_of_getElem? (i := 2) rfl)) dX9_tell_41 (fun v5 ev5 lv5 uv5 => ?_)
        have wv5 : v5 = v3 := ev5.symm.trans ev3
        have xv5 : v5.toInt = v3.toInt := by rw [wv5]
        rw [← hQ]
        exact en_i Z S_15 F_15 trivial dX9_tell_44
      · skip
        have tc4 := nu_nle c4
        refine lv_aload_n hx hb dX9_tell_23 rfl (lv_at hl_15 0 rfl) ?_
        refine tr_getr Z.1 Z.2.2.2.1 S_15.1 S_15.2 ha0 ta0 rfl rfl (fun _ h => List.mem_cons_of_mem _ (List.mem_append_left _ (List.mem_append_right _ h))) 7 (by decide) rfl (hts _ (List.mem_of_getElem? (i := 3) rfl)) dX9_tell_24 (fun q6 eq6 hq6 tq6 => ?_)
        have tq6 : τ q6 = (28, 0) := tq6
        refine lv_iload_n hx hb dX9_tell_27 rfl (lv_at hl_15 1 rfl) ?_
        refine lv_aload_n hx hb dX9_tell_28 rfl (lv_at hl_15 0 rfl) ?_
        refine lv_iload_n hx hb dX9_tell_29 rfl (lv_at hl_15 1 rfl) ?_
        refine tc1_vi Z.1 Z.2.2.2.1 Z.2.2.2.2.1 Z.2.2.2.2.2 SZ S_15.1 S_15.2 ha0 ta0 rfl rfl (k_X9_sheetNumber l D cy S_15.2 ha0 ta0 x1_15 (by omega) (by omega)) (cwV 1 hts gX9_tell_X9_sheetNumber rfl rfl rfl (by decide +kernel) ⟨Nat.le_of_ble_eq_true rfl, Nat.le_of_ble_eq_true rfl⟩) rfl hl_15.1 rfl (Nat.le_of_ble_eq_true rfl) dX9_tell_30 ⟨Nat.zero_le _, Nat.zero_le _⟩ (fun v10 E7 H8 k9 W7 I7 G7 p7 => ?_)
        have q7 := p7
        have q7 := q7.symm
        subst q7
        have S7 : Now D TB cy (va_A (va_pl L E) sz) s L τ E_15 H8 k9 := ⟨W7, I7⟩
        refine tr_iast Z.1 Z.2.2.2.1 S7.1 S7.2 hq6 tq6 rfl (by omega) (by omega) (by have := fb_rng v10; omega) (by have := fb_rng v10; omega) dX9_tell_33 (fun E11 H12 k13 W11 I11 P11 => ?_)
        have S11 : Now D TB cy (va_A (va_pl L E) sz) s L τ E11 H12 k13 := ⟨W11, I11⟩
        have F11 : Fr L τ (inW [(0, 0), (28, 0), (5, 0), (100, 0), (101, 0), (102, 0), (103, 0), (104, 0), (105, 0), (106, 0), (107, 0), (108, 0), (109, 0), (110, 0), (111, 0), (112, 0)]) E E11 := Fr.set F_15 P11 tq6 rfl
        obtain ⟨v14, ev14⟩ : ∃ y : Int32, x1_15 + Int32.ofInt (1) = y := ⟨_, rfl⟩
        have tv14 : v14.toInt = x1_15.toInt + (1) := by rw [← ev14]; exact (fb_addI (by rw [show (Int32.ofInt (1)).toInt = 1 from by decide +kernel]; omega) (by rw [show (Int32.ofInt (1)).toInt = 1 from by decide +kernel]; omega)).trans (by rw [show (Int32.ofInt (1)).toInt = 1 from by decide +kernel])
        refine lv_iinc (v := v14) (lv' := [(1, .int v14), (0, .ref a0)]) hx hb dX9_tell_34 hl_15 (k := 1) rfl ev14 (by decide) rfl (fun l15 hl16 => ?_)
        refine lv_goto (tgt := 15) hx hb dX9_tell_37 (by decide) ?_
        exact ih_15 v14 E11 H12 k13 l15 S11 F11 (by omega) (by omega) (by omega) (lv_sub hl16 [1, 0] rfl)
  refine lv_aload_n hx hb dX9_tell_0 rfl (lv_at hl 0 rfl) ?_
  refine lv_aload_n hx hb dX9_tell_1 rfl (lv_at hl 0 rfl) ?_
  refine tc_vq Z.1 Z.2.2.2.1 Z.2.2.2.2.1 Z.2.2.2.2.2 S0.1 S0.2 ha0 ta0 rfl rfl (k_X9_laidRows l D cy S0.2 ha0 ta0) (cwV 0 hts gX9_tell_X9_laidRows rfl rfl rfl (by decide +kernel) ⟨Nat.le_of_ble_eq_true rfl, Nat.le_of_ble_eq_true rfl⟩) rfl hl.1 rfl (Nat.le_of_ble_eq_true rfl) dX9_tell_2 ⟨Nat.zero_le _, Nat.zero_le _⟩ (fun v20 E17 H18 k19 W17 I17 G17 p17 => ?_)
  have p17_0 := p17
  have S17 : Now D TB cy (va_A (va_pl L E) sz) s L τ E17 H18 k19 := ⟨W17, I17⟩
  have F17 : Fr L τ (inW [(0, 0), (28, 0), (5, 0), (100, 0), (101, 0), (102, 0), (103, 0), (104, 0), (105, 0), (106, 0), (107, 0), (108, 0), (109, 0), (110, 0), (111, 0), (112, 0)]) E E17 := F0_.trans (G17.mono (inW_mono (by decide)))
  obtain ⟨q21, rfl, hq21, tq21⟩ := p17_0
  refine W.eq (g2 := F0 m 5 ls [.ref q21, .ref a0]) rfl ?_
  refine tr_geti Z.1 Z.2.2.2.1 S17.1 S17.2 hq21 tq21 rfl rfl (fun _ h => List.mem_cons_of_mem _ (List.mem_append_left _ (List.mem_append_left _ (List.mem_append_right _ h)))) 1 (by decide) rfl (hts _ (List.mem_of_getElem? (i := 1) rfl)) dX9_tell_5 (fun v22 ev22 lv22 uv22 => ?_)
  obtain ⟨v23, ev23, tv23⟩ : ∃ v : Int32, Int32.ofInt (4) = v ∧ v.toInt = 4 := ⟨_, rfl, by decide +kernel⟩
  refine lv_iconst hx hb dX9_tell_8 ev23 ?_
  refine lv_imul hx hb dX9_tell_9 ?_
  refine lv_topi (fun v24 ev24 => ?_)
  have tv24 := nu_mulc (4) ev24 (by omega) (by omega) (by omega)
  refine tr_puti Z.1 Z.2.2.2.1 S17.1 S17.2 ha0 ta0 rfl rfl (fun _ h => List.mem_cons_of_mem _ (List.mem_append_left _ (List.mem_append_right _ h))) tyX9_ok nmX9 8 (by decide) rfl rfl rfl (hts _ (List.mem_of_getElem? (i := 2) rfl)) dX9_tell_10 (by omega) (by omega) (fun E25 H26 k27 W25 I25 P25 => ?_)
  have S25 : Now D TB cy (va_A (va_pl L E) sz) s L τ E25 H26 k27 := ⟨W25, I25⟩
  have F25 : Fr L τ (inW [(0, 0), (28, 0), (5, 0), (100, 0), (101, 0), (102, 0), (103, 0), (104, 0), (105, 0), (106, 0), (107, 0), (108, 0), (109, 0), (110, 0), (111, 0), (112, 0)]) E E25 := Fr.put F17 P25 ta0 rfl
  obtain ⟨v28, ev28, tv28⟩ : ∃ v : Int32, Int32.ofInt (0) = v ∧ v.toInt = 0 := ⟨_, rfl, by decide +kernel⟩
  refine lv_iconst hx hb dX9_tell_13 ev28 ?_
  refine lv_istore_n (lv' := [(1, .int v28), (0, .ref a0)]) hx hb dX9_tell_14 rfl hl (by decide) rfl (fun l29 hl30 => ?_)
  exact J15 _ v28 E25 H26 k27 l29 S25 F25 (by omega) (by omega) (Nat.lt_succ_self _) (lv_sub hl30 [1, 0] rfl)

set_option maxRecDepth 20000 in
theorem ggX9_check_X9_refuse : GoodIn wsX9_check wsX9_refuse := goodIn_r _ [9, 2, 87, 88, 89, 90, 91, 92, 93, 94, 95, 96, 97] (by decide +kernel) (by decide +kernel)
set_option maxRecDepth 20000 in
theorem gX9_check_X9_refuse : GoodIn wsX9_check (wsV RX9 153 RX9 yX9_refuse wsX9_refuse) := goodIn_app (goodIn_of _ (by decide +kernel)) ggX9_check_X9_refuse
set_option maxRecDepth 20000 in
theorem ggX9_check_X9_laidRows : GoodIn wsX9_check wsX9_laidRows := goodIn_r _ [13, 14, 15, 16, 17, 18, 19, 20, 21, 22, 23, 24, 25, 26, 27, 28, 29, 30, 31, 32, 33, 34, 35, 36, 37, 38, 39, 40, 41, 42, 43, 44, 45, 46, 47, 8, 48, 49, 50, 51, 52, 53, 54, 55, 56, 57, 58, 59, 60, 61, 62, 63, 64, 65, 66, 67, 68, 69, 70, 71, 72, 73, 74, 75, 76, 77, 78, 79, 80, 87, 88, 89, 90, 91, 92, 93, 94, 95, 96, 97, 98, 99, 100, 101, 102, 103, 104, 105, 106, 107, 108, 109, 110, 111, 112, 113, 114, 115, 116, 117, 118] (by decide +kernel) (by decide +kernel)
set_option maxRecDepth 20000 in
theorem gX9_check_X9_laidRows : GoodIn wsX9_check (wsV RX9 121 RX9 yX9_laidRows wsX9_laidRows) := goodIn_app (goodIn_of _ (by decide +kernel)) ggX9_check_X9_laidRows
set_option maxRecDepth 20000 in
theorem ggX9_check_X9_sheetNumber : GoodIn wsX9_check wsX9_sheetNumber := goodIn_r _ [84, 15, 85, 86, 87, 88, 89, 90, 91, 92, 93, 94, 95, 96, 97, 98, 99, 100, 101, 102] (by decide +kernel) (by decide +kernel)
set_option maxRecDepth 20000 in
theorem gX9_check_X9_sheetNumber : GoodIn wsX9_check (wsV RX9 274 RX9 yX9_sheetNumber wsX9_sheetNumber) := goodIn_app (goodIn_of _ (by decide +kernel)) ggX9_check_X9_sheetNumber
theorem dX9_check_0 : decode cX9_check 0 = .ok (.aload_n 0, 1) := by decide +kernel
theorem dX9_check_1 : decode cX9_check 1 = .ok (.getfield 62, 3) := by decide +kernel
theorem dX9_check_4 : decode cX9_check 4 = .ok (.ifCond .ne 9, 3) := by decide +kernel
theorem dX9_check_7 : decode cX9_check 7 = .ok (.aload_n 0, 1) := by decide +kernel
theorem dX9_check_8 : decode cX9_check 8 = .ok (.iconst 5, 1) := by decide +kernel
theorem dX9_check_9 : decode cX9_check 9 = .ok (.invokevirtual 153, 3) := by decide +kernel
theorem dX9_check_12 : decode cX9_check 12 = .ok (.ireturn, 1) := by decide +kernel
theorem dX9_check_13 : decode cX9_check 13 = .ok (.aload_n 0, 1) := by decide +kernel
theorem dX9_check_14 : decode cX9_check 14 = .ok (.iconst 0, 1) := by decide +kernel
theorem dX9_check_15 : decode cX9_check 15 = .ok (.putfield 66, 3) := by decide +kernel
theorem dX9_check_18 : decode cX9_check 18 = .ok (.aload_n 0, 1) := by decide +kernel
theorem dX9_check_19 : decode cX9_check 19 = .ok (.invokevirtual 121, 3) := by decide +kernel
theorem dX9_check_22 : decode cX9_check 22 = .ok (.getfield 125, 3) := by decide +kernel
theorem dX9_check_25 : decode cX9_check 25 = .ok (.iconst 4, 1) := by decide +kernel
theorem dX9_check_26 : decode cX9_check 26 = .ok (.imul, 1) := by decide +kernel
theorem dX9_check_27 : decode cX9_check 27 = .ok (.aload_n 0, 1) := by decide +kernel
theorem dX9_check_28 : decode cX9_check 28 = .ok (.getfield 62, 3) := by decide +kernel
theorem dX9_check_31 : decode cX9_check 31 = .ok (.if_icmp .eq 6, 3) := by decide +kernel
theorem dX9_check_34 : decode cX9_check 34 = .ok (.bipush (-3), 2) := by decide +kernel
theorem dX9_check_36 : decode cX9_check 36 = .ok (.ireturn, 1) := by decide +kernel
theorem dX9_check_37 : decode cX9_check 37 = .ok (.iconst 0, 1) := by decide +kernel
theorem dX9_check_38 : decode cX9_check 38 = .ok (.istore_n 1, 1) := by decide +kernel
theorem dX9_check_39 : decode cX9_check 39 = .ok (.iload_n 1, 1) := by decide +kernel
theorem dX9_check_40 : decode cX9_check 40 = .ok (.aload_n 0, 1) := by decide +kernel
theorem dX9_check_41 : decode cX9_check 41 = .ok (.getfield 62, 3) := by decide +kernel
theorem dX9_check_44 : decode cX9_check 44 = .ok (.if_icmp .ge 25, 3) := by decide +kernel
theorem dX9_check_47 : decode cX9_check 47 = .ok (.aload_n 0, 1) := by decide +kernel
theorem dX9_check_48 : decode cX9_check 48 = .ok (.getfield 58, 3) := by decide +kernel
theorem dX9_check_51 : decode cX9_check 51 = .ok (.iload_n 1, 1) := by decide +kernel
theorem dX9_check_52 : decode cX9_check 52 = .ok (.iaload, 1) := by decide +kernel
theorem dX9_check_53 : decode cX9_check 53 = .ok (.aload_n 0, 1) := by decide +kernel
theorem dX9_check_54 : decode cX9_check 54 = .ok (.iload_n 1, 1) := by decide +kernel
theorem dX9_check_55 : decode cX9_check 55 = .ok (.invokevirtual 274, 3) := by decide +kernel
theorem dX9_check_58 : decode cX9_check 58 = .ok (.if_icmp .eq 5, 3) := by decide +kernel
theorem dX9_check_61 : decode cX9_check 61 = .ok (.iload_n 1, 1) := by decide +kernel
theorem dX9_check_62 : decode cX9_check 62 = .ok (.ireturn, 1) := by decide +kernel
theorem dX9_check_63 : decode cX9_check 63 = .ok (.iinc 1 1, 3) := by decide +kernel
theorem dX9_check_66 : decode cX9_check 66 = .ok (.goto (-27), 3) := by decide +kernel
theorem dX9_check_69 : decode cX9_check 69 = .ok (.bipush (-2), 2) := by decide +kernel
theorem dX9_check_71 : decode cX9_check 71 = .ok (.ireturn, 1) := by decide +kernel
set_option maxHeartbeats 4000000 in
set_option maxRecDepth 100000 in
theorem k_X9_check (l : Launch) (D : va_G) (cy : Nat → ClassId) {L : List Nat} {τ : Nat → Ro} {E : Ec} (hI : Inv TB cy L τ E) {G : Sg} {a0 : Nat} (ha0 : a0 ∈ L) (ta0 : τ a0 = (0, 0)) : CtI1 G l yX9_check wsX9_check { frames := 5, cells := 0, slots := 0, locals := 114 } D TB cy L τ E [.ref a0] (inW [(0, 0), (5, 0), (100, 0), (101, 0), (102, 0), (103, 0), (104, 0), (105, 0), (106, 0), (107, 0), (108, 0), (109, 0), (110, 0), (111, 0), (112, 0)]) (fun r E' => True) := by
  intro sz
  refine sta1 (cc := cX9_check) (maxL := 2) hI (by decide) rfl (Nat.le_of_ble_eq_true rfl) (fun p e s m args below meth c ls hsz Z SZ S0 hl => ?_)
  have hx := Z.1.1
  have hb := Z.1.2.1
  have hts := Z.1.2.2.2.2
  have F0_ : Fr L τ (inW [(0, 0), (5, 0), (100, 0), (101, 0), (102, 0), (103, 0), (104, 0), (105, 0), (106, 0), (107, 0), (108, 0), (109, 0), (110, 0), (111, 0), (112, 0)]) E E := Fr.refl
  have hl : lv_has ls 2 [(0, .ref a0)] := hl
  generalize hQ : MQ below _ args s 0 0 _ = QQ
  have J39 : ∀ (n : Nat) (x1_39 : Int32) (E_39 : Ec) (H_39 : Heap) (k_39 : List Loc) (l_39 : Array Slot), Now D TB cy (va_A (va_pl L E) sz) s L τ E_39 H_39 k_39 → Fr L τ (inW [(0, 0), (5, 0), (100, 0), (101, 0), (102, 0), (103, 0), (104, 0), (105, 0), (106, 0), (107, 0), (108, 0), (109, 0), (110, 0), (111, 0), (112, 0)]) E E_39 → (0 ≤ x1_39.toInt) → (x1_39.toInt ≤ 264) → (264 - x1_39.toInt).toNat < n → lv_has l_39 2 [(0, .ref a0), (1, .int x1_39)] → W p l e { frames := 5, cells := 0, slots := 0, locals := 114 } s m args below meth c H_39 k_39 0 0 QQ (F0 m 39 l_39 []) := by
    intro n
    induction n with
    | zero => intro x1_39 E_39 H_39 k_39 l_39 S_39 F_39 z1 z2 hm hl_39; exact absurd hm (Nat.not_lt_zero _)
    | succ n ih =>
      intro x1_39 E_39 H_39 k_39 l_39 S_39 F_39 z1 z2 hm hl_39
      have ih_39 := ih
      refine lv_iload_n hx hb dX9_check_39 rfl (lv_at hl_39 1 rfl) ?_
      refine lv_aload_n hx hb dX9_check_40 rfl (lv_at hl_39 0 rfl) ?_
      refine tr_geti Z.1 Z.2.2.2.1 S_39.1 S_39.2 ha0 ta0 rfl rfl (fun _ h => List.mem_cons_of_mem _ (List.mem_append_left _ (List.mem_append_left _ (List.mem_append_right _ h)))) 8 (by decide) rfl (hts _ (List.mem_of_getElem? (i := 1) rfl)) dX9_check_41 (fun v3 ev3 lv3 uv3 => ?_)
      refine lv_icmp_ge (tgt := 69) hx hb dX9_check_44 (by decide) (fun c4 => ?_) (fun c4 => ?_)
      · skip
        have tc4 := nu_le c4
        obtain ⟨v5, ev5, tv5⟩ : ∃ v : Int32, (Int8.ofInt (-2)).toInt32 = v ∧ v.toInt = -2 := ⟨_, rfl, by decide +kernel⟩
        refine lv_bipush hx hb dX9_check_69 ev5 ?_
        rw [← hQ]
        exact en_i Z S_39 F_39 trivial dX9_check_71
      · skip
        have tc4 := nu_nle c4
        refine lv_aload_n hx hb dX9_check_47 rfl (lv_at hl_39 0 rfl) ?_
        refine tr_getr Z.1 Z.2.2.2.1 S_39.1 S_39.2 ha0 ta0 rfl rfl (fun _ h => List.mem_cons_of_mem _ (List.mem_append_left _ (List.mem_append_left _ (List.mem_append_right _ h)))) 7 (by decide) rfl (hts _ (List.mem_of_getElem? (i := 4) rfl)) dX9_check_48 (fun q6 eq6 hq6 tq6 => ?_)
        have tq6 : τ q6 = (28, 0) := tq6
        refine lv_iload_n hx hb dX9_check_51 rfl (lv_at hl_39 1 rfl) ?_
        refine tr_iald Z.1 Z.2.2.2.1 S_39.1 S_39.2 hq6 tq6 rfl (by omega) (by omega) dX9_check_52 (fun v7 ev7 lv7 uv7 => ?_)
        refine lv_aload_n hx hb dX9_check_53 rfl (lv_at hl_39 0 rfl) ?_
        refine lv_iload_n hx hb dX9_check_54 rfl (lv_at hl_39 1 rfl) ?_
        refine tc1_vi Z.1 Z.2.2.2.1 Z.2.2.2.2.1 Z.2.2.2.2.2 SZ S_39.1 S_39.2 ha0 ta0 rfl rfl (k_X9_sheetNumber l D cy S_39.2 ha0 ta0 x1_39 (by omega) (by omega)) (cwV 1 hts gX9_check_X9_sheetNumber rfl rfl rfl (by decide +kernel) ⟨Nat.le_of_ble_eq_true rfl, Nat.le_of_ble_eq_true rfl⟩) rfl hl_39.1 rfl (Nat.le_of_ble_eq_true rfl) dX9_check_55 ⟨Nat.zero_le _, Nat.zero_le _⟩ (fun v11 E8 H9 k10 W8 I8 G8 p8 => ?_)
        have q8 := p8
        have q8 := q8.symm
        subst q8
        have S8 : Now D TB cy (va_A (va_pl L E) sz) s L τ E_39 H9 k10 := ⟨W8, I8⟩
        refine lv_icmp_eq (tgt := 63) hx hb dX9_check_58 (by decide) (fun c12 => ?_) (fun c12 => ?_)
        · skip
          have tc12 := nu_eq c12
          obtain ⟨v13, ev13⟩ : ∃ y : Int32, x1_39 + Int32.ofInt (1) = y := ⟨_, rfl⟩
          have tv13 : v13.toInt = x1_39.toInt + (1) := by rw [← ev13]; exact (fb_addI (by rw [show (Int32.ofInt (1)).toInt = 1 from by decide +kernel]; omega) (by rw [show (Int32.ofInt (1)).toInt = 1 from by decide +kernel]; omega)).trans (by rw [show (Int32.ofInt (1)).toInt = 1 from by decide +kernel])
          refine lv_iinc (v := v13) (lv' := [(1, .int v13), (0, .ref a0)]) hx hb dX9_check_63 hl_39 (k := 1) rfl ev13 (by decide) rfl (fun l14 hl15 => ?_)
          refine lv_goto (tgt := 39) hx hb dX9_check_66 (by decide) ?_
          exact ih_39 v13 E_39 H9 k10 l14 S8 F_39 (by omega) (by omega) (by omega) (lv_sub hl15 [1, 0] rfl)
        · skip
          have tc12 := nu_ne c12
          refine lv_iload_n hx hb dX9_check_61 rfl (lv_at hl_39 1 rfl) ?_
          rw [← hQ]
          exact en_i Z S8 F_39 trivial dX9_check_62
  refine lv_aload_n hx hb dX9_check_0 rfl (lv_at hl 0 rfl) ?_
  refine tr_geti Z.1 Z.2.2.2.1 S0.1 S0.2 ha0 ta0 rfl rfl (fun _ h => List.mem_cons_of_mem _ (List.mem_append_left _ (List.mem_append_left _ (List.mem_append_right _ h)))) 8 (by decide) rfl (hts _ (List.mem_of_getElem? (i := 1) rfl)) dX9_check_1 (fun v16 ev16 lv16 uv16 => ?_)
  refine lv_if_ne (tgt := 13) hx hb dX9_check_4 (by decide) (fun c17 => ?_) (fun c17 => ?_)
  · skip
    have tc17 := nu_ne c17
    have uc17 : (0 : Int32).toInt = 0 := rfl
    refine lv_aload_n hx hb dX9_check_13 rfl (lv_at hl 0 rfl) ?_
    obtain ⟨v18, ev18, tv18⟩ : ∃ v : Int32, Int32.ofInt (0) = v ∧ v.toInt = 0 := ⟨_, rfl, by decide +kernel⟩
    refine lv_iconst hx hb dX9_check_14 ev18 ?_
    refine tr_puti Z.1 Z.2.2.2.1 S0.1 S0.2 ha0 ta0 rfl rfl (fun _ h => List.mem_cons_of_mem _ (List.mem_append_left _ (List.mem_append_left _ (List.mem_append_right _ h)))) tyX9_ok nmX9 9 (by decide) rfl rfl rfl (hts _ (List.mem_of_getElem? (i := 2) rfl)) dX9_check_15 (by have := fb_rng v18; omega) (by have := fb_rng v18; omega) (fun E19 H20 k21 W19 I19 P19 => ?_)
    have S19 : Now D TB cy (va_A (va_pl L E) sz) s L τ E19 H20 k21 := ⟨W19, I19⟩
    have F19 : Fr L τ (inW [(0, 0), (5, 0), (100, 0), (101, 0), (102, 0), (103, 0), (104, 0), (105, 0), (106, 0), (107, 0), (108, 0), (109, 0), (110, 0), (111, 0), (112, 0)]) E E19 := Fr.put F0_ P19 ta0 rfl
    refine lv_aload_n hx hb dX9_check_18 rfl (lv_at hl 0 rfl) ?_
    refine tc_vq Z.1 Z.2.2.2.1 Z.2.2.2.2.1 Z.2.2.2.2.2 S19.1 S19.2 ha0 ta0 rfl rfl (k_X9_laidRows l D cy S19.2 ha0 ta0) (cwV 0 hts gX9_check_X9_laidRows rfl rfl rfl (by decide +kernel) ⟨Nat.le_of_ble_eq_true rfl, Nat.le_of_ble_eq_true rfl⟩) rfl hl.1 rfl (Nat.le_of_ble_eq_true rfl) dX9_check_19 ⟨Nat.zero_le _, Nat.zero_le _⟩ (fun v25 E22 H23 k24 W22 I22 G22 p22 => ?_)
    have p22_0 := p22
    have S22 : Now D TB cy (va_A (va_pl L E) sz) s L τ E22 H23 k24 := ⟨W22, I22⟩
    have F22 : Fr L τ (inW [(0, 0), (5, 0), (100, 0), (101, 0), (102, 0), (103, 0), (104, 0), (105, 0), (106, 0), (107, 0), (108, 0), (109, 0), (110, 0), (111, 0), (112, 0)]) E E22 := F19.trans (G22.mono (inW_mono (by decide)))
    obtain ⟨q26, rfl, hq26, tq26⟩ := p22_0
    refine W.eq (g2 := F0 m 22 ls [.ref q26]) rfl ?_
    refine tr_geti Z.1 Z.2.2.2.1 S22.1 S22.2 hq26 tq26 rfl rfl (fun _ h => List.mem_cons_of_mem _ (List.mem_append_left _ (List.mem_append_right _ h))) 1 (by decide) rfl (hts _ (List.mem_of_getElem? (i := 3) rfl)) dX9_check_22 (fun v27 ev27 lv27 uv27 => ?_)
    obtain ⟨v28, ev28, tv28⟩ : ∃ v : Int32, Int32.ofInt (4) = v ∧ v.toInt = 4 := ⟨_, rfl, by decide +kernel⟩
    refine lv_iconst hx hb dX9_check_25 ev28 ?_
    refine lv_imul hx hb dX9_check_26 ?_
    refine lv_topi (fun v29 ev29 => ?_)
    have tv29 := nu_mulc (4) ev29 (by omega) (by omega) (by omega)
    refine lv_aload_n hx hb dX9_check_27 rfl (lv_at hl 0 rfl) ?_
    refine tr_geti Z.1 Z.2.2.2.1 S22.1 S22.2 ha0 ta0 rfl rfl (fun _ h => List.mem_cons_of_mem _ (List.mem_append_left _ (List.mem_append_left _ (List.mem_append_right _ h)))) 8 (by decide) rfl (hts _ (List.mem_of_getElem? (i := 1) rfl)) dX9_check_28 (fun v30 ev30 lv30 uv30 => ?_)
    refine lv_icmp_eq (tgt := 37) hx hb dX9_check_31 (by decide) (fun c31 => ?_) (fun c31 => ?_)
    · skip
      have tc31 := nu_eq c31
      obtain ⟨v32, ev32, tv32⟩ : ∃ v : Int32, Int32.ofInt (0) = v ∧ v.toInt = 0 := ⟨_, rfl, by decide +kernel⟩
      refine lv_iconst hx hb dX9_check_37 ev32 ?_
      refine lv_istore_n (lv' := [(1, .int v32), (0, .ref a0)]) hx hb dX9_check_38 rfl hl (by decide) rfl (fun l33 hl34 => ?_)
      exact J39 _ v32 E22 H23 k24 l33 S22 F22 (by omega) (by omega) (Nat.lt_succ_self _) (lv_sub hl34 [1, 0] rfl)
    · skip
      have tc31 := nu_ne c31
      obtain ⟨v35, ev35, tv35⟩ : ∃ v : Int32, (Int8.ofInt (-3)).toInt32 = v ∧ v.toInt = -3 := ⟨_, rfl, by decide +kernel⟩
      refine lv_bipush hx hb dX9_check_34 ev35 ?_
      rw [← hQ]
      exact en_i Z S22 F22 trivial dX9_check_36
  · skip
    have tc17 := nu_eq c17
    have uc17 : (0 : Int32).toInt = 0 := rfl
    refine lv_aload_n hx hb dX9_check_7 rfl (lv_at hl 0 rfl) ?_
    obtain ⟨v36, ev36, tv36⟩ : ∃ v : Int32, Int32.ofInt (5) = v ∧ v.toInt = 5 := ⟨_, rfl, by decide +kernel⟩
    refine lv_iconst hx hb dX9_check_8 ev36 ?_
    refine tc_vi Z.1 Z.2.2.2.1 Z.2.2.2.2.1 Z.2.2.2.2.2 S0.1 S0.2 ha0 ta0 rfl rfl (k_X9_refuse l D cy S0.2 ha0 ta0 v36) (cwV 1 hts gX9_check_X9_refuse rfl rfl rfl (by decide +kernel) ⟨Nat.le_of_ble_eq_true rfl, Nat.le_of_ble_eq_true rfl⟩) rfl hl.1 rfl (Nat.le_of_ble_eq_true rfl) dX9_check_9 ⟨Nat.zero_le _, Nat.zero_le _⟩ (fun v40 E37 H38 k39 W37 I37 G37 p37 => ?_)
    obtain ⟨p37_0, p37_1⟩ := p37
    have S37 : Now D TB cy (va_A (va_pl L E) sz) s L τ E37 H38 k39 := ⟨W37, I37⟩
    have F37 : Fr L τ (inW [(0, 0), (5, 0), (100, 0), (101, 0), (102, 0), (103, 0), (104, 0), (105, 0), (106, 0), (107, 0), (108, 0), (109, 0), (110, 0), (111, 0), (112, 0)]) E E37 := F0_.trans (G37.mono (inW_mono (by decide)))
    rw [← hQ]
    exact en_i Z S37 F37 trivial dX9_check_12

theorem dX5_hasRoom_0 : decode cX5_hasRoom 0 = .ok (.aload_n 0, 1) := by decide +kernel
theorem dX5_hasRoom_1 : decode cX5_hasRoom 1 = .ok (.getfield 15, 3) := by decide +kernel
theorem dX5_hasRoom_4 : decode cX5_hasRoom 4 = .ok (.bipush 20, 2) := by decide +kernel
theorem dX5_hasRoom_6 : decode cX5_hasRoom 6 = .ok (.iadd, 1) := by decide +kernel
theorem dX5_hasRoom_7 : decode cX5_hasRoom 7 = .ok (.bipush 120, 2) := by decide +kernel
theorem dX5_hasRoom_9 : decode cX5_hasRoom 9 = .ok (.if_icmp .gt 7, 3) := by decide +kernel
theorem dX5_hasRoom_12 : decode cX5_hasRoom 12 = .ok (.iconst 1, 1) := by decide +kernel
theorem dX5_hasRoom_13 : decode cX5_hasRoom 13 = .ok (.goto 4, 3) := by decide +kernel
theorem dX5_hasRoom_16 : decode cX5_hasRoom 16 = .ok (.iconst 0, 1) := by decide +kernel
theorem dX5_hasRoom_17 : decode cX5_hasRoom 17 = .ok (.ireturn, 1) := by decide +kernel
set_option maxHeartbeats 4000000 in
set_option maxRecDepth 100000 in
theorem k_X5_hasRoom (l : Launch) (D : va_G) (cy : Nat → ClassId) {L : List Nat} {τ : Nat → Ro} {E : Ec} (hI : Inv TB cy L τ E) {a0 : Nat} (ha0 : a0 ∈ L) (ta0 : τ a0 = (7, 0)) : CtI l yX5_hasRoom wsX5_hasRoom { frames := 0, cells := 0, slots := 0, locals := 0 } D TB cy L τ E [.ref a0] (inW []) (fun r E' => E' = E ∧ ((r.toInt = 1 ∧ (fi E a0 1).toInt ≤ 100) ∨ (r.toInt = 0 ∧ 100 < (fi E a0 1).toInt)) ∧ 0 ≤ r.toInt ∧ r.toInt ≤ 1) := by
  intro sz
  refine sta (cc := cX5_hasRoom) (maxL := 1) hI (by decide) rfl (Nat.le_of_ble_eq_true rfl) (fun p e s m args below meth c ls hsz Z S0 hl => ?_)
  have hx := Z.1.1
  have hb := Z.1.2.1
  have hts := Z.1.2.2.2.2
  have F0_ : Fr L τ (inW []) E E := Fr.refl
  have hl : lv_has ls 1 [(0, .ref a0)] := hl
  generalize hQ : MQ below _ args s 0 0 _ = QQ
  have kz_a0_1 := fi_rng (k := 1) hI ha0 ta0 rfl rfl
  refine lv_aload_n hx hb dX5_hasRoom_0 rfl (lv_at hl 0 rfl) ?_
  refine tr_geti Z.1 Z.2.2.2.1 S0.1 S0.2 ha0 ta0 rfl rfl (fun _ h => List.mem_cons_of_mem _ (List.mem_append_right _ h)) 1 (by decide) rfl (hts _ (List.mem_of_getElem? (i := 1) rfl)) dX5_hasRoom_1 (fun v1 ev1 lv1 uv1 => ?_)
  have wv1 : v1 = (fi E a0 1) := ev1.symm.trans rfl
  have xv1 : v1.toInt = (fi E a0 1).toInt := by rw [wv1]
  obtain ⟨v2, ev2, tv2⟩ : ∃ v : Int32, (Int8.ofInt (20)).toInt32 = v ∧ v.toInt = 20 := ⟨_, rfl, by decide +kernel⟩
  refine lv_bipush hx hb dX5_hasRoom_4 ev2 ?_
  refine lv_iadd hx hb dX5_hasRoom_6 ?_
  refine lv_topi (fun v3 ev3 => ?_)
  have tv3 := nu_add ev3 (by omega) (by omega)
  obtain ⟨v4, ev4, tv4⟩ : ∃ v : Int32, (Int8.ofInt (120)).toInt32 = v ∧ v.toInt = 120 := ⟨_, rfl, by decide +kernel⟩
  refine lv_bipush hx hb dX5_hasRoom_7 ev4 ?_
  refine lv_icmp_gt (tgt := 16) hx hb dX5_hasRoom_9 (by decide) (fun c5 => ?_) (fun c5 => ?_)
  · skip
    have tc5 := nu_lt c5
    obtain ⟨v6, ev6, tv6⟩ : ∃ v : Int32, Int32.ofInt (0) = v ∧ v.toInt = 0 := ⟨_, rfl, by decide +kernel⟩
    refine lv_iconst hx hb dX5_hasRoom_16 ev6 ?_
    rw [← hQ]
    exact en_z Z S0 F0_ (zo v6 (by omega)) ⟨rfl, (by omega), (by omega), (by omega)⟩ dX5_hasRoom_17
  · skip
    have tc5 := nu_nlt c5
    obtain ⟨v7, ev7, tv7⟩ : ∃ v : Int32, Int32.ofInt (1) = v ∧ v.toInt = 1 := ⟨_, rfl, by decide +kernel⟩
    refine lv_iconst hx hb dX5_hasRoom_12 ev7 ?_
    refine lv_goto (tgt := 17) hx hb dX5_hasRoom_13 (by decide) ?_
    rw [← hQ]
    exact en_z Z S0 F0_ (zo v7 (by omega)) ⟨rfl, (by omega), (by omega), (by omega)⟩ dX5_hasRoom_17

theorem dX5_push_0 : decode cX5_push 0 = .ok (.bipush 24, 2) := by decide +kernel
theorem dX5_push_2 : decode cX5_push 2 = .ok (.istore_n 2, 1) := by decide +kernel
theorem dX5_push_3 : decode cX5_push 3 = .ok (.iload_n 2, 1) := by decide +kernel
theorem dX5_push_4 : decode cX5_push 4 = .ok (.ifCond .lt 41, 3) := by decide +kernel
theorem dX5_push_7 : decode cX5_push 7 = .ok (.aload_n 0, 1) := by decide +kernel
theorem dX5_push_8 : decode cX5_push 8 = .ok (.getfield 15, 3) := by decide +kernel
theorem dX5_push_11 : decode cX5_push 11 = .ok (.bipush 120, 2) := by decide +kernel
theorem dX5_push_13 : decode cX5_push 13 = .ok (.if_icmp .ge 26, 3) := by decide +kernel
theorem dX5_push_16 : decode cX5_push 16 = .ok (.aload_n 0, 1) := by decide +kernel
theorem dX5_push_17 : decode cX5_push 17 = .ok (.getfield 11, 3) := by decide +kernel
theorem dX5_push_20 : decode cX5_push 20 = .ok (.aload_n 0, 1) := by decide +kernel
theorem dX5_push_21 : decode cX5_push 21 = .ok (.getfield 15, 3) := by decide +kernel
theorem dX5_push_24 : decode cX5_push 24 = .ok (.iload_n 1, 1) := by decide +kernel
theorem dX5_push_25 : decode cX5_push 25 = .ok (.iload_n 2, 1) := by decide +kernel
theorem dX5_push_26 : decode cX5_push 26 = .ok (.ishr, 1) := by decide +kernel
theorem dX5_push_27 : decode cX5_push 27 = .ok (.i2b, 1) := by decide +kernel
theorem dX5_push_28 : decode cX5_push 28 = .ok (.bastore, 1) := by decide +kernel
theorem dX5_push_29 : decode cX5_push 29 = .ok (.aload_n 0, 1) := by decide +kernel
theorem dX5_push_30 : decode cX5_push 30 = .ok (.dup, 1) := by decide +kernel
theorem dX5_push_31 : decode cX5_push 31 = .ok (.getfield 15, 3) := by decide +kernel
theorem dX5_push_34 : decode cX5_push 34 = .ok (.iconst 1, 1) := by decide +kernel
theorem dX5_push_35 : decode cX5_push 35 = .ok (.iadd, 1) := by decide +kernel
theorem dX5_push_36 : decode cX5_push 36 = .ok (.putfield 15, 3) := by decide +kernel
theorem dX5_push_39 : decode cX5_push 39 = .ok (.iinc 2 (-8), 3) := by decide +kernel
theorem dX5_push_42 : decode cX5_push 42 = .ok (.goto (-39), 3) := by decide +kernel
theorem dX5_push_45 : decode cX5_push 45 = .ok (.return_, 1) := by decide +kernel
set_option maxHeartbeats 4000000 in
set_option maxRecDepth 100000 in
theorem k_X5_push (l : Launch) (D : va_G) (cy : Nat → ClassId) {L : List Nat} {τ : Nat → Ro} {E : Ec} (hI : Inv TB cy L τ E) {a0 : Nat} (ha0 : a0 ∈ L) (ta0 : τ a0 = (7, 0)) (a1 : Int32) : CtV l yX5_push wsX5_push { frames := 0, cells := 0, slots := 0, locals := 0 } D TB cy L τ E [.ref a0, .int a1] (inW [(7, 0), (32, 0)]) (fun E' => ((fi E a0 1).toInt ≤ 116 → (fi E' a0 1).toInt = (fi E a0 1).toInt + 4) ∧ (∀ k : Nat, k ∉ ([1] : List Nat) → fi E' a0 k = fi E a0 k)) := by
  intro sz
  refine sta (cc := cX5_push) (maxL := 3) hI (by decide) rfl (Nat.le_of_ble_eq_true rfl) (fun p e s m args below meth c ls hsz Z S0 hl => ?_)
  have hx := Z.1.1
  have hb := Z.1.2.1
  have hts := Z.1.2.2.2.2
  have F0_ : Fr L τ (inW [(7, 0), (32, 0)]) E E := Fr.refl
  have hl : lv_has ls 3 [(0, .ref a0), (1, .int a1)] := hl
  generalize hQ : MQ below _ args s 0 0 _ = QQ
  have kz_a0_1 := fi_rng (k := 1) hI ha0 ta0 rfl rfl
  have J3 : ∀ (n : Nat) (x2_3 : Int32) (E_3 : Ec) (H_3 : Heap) (k_3 : List Loc) (l_3 : Array Slot), Now D TB cy (va_A (va_pl L E) sz) s L τ E_3 H_3 k_3 → Fr L τ (inW [(7, 0), (32, 0)]) E E_3 → (-8 ≤ x2_3.toInt) → (x2_3.toInt ≤ 24) → (∀ k : Nat, k ∉ ([1] : List Nat) → fi E_3 a0 k = fi E a0 k) → (0 ≤ (fi E_3 a0 1).toInt ∧ (fi E_3 a0 1).toInt ≤ 120 ∧ ((fi E a0 1).toInt ≤ 116 → (fi E_3 a0 1).toInt = (fi E a0 1).toInt + (24 - x2_3.toInt) / 8 ∧ (x2_3.toInt + 8) % 8 = 0)) → (x2_3.toInt - (-8)).toNat < n → lv_has l_3 3 [(0, .ref a0), (1, .int a1), (2, .int x2_3)] → W p l e { frames := 0, cells := 0, slots := 0, locals := 0 } s m args below meth c H_3 k_3 0 0 QQ (F0 m 3 l_3 []) := by
    intro n
    induction n with
    | zero => intro x2_3 E_3 H_3 k_3 l_3 S_3 F_3 z1 z2 z3 z4 hm hl_3; exact absurd hm (Nat.not_lt_zero _)
    | succ n ih =>
      intro x2_3 E_3 H_3 k_3 l_3 S_3 F_3 z1 z2 z3 z4 hm hl_3
      have ih_3 := ih
      have J39 : ∀  (E_39 : Ec) (H_39 : Heap) (k_39 : List Loc) (l_39 : Array Slot), Now D TB cy (va_A (va_pl L E) sz) s L τ E_39 H_39 k_39 → Fr L τ (inW [(7, 0), (32, 0)]) E E_39 → (0 ≤ x2_3.toInt) → (x2_3.toInt ≤ 24) → (∀ k : Nat, k ∉ ([1] : List Nat) → fi E_39 a0 k = fi E a0 k) → (0 ≤ (fi E_39 a0 1).toInt ∧ (fi E_39 a0 1).toInt ≤ 120 ∧ ((fi E a0 1).toInt ≤ 116 → (fi E_39 a0 1).toInt = (fi E a0 1).toInt + (32 - x2_3.toInt) / 8 ∧ (x2_3.toInt + 8) % 8 = 0)) → lv_has l_39 3 [(0, .ref a0), (1, .int a1), (2, .int x2_3)] → W p l e { frames := 0, cells := 0, slots := 0, locals := 0 } s m args below meth c H_39 k_39 0 0 QQ (F0 m 39 l_39 []) := by
        intro  E_39 H_39 k_39 l_39 S_39 F_39 z5 z6 z7 z8 hl_39
        obtain ⟨v9, ev9⟩ : ∃ y : Int32, x2_3 + Int32.ofInt (-8) = y := ⟨_, rfl⟩
        have tv9 : v9.toInt = x2_3.toInt + (-8) := by rw [← ev9]; exact (fb_addI (by rw [show (Int32.ofInt (-8)).toInt = -8 from by decide +kernel]; omega) (by rw [show (Int32.ofInt (-8)).toInt = -8 from by decide +kernel]; omega)).trans (by rw [show (Int32.ofInt (-8)).toInt = -8 from by decide +kernel])
        refine lv_iinc (v := v9) (lv' := [(2, .int v9), (0, .ref a0), (1, .int a1)]) hx hb dX5_push_39 hl_39 (k := 2) rfl ev9 (by decide) rfl (fun l10 hl11 => ?_)
        refine lv_goto (tgt := 3) hx hb dX5_push_42 (by decide) ?_
        exact ih_3 v9 E_39 H_39 k_39 l10 S_39 F_39 (by have := fb_rng a1; omega) (by have := fb_rng a1; omega) (fun k hk => (z7 k hk)) (by have := fb_rng a1; omega) (by omega) (lv_sub hl11 [1, 2, 0] rfl)
      refine lv_iload_n hx hb dX5_push_3 rfl (lv_at hl_3 2 rfl) ?_
      refine lv_if_lt (tgt := 45) hx hb dX5_push_4 (by decide) (fun c12 => ?_) (fun c12 => ?_)
      · skip
        have tc12 := nu_lt c12
        have uc12 : (0 : Int32).toInt = 0 := rfl
        rw [← hQ]
        exact en_v Z S_3 F_3 ⟨(by omega), (fun k hk => (z3 k hk))⟩ dX5_push_45
      · skip
        have tc12 := nu_nlt c12
        have uc12 : (0 : Int32).toInt = 0 := rfl
        refine lv_aload_n hx hb dX5_push_7 rfl (lv_at hl_3 0 rfl) ?_
        refine tr_geti Z.1 Z.2.2.2.1 S_3.1 S_3.2 ha0 ta0 rfl rfl (fun _ h => List.mem_cons_of_mem _ (List.mem_append_right _ h)) 1 (by decide) rfl (hts _ (List.mem_of_getElem? (i := 1) rfl)) dX5_push_8 (fun v13 ev13 lv13 uv13 => ?_)
        have wv13 : v13 = (fi E_3 a0 1) := ev13.symm.trans rfl
        have xv13 : v13.toInt = (fi E_3 a0 1).toInt := by rw [wv13]
        obtain ⟨v14, ev14, tv14⟩ : ∃ v : Int32, (Int8.ofInt (120)).toInt32 = v ∧ v.toInt = 120 := ⟨_, rfl, by decide +kernel⟩
        refine lv_bipush hx hb dX5_push_11 ev14 ?_
        refine lv_icmp_ge (tgt := 39) hx hb dX5_push_13 (by decide) (fun c15 => ?_) (fun c15 => ?_)
        · skip
          have tc15 := nu_le c15
          exact J39 E_3 H_3 k_3 l_3 S_3 F_3 (by have := fb_rng a1; omega) (by have := fb_rng a1; omega) (fun k hk => (z3 k hk)) (by rw [ev13]; have := fb_rng a1; omega) (lv_sub hl_3 [0, 1, 2] rfl)
        · skip
          have tc15 := nu_nle c15
          refine lv_aload_n hx hb dX5_push_16 rfl (lv_at hl_3 0 rfl) ?_
          refine tr_getr Z.1 Z.2.2.2.1 S_3.1 S_3.2 ha0 ta0 rfl rfl (fun _ h => List.mem_cons_of_mem _ (List.mem_append_right _ h)) 0 (by decide) rfl (hts _ (List.mem_of_getElem? (i := 2) rfl)) dX5_push_17 (fun q16 eq16 hq16 tq16 => ?_)
          have tq16 : τ q16 = (32, 0) := tq16
          refine lv_aload_n hx hb dX5_push_20 rfl (lv_at hl_3 0 rfl) ?_
          refine tr_geti Z.1 Z.2.2.2.1 S_3.1 S_3.2 ha0 ta0 rfl rfl (fun _ h => List.mem_cons_of_mem _ (List.mem_append_right _ h)) 1 (by decide) rfl (hts _ (List.mem_of_getElem? (i := 1) rfl)) dX5_push_21 (fun v17 ev17 lv17 uv17 => ?_)
          have wv17 : v17 = v13 := ev17.symm.trans ev13
          have xv17 : v17.toInt = v13.toInt := by rw [wv17]
          refine lv_iload_n hx hb dX5_push_24 rfl (lv_at hl_3 1 rfl) ?_
          refine lv_iload_n hx hb dX5_push_25 rfl (lv_at hl_3 2 rfl) ?_
          refine lv_ishr hx hb dX5_push_26 ?_
          refine lv_topi (fun v18 ev18 => ?_)
          obtain ⟨v19, ev19⟩ : ∃ y : Int32, v18.toInt8.toInt32 = y := ⟨_, rfl⟩
          refine lv_i2b hx hb dX5_push_27 ev19 ?_
          refine tr_bast Z.1 Z.2.2.2.1 S_3.1 S_3.2 hq16 tq16 rfl (by omega) (by omega) dX5_push_28 (fun E20 H21 k22 W20 I20 P20 => ?_)
          have S20 : Now D TB cy (va_A (va_pl L E) sz) s L τ E20 H21 k22 := ⟨W20, I20⟩
          have F20 : Fr L τ (inW [(7, 0), (32, 0)]) E E20 := Fr.set F_3 P20 tq16 rfl
          refine lv_aload_n hx hb dX5_push_29 rfl (lv_at hl_3 0 rfl) ?_
          refine lv_dup hx hb dX5_push_30 rfl ?_
          refine tr_geti Z.1 Z.2.2.2.1 S20.1 S20.2 ha0 ta0 rfl rfl (fun _ h => List.mem_cons_of_mem _ (List.mem_append_right _ h)) 1 (by decide) rfl (hts _ (List.mem_of_getElem? (i := 1) rfl)) dX5_push_31 (fun v23 ev23 lv23 uv23 => ?_)
          have wv23 : v23 = v17 := ev23.symm.trans ((fi_set P20 (ne_ro ta0 tq16 (by decide))).trans ev17)
          have xv23 : v23.toInt = v17.toInt := by rw [wv23]
          obtain ⟨v24, ev24, tv24⟩ : ∃ v : Int32, Int32.ofInt (1) = v ∧ v.toInt = 1 := ⟨_, rfl, by decide +kernel⟩
          refine lv_iconst hx hb dX5_push_34 ev24 ?_
          refine lv_iadd hx hb dX5_push_35 ?_
          refine lv_topi (fun v25 ev25 => ?_)
          have tv25 := nu_add ev25 (by omega) (by omega)
          refine tr_puti Z.1 Z.2.2.2.1 S20.1 S20.2 ha0 ta0 rfl rfl (fun _ h => List.mem_cons_of_mem _ (List.mem_append_right _ h)) tyX5_ok nmX5 1 (by decide) rfl rfl rfl (hts _ (List.mem_of_getElem? (i := 1) rfl)) dX5_push_36 (by omega) (by omega) (fun E26 H27 k28 W26 I26 P26 => ?_)
          have S26 : Now D TB cy (va_A (va_pl L E) sz) s L τ E26 H27 k28 := ⟨W26, I26⟩
          have F26 : Fr L τ (inW [(7, 0), (32, 0)]) E E26 := Fr.put F20 P26 ta0 rfl
          exact J39 E26 H27 k28 l_3 S26 F26 (by have := fb_rng a1; omega) (by have := fb_rng a1; omega) (fun k hk => ((fi_put P26 (Or.inr (fw_ne (by decide) hk))).trans ((fi_set P20 (ne_ro ta0 tq16 (by decide))).trans (z3 k hk)))) (by rw [(fi_at P26)]; have := fb_rng a1; omega) (lv_sub hl_3 [0, 1, 2] rfl)
  obtain ⟨v29, ev29, tv29⟩ : ∃ v : Int32, (Int8.ofInt (24)).toInt32 = v ∧ v.toInt = 24 := ⟨_, rfl, by decide +kernel⟩
  refine lv_bipush hx hb dX5_push_0 ev29 ?_
  refine lv_istore_n (lv' := [(2, .int v29), (0, .ref a0), (1, .int a1)]) hx hb dX5_push_2 rfl hl (by decide) rfl (fun l30 hl31 => ?_)
  exact J3 _ v29 E s.heap [] l30 S0 F0_ (by have := fb_rng a1; omega) (by have := fb_rng a1; omega) (fun k hk => ((fun k hk => rfl) k hk)) (by have := fb_rng a1; omega) (Nat.lt_succ_self _) (lv_sub hl31 [1, 2, 0] rfl)

set_option maxRecDepth 20000 in
theorem ggX9_feed_X5_hasRoom : GoodIn wsX9_feed wsX5_hasRoom := goodIn_r _ [7, 8, 25, 26, 27, 28, 29, 30, 31, 32, 33, 34, 35, 36, 37, 38] (by decide +kernel) (by decide +kernel)
set_option maxRecDepth 20000 in
theorem gX9_feed_X5_hasRoom : GoodIn wsX9_feed (wsV RX9 169 RX5 yX5_hasRoom wsX5_hasRoom) := goodIn_app (goodIn_of _ (by decide +kernel)) ggX9_feed_X5_hasRoom
set_option maxRecDepth 20000 in
theorem ggX9_feed_X5_push : GoodIn wsX9_feed wsX5_push := goodIn_r _ [12, 8, 13, 25, 26, 27, 28, 29, 30, 31, 32, 33, 34, 35, 36, 37, 38] (by decide +kernel) (by decide +kernel)
set_option maxRecDepth 20000 in
theorem gX9_feed_X5_push : GoodIn wsX9_feed (wsV RX9 173 RX5 yX5_push wsX5_push) := goodIn_app (goodIn_of _ (by decide +kernel)) ggX9_feed_X5_push
theorem dX9_feed_0 : decode cX9_feed 0 = .ok (.aload_n 0, 1) := by decide +kernel
theorem dX9_feed_1 : decode cX9_feed 1 = .ok (.getfield 40, 3) := by decide +kernel
theorem dX9_feed_4 : decode cX9_feed 4 = .ok (.invokevirtual 169, 3) := by decide +kernel
theorem dX9_feed_7 : decode cX9_feed 7 = .ok (.ifCond .ne 5, 3) := by decide +kernel
theorem dX9_feed_10 : decode cX9_feed 10 = .ok (.iconst (-1), 1) := by decide +kernel
theorem dX9_feed_11 : decode cX9_feed 11 = .ok (.ireturn, 1) := by decide +kernel
theorem dX9_feed_12 : decode cX9_feed 12 = .ok (.aload_n 0, 1) := by decide +kernel
theorem dX9_feed_13 : decode cX9_feed 13 = .ok (.getfield 40, 3) := by decide +kernel
theorem dX9_feed_16 : decode cX9_feed 16 = .ok (.iload_n 1, 1) := by decide +kernel
theorem dX9_feed_17 : decode cX9_feed 17 = .ok (.invokevirtual 173, 3) := by decide +kernel
theorem dX9_feed_20 : decode cX9_feed 20 = .ok (.aload_n 0, 1) := by decide +kernel
theorem dX9_feed_21 : decode cX9_feed 21 = .ok (.getfield 40, 3) := by decide +kernel
theorem dX9_feed_24 : decode cX9_feed 24 = .ok (.iload_n 2, 1) := by decide +kernel
theorem dX9_feed_25 : decode cX9_feed 25 = .ok (.invokevirtual 173, 3) := by decide +kernel
theorem dX9_feed_28 : decode cX9_feed 28 = .ok (.aload_n 0, 1) := by decide +kernel
theorem dX9_feed_29 : decode cX9_feed 29 = .ok (.getfield 40, 3) := by decide +kernel
theorem dX9_feed_32 : decode cX9_feed 32 = .ok (.iload_n 3, 1) := by decide +kernel
theorem dX9_feed_33 : decode cX9_feed 33 = .ok (.invokevirtual 173, 3) := by decide +kernel
theorem dX9_feed_36 : decode cX9_feed 36 = .ok (.aload_n 0, 1) := by decide +kernel
theorem dX9_feed_37 : decode cX9_feed 37 = .ok (.getfield 40, 3) := by decide +kernel
theorem dX9_feed_40 : decode cX9_feed 40 = .ok (.iload 4, 2) := by decide +kernel
theorem dX9_feed_42 : decode cX9_feed 42 = .ok (.invokevirtual 173, 3) := by decide +kernel
theorem dX9_feed_45 : decode cX9_feed 45 = .ok (.aload_n 0, 1) := by decide +kernel
theorem dX9_feed_46 : decode cX9_feed 46 = .ok (.getfield 40, 3) := by decide +kernel
theorem dX9_feed_49 : decode cX9_feed 49 = .ok (.iload 5, 2) := by decide +kernel
theorem dX9_feed_51 : decode cX9_feed 51 = .ok (.invokevirtual 173, 3) := by decide +kernel
theorem dX9_feed_54 : decode cX9_feed 54 = .ok (.aload_n 0, 1) := by decide +kernel
theorem dX9_feed_55 : decode cX9_feed 55 = .ok (.getfield 40, 3) := by decide +kernel
theorem dX9_feed_58 : decode cX9_feed 58 = .ok (.getfield 177, 3) := by decide +kernel
theorem dX9_feed_61 : decode cX9_feed 61 = .ok (.ireturn, 1) := by decide +kernel
set_option maxHeartbeats 4000000 in
set_option maxRecDepth 100000 in
theorem k_X9_feed (l : Launch) (D : va_G) (cy : Nat → ClassId) {L : List Nat} {τ : Nat → Ro} {E : Ec} (hI : Inv TB cy L τ E) {a0 : Nat} (ha0 : a0 ∈ L) (ta0 : τ a0 = (0, 0)) (a1 : Int32) (a2 : Int32) (a3 : Int32) (a4 : Int32) (a5 : Int32) : CtI l yX9_feed wsX9_feed { frames := 1, cells := 0, slots := 0, locals := 22 } D TB cy L τ E [.ref a0, .int a1, .int a2, .int a3, .int a4, .int a5] (inW [(7, 0), (32, 0)]) (fun r E' => True) := by
  intro sz
  refine sta (cc := cX9_feed) (maxL := 6) hI (by decide) rfl (Nat.le_of_ble_eq_true rfl) (fun p e s m args below meth c ls hsz Z S0 hl => ?_)
  have hx := Z.1.1
  have hb := Z.1.2.1
  have hts := Z.1.2.2.2.2
  have F0_ : Fr L τ (inW [(7, 0), (32, 0)]) E E := Fr.refl
  have hl : lv_has ls 6 [(0, .ref a0), (1, .int a1), (2, .int a2), (3, .int a3), (4, .int a4), (5, .int a5)] := hl
  generalize hQ : MQ below _ args s 0 0 _ = QQ
  refine lv_aload_n hx hb dX9_feed_0 rfl (lv_at hl 0 rfl) ?_
  refine tr_getr Z.1 Z.2.2.2.1 S0.1 S0.2 ha0 ta0 rfl rfl (fun _ h => List.mem_cons_of_mem _ (List.mem_append_left _ (List.mem_append_right _ h))) 4 (by decide) rfl (hts _ (List.mem_of_getElem? (i := 1) rfl)) dX9_feed_1 (fun q1 eq1 hq1 tq1 => ?_)
  have tq1 : τ q1 = (7, 0) := tq1
  refine tc_vi Z.1 Z.2.2.2.1 Z.2.2.2.2.1 Z.2.2.2.2.2 S0.1 S0.2 hq1 tq1 rfl rfl (k_X5_hasRoom l D cy S0.2 hq1 tq1) (cwV 0 hts gX9_feed_X5_hasRoom rfl rfl rfl (by decide +kernel) ⟨Nat.le_of_ble_eq_true rfl, Nat.le_of_ble_eq_true rfl⟩) rfl hl.1 rfl (Nat.le_of_ble_eq_true rfl) dX9_feed_4 ⟨Nat.zero_le _, Nat.zero_le _⟩ (fun v5 E2 H3 k4 W2 I2 G2 p2 => ?_)
  obtain ⟨q2, p2_0, p2_1, p2_2⟩ := p2
  have q2 := q2.symm
  subst q2
  have S2 : Now D TB cy (va_A (va_pl L E) sz) s L τ E H3 k4 := ⟨W2, I2⟩
  refine lv_if_ne (tgt := 12) hx hb dX9_feed_7 (by decide) (fun c6 => ?_) (fun c6 => ?_)
  · skip
    have tc6 := nu_ne c6
    have uc6 : (0 : Int32).toInt = 0 := rfl
    refine lv_aload_n hx hb dX9_feed_12 rfl (lv_at hl 0 rfl) ?_
    refine tr_getr Z.1 Z.2.2.2.1 S2.1 S2.2 ha0 ta0 rfl rfl (fun _ h => List.mem_cons_of_mem _ (List.mem_append_left _ (List.mem_append_right _ h))) 4 (by decide) rfl (hts _ (List.mem_of_getElem? (i := 1) rfl)) dX9_feed_13 (fun q7 eq7 hq7 tq7 => ?_)
    have tq7 : τ q7 = (7, 0) := tq7
    have uq7 : q1 = q7 := S2.2.2.2.2 _ hq1 _ hq7 (tq1.trans tq7.symm) (by rw [tq1]; rfl)
    subst uq7
    refine lv_iload_n hx hb dX9_feed_16 rfl (lv_at hl 1 rfl) ?_
    refine tc_vv Z.1 Z.2.2.2.1 Z.2.2.2.2.1 Z.2.2.2.2.2 S2.1 S2.2 hq1 tq1 rfl rfl (k_X5_push l D cy S2.2 hq1 tq1 a1) (cwV 1 hts gX9_feed_X5_push rfl rfl rfl (by decide +kernel) ⟨Nat.le_of_ble_eq_true rfl, Nat.le_of_ble_eq_true rfl⟩) rfl hl.1 rfl (Nat.le_of_ble_eq_true rfl) dX9_feed_17 ⟨Nat.zero_le _, Nat.zero_le _⟩ (fun E8 H9 k10 W8 I8 G8 p8 => ?_)
    obtain ⟨p8_0, p8_1⟩ := p8
    have S8 : Now D TB cy (va_A (va_pl L E) sz) s L τ E8 H9 k10 := ⟨W8, I8⟩
    have F8 : Fr L τ (inW [(7, 0), (32, 0)]) E E8 := F0_.trans (G8.mono (inW_mono (by decide)))
    refine lv_aload_n hx hb dX9_feed_20 rfl (lv_at hl 0 rfl) ?_
    refine tr_getr Z.1 Z.2.2.2.1 S8.1 S8.2 ha0 ta0 rfl rfl (fun _ h => List.mem_cons_of_mem _ (List.mem_append_left _ (List.mem_append_right _ h))) 4 (by decide) rfl (hts _ (List.mem_of_getElem? (i := 1) rfl)) dX9_feed_21 (fun q12 eq12 hq12 tq12 => ?_)
    have tq12 : τ q12 = (7, 0) := tq12
    have uq12 : q1 = q12 := S8.2.2.2.2 _ hq1 _ hq12 (tq1.trans tq12.symm) (by rw [tq1]; rfl)
    subst uq12
    refine lv_iload_n hx hb dX9_feed_24 rfl (lv_at hl 2 rfl) ?_
    refine tc_vv Z.1 Z.2.2.2.1 Z.2.2.2.2.1 Z.2.2.2.2.2 S8.1 S8.2 hq1 tq1 rfl rfl (k_X5_push l D cy S8.2 hq1 tq1 a2) (cwV 1 hts gX9_feed_X5_push rfl rfl rfl (by decide +kernel) ⟨Nat.le_of_ble_eq_true rfl, Nat.le_of_ble_eq_true rfl⟩) rfl hl.1 rfl (Nat.le_of_ble_eq_true rfl) dX9_feed_25 ⟨Nat.zero_le _, Nat.zero_le _⟩ (fun E13 H14 k15 W13 I13 G13 p13 => ?_)
    obtain ⟨p13_0, p13_1⟩ := p13
    have S13 : Now D TB cy (va_A (va_pl L E) sz) s L τ E13 H14 k15 := ⟨W13, I13⟩
    have F13 : Fr L τ (inW [(7, 0), (32, 0)]) E E13 := F8.trans (G13.mono (inW_mono (by decide)))
    refine lv_aload_n hx hb dX9_feed_28 rfl (lv_at hl 0 rfl) ?_
    refine tr_getr Z.1 Z.2.2.2.1 S13.1 S13.2 ha0 ta0 rfl rfl (fun _ h => List.mem_cons_of_mem _ (List.mem_append_left _ (List.mem_append_right _ h))) 4 (by decide) rfl (hts _ (List.mem_of_getElem? (i := 1) rfl)) dX9_feed_29 (fun q17 eq17 hq17 tq17 => ?_)
    have tq17 : τ q17 = (7, 0) := tq17
    have uq17 : q1 = q17 := S13.2.2.2.2 _ hq1 _ hq17 (tq1.trans tq17.symm) (by rw [tq1]; rfl)
    subst uq17
    refine lv_iload_n hx hb dX9_feed_32 rfl (lv_at hl 3 rfl) ?_
    refine tc_vv Z.1 Z.2.2.2.1 Z.2.2.2.2.1 Z.2.2.2.2.2 S13.1 S13.2 hq1 tq1 rfl rfl (k_X5_push l D cy S13.2 hq1 tq1 a3) (cwV 1 hts gX9_feed_X5_push rfl rfl rfl (by decide +kernel) ⟨Nat.le_of_ble_eq_true rfl, Nat.le_of_ble_eq_true rfl⟩) rfl hl.1 rfl (Nat.le_of_ble_eq_true rfl) dX9_feed_33 ⟨Nat.zero_le _, Nat.zero_le _⟩ (fun E18 H19 k20 W18 I18 G18 p18 => ?_)
    obtain ⟨p18_0, p18_1⟩ := p18
    have S18 : Now D TB cy (va_A (va_pl L E) sz) s L τ E18 H19 k20 := ⟨W18, I18⟩
    have F18 : Fr L τ (inW [(7, 0), (32, 0)]) E E18 := F13.trans (G18.mono (inW_mono (by decide)))
    refine lv_aload_n hx hb dX9_feed_36 rfl (lv_at hl 0 rfl) ?_
    refine tr_getr Z.1 Z.2.2.2.1 S18.1 S18.2 ha0 ta0 rfl rfl (fun _ h => List.mem_cons_of_mem _ (List.mem_append_left _ (List.mem_append_right _ h))) 4 (by decide) rfl (hts _ (List.mem_of_getElem? (i := 1) rfl)) dX9_feed_37 (fun q22 eq22 hq22 tq22 => ?_)
    have tq22 : τ q22 = (7, 0) := tq22
    have uq22 : q1 = q22 := S18.2.2.2.2 _ hq1 _ hq22 (tq1.trans tq22.symm) (by rw [tq1]; rfl)
    subst uq22
    refine lv_iload hx hb dX9_feed_40 (lv_at hl 4 rfl) ?_
    refine tc_vv Z.1 Z.2.2.2.1 Z.2.2.2.2.1 Z.2.2.2.2.2 S18.1 S18.2 hq1 tq1 rfl rfl (k_X5_push l D cy S18.2 hq1 tq1 a4) (cwV 1 hts gX9_feed_X5_push rfl rfl rfl (by decide +kernel) ⟨Nat.le_of_ble_eq_true rfl, Nat.le_of_ble_eq_true rfl⟩) rfl hl.1 rfl (Nat.le_of_ble_eq_true rfl) dX9_feed_42 ⟨Nat.zero_le _, Nat.zero_le _⟩ (fun E23 H24 k25 W23 I23 G23 p23 => ?_)
    obtain ⟨p23_0, p23_1⟩ := p23
    have S23 : Now D TB cy (va_A (va_pl L E) sz) s L τ E23 H24 k25 := ⟨W23, I23⟩
    have F23 : Fr L τ (inW [(7, 0), (32, 0)]) E E23 := F18.trans (G23.mono (inW_mono (by decide)))
    refine lv_aload_n hx hb dX9_feed_45 rfl (lv_at hl 0 rfl) ?_
    refine tr_getr Z.1 Z.2.2.2.1 S23.1 S23.2 ha0 ta0 rfl rfl (fun _ h => List.mem_cons_of_mem _ (List.mem_append_left _ (List.mem_append_right _ h))) 4 (by decide) rfl (hts _ (List.mem_of_getElem? (i := 1) rfl)) dX9_feed_46 (fun q27 eq27 hq27 tq27 => ?_)
    have tq27 : τ q27 = (7, 0) := tq27
    have uq27 : q1 = q27 := S23.2.2.2.2 _ hq1 _ hq27 (tq1.trans tq27.symm) (by rw [tq1]; rfl)
    subst uq27
    refine lv_iload hx hb dX9_feed_49 (lv_at hl 5 rfl) ?_
    refine tc_vv Z.1 Z.2.2.2.1 Z.2.2.2.2.1 Z.2.2.2.2.2 S23.1 S23.2 hq1 tq1 rfl rfl (k_X5_push l D cy S23.2 hq1 tq1 a5) (cwV 1 hts gX9_feed_X5_push rfl rfl rfl (by decide +kernel) ⟨Nat.le_of_ble_eq_true rfl, Nat.le_of_ble_eq_true rfl⟩) rfl hl.1 rfl (Nat.le_of_ble_eq_true rfl) dX9_feed_51 ⟨Nat.zero_le _, Nat.zero_le _⟩ (fun E28 H29 k30 W28 I28 G28 p28 => ?_)
    obtain ⟨p28_0, p28_1⟩ := p28
    have S28 : Now D TB cy (va_A (va_pl L E) sz) s L τ E28 H29 k30 := ⟨W28, I28⟩
    have F28 : Fr L τ (inW [(7, 0), (32, 0)]) E E28 := F23.trans (G28.mono (inW_mono (by decide)))
    refine lv_aload_n hx hb dX9_feed_54 rfl (lv_at hl 0 rfl) ?_
    refine tr_getr Z.1 Z.2.2.2.1 S28.1 S28.2 ha0 ta0 rfl rfl (fun _ h => List.mem_cons_of_mem _ (List.mem_append_left _ (List.mem_append_right _ h))) 4 (by decide) rfl (hts _ (List.mem_of_getElem? (i := 1) rfl)) dX9_feed_55 (fun q32 eq32 hq32 tq32 => ?_)
    have tq32 : τ q32 = (7, 0) := tq32
    have uq32 : q1 = q32 := S28.2.2.2.2 _ hq1 _ hq32 (tq1.trans tq32.symm) (by rw [tq1]; rfl)
    subst uq32
    refine tr_geti Z.1 Z.2.2.2.1 S28.1 S28.2 hq1 tq1 rfl rfl (fun _ h => List.mem_cons_of_mem _ (List.mem_append_right _ h)) 1 (by decide) rfl (hts _ (List.mem_of_getElem? (i := 2) rfl)) dX9_feed_58 (fun v33 ev33 lv33 uv33 => ?_)
    rw [← hQ]
    exact en_i Z S28 F28 trivial dX9_feed_61
  · skip
    have tc6 := nu_eq c6
    have uc6 : (0 : Int32).toInt = 0 := rfl
    obtain ⟨v34, ev34, tv34⟩ : ∃ v : Int32, Int32.ofInt (-1) = v ∧ v.toInt = -1 := ⟨_, rfl, by decide +kernel⟩
    refine lv_iconst hx hb dX9_feed_10 ev34 ?_
    rw [← hQ]
    exact en_i Z S2 F0_ trivial dX9_feed_11

