theorem dX9_refuse_0 : decode cX9_refuse 0 = .ok (.aload_n 0, 1) := by decide +kernel
theorem dX9_refuse_1 : decode cX9_refuse 1 = .ok (.iload_n 1, 1) := by decide +kernel
theorem dX9_refuse_2 : decode cX9_refuse 2 = .ok (.putfield 66, 3) := by decide +kernel
theorem dX9_refuse_5 : decode cX9_refuse 5 = .ok (.iconst (-1), 1) := by decide +kernel
theorem dX9_refuse_6 : decode cX9_refuse 6 = .ok (.ireturn, 1) := by decide +kernel
set_option maxHeartbeats 4000000 in
set_option maxRecDepth 100000 in
theorem k_X9_refuse (l : Launch) (D : va_G) (cy : Nat → ClassId) {L : List Nat} {τ : Nat → Ro} {E : Ec} (hI : Inv TB cy L τ E) {a0 : Nat} (ha0 : a0 ∈ L) (ta0 : τ a0 = (0, 0)) (a1 : Int32) : CtI l yX9_refuse wsX9_refuse { frames := 0, cells := 0, slots := 0, locals := 0 } D TB cy L τ E [.ref a0, .int a1] (inW [(0, 0)]) (fun r E' => -1 ≤ r.toInt ∧ r.toInt ≤ -1) := by
  intro sz
  refine sta (cc := cX9_refuse) (maxL := 2) hI (by decide) rfl (Nat.le_of_ble_eq_true rfl) (fun p e s m args below meth c ls hsz Z S0 hl => ?_)
  have hx := Z.1.1
  have hb := Z.1.2.1
  have hts := Z.1.2.2.2.2
  have F0_ : Fr L τ (inW [(0, 0)]) E E := Fr.refl
  have hl : lv_has ls 2 [(0, .ref a0), (1, .int a1)] := hl
  generalize hQ : MQ below _ args s 0 0 _ = QQ
  refine lv_aload_n hx hb dX9_refuse_0 rfl (lv_at hl 0 rfl) ?_
  refine lv_iload_n hx hb dX9_refuse_1 rfl (lv_at hl 1 rfl) ?_
  refine tr_puti Z.1 Z.2.2.2.1 S0.1 S0.2 ha0 ta0 rfl rfl (fun _ h => List.mem_cons_of_mem _ (List.mem_append_right _ h)) tyX9_ok nmX9 9 (by decide) rfl rfl rfl (hts _ (List.mem_of_getElem? (i := 1) rfl)) dX9_refuse_2 (by have := fb_rng a1; omega) (by have := fb_rng a1; omega) (fun E1 H2 k3 W1 I1 P1 => ?_)
  have S1 : Now D TB cy (va_A (va_pl L E) sz) s L τ E1 H2 k3 := ⟨W1, I1⟩
  have F1 : Fr L τ (inW [(0, 0)]) E E1 := Fr.put F0_ P1 ta0 rfl
  obtain ⟨v4, ev4, tv4⟩ : ∃ v : Int32, Int32.ofInt (-1) = v ∧ v.toInt = -1 := ⟨_, rfl, by decide +kernel⟩
  refine lv_iconst hx hb dX9_refuse_5 ev4 ?_
  rw [← hQ]
  exact en_i Z S1 F1 ⟨(by omega), (by omega)⟩ dX9_refuse_6

theorem dX9_deny_0 : decode cX9_deny 0 = .ok (.aload_n 0, 1) := by decide +kernel
theorem dX9_deny_1 : decode cX9_deny 1 = .ok (.iload_n 1, 1) := by decide +kernel
theorem dX9_deny_2 : decode cX9_deny 2 = .ok (.putfield 66, 3) := by decide +kernel
theorem dX9_deny_5 : decode cX9_deny 5 = .ok (.iconst 0, 1) := by decide +kernel
theorem dX9_deny_6 : decode cX9_deny 6 = .ok (.ireturn, 1) := by decide +kernel
set_option maxHeartbeats 4000000 in
set_option maxRecDepth 100000 in
theorem k_X9_deny (l : Launch) (D : va_G) (cy : Nat → ClassId) {L : List Nat} {τ : Nat → Ro} {E : Ec} (hI : Inv TB cy L τ E) {a0 : Nat} (ha0 : a0 ∈ L) (ta0 : τ a0 = (0, 0)) (a1 : Int32) : CtI l yX9_deny wsX9_deny { frames := 0, cells := 0, slots := 0, locals := 0 } D TB cy L τ E [.ref a0, .int a1] (inW [(0, 0)]) (fun r E' => 0 ≤ r.toInt ∧ r.toInt ≤ 0) := by
  intro sz
  refine sta (cc := cX9_deny) (maxL := 2) hI (by decide) rfl (Nat.le_of_ble_eq_true rfl) (fun p e s m args below meth c ls hsz Z S0 hl => ?_)
  have hx := Z.1.1
  have hb := Z.1.2.1
  have hts := Z.1.2.2.2.2
  have F0_ : Fr L τ (inW [(0, 0)]) E E := Fr.refl
  have hl : lv_has ls 2 [(0, .ref a0), (1, .int a1)] := hl
  generalize hQ : MQ below _ args s 0 0 _ = QQ
  refine lv_aload_n hx hb dX9_deny_0 rfl (lv_at hl 0 rfl) ?_
  refine lv_iload_n hx hb dX9_deny_1 rfl (lv_at hl 1 rfl) ?_
  refine tr_puti Z.1 Z.2.2.2.1 S0.1 S0.2 ha0 ta0 rfl rfl (fun _ h => List.mem_cons_of_mem _ (List.mem_append_right _ h)) tyX9_ok nmX9 9 (by decide) rfl rfl rfl (hts _ (List.mem_of_getElem? (i := 1) rfl)) dX9_deny_2 (by have := fb_rng a1; omega) (by have := fb_rng a1; omega) (fun E1 H2 k3 W1 I1 P1 => ?_)
  have S1 : Now D TB cy (va_A (va_pl L E) sz) s L τ E1 H2 k3 := ⟨W1, I1⟩
  have F1 : Fr L τ (inW [(0, 0)]) E E1 := Fr.put F0_ P1 ta0 rfl
  obtain ⟨v4, ev4, tv4⟩ : ∃ v : Int32, Int32.ofInt (0) = v ∧ v.toInt = 0 := ⟨_, rfl, by decide +kernel⟩
  refine lv_iconst hx hb dX9_deny_5 ev4 ?_
  rw [← hQ]
  exact en_z Z S1 F1 (zo v4 (by omega)) ⟨(by omega), (by omega)⟩ dX9_deny_6

set_option maxRecDepth 20000 in
theorem ggX9_keepAct_X3_keep : GoodIn wsX9_keepAct wsX3_keep := goodIn_r _ [8, 9, 10, 11, 12, 13, 14, 15, 16, 17, 18, 19, 20, 21, 22, 23, 24, 25, 26, 27, 28, 29, 30, 31, 32, 33, 34, 35, 36, 37, 38, 39, 40, 52, 53, 54, 55, 56, 57, 58, 59, 60, 61, 62, 63, 64, 65, 66, 67, 68, 69, 70] (by decide +kernel) (by decide +kernel)
set_option maxRecDepth 20000 in
theorem gX9_keepAct_X3_keep : GoodIn wsX9_keepAct (wsV RX9 294 RX3 yX3_keep wsX3_keep) := goodIn_app (goodIn_of _ (by decide +kernel)) ggX9_keepAct_X3_keep
theorem dX9_keepAct_0 : decode cX9_keepAct 0 = .ok (.aload_n 0, 1) := by decide +kernel
theorem dX9_keepAct_1 : decode cX9_keepAct 1 = .ok (.getfield 19, 3) := by decide +kernel
theorem dX9_keepAct_4 : decode cX9_keepAct 4 = .ok (.aload_n 0, 1) := by decide +kernel
theorem dX9_keepAct_5 : decode cX9_keepAct 5 = .ok (.getfield 10, 3) := by decide +kernel
theorem dX9_keepAct_8 : decode cX9_keepAct 8 = .ok (.invokevirtual 294, 3) := by decide +kernel
theorem dX9_keepAct_11 : decode cX9_keepAct 11 = .ok (.aload_n 0, 1) := by decide +kernel
theorem dX9_keepAct_12 : decode cX9_keepAct 12 = .ok (.iconst 1, 1) := by decide +kernel
theorem dX9_keepAct_13 : decode cX9_keepAct 13 = .ok (.putfield 69, 3) := by decide +kernel
theorem dX9_keepAct_16 : decode cX9_keepAct 16 = .ok (.return_, 1) := by decide +kernel
set_option maxHeartbeats 4000000 in
set_option maxRecDepth 100000 in
theorem k_X9_keepAct (l : Launch) (D : va_G) (cy : Nat → ClassId) {L : List Nat} {τ : Nat → Ro} {E : Ec} (hI : Inv TB cy L τ E) {a0 : Nat} (ha0 : a0 ∈ L) (ta0 : τ a0 = (0, 0)) : CtV l yX9_keepAct wsX9_keepAct { frames := 3, cells := 0, slots := 0, locals := 83 } D TB cy L τ E [.ref a0] (inW [(1, 1), (20, 1), (21, 1), (22, 1), (23, 1), (24, 1), (25, 1), (26, 1), (27, 1), (4, 0), (0, 0)]) (fun E' => True) := by
  intro sz
  refine sta (cc := cX9_keepAct) (maxL := 1) hI (by decide) rfl (Nat.le_of_ble_eq_true rfl) (fun p e s m args below meth c ls hsz Z S0 hl => ?_)
  have hx := Z.1.1
  have hb := Z.1.2.1
  have hts := Z.1.2.2.2.2
  have F0_ : Fr L τ (inW [(1, 1), (20, 1), (21, 1), (22, 1), (23, 1), (24, 1), (25, 1), (26, 1), (27, 1), (4, 0), (0, 0)]) E E := Fr.refl
  have hl : lv_has ls 1 [(0, .ref a0)] := hl
  generalize hQ : MQ below _ args s 0 0 _ = QQ
  refine lv_aload_n hx hb dX9_keepAct_0 rfl (lv_at hl 0 rfl) ?_
  refine tr_getr Z.1 Z.2.2.2.1 S0.1 S0.2 ha0 ta0 rfl rfl (fun _ h => List.mem_cons_of_mem _ (List.mem_append_left _ (List.mem_append_left _ (List.mem_append_right _ h)))) 1 (by decide) rfl (hts _ (List.mem_of_getElem? (i := 1) rfl)) dX9_keepAct_1 (fun q1 eq1 hq1 tq1 => ?_)
  have tq1 : τ q1 = (4, 0) := tq1
  refine lv_aload_n hx hb dX9_keepAct_4 rfl (lv_at hl 0 rfl) ?_
  refine tr_getr Z.1 Z.2.2.2.1 S0.1 S0.2 ha0 ta0 rfl rfl (fun _ h => List.mem_cons_of_mem _ (List.mem_append_left _ (List.mem_append_left _ (List.mem_append_right _ h)))) 0 (by decide) rfl (hts _ (List.mem_of_getElem? (i := 2) rfl)) dX9_keepAct_5 (fun q2 eq2 hq2 tq2 => ?_)
  have tq2 : τ q2 = (1, 0) := tq2
  refine tc_vv Z.1 Z.2.2.2.1 Z.2.2.2.2.1 Z.2.2.2.2.2 S0.1 S0.2 hq1 tq1 rfl rfl (k_X3_keep l D cy S0.2 hq1 tq1 hq2 tq2) (cwV 1 hts gX9_keepAct_X3_keep rfl rfl rfl (by decide +kernel) ⟨Nat.le_of_ble_eq_true rfl, Nat.le_of_ble_eq_true rfl⟩) rfl hl.1 rfl (Nat.le_of_ble_eq_true rfl) dX9_keepAct_8 ⟨Nat.zero_le _, Nat.zero_le _⟩ (fun E3 H4 k5 W3 I3 G3 p3 => ?_)
  have S3 : Now D TB cy (va_A (va_pl L E) sz) s L τ E3 H4 k5 := ⟨W3, I3⟩
  have F3 : Fr L τ (inW [(1, 1), (20, 1), (21, 1), (22, 1), (23, 1), (24, 1), (25, 1), (26, 1), (27, 1), (4, 0), (0, 0)]) E E3 := F0_.trans (G3.mono (inW_mono (by decide)))
  refine lv_aload_n hx hb dX9_keepAct_11 rfl (lv_at hl 0 rfl) ?_
  obtain ⟨v7, ev7, tv7⟩ : ∃ v : Int32, Int32.ofInt (1) = v ∧ v.toInt = 1 := ⟨_, rfl, by decide +kernel⟩
  refine lv_iconst hx hb dX9_keepAct_12 ev7 ?_
  refine tr_putz Z.1 Z.2.2.2.1 S3.1 S3.2 ha0 ta0 rfl rfl (fun _ h => List.mem_cons_of_mem _ (List.mem_append_left _ (List.mem_append_left _ (List.mem_append_right _ h)))) tyX9_ok nmX9 10 (by decide) rfl rfl rfl (hts _ (List.mem_of_getElem? (i := 3) rfl)) dX9_keepAct_13 (by omega) (by omega) (fun E8 H9 k10 W8 I8 P8 => ?_)
  have S8 : Now D TB cy (va_A (va_pl L E) sz) s L τ E8 H9 k10 := ⟨W8, I8⟩
  have F8 : Fr L τ (inW [(1, 1), (20, 1), (21, 1), (22, 1), (23, 1), (24, 1), (25, 1), (26, 1), (27, 1), (4, 0), (0, 0)]) E E8 := Fr.put F3 P8 ta0 rfl
  rw [← hQ]
  exact en_v Z S8 F8 trivial dX9_keepAct_16

set_option maxRecDepth 20000 in
theorem ggX9_beginAct_X9_keepAct : GoodIn wsX9_beginAct wsX9_keepAct := goodIn_r _ [6, 7, 8, 9, 10, 11, 12, 13, 14, 15, 16, 17, 18, 19, 20, 21, 22, 23, 24, 25, 26, 27, 28, 29, 30, 31, 32, 33, 34, 35, 36, 37, 38, 39, 40, 41, 42, 43, 44, 45, 46, 47, 48, 49, 50, 51, 52, 53, 54, 55, 56, 57, 58, 59, 60, 61, 62, 63, 64, 65, 66, 67, 68, 69, 70, 71, 72, 73, 74, 75, 76] (by decide +kernel) (by decide +kernel)
set_option maxRecDepth 20000 in
theorem gX9_beginAct_X9_keepAct : GoodIn wsX9_beginAct (wsV RX9 166 RX9 yX9_keepAct wsX9_keepAct) := goodIn_app (goodIn_of _ (by decide +kernel)) ggX9_beginAct_X9_keepAct
theorem dX9_beginAct_0 : decode cX9_beginAct 0 = .ok (.aload_n 0, 1) := by decide +kernel
theorem dX9_beginAct_1 : decode cX9_beginAct 1 = .ok (.iconst 0, 1) := by decide +kernel
theorem dX9_beginAct_2 : decode cX9_beginAct 2 = .ok (.putfield 66, 3) := by decide +kernel
theorem dX9_beginAct_5 : decode cX9_beginAct 5 = .ok (.aload_n 0, 1) := by decide +kernel
theorem dX9_beginAct_6 : decode cX9_beginAct 6 = .ok (.invokevirtual 166, 3) := by decide +kernel
theorem dX9_beginAct_9 : decode cX9_beginAct 9 = .ok (.return_, 1) := by decide +kernel
set_option maxHeartbeats 4000000 in
set_option maxRecDepth 100000 in
theorem k_X9_beginAct (l : Launch) (D : va_G) (cy : Nat → ClassId) {L : List Nat} {τ : Nat → Ro} {E : Ec} (hI : Inv TB cy L τ E) {a0 : Nat} (ha0 : a0 ∈ L) (ta0 : τ a0 = (0, 0)) : CtV l yX9_beginAct wsX9_beginAct { frames := 4, cells := 0, slots := 0, locals := 103 } D TB cy L τ E [.ref a0] (inW [(1, 1), (20, 1), (21, 1), (22, 1), (23, 1), (24, 1), (25, 1), (26, 1), (27, 1), (4, 0), (0, 0)]) (fun E' => True) := by
  intro sz
  refine sta (cc := cX9_beginAct) (maxL := 1) hI (by decide) rfl (Nat.le_of_ble_eq_true rfl) (fun p e s m args below meth c ls hsz Z S0 hl => ?_)
  have hx := Z.1.1
  have hb := Z.1.2.1
  have hts := Z.1.2.2.2.2
  have F0_ : Fr L τ (inW [(1, 1), (20, 1), (21, 1), (22, 1), (23, 1), (24, 1), (25, 1), (26, 1), (27, 1), (4, 0), (0, 0)]) E E := Fr.refl
  have hl : lv_has ls 1 [(0, .ref a0)] := hl
  generalize hQ : MQ below _ args s 0 0 _ = QQ
  refine lv_aload_n hx hb dX9_beginAct_0 rfl (lv_at hl 0 rfl) ?_
  obtain ⟨v1, ev1, tv1⟩ : ∃ v : Int32, Int32.ofInt (0) = v ∧ v.toInt = 0 := ⟨_, rfl, by decide +kernel⟩
  refine lv_iconst hx hb dX9_beginAct_1 ev1 ?_
  refine tr_puti Z.1 Z.2.2.2.1 S0.1 S0.2 ha0 ta0 rfl rfl (fun _ h => List.mem_cons_of_mem _ (List.mem_append_left _ (List.mem_append_left _ (List.mem_append_right _ h)))) tyX9_ok nmX9 9 (by decide) rfl rfl rfl (hts _ (List.mem_of_getElem? (i := 1) rfl)) dX9_beginAct_2 (by have := fb_rng v1; omega) (by have := fb_rng v1; omega) (fun E2 H3 k4 W2 I2 P2 => ?_)
  have S2 : Now D TB cy (va_A (va_pl L E) sz) s L τ E2 H3 k4 := ⟨W2, I2⟩
  have F2 : Fr L τ (inW [(1, 1), (20, 1), (21, 1), (22, 1), (23, 1), (24, 1), (25, 1), (26, 1), (27, 1), (4, 0), (0, 0)]) E E2 := Fr.put F0_ P2 ta0 rfl
  refine lv_aload_n hx hb dX9_beginAct_5 rfl (lv_at hl 0 rfl) ?_
  refine tc_vv Z.1 Z.2.2.2.1 Z.2.2.2.2.1 Z.2.2.2.2.2 S2.1 S2.2 ha0 ta0 rfl rfl (k_X9_keepAct l D cy S2.2 ha0 ta0) (cwV 0 hts gX9_beginAct_X9_keepAct rfl rfl rfl (by decide +kernel) ⟨Nat.le_of_ble_eq_true rfl, Nat.le_of_ble_eq_true rfl⟩) rfl hl.1 rfl (Nat.le_of_ble_eq_true rfl) dX9_beginAct_6 ⟨Nat.zero_le _, Nat.zero_le _⟩ (fun E5 H6 k7 W5 I5 G5 p5 => ?_)
  have S5 : Now D TB cy (va_A (va_pl L E) sz) s L τ E5 H6 k7 := ⟨W5, I5⟩
  have F5 : Fr L τ (inW [(1, 1), (20, 1), (21, 1), (22, 1), (23, 1), (24, 1), (25, 1), (26, 1), (27, 1), (4, 0), (0, 0)]) E E5 := F2.trans (G5.mono (inW_mono (by decide)))
  rw [← hQ]
  exact en_v Z S5 F5 trivial dX9_beginAct_9

set_option maxRecDepth 20000 in
theorem ggX9_laidRows_X6_lay : GoodIn wsX9_laidRows wsX6_lay := goodIn_r _ [8, 9, 10, 11, 12, 13, 14, 15, 16, 17, 18, 19, 20, 21, 22, 23, 24, 25, 26, 27, 28, 29, 7, 30, 31, 32, 33, 34, 35, 36, 37, 38, 39, 40, 41, 42, 43, 44, 45, 46, 47, 48, 49, 50, 51, 52, 53, 54, 55, 56, 57, 58, 59, 60, 61, 62, 63, 64, 65, 66, 67, 68, 80, 81, 82, 83, 84, 85, 86, 87, 88, 89, 90, 91, 92, 93, 94, 95, 96, 97, 98, 99, 100] (by decide +kernel) (by decide +kernel)
set_option maxRecDepth 20000 in
theorem gX9_laidRows_X6_lay : GoodIn wsX9_laidRows (wsV RX9 298 RX6 yX6_lay wsX6_lay) := goodIn_app (goodIn_of _ (by decide +kernel)) ggX9_laidRows_X6_lay
theorem dX9_laidRows_0 : decode cX9_laidRows 0 = .ok (.aload_n 0, 1) := by decide +kernel
theorem dX9_laidRows_1 : decode cX9_laidRows 1 = .ok (.getfield 69, 3) := by decide +kernel
theorem dX9_laidRows_4 : decode cX9_laidRows 4 = .ok (.ifCond .eq 19, 3) := by decide +kernel
theorem dX9_laidRows_7 : decode cX9_laidRows 7 = .ok (.aload_n 0, 1) := by decide +kernel
theorem dX9_laidRows_8 : decode cX9_laidRows 8 = .ok (.getfield 26, 3) := by decide +kernel
theorem dX9_laidRows_11 : decode cX9_laidRows 11 = .ok (.aload_n 0, 1) := by decide +kernel
theorem dX9_laidRows_12 : decode cX9_laidRows 12 = .ok (.getfield 10, 3) := by decide +kernel
theorem dX9_laidRows_15 : decode cX9_laidRows 15 = .ok (.invokevirtual 298, 3) := by decide +kernel
theorem dX9_laidRows_18 : decode cX9_laidRows 18 = .ok (.aload_n 0, 1) := by decide +kernel
theorem dX9_laidRows_19 : decode cX9_laidRows 19 = .ok (.iconst 0, 1) := by decide +kernel
theorem dX9_laidRows_20 : decode cX9_laidRows 20 = .ok (.putfield 69, 3) := by decide +kernel
theorem dX9_laidRows_23 : decode cX9_laidRows 23 = .ok (.aload_n 0, 1) := by decide +kernel
theorem dX9_laidRows_24 : decode cX9_laidRows 24 = .ok (.getfield 26, 3) := by decide +kernel
theorem dX9_laidRows_27 : decode cX9_laidRows 27 = .ok (.areturn, 1) := by decide +kernel
set_option maxHeartbeats 4000000 in
set_option maxRecDepth 100000 in
theorem k_X9_laidRows (l : Launch) (D : va_G) (cy : Nat → ClassId) {L : List Nat} {τ : Nat → Ro} {E : Ec} (hI : Inv TB cy L τ E) {a0 : Nat} (ha0 : a0 ∈ L) (ta0 : τ a0 = (0, 0)) : CtQ l yX9_laidRows wsX9_laidRows { frames := 4, cells := 0, slots := 0, locals := 94 } D TB cy L τ E [.ref a0] (inW [(0, 0), (5, 0), (100, 0), (101, 0), (102, 0), (103, 0), (104, 0), (105, 0), (106, 0), (107, 0), (108, 0), (109, 0), (110, 0), (111, 0), (112, 0)]) (fun r E' => (∃ q : Nat, r = some q ∧ q ∈ L ∧ τ q = (5, 0))) := by
  intro sz
  refine sta (cc := cX9_laidRows) (maxL := 1) hI (by decide) rfl (Nat.le_of_ble_eq_true rfl) (fun p e s m args below meth c ls hsz Z S0 hl => ?_)
  have hx := Z.1.1
  have hb := Z.1.2.1
  have hts := Z.1.2.2.2.2
  have F0_ : Fr L τ (inW [(0, 0), (5, 0), (100, 0), (101, 0), (102, 0), (103, 0), (104, 0), (105, 0), (106, 0), (107, 0), (108, 0), (109, 0), (110, 0), (111, 0), (112, 0)]) E E := Fr.refl
  have hl : lv_has ls 1 [(0, .ref a0)] := hl
  generalize hQ : MQ below _ args s 0 0 _ = QQ
  refine lv_aload_n hx hb dX9_laidRows_0 rfl (lv_at hl 0 rfl) ?_
  refine tr_geti Z.1 Z.2.2.2.1 S0.1 S0.2 ha0 ta0 rfl rfl (fun _ h => List.mem_cons_of_mem _ (List.mem_append_left _ (List.mem_append_left _ (List.mem_append_right _ h)))) 10 (by decide) rfl (hts _ (List.mem_of_getElem? (i := 1) rfl)) dX9_laidRows_1 (fun v1 ev1 lv1 uv1 => ?_)
  refine lv_if_eq (tgt := 23) hx hb dX9_laidRows_4 (by decide) (fun c2 => ?_) (fun c2 => ?_)
  · skip
    have tc2 := nu_eq c2
    have uc2 : (0 : Int32).toInt = 0 := rfl
    refine lv_aload_n hx hb dX9_laidRows_23 rfl (lv_at hl 0 rfl) ?_
    refine tr_getr Z.1 Z.2.2.2.1 S0.1 S0.2 ha0 ta0 rfl rfl (fun _ h => List.mem_cons_of_mem _ (List.mem_append_left _ (List.mem_append_left _ (List.mem_append_right _ h)))) 2 (by decide) rfl (hts _ (List.mem_of_getElem? (i := 2) rfl)) dX9_laidRows_24 (fun q3 eq3 hq3 tq3 => ?_)
    have tq3 : τ q3 = (5, 0) := tq3
    rw [← hQ]
    exact en_q (x := some q3) Z (by first | exact Or.inl ⟨_, rfl⟩ | exact Or.inr ⟨_, rfl⟩) S0 F0_ ⟨q3, rfl, hq3, tq3⟩ dX9_laidRows_27
  · skip
    have tc2 := nu_ne c2
    have uc2 : (0 : Int32).toInt = 0 := rfl
    refine lv_aload_n hx hb dX9_laidRows_7 rfl (lv_at hl 0 rfl) ?_
    refine tr_getr Z.1 Z.2.2.2.1 S0.1 S0.2 ha0 ta0 rfl rfl (fun _ h => List.mem_cons_of_mem _ (List.mem_append_left _ (List.mem_append_left _ (List.mem_append_right _ h)))) 2 (by decide) rfl (hts _ (List.mem_of_getElem? (i := 2) rfl)) dX9_laidRows_8 (fun q4 eq4 hq4 tq4 => ?_)
    have tq4 : τ q4 = (5, 0) := tq4
    refine lv_aload_n hx hb dX9_laidRows_11 rfl (lv_at hl 0 rfl) ?_
    refine tr_getr Z.1 Z.2.2.2.1 S0.1 S0.2 ha0 ta0 rfl rfl (fun _ h => List.mem_cons_of_mem _ (List.mem_append_left _ (List.mem_append_left _ (List.mem_append_right _ h)))) 0 (by decide) rfl (hts _ (List.mem_of_getElem? (i := 3) rfl)) dX9_laidRows_12 (fun q5 eq5 hq5 tq5 => ?_)
    have tq5 : τ q5 = (1, 0) := tq5
    refine tc_vv Z.1 Z.2.2.2.1 Z.2.2.2.2.1 Z.2.2.2.2.2 S0.1 S0.2 hq4 tq4 rfl rfl (k_X6_lay_v0 l D cy S0.2 hq4 tq4 hq5 tq5) (cwV 1 hts gX9_laidRows_X6_lay rfl rfl rfl (by decide +kernel) ⟨Nat.le_of_ble_eq_true rfl, Nat.le_of_ble_eq_true rfl⟩) rfl hl.1 rfl (Nat.le_of_ble_eq_true rfl) dX9_laidRows_15 ⟨Nat.zero_le _, Nat.zero_le _⟩ (fun E6 H7 k8 W6 I6 G6 p6 => ?_)
    have S6 : Now D TB cy (va_A (va_pl L E) sz) s L τ E6 H7 k8 := ⟨W6, I6⟩
    have F6 : Fr L τ (inW [(0, 0), (5, 0), (100, 0), (101, 0), (102, 0), (103, 0), (104, 0), (105, 0), (106, 0), (107, 0), (108, 0), (109, 0), (110, 0), (111, 0), (112, 0)]) E E6 := F0_.trans (G6.mono (inW_mono (by decide)))
    refine lv_aload_n hx hb dX9_laidRows_18 rfl (lv_at hl 0 rfl) ?_
    obtain ⟨v10, ev10, tv10⟩ : ∃ v : Int32, Int32.ofInt (0) = v ∧ v.toInt = 0 := ⟨_, rfl, by decide +kernel⟩
    refine lv_iconst hx hb dX9_laidRows_19 ev10 ?_
    refine tr_putz Z.1 Z.2.2.2.1 S6.1 S6.2 ha0 ta0 rfl rfl (fun _ h => List.mem_cons_of_mem _ (List.mem_append_left _ (List.mem_append_left _ (List.mem_append_right _ h)))) tyX9_ok nmX9 10 (by decide) rfl rfl rfl (hts _ (List.mem_of_getElem? (i := 1) rfl)) dX9_laidRows_20 (by omega) (by omega) (fun E11 H12 k13 W11 I11 P11 => ?_)
    have S11 : Now D TB cy (va_A (va_pl L E) sz) s L τ E11 H12 k13 := ⟨W11, I11⟩
    have F11 : Fr L τ (inW [(0, 0), (5, 0), (100, 0), (101, 0), (102, 0), (103, 0), (104, 0), (105, 0), (106, 0), (107, 0), (108, 0), (109, 0), (110, 0), (111, 0), (112, 0)]) E E11 := Fr.put F6 P11 ta0 rfl
    refine lv_aload_n hx hb dX9_laidRows_23 rfl (lv_at hl 0 rfl) ?_
    refine tr_getr Z.1 Z.2.2.2.1 S11.1 S11.2 ha0 ta0 rfl rfl (fun _ h => List.mem_cons_of_mem _ (List.mem_append_left _ (List.mem_append_left _ (List.mem_append_right _ h)))) 2 (by decide) rfl (hts _ (List.mem_of_getElem? (i := 2) rfl)) dX9_laidRows_24 (fun q14 eq14 hq14 tq14 => ?_)
    have tq14 : τ q14 = (5, 0) := tq14
    have uq14 : q4 = q14 := S11.2.2.2.2 _ hq4 _ hq14 (tq4.trans tq14.symm) (by rw [tq4]; rfl)
    subst uq14
    rw [← hQ]
    exact en_q (x := some q4) Z (by first | exact Or.inl ⟨_, rfl⟩ | exact Or.inr ⟨_, rfl⟩) S11 F11 ⟨q4, rfl, hq4, tq4⟩ dX9_laidRows_27

set_option maxRecDepth 20000 in
theorem ggX9_measures_X9_within : GoodIn wsX9_measures wsX9_within := goodIn_r _ [9] (by decide +kernel) (by decide +kernel)
set_option maxRecDepth 20000 in
theorem gX9_measures_X9_within : GoodIn wsX9_measures (va_wsS RX9 73 yX9_within wsX9_within) := goodIn_app (goodIn_of _ (by decide +kernel)) ggX9_measures_X9_within
set_option maxRecDepth 20000 in
theorem ggX9_measures_X9_deny : GoodIn wsX9_measures wsX9_deny := goodIn_r _ [13, 14, 62, 63, 64, 65, 66, 67, 68, 69, 70, 71, 72] (by decide +kernel) (by decide +kernel)
set_option maxRecDepth 20000 in
theorem gX9_measures_X9_deny : GoodIn wsX9_measures (wsV RX9 77 RX9 yX9_deny wsX9_deny) := goodIn_app (goodIn_of _ (by decide +kernel)) ggX9_measures_X9_deny
set_option maxRecDepth 20000 in
theorem ggX9_measures_X9_beginAct : GoodIn wsX9_measures wsX9_beginAct := goodIn_r _ [18, 14, 19, 20, 21, 8, 22, 23, 1, 24, 25, 26, 27, 28, 29, 30, 31, 32, 33, 34, 35, 36, 37, 38, 39, 40, 41, 42, 43, 44, 45, 46, 47, 48, 49, 50, 51, 52, 53, 54, 55, 56, 57, 58, 59, 60, 61, 62, 63, 64, 65, 66, 67, 68, 69, 70, 71, 72, 89, 90, 91, 73, 74, 75, 76, 77, 78, 79, 80, 81, 82, 83, 84, 85, 86, 87, 88] (by decide +kernel) (by decide +kernel)
set_option maxRecDepth 20000 in
theorem gX9_measures_X9_beginAct : GoodIn wsX9_measures (wsV RX9 81 RX9 yX9_beginAct wsX9_beginAct) := goodIn_app (goodIn_of _ (by decide +kernel)) ggX9_measures_X9_beginAct
theorem dX9_measures_0 : decode cX9_measures 0 = .ok (.iload_n 1, 1) := by decide +kernel
theorem dX9_measures_1 : decode cX9_measures 1 = .ok (.sipush 500, 3) := by decide +kernel
theorem dX9_measures_4 : decode cX9_measures 4 = .ok (.sipush 6000, 3) := by decide +kernel
theorem dX9_measures_7 : decode cX9_measures 7 = .ok (.invokestatic 73, 3) := by decide +kernel
theorem dX9_measures_10 : decode cX9_measures 10 = .ok (.ifCond .eq 42, 3) := by decide +kernel
theorem dX9_measures_13 : decode cX9_measures 13 = .ok (.iload_n 2, 1) := by decide +kernel
theorem dX9_measures_14 : decode cX9_measures 14 = .ok (.sipush 500, 3) := by decide +kernel
theorem dX9_measures_17 : decode cX9_measures 17 = .ok (.sipush 1500, 3) := by decide +kernel
theorem dX9_measures_20 : decode cX9_measures 20 = .ok (.invokestatic 73, 3) := by decide +kernel
theorem dX9_measures_23 : decode cX9_measures 23 = .ok (.ifCond .eq 29, 3) := by decide +kernel
theorem dX9_measures_26 : decode cX9_measures 26 = .ok (.iload_n 3, 1) := by decide +kernel
theorem dX9_measures_27 : decode cX9_measures 27 = .ok (.sipush 200, 3) := by decide +kernel
theorem dX9_measures_30 : decode cX9_measures 30 = .ok (.sipush 500, 3) := by decide +kernel
theorem dX9_measures_33 : decode cX9_measures 33 = .ok (.invokestatic 73, 3) := by decide +kernel
theorem dX9_measures_36 : decode cX9_measures 36 = .ok (.ifCond .eq 16, 3) := by decide +kernel
theorem dX9_measures_39 : decode cX9_measures 39 = .ok (.iload 4, 2) := by decide +kernel
theorem dX9_measures_41 : decode cX9_measures 41 = .ok (.bipush 20, 2) := by decide +kernel
theorem dX9_measures_43 : decode cX9_measures 43 = .ok (.sipush 150, 3) := by decide +kernel
theorem dX9_measures_46 : decode cX9_measures 46 = .ok (.invokestatic 73, 3) := by decide +kernel
theorem dX9_measures_49 : decode cX9_measures 49 = .ok (.ifCond .ne 9, 3) := by decide +kernel
theorem dX9_measures_52 : decode cX9_measures 52 = .ok (.aload_n 0, 1) := by decide +kernel
theorem dX9_measures_53 : decode cX9_measures 53 = .ok (.iconst 1, 1) := by decide +kernel
theorem dX9_measures_54 : decode cX9_measures 54 = .ok (.invokevirtual 77, 3) := by decide +kernel
theorem dX9_measures_57 : decode cX9_measures 57 = .ok (.ireturn, 1) := by decide +kernel
theorem dX9_measures_58 : decode cX9_measures 58 = .ok (.aload_n 0, 1) := by decide +kernel
theorem dX9_measures_59 : decode cX9_measures 59 = .ok (.invokevirtual 81, 3) := by decide +kernel
theorem dX9_measures_62 : decode cX9_measures 62 = .ok (.aload_n 0, 1) := by decide +kernel
theorem dX9_measures_63 : decode cX9_measures 63 = .ok (.getfield 10, 3) := by decide +kernel
theorem dX9_measures_66 : decode cX9_measures 66 = .ok (.iload_n 1, 1) := by decide +kernel
theorem dX9_measures_67 : decode cX9_measures 67 = .ok (.putfield 84, 3) := by decide +kernel
theorem dX9_measures_70 : decode cX9_measures 70 = .ok (.aload_n 0, 1) := by decide +kernel
theorem dX9_measures_71 : decode cX9_measures 71 = .ok (.getfield 10, 3) := by decide +kernel
theorem dX9_measures_74 : decode cX9_measures 74 = .ok (.iload_n 2, 1) := by decide +kernel
theorem dX9_measures_75 : decode cX9_measures 75 = .ok (.putfield 87, 3) := by decide +kernel
theorem dX9_measures_78 : decode cX9_measures 78 = .ok (.aload_n 0, 1) := by decide +kernel
theorem dX9_measures_79 : decode cX9_measures 79 = .ok (.getfield 10, 3) := by decide +kernel
theorem dX9_measures_82 : decode cX9_measures 82 = .ok (.iload_n 3, 1) := by decide +kernel
theorem dX9_measures_83 : decode cX9_measures 83 = .ok (.putfield 90, 3) := by decide +kernel
theorem dX9_measures_86 : decode cX9_measures 86 = .ok (.aload_n 0, 1) := by decide +kernel
theorem dX9_measures_87 : decode cX9_measures 87 = .ok (.getfield 10, 3) := by decide +kernel
theorem dX9_measures_90 : decode cX9_measures 90 = .ok (.iload 4, 2) := by decide +kernel
theorem dX9_measures_92 : decode cX9_measures 92 = .ok (.putfield 93, 3) := by decide +kernel
theorem dX9_measures_95 : decode cX9_measures 95 = .ok (.iconst 1, 1) := by decide +kernel
theorem dX9_measures_96 : decode cX9_measures 96 = .ok (.ireturn, 1) := by decide +kernel
set_option maxHeartbeats 4000000 in
set_option maxRecDepth 100000 in
theorem k_X9_measures (l : Launch) (D : va_G) (cy : Nat → ClassId) {L : List Nat} {τ : Nat → Ro} {E : Ec} (hI : Inv TB cy L τ E) {a0 : Nat} (ha0 : a0 ∈ L) (ta0 : τ a0 = (0, 0)) (a1 : Int32) (a2 : Int32) (a3 : Int32) (a4 : Int32) : CtI l yX9_measures wsX9_measures { frames := 5, cells := 0, slots := 0, locals := 123 } D TB cy L τ E [.ref a0, .int a1, .int a2, .int a3, .int a4] (inW [(1, 1), (20, 1), (21, 1), (22, 1), (23, 1), (24, 1), (25, 1), (26, 1), (27, 1), (4, 0), (0, 0), (1, 0), (20, 0), (21, 0), (22, 0), (23, 0), (24, 0), (25, 0), (26, 0), (27, 0)]) (fun r E' => ((r.toInt = 1 ∧ 500 ≤ a1.toInt ∧ a1.toInt ≤ 6000 ∧ 500 ≤ a2.toInt ∧ a2.toInt ≤ 1500 ∧ 200 ≤ a3.toInt ∧ a3.toInt ≤ 500 ∧ 20 ≤ a4.toInt ∧ a4.toInt ≤ 150) ∨ (r.toInt = 0 ∧ ¬ (500 ≤ a1.toInt ∧ a1.toInt ≤ 6000 ∧ 500 ≤ a2.toInt ∧ a2.toInt ≤ 1500 ∧ 200 ≤ a3.toInt ∧ a3.toInt ≤ 500 ∧ 20 ≤ a4.toInt ∧ a4.toInt ≤ 150))) ∧ 0 ≤ r.toInt ∧ r.toInt ≤ 1) := by
  intro sz
  refine sta (cc := cX9_measures) (maxL := 5) hI (by decide) rfl (Nat.le_of_ble_eq_true rfl) (fun p e s m args below meth c ls hsz Z S0 hl => ?_)
  have hx := Z.1.1
  have hb := Z.1.2.1
  have hts := Z.1.2.2.2.2
  have F0_ : Fr L τ (inW [(1, 1), (20, 1), (21, 1), (22, 1), (23, 1), (24, 1), (25, 1), (26, 1), (27, 1), (4, 0), (0, 0), (1, 0), (20, 0), (21, 0), (22, 0), (23, 0), (24, 0), (25, 0), (26, 0), (27, 0)]) E E := Fr.refl
  have hl : lv_has ls 5 [(0, .ref a0), (1, .int a1), (2, .int a2), (3, .int a3), (4, .int a4)] := hl
  generalize hQ : MQ below _ args s 0 0 _ = QQ
  have J52 : ∀  (E_52 : Ec) (H_52 : Heap) (k_52 : List Loc) (l_52 : Array Slot), Now D TB cy (va_A (va_pl L E) sz) s L τ E_52 H_52 k_52 → Fr L τ (inW [(1, 1), (20, 1), (21, 1), (22, 1), (23, 1), (24, 1), (25, 1), (26, 1), (27, 1), (4, 0), (0, 0), (1, 0), (20, 0), (21, 0), (22, 0), (23, 0), (24, 0), (25, 0), (26, 0), (27, 0)]) E E_52 → (¬ (500 ≤ a1.toInt ∧ a1.toInt ≤ 6000 ∧ 500 ≤ a2.toInt ∧ a2.toInt ≤ 1500 ∧ 200 ≤ a3.toInt ∧ a3.toInt ≤ 500 ∧ 20 ≤ a4.toInt ∧ a4.toInt ≤ 150)) → lv_has l_52 5 [(0, .ref a0)] → W p l e { frames := 5, cells := 0, slots := 0, locals := 123 } s m args below meth c H_52 k_52 0 0 QQ (F0 m 52 l_52 []) := by
    intro  E_52 H_52 k_52 l_52 S_52 F_52 z1 hl_52
    refine lv_aload_n hx hb dX9_measures_52 rfl (lv_at hl_52 0 rfl) ?_
    obtain ⟨v2, ev2, tv2⟩ : ∃ v : Int32, Int32.ofInt (1) = v ∧ v.toInt = 1 := ⟨_, rfl, by decide +kernel⟩
    refine lv_iconst hx hb dX9_measures_53 ev2 ?_
    refine tc_vi Z.1 Z.2.2.2.1 Z.2.2.2.2.1 Z.2.2.2.2.2 S_52.1 S_52.2 ha0 ta0 rfl rfl (k_X9_deny l D cy S_52.2 ha0 ta0 v2) (cwV 1 hts gX9_measures_X9_deny rfl rfl rfl (by decide +kernel) ⟨Nat.le_of_ble_eq_true rfl, Nat.le_of_ble_eq_true rfl⟩) rfl hl_52.1 rfl (Nat.le_of_ble_eq_true rfl) dX9_measures_54 ⟨Nat.zero_le _, Nat.zero_le _⟩ (fun v6 E3 H4 k5 W3 I3 G3 p3 => ?_)
    obtain ⟨p3_0, p3_1⟩ := p3
    have S3 : Now D TB cy (va_A (va_pl L E) sz) s L τ E3 H4 k5 := ⟨W3, I3⟩
    have F3 : Fr L τ (inW [(1, 1), (20, 1), (21, 1), (22, 1), (23, 1), (24, 1), (25, 1), (26, 1), (27, 1), (4, 0), (0, 0), (1, 0), (20, 0), (21, 0), (22, 0), (23, 0), (24, 0), (25, 0), (26, 0), (27, 0)]) E E3 := F_52.trans (G3.mono (inW_mono (by decide)))
    rw [← hQ]
    exact en_z Z S3 F3 (zo v6 (by omega)) ⟨(by omega), (by omega), (by omega)⟩ dX9_measures_57
  refine lv_iload_n hx hb dX9_measures_0 rfl (lv_at hl 1 rfl) ?_
  obtain ⟨v7, ev7, tv7⟩ : ∃ v : Int32, (Int16.ofInt (500)).toInt32 = v ∧ v.toInt = 500 := ⟨_, rfl, by decide +kernel⟩
  refine lv_sipush hx hb dX9_measures_1 ev7 ?_
  obtain ⟨v8, ev8, tv8⟩ : ∃ v : Int32, (Int16.ofInt (6000)).toInt32 = v ∧ v.toInt = 6000 := ⟨_, rfl, by decide +kernel⟩
  refine lv_sipush hx hb dX9_measures_4 ev8 ?_
  refine tc_si Z.1 Z.2.2.2.1 Z.2.2.2.2.1 Z.2.2.2.2.2 S0.1 (k_X9_within l D cy S0.2 a1 v7 v8) (va_cwS 3 hts gX9_measures_X9_within rfl rfl rfl (by decide +kernel) ⟨Nat.le_of_ble_eq_true rfl, Nat.le_of_ble_eq_true rfl⟩) rfl hl.1 rfl (Nat.le_of_ble_eq_true rfl) dX9_measures_7 ⟨Nat.zero_le _, Nat.zero_le _⟩ (fun v12 E9 H10 k11 W9 I9 G9 p9 => ?_)
  obtain ⟨q9, p9_0, p9_1, p9_2⟩ := p9
  have q9 := q9.symm
  subst q9
  have S9 : Now D TB cy (va_A (va_pl L E) sz) s L τ E H10 k11 := ⟨W9, I9⟩
  refine lv_if_eq (tgt := 52) hx hb dX9_measures_10 (by decide) (fun c13 => ?_) (fun c13 => ?_)
  · skip
    have tc13 := nu_eq c13
    have uc13 : (0 : Int32).toInt = 0 := rfl
    exact J52 E H10 k11 ls S9 F0_ (by have := fb_rng a1; have := fb_rng a2; have := fb_rng a3; have := fb_rng a4; omega) (lv_sub hl [0] rfl)
  · skip
    have tc13 := nu_ne c13
    have uc13 : (0 : Int32).toInt = 0 := rfl
    refine lv_iload_n hx hb dX9_measures_13 rfl (lv_at hl 2 rfl) ?_
    obtain ⟨v14, ev14, tv14⟩ : ∃ v : Int32, (Int16.ofInt (500)).toInt32 = v ∧ v.toInt = 500 := ⟨_, rfl, by decide +kernel⟩
    refine lv_sipush hx hb dX9_measures_14 ev14 ?_
    obtain ⟨v15, ev15, tv15⟩ : ∃ v : Int32, (Int16.ofInt (1500)).toInt32 = v ∧ v.toInt = 1500 := ⟨_, rfl, by decide +kernel⟩
    refine lv_sipush hx hb dX9_measures_17 ev15 ?_
    refine tc_si Z.1 Z.2.2.2.1 Z.2.2.2.2.1 Z.2.2.2.2.2 S9.1 (k_X9_within l D cy S9.2 a2 v14 v15) (va_cwS 3 hts gX9_measures_X9_within rfl rfl rfl (by decide +kernel) ⟨Nat.le_of_ble_eq_true rfl, Nat.le_of_ble_eq_true rfl⟩) rfl hl.1 rfl (Nat.le_of_ble_eq_true rfl) dX9_measures_20 ⟨Nat.zero_le _, Nat.zero_le _⟩ (fun v19 E16 H17 k18 W16 I16 G16 p16 => ?_)
    obtain ⟨q16, p16_0, p16_1, p16_2⟩ := p16
    have q16 := q16.symm
    subst q16
    have S16 : Now D TB cy (va_A (va_pl L E) sz) s L τ E H17 k18 := ⟨W16, I16⟩
    refine lv_if_eq (tgt := 52) hx hb dX9_measures_23 (by decide) (fun c20 => ?_) (fun c20 => ?_)
    · skip
      have tc20 := nu_eq c20
      have uc20 : (0 : Int32).toInt = 0 := rfl
      exact J52 E H17 k18 ls S16 F0_ (by have := fb_rng a2; have := fb_rng a3; have := fb_rng a4; omega) (lv_sub hl [0] rfl)
    · skip
      have tc20 := nu_ne c20
      have uc20 : (0 : Int32).toInt = 0 := rfl
      refine lv_iload_n hx hb dX9_measures_26 rfl (lv_at hl 3 rfl) ?_
      obtain ⟨v21, ev21, tv21⟩ : ∃ v : Int32, (Int16.ofInt (200)).toInt32 = v ∧ v.toInt = 200 := ⟨_, rfl, by decide +kernel⟩
      refine lv_sipush hx hb dX9_measures_27 ev21 ?_
      obtain ⟨v22, ev22, tv22⟩ : ∃ v : Int32, (Int16.ofInt (500)).toInt32 = v ∧ v.toInt = 500 := ⟨_, rfl, by decide +kernel⟩
      refine lv_sipush hx hb dX9_measures_30 ev22 ?_
      refine tc_si Z.1 Z.2.2.2.1 Z.2.2.2.2.1 Z.2.2.2.2.2 S16.1 (k_X9_within l D cy S16.2 a3 v21 v22) (va_cwS 3 hts gX9_measures_X9_within rfl rfl rfl (by decide +kernel) ⟨Nat.le_of_ble_eq_true rfl, Nat.le_of_ble_eq_true rfl⟩) rfl hl.1 rfl (Nat.le_of_ble_eq_true rfl) dX9_measures_33 ⟨Nat.zero_le _, Nat.zero_le _⟩ (fun v26 E23 H24 k25 W23 I23 G23 p23 => ?_)
      obtain ⟨q23, p23_0, p23_1, p23_2⟩ := p23
      have q23 := q23.symm
      subst q23
      have S23 : Now D TB cy (va_A (va_pl L E) sz) s L τ E H24 k25 := ⟨W23, I23⟩
      refine lv_if_eq (tgt := 52) hx hb dX9_measures_36 (by decide) (fun c27 => ?_) (fun c27 => ?_)
      · skip
        have tc27 := nu_eq c27
        have uc27 : (0 : Int32).toInt = 0 := rfl
        exact J52 E H24 k25 ls S23 F0_ (by have := fb_rng a3; have := fb_rng a4; omega) (lv_sub hl [0] rfl)
      · skip
        have tc27 := nu_ne c27
        have uc27 : (0 : Int32).toInt = 0 := rfl
        refine lv_iload hx hb dX9_measures_39 (lv_at hl 4 rfl) ?_
        obtain ⟨v28, ev28, tv28⟩ : ∃ v : Int32, (Int8.ofInt (20)).toInt32 = v ∧ v.toInt = 20 := ⟨_, rfl, by decide +kernel⟩
        refine lv_bipush hx hb dX9_measures_41 ev28 ?_
        obtain ⟨v29, ev29, tv29⟩ : ∃ v : Int32, (Int16.ofInt (150)).toInt32 = v ∧ v.toInt = 150 := ⟨_, rfl, by decide +kernel⟩
        refine lv_sipush hx hb dX9_measures_43 ev29 ?_
        refine tc_si Z.1 Z.2.2.2.1 Z.2.2.2.2.1 Z.2.2.2.2.2 S23.1 (k_X9_within l D cy S23.2 a4 v28 v29) (va_cwS 3 hts gX9_measures_X9_within rfl rfl rfl (by decide +kernel) ⟨Nat.le_of_ble_eq_true rfl, Nat.le_of_ble_eq_true rfl⟩) rfl hl.1 rfl (Nat.le_of_ble_eq_true rfl) dX9_measures_46 ⟨Nat.zero_le _, Nat.zero_le _⟩ (fun v33 E30 H31 k32 W30 I30 G30 p30 => ?_)
        obtain ⟨q30, p30_0, p30_1, p30_2⟩ := p30
        have q30 := q30.symm
        subst q30
        have S30 : Now D TB cy (va_A (va_pl L E) sz) s L τ E H31 k32 := ⟨W30, I30⟩
        refine lv_if_ne (tgt := 58) hx hb dX9_measures_49 (by decide) (fun c34 => ?_) (fun c34 => ?_)
        · skip
          have tc34 := nu_ne c34
          have uc34 : (0 : Int32).toInt = 0 := rfl
          refine lv_aload_n hx hb dX9_measures_58 rfl (lv_at hl 0 rfl) ?_
          refine tc_vv Z.1 Z.2.2.2.1 Z.2.2.2.2.1 Z.2.2.2.2.2 S30.1 S30.2 ha0 ta0 rfl rfl (k_X9_beginAct l D cy S30.2 ha0 ta0) (cwV 0 hts gX9_measures_X9_beginAct rfl rfl rfl (by decide +kernel) ⟨Nat.le_of_ble_eq_true rfl, Nat.le_of_ble_eq_true rfl⟩) rfl hl.1 rfl (Nat.le_of_ble_eq_true rfl) dX9_measures_59 ⟨Nat.zero_le _, Nat.zero_le _⟩ (fun E35 H36 k37 W35 I35 G35 p35 => ?_)
          have S35 : Now D TB cy (va_A (va_pl L E) sz) s L τ E35 H36 k37 := ⟨W35, I35⟩
          have F35 : Fr L τ (inW [(1, 1), (20, 1), (21, 1), (22, 1), (23, 1), (24, 1), (25, 1), (26, 1), (27, 1), (4, 0), (0, 0), (1, 0), (20, 0), (21, 0), (22, 0), (23, 0), (24, 0), (25, 0), (26, 0), (27, 0)]) E E35 := F0_.trans (G35.mono (inW_mono (by decide)))
          refine lv_aload_n hx hb dX9_measures_62 rfl (lv_at hl 0 rfl) ?_
          refine tr_getr Z.1 Z.2.2.2.1 S35.1 S35.2 ha0 ta0 rfl rfl (fun _ h => List.mem_cons_of_mem _ (List.mem_append_left _ (List.mem_append_left _ (List.mem_append_right _ h)))) 0 (by decide) rfl (hts _ (List.mem_of_getElem? (i := 1) rfl)) dX9_measures_63 (fun q39 eq39 hq39 tq39 => ?_)
          have tq39 : τ q39 = (1, 0) := tq39
          refine lv_iload_n hx hb dX9_measures_66 rfl (lv_at hl 1 rfl) ?_
          refine tr_puti Z.1 Z.2.2.2.1 S35.1 S35.2 hq39 tq39 rfl rfl (fun _ h => List.mem_cons_of_mem _ (List.mem_append_left _ (List.mem_append_right _ h))) tyX4_ok nmX4 0 (by decide) rfl rfl rfl (hts _ (List.mem_of_getElem? (i := 2) rfl)) dX9_measures_67 (by have := fb_rng a1; omega) (by have := fb_rng a1; omega) (fun E40 H41 k42 W40 I40 P40 => ?_)
          have S40 : Now D TB cy (va_A (va_pl L E) sz) s L τ E40 H41 k42 := ⟨W40, I40⟩
          have F40 : Fr L τ (inW [(1, 1), (20, 1), (21, 1), (22, 1), (23, 1), (24, 1), (25, 1), (26, 1), (27, 1), (4, 0), (0, 0), (1, 0), (20, 0), (21, 0), (22, 0), (23, 0), (24, 0), (25, 0), (26, 0), (27, 0)]) E E40 := Fr.put F35 P40 tq39 rfl
          refine lv_aload_n hx hb dX9_measures_70 rfl (lv_at hl 0 rfl) ?_
          refine tr_getr Z.1 Z.2.2.2.1 S40.1 S40.2 ha0 ta0 rfl rfl (fun _ h => List.mem_cons_of_mem _ (List.mem_append_left _ (List.mem_append_left _ (List.mem_append_right _ h)))) 0 (by decide) rfl (hts _ (List.mem_of_getElem? (i := 1) rfl)) dX9_measures_71 (fun q43 eq43 hq43 tq43 => ?_)
          have tq43 : τ q43 = (1, 0) := tq43
          have uq43 : q39 = q43 := S40.2.2.2.2 _ hq39 _ hq43 (tq39.trans tq43.symm) (by rw [tq39]; rfl)
          subst uq43
          refine lv_iload_n hx hb dX9_measures_74 rfl (lv_at hl 2 rfl) ?_
          refine tr_puti Z.1 Z.2.2.2.1 S40.1 S40.2 hq39 tq39 rfl rfl (fun _ h => List.mem_cons_of_mem _ (List.mem_append_left _ (List.mem_append_right _ h))) tyX4_ok nmX4 1 (by decide) rfl rfl rfl (hts _ (List.mem_of_getElem? (i := 3) rfl)) dX9_measures_75 (by have := fb_rng a2; omega) (by have := fb_rng a2; omega) (fun E44 H45 k46 W44 I44 P44 => ?_)
          have S44 : Now D TB cy (va_A (va_pl L E) sz) s L τ E44 H45 k46 := ⟨W44, I44⟩
          have F44 : Fr L τ (inW [(1, 1), (20, 1), (21, 1), (22, 1), (23, 1), (24, 1), (25, 1), (26, 1), (27, 1), (4, 0), (0, 0), (1, 0), (20, 0), (21, 0), (22, 0), (23, 0), (24, 0), (25, 0), (26, 0), (27, 0)]) E E44 := Fr.put F40 P44 tq39 rfl
          refine lv_aload_n hx hb dX9_measures_78 rfl (lv_at hl 0 rfl) ?_
          refine tr_getr Z.1 Z.2.2.2.1 S44.1 S44.2 ha0 ta0 rfl rfl (fun _ h => List.mem_cons_of_mem _ (List.mem_append_left _ (List.mem_append_left _ (List.mem_append_right _ h)))) 0 (by decide) rfl (hts _ (List.mem_of_getElem? (i := 1) rfl)) dX9_measures_79 (fun q47 eq47 hq47 tq47 => ?_)
          have tq47 : τ q47 = (1, 0) := tq47
          have uq47 : q39 = q47 := S44.2.2.2.2 _ hq39 _ hq47 (tq39.trans tq47.symm) (by rw [tq39]; rfl)
          subst uq47
          refine lv_iload_n hx hb dX9_measures_82 rfl (lv_at hl 3 rfl) ?_
          refine tr_puti Z.1 Z.2.2.2.1 S44.1 S44.2 hq39 tq39 rfl rfl (fun _ h => List.mem_cons_of_mem _ (List.mem_append_left _ (List.mem_append_right _ h))) tyX4_ok nmX4 2 (by decide) rfl rfl rfl (hts _ (List.mem_of_getElem? (i := 4) rfl)) dX9_measures_83 (by have := fb_rng a3; omega) (by have := fb_rng a3; omega) (fun E48 H49 k50 W48 I48 P48 => ?_)
          have S48 : Now D TB cy (va_A (va_pl L E) sz) s L τ E48 H49 k50 := ⟨W48, I48⟩
          have F48 : Fr L τ (inW [(1, 1), (20, 1), (21, 1), (22, 1), (23, 1), (24, 1), (25, 1), (26, 1), (27, 1), (4, 0), (0, 0), (1, 0), (20, 0), (21, 0), (22, 0), (23, 0), (24, 0), (25, 0), (26, 0), (27, 0)]) E E48 := Fr.put F44 P48 tq39 rfl
          refine lv_aload_n hx hb dX9_measures_86 rfl (lv_at hl 0 rfl) ?_
          refine tr_getr Z.1 Z.2.2.2.1 S48.1 S48.2 ha0 ta0 rfl rfl (fun _ h => List.mem_cons_of_mem _ (List.mem_append_left _ (List.mem_append_left _ (List.mem_append_right _ h)))) 0 (by decide) rfl (hts _ (List.mem_of_getElem? (i := 1) rfl)) dX9_measures_87 (fun q51 eq51 hq51 tq51 => ?_)
          have tq51 : τ q51 = (1, 0) := tq51
          have uq51 : q39 = q51 := S48.2.2.2.2 _ hq39 _ hq51 (tq39.trans tq51.symm) (by rw [tq39]; rfl)
          subst uq51
          refine lv_iload hx hb dX9_measures_90 (lv_at hl 4 rfl) ?_
          refine tr_puti Z.1 Z.2.2.2.1 S48.1 S48.2 hq39 tq39 rfl rfl (fun _ h => List.mem_cons_of_mem _ (List.mem_append_left _ (List.mem_append_right _ h))) tyX4_ok nmX4 3 (by decide) rfl rfl rfl (hts _ (List.mem_of_getElem? (i := 5) rfl)) dX9_measures_92 (by have := fb_rng a4; omega) (by have := fb_rng a4; omega) (fun E52 H53 k54 W52 I52 P52 => ?_)
          have S52 : Now D TB cy (va_A (va_pl L E) sz) s L τ E52 H53 k54 := ⟨W52, I52⟩
          have F52 : Fr L τ (inW [(1, 1), (20, 1), (21, 1), (22, 1), (23, 1), (24, 1), (25, 1), (26, 1), (27, 1), (4, 0), (0, 0), (1, 0), (20, 0), (21, 0), (22, 0), (23, 0), (24, 0), (25, 0), (26, 0), (27, 0)]) E E52 := Fr.put F48 P52 tq39 rfl
          obtain ⟨v55, ev55, tv55⟩ : ∃ v : Int32, Int32.ofInt (1) = v ∧ v.toInt = 1 := ⟨_, rfl, by decide +kernel⟩
          refine lv_iconst hx hb dX9_measures_95 ev55 ?_
          rw [← hQ]
          exact en_z Z S52 F52 (zo v55 (by omega)) ⟨(by omega), (by omega), (by omega)⟩ dX9_measures_96
        · skip
          have tc34 := nu_eq c34
          have uc34 : (0 : Int32).toInt = 0 := rfl
          exact J52 E H31 k32 ls S30 F0_ (by have := fb_rng a4; omega) (lv_sub hl [0] rfl)

set_option maxRecDepth 20000 in
theorem ggX9_first_X9_within : GoodIn wsX9_first wsX9_within := goodIn_r _ [6] (by decide +kernel) (by decide +kernel)
set_option maxRecDepth 20000 in
theorem gX9_first_X9_within : GoodIn wsX9_first (va_wsS RX9 73 yX9_within wsX9_within) := goodIn_app (goodIn_of _ (by decide +kernel)) ggX9_first_X9_within
set_option maxRecDepth 20000 in
theorem ggX9_first_X9_deny : GoodIn wsX9_first wsX9_deny := goodIn_r _ [10, 11, 59, 60, 61, 62, 63, 64, 65, 66, 67, 68, 69] (by decide +kernel) (by decide +kernel)
set_option maxRecDepth 20000 in
theorem gX9_first_X9_deny : GoodIn wsX9_first (wsV RX9 77 RX9 yX9_deny wsX9_deny) := goodIn_app (goodIn_of _ (by decide +kernel)) ggX9_first_X9_deny
set_option maxRecDepth 20000 in
theorem ggX9_first_X9_beginAct : GoodIn wsX9_first wsX9_beginAct := goodIn_r _ [15, 11, 16, 17, 18, 5, 19, 20, 1, 21, 22, 23, 24, 25, 26, 27, 28, 29, 30, 31, 32, 33, 34, 35, 36, 37, 38, 39, 40, 41, 42, 43, 44, 45, 46, 47, 48, 49, 50, 51, 52, 53, 54, 55, 56, 57, 58, 59, 60, 61, 62, 63, 64, 65, 66, 67, 68, 69, 86, 87, 88, 70, 71, 72, 73, 74, 75, 76, 77, 78, 79, 80, 81, 82, 83, 84, 85] (by decide +kernel) (by decide +kernel)
set_option maxRecDepth 20000 in
theorem gX9_first_X9_beginAct : GoodIn wsX9_first (wsV RX9 81 RX9 yX9_beginAct wsX9_beginAct) := goodIn_app (goodIn_of _ (by decide +kernel)) ggX9_first_X9_beginAct
theorem dX9_first_0 : decode cX9_first 0 = .ok (.iload_n 1, 1) := by decide +kernel
theorem dX9_first_1 : decode cX9_first 1 = .ok (.iconst 0, 1) := by decide +kernel
theorem dX9_first_2 : decode cX9_first 2 = .ok (.iconst 1, 1) := by decide +kernel
theorem dX9_first_3 : decode cX9_first 3 = .ok (.invokestatic 73, 3) := by decide +kernel
theorem dX9_first_6 : decode cX9_first 6 = .ok (.ifCond .ne 9, 3) := by decide +kernel
theorem dX9_first_9 : decode cX9_first 9 = .ok (.aload_n 0, 1) := by decide +kernel
theorem dX9_first_10 : decode cX9_first 10 = .ok (.iconst 1, 1) := by decide +kernel
theorem dX9_first_11 : decode cX9_first 11 = .ok (.invokevirtual 77, 3) := by decide +kernel
theorem dX9_first_14 : decode cX9_first 14 = .ok (.ireturn, 1) := by decide +kernel
theorem dX9_first_15 : decode cX9_first 15 = .ok (.aload_n 0, 1) := by decide +kernel
theorem dX9_first_16 : decode cX9_first 16 = .ok (.invokevirtual 81, 3) := by decide +kernel
theorem dX9_first_19 : decode cX9_first 19 = .ok (.aload_n 0, 1) := by decide +kernel
theorem dX9_first_20 : decode cX9_first 20 = .ok (.getfield 10, 3) := by decide +kernel
theorem dX9_first_23 : decode cX9_first 23 = .ok (.iload_n 1, 1) := by decide +kernel
theorem dX9_first_24 : decode cX9_first 24 = .ok (.putfield 118, 3) := by decide +kernel
theorem dX9_first_27 : decode cX9_first 27 = .ok (.iconst 1, 1) := by decide +kernel
theorem dX9_first_28 : decode cX9_first 28 = .ok (.ireturn, 1) := by decide +kernel
set_option maxHeartbeats 4000000 in
set_option maxRecDepth 100000 in
theorem k_X9_first (l : Launch) (D : va_G) (cy : Nat → ClassId) {L : List Nat} {τ : Nat → Ro} {E : Ec} (hI : Inv TB cy L τ E) {a0 : Nat} (ha0 : a0 ∈ L) (ta0 : τ a0 = (0, 0)) (a1 : Int32) : CtI l yX9_first wsX9_first { frames := 5, cells := 0, slots := 0, locals := 123 } D TB cy L τ E [.ref a0, .int a1] (inW [(1, 1), (20, 1), (21, 1), (22, 1), (23, 1), (24, 1), (25, 1), (26, 1), (27, 1), (4, 0), (0, 0), (1, 0), (20, 0), (21, 0), (22, 0), (23, 0), (24, 0), (25, 0), (26, 0), (27, 0)]) (fun r E' => ((r.toInt = 1 ∧ 0 ≤ a1.toInt ∧ a1.toInt ≤ 1) ∨ (r.toInt = 0 ∧ ¬ (0 ≤ a1.toInt ∧ a1.toInt ≤ 1))) ∧ 0 ≤ r.toInt ∧ r.toInt ≤ 1) := by
  intro sz
  refine sta (cc := cX9_first) (maxL := 2) hI (by decide) rfl (Nat.le_of_ble_eq_true rfl) (fun p e s m args below meth c ls hsz Z S0 hl => ?_)
  have hx := Z.1.1
  have hb := Z.1.2.1
  have hts := Z.1.2.2.2.2
  have F0_ : Fr L τ (inW [(1, 1), (20, 1), (21, 1), (22, 1), (23, 1), (24, 1), (25, 1), (26, 1), (27, 1), (4, 0), (0, 0), (1, 0), (20, 0), (21, 0), (22, 0), (23, 0), (24, 0), (25, 0), (26, 0), (27, 0)]) E E := Fr.refl
  have hl : lv_has ls 2 [(0, .ref a0), (1, .int a1)] := hl
  generalize hQ : MQ below _ args s 0 0 _ = QQ
  refine lv_iload_n hx hb dX9_first_0 rfl (lv_at hl 1 rfl) ?_
  obtain ⟨v1, ev1, tv1⟩ : ∃ v : Int32, Int32.ofInt (0) = v ∧ v.toInt = 0 := ⟨_, rfl, by decide +kernel⟩
  refine lv_iconst hx hb dX9_first_1 ev1 ?_
  obtain ⟨v2, ev2, tv2⟩ : ∃ v : Int32, Int32.ofInt (1) = v ∧ v.toInt = 1 := ⟨_, rfl, by decide +kernel⟩
  refine lv_iconst hx hb dX9_first_2 ev2 ?_
  refine tc_si Z.1 Z.2.2.2.1 Z.2.2.2.2.1 Z.2.2.2.2.2 S0.1 (k_X9_within l D cy S0.2 a1 v1 v2) (va_cwS 3 hts gX9_first_X9_within rfl rfl rfl (by decide +kernel) ⟨Nat.le_of_ble_eq_true rfl, Nat.le_of_ble_eq_true rfl⟩) rfl hl.1 rfl (Nat.le_of_ble_eq_true rfl) dX9_first_3 ⟨Nat.zero_le _, Nat.zero_le _⟩ (fun v6 E3 H4 k5 W3 I3 G3 p3 => ?_)
  obtain ⟨q3, p3_0, p3_1, p3_2⟩ := p3
  have q3 := q3.symm
  subst q3
  have S3 : Now D TB cy (va_A (va_pl L E) sz) s L τ E H4 k5 := ⟨W3, I3⟩
  refine lv_if_ne (tgt := 15) hx hb dX9_first_6 (by decide) (fun c7 => ?_) (fun c7 => ?_)
  · skip
    have tc7 := nu_ne c7
    have uc7 : (0 : Int32).toInt = 0 := rfl
    refine lv_aload_n hx hb dX9_first_15 rfl (lv_at hl 0 rfl) ?_
    refine tc_vv Z.1 Z.2.2.2.1 Z.2.2.2.2.1 Z.2.2.2.2.2 S3.1 S3.2 ha0 ta0 rfl rfl (k_X9_beginAct l D cy S3.2 ha0 ta0) (cwV 0 hts gX9_first_X9_beginAct rfl rfl rfl (by decide +kernel) ⟨Nat.le_of_ble_eq_true rfl, Nat.le_of_ble_eq_true rfl⟩) rfl hl.1 rfl (Nat.le_of_ble_eq_true rfl) dX9_first_16 ⟨Nat.zero_le _, Nat.zero_le _⟩ (fun E8 H9 k10 W8 I8 G8 p8 => ?_)
    have S8 : Now D TB cy (va_A (va_pl L E) sz) s L τ E8 H9 k10 := ⟨W8, I8⟩
    have F8 : Fr L τ (inW [(1, 1), (20, 1), (21, 1), (22, 1), (23, 1), (24, 1), (25, 1), (26, 1), (27, 1), (4, 0), (0, 0), (1, 0), (20, 0), (21, 0), (22, 0), (23, 0), (24, 0), (25, 0), (26, 0), (27, 0)]) E E8 := F0_.trans (G8.mono (inW_mono (by decide)))
    refine lv_aload_n hx hb dX9_first_19 rfl (lv_at hl 0 rfl) ?_
    refine tr_getr Z.1 Z.2.2.2.1 S8.1 S8.2 ha0 ta0 rfl rfl (fun _ h => List.mem_cons_of_mem _ (List.mem_append_left _ (List.mem_append_left _ (List.mem_append_right _ h)))) 0 (by decide) rfl (hts _ (List.mem_of_getElem? (i := 1) rfl)) dX9_first_20 (fun q12 eq12 hq12 tq12 => ?_)
    have tq12 : τ q12 = (1, 0) := tq12
    refine lv_iload_n hx hb dX9_first_23 rfl (lv_at hl 1 rfl) ?_
    refine tr_puti Z.1 Z.2.2.2.1 S8.1 S8.2 hq12 tq12 rfl rfl (fun _ h => List.mem_cons_of_mem _ (List.mem_append_left _ (List.mem_append_right _ h))) tyX4_ok nmX4 5 (by decide) rfl rfl rfl (hts _ (List.mem_of_getElem? (i := 2) rfl)) dX9_first_24 (by have := fb_rng a1; omega) (by have := fb_rng a1; omega) (fun E13 H14 k15 W13 I13 P13 => ?_)
    have S13 : Now D TB cy (va_A (va_pl L E) sz) s L τ E13 H14 k15 := ⟨W13, I13⟩
    have F13 : Fr L τ (inW [(1, 1), (20, 1), (21, 1), (22, 1), (23, 1), (24, 1), (25, 1), (26, 1), (27, 1), (4, 0), (0, 0), (1, 0), (20, 0), (21, 0), (22, 0), (23, 0), (24, 0), (25, 0), (26, 0), (27, 0)]) E E13 := Fr.put F8 P13 tq12 rfl
    obtain ⟨v16, ev16, tv16⟩ : ∃ v : Int32, Int32.ofInt (1) = v ∧ v.toInt = 1 := ⟨_, rfl, by decide +kernel⟩
    refine lv_iconst hx hb dX9_first_27 ev16 ?_
    rw [← hQ]
    exact en_z Z S13 F13 (zo v16 (by omega)) ⟨(by omega), (by omega), (by omega)⟩ dX9_first_28
  · skip
    have tc7 := nu_eq c7
    have uc7 : (0 : Int32).toInt = 0 := rfl
    refine lv_aload_n hx hb dX9_first_9 rfl (lv_at hl 0 rfl) ?_
    obtain ⟨v17, ev17, tv17⟩ : ∃ v : Int32, Int32.ofInt (1) = v ∧ v.toInt = 1 := ⟨_, rfl, by decide +kernel⟩
    refine lv_iconst hx hb dX9_first_10 ev17 ?_
    refine tc_vi Z.1 Z.2.2.2.1 Z.2.2.2.2.1 Z.2.2.2.2.2 S3.1 S3.2 ha0 ta0 rfl rfl (k_X9_deny l D cy S3.2 ha0 ta0 v17) (cwV 1 hts gX9_first_X9_deny rfl rfl rfl (by decide +kernel) ⟨Nat.le_of_ble_eq_true rfl, Nat.le_of_ble_eq_true rfl⟩) rfl hl.1 rfl (Nat.le_of_ble_eq_true rfl) dX9_first_11 ⟨Nat.zero_le _, Nat.zero_le _⟩ (fun v21 E18 H19 k20 W18 I18 G18 p18 => ?_)
    obtain ⟨p18_0, p18_1⟩ := p18
    have S18 : Now D TB cy (va_A (va_pl L E) sz) s L τ E18 H19 k20 := ⟨W18, I18⟩
    have F18 : Fr L τ (inW [(1, 1), (20, 1), (21, 1), (22, 1), (23, 1), (24, 1), (25, 1), (26, 1), (27, 1), (4, 0), (0, 0), (1, 0), (20, 0), (21, 0), (22, 0), (23, 0), (24, 0), (25, 0), (26, 0), (27, 0)]) E E18 := F0_.trans (G18.mono (inW_mono (by decide)))
    rw [← hQ]
    exact en_z Z S18 F18 (zo v21 (by omega)) ⟨(by omega), (by omega), (by omega)⟩ dX9_first_14

set_option maxRecDepth 20000 in
theorem ggX9_price_X9_within : GoodIn wsX9_price wsX9_within := goodIn_r _ [6] (by decide +kernel) (by decide +kernel)
set_option maxRecDepth 20000 in
theorem gX9_price_X9_within : GoodIn wsX9_price (va_wsS RX9 73 yX9_within wsX9_within) := goodIn_app (goodIn_of _ (by decide +kernel)) ggX9_price_X9_within
set_option maxRecDepth 20000 in
theorem ggX9_price_X9_deny : GoodIn wsX9_price wsX9_deny := goodIn_r _ [10, 11, 59, 60, 61, 62, 63, 64, 65, 66, 67, 68, 69] (by decide +kernel) (by decide +kernel)
set_option maxRecDepth 20000 in
theorem gX9_price_X9_deny : GoodIn wsX9_price (wsV RX9 77 RX9 yX9_deny wsX9_deny) := goodIn_app (goodIn_of _ (by decide +kernel)) ggX9_price_X9_deny
set_option maxRecDepth 20000 in
theorem ggX9_price_X9_beginAct : GoodIn wsX9_price wsX9_beginAct := goodIn_r _ [15, 11, 16, 17, 18, 5, 19, 20, 1, 21, 22, 23, 24, 25, 26, 27, 28, 29, 30, 31, 32, 33, 34, 35, 36, 37, 38, 39, 40, 41, 42, 43, 44, 45, 46, 47, 48, 49, 50, 51, 52, 53, 54, 55, 56, 57, 58, 59, 60, 61, 62, 63, 64, 65, 66, 67, 68, 69, 86, 87, 88, 70, 71, 72, 73, 74, 75, 76, 77, 78, 79, 80, 81, 82, 83, 84, 85] (by decide +kernel) (by decide +kernel)
set_option maxRecDepth 20000 in
theorem gX9_price_X9_beginAct : GoodIn wsX9_price (wsV RX9 81 RX9 yX9_beginAct wsX9_beginAct) := goodIn_app (goodIn_of _ (by decide +kernel)) ggX9_price_X9_beginAct
theorem dX9_price_0 : decode cX9_price 0 = .ok (.iload_n 1, 1) := by decide +kernel
theorem dX9_price_1 : decode cX9_price 1 = .ok (.iconst 0, 1) := by decide +kernel
theorem dX9_price_2 : decode cX9_price 2 = .ok (.iconst 4, 1) := by decide +kernel
theorem dX9_price_3 : decode cX9_price 3 = .ok (.invokestatic 73, 3) := by decide +kernel
theorem dX9_price_6 : decode cX9_price 6 = .ok (.ifCond .eq 14, 3) := by decide +kernel
theorem dX9_price_9 : decode cX9_price 9 = .ok (.iload_n 2, 1) := by decide +kernel
theorem dX9_price_10 : decode cX9_price 10 = .ok (.iconst 0, 1) := by decide +kernel
theorem dX9_price_11 : decode cX9_price 11 = .ok (.sipush 10000, 3) := by decide +kernel
theorem dX9_price_14 : decode cX9_price 14 = .ok (.invokestatic 73, 3) := by decide +kernel
theorem dX9_price_17 : decode cX9_price 17 = .ok (.ifCond .ne 9, 3) := by decide +kernel
theorem dX9_price_20 : decode cX9_price 20 = .ok (.aload_n 0, 1) := by decide +kernel
theorem dX9_price_21 : decode cX9_price 21 = .ok (.iconst 1, 1) := by decide +kernel
theorem dX9_price_22 : decode cX9_price 22 = .ok (.invokevirtual 77, 3) := by decide +kernel
theorem dX9_price_25 : decode cX9_price 25 = .ok (.ireturn, 1) := by decide +kernel
theorem dX9_price_26 : decode cX9_price 26 = .ok (.aload_n 0, 1) := by decide +kernel
theorem dX9_price_27 : decode cX9_price 27 = .ok (.invokevirtual 81, 3) := by decide +kernel
theorem dX9_price_30 : decode cX9_price 30 = .ok (.aload_n 0, 1) := by decide +kernel
theorem dX9_price_31 : decode cX9_price 31 = .ok (.getfield 10, 3) := by decide +kernel
theorem dX9_price_34 : decode cX9_price 34 = .ok (.getfield 229, 3) := by decide +kernel
theorem dX9_price_37 : decode cX9_price 37 = .ok (.iload_n 1, 1) := by decide +kernel
theorem dX9_price_38 : decode cX9_price 38 = .ok (.iload_n 2, 1) := by decide +kernel
theorem dX9_price_39 : decode cX9_price 39 = .ok (.iastore, 1) := by decide +kernel
theorem dX9_price_40 : decode cX9_price 40 = .ok (.iconst 1, 1) := by decide +kernel
theorem dX9_price_41 : decode cX9_price 41 = .ok (.ireturn, 1) := by decide +kernel
set_option maxHeartbeats 4000000 in
set_option maxRecDepth 100000 in
theorem k_X9_price (l : Launch) (D : va_G) (cy : Nat → ClassId) {L : List Nat} {τ : Nat → Ro} {E : Ec} (hI : Inv TB cy L τ E) {a0 : Nat} (ha0 : a0 ∈ L) (ta0 : τ a0 = (0, 0)) (a1 : Int32) (a2 : Int32) : CtI l yX9_price wsX9_price { frames := 5, cells := 0, slots := 0, locals := 123 } D TB cy L τ E [.ref a0, .int a1, .int a2] (inW [(1, 1), (20, 1), (21, 1), (22, 1), (23, 1), (24, 1), (25, 1), (26, 1), (27, 1), (4, 0), (0, 0), (1, 0), (20, 0), (21, 0), (22, 0), (23, 0), (24, 0), (25, 0), (26, 0), (27, 0)]) (fun r E' => ((r.toInt = 1 ∧ 0 ≤ a1.toInt ∧ a1.toInt ≤ 4 ∧ 0 ≤ a2.toInt ∧ a2.toInt ≤ 10000) ∨ (r.toInt = 0 ∧ ¬ (0 ≤ a1.toInt ∧ a1.toInt ≤ 4 ∧ 0 ≤ a2.toInt ∧ a2.toInt ≤ 10000))) ∧ 0 ≤ r.toInt ∧ r.toInt ≤ 1) := by
  intro sz
  refine sta (cc := cX9_price) (maxL := 3) hI (by decide) rfl (Nat.le_of_ble_eq_true rfl) (fun p e s m args below meth c ls hsz Z S0 hl => ?_)
  have hx := Z.1.1
  have hb := Z.1.2.1
  have hts := Z.1.2.2.2.2
  have F0_ : Fr L τ (inW [(1, 1), (20, 1), (21, 1), (22, 1), (23, 1), (24, 1), (25, 1), (26, 1), (27, 1), (4, 0), (0, 0), (1, 0), (20, 0), (21, 0), (22, 0), (23, 0), (24, 0), (25, 0), (26, 0), (27, 0)]) E E := Fr.refl
  have hl : lv_has ls 3 [(0, .ref a0), (1, .int a1), (2, .int a2)] := hl
  generalize hQ : MQ below _ args s 0 0 _ = QQ
  have J20 : ∀  (E_20 : Ec) (H_20 : Heap) (k_20 : List Loc) (l_20 : Array Slot), Now D TB cy (va_A (va_pl L E) sz) s L τ E_20 H_20 k_20 → Fr L τ (inW [(1, 1), (20, 1), (21, 1), (22, 1), (23, 1), (24, 1), (25, 1), (26, 1), (27, 1), (4, 0), (0, 0), (1, 0), (20, 0), (21, 0), (22, 0), (23, 0), (24, 0), (25, 0), (26, 0), (27, 0)]) E E_20 → (¬ (0 ≤ a1.toInt ∧ a1.toInt ≤ 4 ∧ 0 ≤ a2.toInt ∧ a2.toInt ≤ 10000)) → lv_has l_20 3 [(0, .ref a0)] → W p l e { frames := 5, cells := 0, slots := 0, locals := 123 } s m args below meth c H_20 k_20 0 0 QQ (F0 m 20 l_20 []) := by
    intro  E_20 H_20 k_20 l_20 S_20 F_20 z1 hl_20
    refine lv_aload_n hx hb dX9_price_20 rfl (lv_at hl_20 0 rfl) ?_
    obtain ⟨v2, ev2, tv2⟩ : ∃ v : Int32, Int32.ofInt (1) = v ∧ v.toInt = 1 := ⟨_, rfl, by decide +kernel⟩
    refine lv_iconst hx hb dX9_price_21 ev2 ?_
    refine tc_vi Z.1 Z.2.2.2.1 Z.2.2.2.2.1 Z.2.2.2.2.2 S_20.1 S_20.2 ha0 ta0 rfl rfl (k_X9_deny l D cy S_20.2 ha0 ta0 v2) (cwV 1 hts gX9_price_X9_deny rfl rfl rfl (by decide +kernel) ⟨Nat.le_of_ble_eq_true rfl, Nat.le_of_ble_eq_true rfl⟩) rfl hl_20.1 rfl (Nat.le_of_ble_eq_true rfl) dX9_price_22 ⟨Nat.zero_le _, Nat.zero_le _⟩ (fun v6 E3 H4 k5 W3 I3 G3 p3 => ?_)
    obtain ⟨p3_0, p3_1⟩ := p3
    have S3 : Now D TB cy (va_A (va_pl L E) sz) s L τ E3 H4 k5 := ⟨W3, I3⟩
    have F3 : Fr L τ (inW [(1, 1), (20, 1), (21, 1), (22, 1), (23, 1), (24, 1), (25, 1), (26, 1), (27, 1), (4, 0), (0, 0), (1, 0), (20, 0), (21, 0), (22, 0), (23, 0), (24, 0), (25, 0), (26, 0), (27, 0)]) E E3 := F_20.trans (G3.mono (inW_mono (by decide)))
    rw [← hQ]
    exact en_z Z S3 F3 (zo v6 (by omega)) ⟨(by omega), (by omega), (by omega)⟩ dX9_price_25
  refine lv_iload_n hx hb dX9_price_0 rfl (lv_at hl 1 rfl) ?_
  obtain ⟨v7, ev7, tv7⟩ : ∃ v : Int32, Int32.ofInt (0) = v ∧ v.toInt = 0 := ⟨_, rfl, by decide +kernel⟩
  refine lv_iconst hx hb dX9_price_1 ev7 ?_
  obtain ⟨v8, ev8, tv8⟩ : ∃ v : Int32, Int32.ofInt (4) = v ∧ v.toInt = 4 := ⟨_, rfl, by decide +kernel⟩
  refine lv_iconst hx hb dX9_price_2 ev8 ?_
  refine tc_si Z.1 Z.2.2.2.1 Z.2.2.2.2.1 Z.2.2.2.2.2 S0.1 (k_X9_within l D cy S0.2 a1 v7 v8) (va_cwS 3 hts gX9_price_X9_within rfl rfl rfl (by decide +kernel) ⟨Nat.le_of_ble_eq_true rfl, Nat.le_of_ble_eq_true rfl⟩) rfl hl.1 rfl (Nat.le_of_ble_eq_true rfl) dX9_price_3 ⟨Nat.zero_le _, Nat.zero_le _⟩ (fun v12 E9 H10 k11 W9 I9 G9 p9 => ?_)
  obtain ⟨q9, p9_0, p9_1, p9_2⟩ := p9
  have q9 := q9.symm
  subst q9
  have S9 : Now D TB cy (va_A (va_pl L E) sz) s L τ E H10 k11 := ⟨W9, I9⟩
  refine lv_if_eq (tgt := 20) hx hb dX9_price_6 (by decide) (fun c13 => ?_) (fun c13 => ?_)
  · skip
    have tc13 := nu_eq c13
    have uc13 : (0 : Int32).toInt = 0 := rfl
    exact J20 E H10 k11 ls S9 F0_ (by have := fb_rng a1; have := fb_rng a2; omega) (lv_sub hl [0] rfl)
  · skip
    have tc13 := nu_ne c13
    have uc13 : (0 : Int32).toInt = 0 := rfl
    refine lv_iload_n hx hb dX9_price_9 rfl (lv_at hl 2 rfl) ?_
    obtain ⟨v14, ev14, tv14⟩ : ∃ v : Int32, Int32.ofInt (0) = v ∧ v.toInt = 0 := ⟨_, rfl, by decide +kernel⟩
    refine lv_iconst hx hb dX9_price_10 ev14 ?_
    obtain ⟨v15, ev15, tv15⟩ : ∃ v : Int32, (Int16.ofInt (10000)).toInt32 = v ∧ v.toInt = 10000 := ⟨_, rfl, by decide +kernel⟩
    refine lv_sipush hx hb dX9_price_11 ev15 ?_
    refine tc_si Z.1 Z.2.2.2.1 Z.2.2.2.2.1 Z.2.2.2.2.2 S9.1 (k_X9_within l D cy S9.2 a2 v14 v15) (va_cwS 3 hts gX9_price_X9_within rfl rfl rfl (by decide +kernel) ⟨Nat.le_of_ble_eq_true rfl, Nat.le_of_ble_eq_true rfl⟩) rfl hl.1 rfl (Nat.le_of_ble_eq_true rfl) dX9_price_14 ⟨Nat.zero_le _, Nat.zero_le _⟩ (fun v19 E16 H17 k18 W16 I16 G16 p16 => ?_)
    obtain ⟨q16, p16_0, p16_1, p16_2⟩ := p16
    have q16 := q16.symm
    subst q16
    have S16 : Now D TB cy (va_A (va_pl L E) sz) s L τ E H17 k18 := ⟨W16, I16⟩
    refine lv_if_ne (tgt := 26) hx hb dX9_price_17 (by decide) (fun c20 => ?_) (fun c20 => ?_)
    · skip
      have tc20 := nu_ne c20
      have uc20 : (0 : Int32).toInt = 0 := rfl
      refine lv_aload_n hx hb dX9_price_26 rfl (lv_at hl 0 rfl) ?_
      refine tc_vv Z.1 Z.2.2.2.1 Z.2.2.2.2.1 Z.2.2.2.2.2 S16.1 S16.2 ha0 ta0 rfl rfl (k_X9_beginAct l D cy S16.2 ha0 ta0) (cwV 0 hts gX9_price_X9_beginAct rfl rfl rfl (by decide +kernel) ⟨Nat.le_of_ble_eq_true rfl, Nat.le_of_ble_eq_true rfl⟩) rfl hl.1 rfl (Nat.le_of_ble_eq_true rfl) dX9_price_27 ⟨Nat.zero_le _, Nat.zero_le _⟩ (fun E21 H22 k23 W21 I21 G21 p21 => ?_)
      have S21 : Now D TB cy (va_A (va_pl L E) sz) s L τ E21 H22 k23 := ⟨W21, I21⟩
      have F21 : Fr L τ (inW [(1, 1), (20, 1), (21, 1), (22, 1), (23, 1), (24, 1), (25, 1), (26, 1), (27, 1), (4, 0), (0, 0), (1, 0), (20, 0), (21, 0), (22, 0), (23, 0), (24, 0), (25, 0), (26, 0), (27, 0)]) E E21 := F0_.trans (G21.mono (inW_mono (by decide)))
      refine lv_aload_n hx hb dX9_price_30 rfl (lv_at hl 0 rfl) ?_
      refine tr_getr Z.1 Z.2.2.2.1 S21.1 S21.2 ha0 ta0 rfl rfl (fun _ h => List.mem_cons_of_mem _ (List.mem_append_left _ (List.mem_append_left _ (List.mem_append_right _ h)))) 0 (by decide) rfl (hts _ (List.mem_of_getElem? (i := 1) rfl)) dX9_price_31 (fun q25 eq25 hq25 tq25 => ?_)
      have tq25 : τ q25 = (1, 0) := tq25
      refine tr_getr Z.1 Z.2.2.2.1 S21.1 S21.2 hq25 tq25 rfl rfl (fun _ h => List.mem_cons_of_mem _ (List.mem_append_left _ (List.mem_append_right _ h))) 14 (by decide) rfl (hts _ (List.mem_of_getElem? (i := 2) rfl)) dX9_price_34 (fun q26 eq26 hq26 tq26 => ?_)
      have tq26 : τ q26 = (26, 0) := tq26
      refine lv_iload_n hx hb dX9_price_37 rfl (lv_at hl 1 rfl) ?_
      refine lv_iload_n hx hb dX9_price_38 rfl (lv_at hl 2 rfl) ?_
      refine tr_iast Z.1 Z.2.2.2.1 S21.1 S21.2 hq26 tq26 rfl (by omega) (by omega) (by have := fb_rng a2; omega) (by have := fb_rng a2; omega) dX9_price_39 (fun E27 H28 k29 W27 I27 P27 => ?_)
      have S27 : Now D TB cy (va_A (va_pl L E) sz) s L τ E27 H28 k29 := ⟨W27, I27⟩
      have F27 : Fr L τ (inW [(1, 1), (20, 1), (21, 1), (22, 1), (23, 1), (24, 1), (25, 1), (26, 1), (27, 1), (4, 0), (0, 0), (1, 0), (20, 0), (21, 0), (22, 0), (23, 0), (24, 0), (25, 0), (26, 0), (27, 0)]) E E27 := Fr.set F21 P27 tq26 rfl
      obtain ⟨v30, ev30, tv30⟩ : ∃ v : Int32, Int32.ofInt (1) = v ∧ v.toInt = 1 := ⟨_, rfl, by decide +kernel⟩
      refine lv_iconst hx hb dX9_price_40 ev30 ?_
      rw [← hQ]
      exact en_z Z S27 F27 (zo v30 (by omega)) ⟨(by omega), (by omega), (by omega)⟩ dX9_price_41
    · skip
      have tc20 := nu_eq c20
      have uc20 : (0 : Int32).toInt = 0 := rfl
      exact J20 E H17 k18 ls S16 F0_ (by have := fb_rng a2; omega) (lv_sub hl [0] rfl)

set_option maxRecDepth 20000 in
theorem ggX9_flight_X9_within : GoodIn wsX9_flight wsX9_within := goodIn_r _ [8] (by decide +kernel) (by decide +kernel)
set_option maxRecDepth 20000 in
theorem gX9_flight_X9_within : GoodIn wsX9_flight (va_wsS RX9 73 yX9_within wsX9_within) := goodIn_app (goodIn_of _ (by decide +kernel)) ggX9_flight_X9_within
set_option maxRecDepth 20000 in
theorem ggX9_flight_X9_deny : GoodIn wsX9_flight wsX9_deny := goodIn_r _ [12, 13, 65, 66, 67, 68, 69, 70, 71, 72, 73, 74, 75] (by decide +kernel) (by decide +kernel)
set_option maxRecDepth 20000 in
theorem gX9_flight_X9_deny : GoodIn wsX9_flight (wsV RX9 77 RX9 yX9_deny wsX9_deny) := goodIn_app (goodIn_of _ (by decide +kernel)) ggX9_flight_X9_deny
set_option maxRecDepth 20000 in
theorem ggX9_flight_X4_flightTreads : GoodIn wsX9_flight wsX4_flightTreads := goodIn_r _ [18, 19, 20, 76, 77, 78, 79, 80, 81, 82, 83, 84, 85, 86, 87, 88, 89, 90, 91] (by decide +kernel) (by decide +kernel)
set_option maxRecDepth 20000 in
theorem gX9_flight_X4_flightTreads : GoodIn wsX9_flight (wsV RX9 114 RX4 yX4_flightTreads wsX4_flightTreads) := goodIn_app (goodIn_of _ (by decide +kernel)) ggX9_flight_X4_flightTreads
set_option maxRecDepth 20000 in
theorem ggX9_flight_X9_beginAct : GoodIn wsX9_flight wsX9_beginAct := goodIn_r _ [24, 13, 25, 26, 27, 7, 28, 29, 1, 30, 31, 32, 33, 34, 35, 36, 37, 38, 39, 40, 41, 42, 43, 44, 45, 17, 46, 47, 48, 49, 50, 19, 51, 52, 53, 20, 54, 55, 56, 57, 58, 59, 60, 61, 62, 63, 64, 65, 66, 67, 68, 69, 70, 71, 72, 73, 74, 75, 92, 93, 94, 76, 77, 78, 79, 80, 81, 82, 83, 84, 85, 86, 87, 88, 89, 90, 91] (by decide +kernel) (by decide +kernel)
set_option maxRecDepth 20000 in
theorem gX9_flight_X9_beginAct : GoodIn wsX9_flight (wsV RX9 81 RX9 yX9_beginAct wsX9_beginAct) := goodIn_app (goodIn_of _ (by decide +kernel)) ggX9_flight_X9_beginAct
theorem dX9_flight_0 : decode cX9_flight 0 = .ok (.iload_n 1, 1) := by decide +kernel
theorem dX9_flight_1 : decode cX9_flight 1 = .ok (.iconst 0, 1) := by decide +kernel
theorem dX9_flight_2 : decode cX9_flight 2 = .ok (.aload_n 0, 1) := by decide +kernel
theorem dX9_flight_3 : decode cX9_flight 3 = .ok (.getfield 10, 3) := by decide +kernel
theorem dX9_flight_6 : decode cX9_flight 6 = .ok (.getfield 96, 3) := by decide +kernel
theorem dX9_flight_9 : decode cX9_flight 9 = .ok (.iconst 1, 1) := by decide +kernel
theorem dX9_flight_10 : decode cX9_flight 10 = .ok (.isub, 1) := by decide +kernel
theorem dX9_flight_11 : decode cX9_flight 11 = .ok (.invokestatic 73, 3) := by decide +kernel
theorem dX9_flight_14 : decode cX9_flight 14 = .ok (.ifCond .ne 9, 3) := by decide +kernel
theorem dX9_flight_17 : decode cX9_flight 17 = .ok (.aload_n 0, 1) := by decide +kernel
theorem dX9_flight_18 : decode cX9_flight 18 = .ok (.iconst 4, 1) := by decide +kernel
theorem dX9_flight_19 : decode cX9_flight 19 = .ok (.invokevirtual 77, 3) := by decide +kernel
theorem dX9_flight_22 : decode cX9_flight 22 = .ok (.ireturn, 1) := by decide +kernel
theorem dX9_flight_23 : decode cX9_flight 23 = .ok (.iload_n 2, 1) := by decide +kernel
theorem dX9_flight_24 : decode cX9_flight 24 = .ok (.iconst 0, 1) := by decide +kernel
theorem dX9_flight_25 : decode cX9_flight 25 = .ok (.bipush 20, 2) := by decide +kernel
theorem dX9_flight_27 : decode cX9_flight 27 = .ok (.invokestatic 73, 3) := by decide +kernel
theorem dX9_flight_30 : decode cX9_flight 30 = .ok (.ifCond .eq 36, 3) := by decide +kernel
theorem dX9_flight_33 : decode cX9_flight 33 = .ok (.iload_n 3, 1) := by decide +kernel
theorem dX9_flight_34 : decode cX9_flight 34 = .ok (.iconst 0, 1) := by decide +kernel
theorem dX9_flight_35 : decode cX9_flight 35 = .ok (.sipush 6000, 3) := by decide +kernel
theorem dX9_flight_38 : decode cX9_flight 38 = .ok (.invokestatic 73, 3) := by decide +kernel
theorem dX9_flight_41 : decode cX9_flight 41 = .ok (.ifCond .eq 25, 3) := by decide +kernel
theorem dX9_flight_44 : decode cX9_flight 44 = .ok (.aload_n 0, 1) := by decide +kernel
theorem dX9_flight_45 : decode cX9_flight 45 = .ok (.getfield 10, 3) := by decide +kernel
theorem dX9_flight_48 : decode cX9_flight 48 = .ok (.invokevirtual 114, 3) := by decide +kernel
theorem dX9_flight_51 : decode cX9_flight 51 = .ok (.aload_n 0, 1) := by decide +kernel
theorem dX9_flight_52 : decode cX9_flight 52 = .ok (.getfield 10, 3) := by decide +kernel
theorem dX9_flight_55 : decode cX9_flight 55 = .ok (.getfield 99, 3) := by decide +kernel
theorem dX9_flight_58 : decode cX9_flight 58 = .ok (.iload_n 1, 1) := by decide +kernel
theorem dX9_flight_59 : decode cX9_flight 59 = .ok (.iaload, 1) := by decide +kernel
theorem dX9_flight_60 : decode cX9_flight 60 = .ok (.isub, 1) := by decide +kernel
theorem dX9_flight_61 : decode cX9_flight 61 = .ok (.iload_n 2, 1) := by decide +kernel
theorem dX9_flight_62 : decode cX9_flight 62 = .ok (.iadd, 1) := by decide +kernel
theorem dX9_flight_63 : decode cX9_flight 63 = .ok (.ifCond .ne 9, 3) := by decide +kernel
theorem dX9_flight_66 : decode cX9_flight 66 = .ok (.aload_n 0, 1) := by decide +kernel
theorem dX9_flight_67 : decode cX9_flight 67 = .ok (.iconst 1, 1) := by decide +kernel
theorem dX9_flight_68 : decode cX9_flight 68 = .ok (.invokevirtual 77, 3) := by decide +kernel
theorem dX9_flight_71 : decode cX9_flight 71 = .ok (.ireturn, 1) := by decide +kernel
theorem dX9_flight_72 : decode cX9_flight 72 = .ok (.aload_n 0, 1) := by decide +kernel
theorem dX9_flight_73 : decode cX9_flight 73 = .ok (.invokevirtual 81, 3) := by decide +kernel
theorem dX9_flight_76 : decode cX9_flight 76 = .ok (.aload_n 0, 1) := by decide +kernel
theorem dX9_flight_77 : decode cX9_flight 77 = .ok (.getfield 10, 3) := by decide +kernel
theorem dX9_flight_80 : decode cX9_flight 80 = .ok (.getfield 99, 3) := by decide +kernel
theorem dX9_flight_83 : decode cX9_flight 83 = .ok (.iload_n 1, 1) := by decide +kernel
theorem dX9_flight_84 : decode cX9_flight 84 = .ok (.iload_n 2, 1) := by decide +kernel
theorem dX9_flight_85 : decode cX9_flight 85 = .ok (.iastore, 1) := by decide +kernel
theorem dX9_flight_86 : decode cX9_flight 86 = .ok (.aload_n 0, 1) := by decide +kernel
theorem dX9_flight_87 : decode cX9_flight 87 = .ok (.getfield 10, 3) := by decide +kernel
theorem dX9_flight_90 : decode cX9_flight 90 = .ok (.getfield 108, 3) := by decide +kernel
theorem dX9_flight_93 : decode cX9_flight 93 = .ok (.iload_n 1, 1) := by decide +kernel
theorem dX9_flight_94 : decode cX9_flight 94 = .ok (.iload_n 3, 1) := by decide +kernel
theorem dX9_flight_95 : decode cX9_flight 95 = .ok (.iastore, 1) := by decide +kernel
theorem dX9_flight_96 : decode cX9_flight 96 = .ok (.iconst 1, 1) := by decide +kernel
theorem dX9_flight_97 : decode cX9_flight 97 = .ok (.ireturn, 1) := by decide +kernel
set_option maxHeartbeats 4000000 in
set_option maxRecDepth 100000 in
theorem k_X9_flight (l : Launch) (D : va_G) (cy : Nat → ClassId) {L : List Nat} {τ : Nat → Ro} {E : Ec} (hI : Inv TB cy L τ E) {a0 : Nat} (ha0 : a0 ∈ L) (ta0 : τ a0 = (0, 0)) (a1 : Int32) (a2 : Int32) (a3 : Int32) : CtI l yX9_flight wsX9_flight { frames := 5, cells := 0, slots := 0, locals := 123 } D TB cy L τ E [.ref a0, .int a1, .int a2, .int a3] (inW [(1, 1), (20, 1), (21, 1), (22, 1), (23, 1), (24, 1), (25, 1), (26, 1), (27, 1), (4, 0), (0, 0), (1, 0), (20, 0), (21, 0), (22, 0), (23, 0), (24, 0), (25, 0), (26, 0), (27, 0)]) (fun r E' => 0 ≤ r.toInt ∧ r.toInt ≤ 1) := by
  intro sz
  refine sta (cc := cX9_flight) (maxL := 4) hI (by decide) rfl (Nat.le_of_ble_eq_true rfl) (fun p e s m args below meth c ls hsz Z S0 hl => ?_)
  have hx := Z.1.1
  have hb := Z.1.2.1
  have hts := Z.1.2.2.2.2
  have F0_ : Fr L τ (inW [(1, 1), (20, 1), (21, 1), (22, 1), (23, 1), (24, 1), (25, 1), (26, 1), (27, 1), (4, 0), (0, 0), (1, 0), (20, 0), (21, 0), (22, 0), (23, 0), (24, 0), (25, 0), (26, 0), (27, 0)]) E E := Fr.refl
  have hl : lv_has ls 4 [(0, .ref a0), (1, .int a1), (2, .int a2), (3, .int a3)] := hl
  generalize hQ : MQ below _ args s 0 0 _ = QQ
  have J66 : ∀  (E_66 : Ec) (H_66 : Heap) (k_66 : List Loc) (l_66 : Array Slot), Now D TB cy (va_A (va_pl L E) sz) s L τ E_66 H_66 k_66 → Fr L τ (inW [(1, 1), (20, 1), (21, 1), (22, 1), (23, 1), (24, 1), (25, 1), (26, 1), (27, 1), (4, 0), (0, 0), (1, 0), (20, 0), (21, 0), (22, 0), (23, 0), (24, 0), (25, 0), (26, 0), (27, 0)]) E E_66 → lv_has l_66 4 [(0, .ref a0)] → W p l e { frames := 5, cells := 0, slots := 0, locals := 123 } s m args below meth c H_66 k_66 0 0 QQ (F0 m 66 l_66 []) := by
    intro  E_66 H_66 k_66 l_66 S_66 F_66  hl_66
    refine lv_aload_n hx hb dX9_flight_66 rfl (lv_at hl_66 0 rfl) ?_
    obtain ⟨v1, ev1, tv1⟩ : ∃ v : Int32, Int32.ofInt (1) = v ∧ v.toInt = 1 := ⟨_, rfl, by decide +kernel⟩
    refine lv_iconst hx hb dX9_flight_67 ev1 ?_
    refine tc_vi Z.1 Z.2.2.2.1 Z.2.2.2.2.1 Z.2.2.2.2.2 S_66.1 S_66.2 ha0 ta0 rfl rfl (k_X9_deny l D cy S_66.2 ha0 ta0 v1) (cwV 1 hts gX9_flight_X9_deny rfl rfl rfl (by decide +kernel) ⟨Nat.le_of_ble_eq_true rfl, Nat.le_of_ble_eq_true rfl⟩) rfl hl_66.1 rfl (Nat.le_of_ble_eq_true rfl) dX9_flight_68 ⟨Nat.zero_le _, Nat.zero_le _⟩ (fun v5 E2 H3 k4 W2 I2 G2 p2 => ?_)
    obtain ⟨p2_0, p2_1⟩ := p2
    have S2 : Now D TB cy (va_A (va_pl L E) sz) s L τ E2 H3 k4 := ⟨W2, I2⟩
    have F2 : Fr L τ (inW [(1, 1), (20, 1), (21, 1), (22, 1), (23, 1), (24, 1), (25, 1), (26, 1), (27, 1), (4, 0), (0, 0), (1, 0), (20, 0), (21, 0), (22, 0), (23, 0), (24, 0), (25, 0), (26, 0), (27, 0)]) E E2 := F_66.trans (G2.mono (inW_mono (by decide)))
    rw [← hQ]
    exact en_z Z S2 F2 (zo v5 (by omega)) ⟨(by omega), (by omega)⟩ dX9_flight_71
  refine lv_iload_n hx hb dX9_flight_0 rfl (lv_at hl 1 rfl) ?_
  obtain ⟨v6, ev6, tv6⟩ : ∃ v : Int32, Int32.ofInt (0) = v ∧ v.toInt = 0 := ⟨_, rfl, by decide +kernel⟩
  refine lv_iconst hx hb dX9_flight_1 ev6 ?_
  refine lv_aload_n hx hb dX9_flight_2 rfl (lv_at hl 0 rfl) ?_
  refine tr_getr Z.1 Z.2.2.2.1 S0.1 S0.2 ha0 ta0 rfl rfl (fun _ h => List.mem_cons_of_mem _ (List.mem_append_left _ (List.mem_append_left _ (List.mem_append_right _ h)))) 0 (by decide) rfl (hts _ (List.mem_of_getElem? (i := 1) rfl)) dX9_flight_3 (fun q7 eq7 hq7 tq7 => ?_)
  have tq7 : τ q7 = (1, 0) := tq7
  refine tr_geti Z.1 Z.2.2.2.1 S0.1 S0.2 hq7 tq7 rfl rfl (fun _ h => List.mem_cons_of_mem _ (List.mem_append_left _ (List.mem_append_right _ h))) 4 (by decide) rfl (hts _ (List.mem_of_getElem? (i := 2) rfl)) dX9_flight_6 (fun v8 ev8 lv8 uv8 => ?_)
  obtain ⟨v9, ev9, tv9⟩ : ∃ v : Int32, Int32.ofInt (1) = v ∧ v.toInt = 1 := ⟨_, rfl, by decide +kernel⟩
  refine lv_iconst hx hb dX9_flight_9 ev9 ?_
  refine lv_isub hx hb dX9_flight_10 ?_
  refine lv_topi (fun v10 ev10 => ?_)
  have tv10 := nu_sub ev10 (by omega) (by omega)
  refine tc_si Z.1 Z.2.2.2.1 Z.2.2.2.2.1 Z.2.2.2.2.2 S0.1 (k_X9_within l D cy S0.2 a1 v6 v10) (va_cwS 3 hts gX9_flight_X9_within rfl rfl rfl (by decide +kernel) ⟨Nat.le_of_ble_eq_true rfl, Nat.le_of_ble_eq_true rfl⟩) rfl hl.1 rfl (Nat.le_of_ble_eq_true rfl) dX9_flight_11 ⟨Nat.zero_le _, Nat.zero_le _⟩ (fun v14 E11 H12 k13 W11 I11 G11 p11 => ?_)
  obtain ⟨q11, p11_0, p11_1, p11_2⟩ := p11
  have q11 := q11.symm
  subst q11
  have S11 : Now D TB cy (va_A (va_pl L E) sz) s L τ E H12 k13 := ⟨W11, I11⟩
  refine lv_if_ne (tgt := 23) hx hb dX9_flight_14 (by decide) (fun c15 => ?_) (fun c15 => ?_)
  · skip
    have tc15 := nu_ne c15
    have uc15 : (0 : Int32).toInt = 0 := rfl
    refine lv_iload_n hx hb dX9_flight_23 rfl (lv_at hl 2 rfl) ?_
    obtain ⟨v16, ev16, tv16⟩ : ∃ v : Int32, Int32.ofInt (0) = v ∧ v.toInt = 0 := ⟨_, rfl, by decide +kernel⟩
    refine lv_iconst hx hb dX9_flight_24 ev16 ?_
    obtain ⟨v17, ev17, tv17⟩ : ∃ v : Int32, (Int8.ofInt (20)).toInt32 = v ∧ v.toInt = 20 := ⟨_, rfl, by decide +kernel⟩
    refine lv_bipush hx hb dX9_flight_25 ev17 ?_
    refine tc_si Z.1 Z.2.2.2.1 Z.2.2.2.2.1 Z.2.2.2.2.2 S11.1 (k_X9_within l D cy S11.2 a2 v16 v17) (va_cwS 3 hts gX9_flight_X9_within rfl rfl rfl (by decide +kernel) ⟨Nat.le_of_ble_eq_true rfl, Nat.le_of_ble_eq_true rfl⟩) rfl hl.1 rfl (Nat.le_of_ble_eq_true rfl) dX9_flight_27 ⟨Nat.zero_le _, Nat.zero_le _⟩ (fun v21 E18 H19 k20 W18 I18 G18 p18 => ?_)
    obtain ⟨q18, p18_0, p18_1, p18_2⟩ := p18
    have q18 := q18.symm
    subst q18
    have S18 : Now D TB cy (va_A (va_pl L E) sz) s L τ E H19 k20 := ⟨W18, I18⟩
    refine lv_if_eq (tgt := 66) hx hb dX9_flight_30 (by decide) (fun c22 => ?_) (fun c22 => ?_)
    · skip
      have tc22 := nu_eq c22
      have uc22 : (0 : Int32).toInt = 0 := rfl
      exact J66 E H19 k20 ls S18 F0_ (lv_sub hl [0] rfl)
    · skip
      have tc22 := nu_ne c22
      have uc22 : (0 : Int32).toInt = 0 := rfl
      refine lv_iload_n hx hb dX9_flight_33 rfl (lv_at hl 3 rfl) ?_
      obtain ⟨v23, ev23, tv23⟩ : ∃ v : Int32, Int32.ofInt (0) = v ∧ v.toInt = 0 := ⟨_, rfl, by decide +kernel⟩
      refine lv_iconst hx hb dX9_flight_34 ev23 ?_
      obtain ⟨v24, ev24, tv24⟩ : ∃ v : Int32, (Int16.ofInt (6000)).toInt32 = v ∧ v.toInt = 6000 := ⟨_, rfl, by decide +kernel⟩
      refine lv_sipush hx hb dX9_flight_35 ev24 ?_
      refine tc_si Z.1 Z.2.2.2.1 Z.2.2.2.2.1 Z.2.2.2.2.2 S18.1 (k_X9_within l D cy S18.2 a3 v23 v24) (va_cwS 3 hts gX9_flight_X9_within rfl rfl rfl (by decide +kernel) ⟨Nat.le_of_ble_eq_true rfl, Nat.le_of_ble_eq_true rfl⟩) rfl hl.1 rfl (Nat.le_of_ble_eq_true rfl) dX9_flight_38 ⟨Nat.zero_le _, Nat.zero_le _⟩ (fun v28 E25 H26 k27 W25 I25 G25 p25 => ?_)
      obtain ⟨q25, p25_0, p25_1, p25_2⟩ := p25
      have q25 := q25.symm
      subst q25
      have S25 : Now D TB cy (va_A (va_pl L E) sz) s L τ E H26 k27 := ⟨W25, I25⟩
      refine lv_if_eq (tgt := 66) hx hb dX9_flight_41 (by decide) (fun c29 => ?_) (fun c29 => ?_)
      · skip
        have tc29 := nu_eq c29
        have uc29 : (0 : Int32).toInt = 0 := rfl
        exact J66 E H26 k27 ls S25 F0_ (lv_sub hl [0] rfl)
      · skip
        have tc29 := nu_ne c29
        have uc29 : (0 : Int32).toInt = 0 := rfl
        refine lv_aload_n hx hb dX9_flight_44 rfl (lv_at hl 0 rfl) ?_
        refine tr_getr Z.1 Z.2.2.2.1 S25.1 S25.2 ha0 ta0 rfl rfl (fun _ h => List.mem_cons_of_mem _ (List.mem_append_left _ (List.mem_append_left _ (List.mem_append_right _ h)))) 0 (by decide) rfl (hts _ (List.mem_of_getElem? (i := 1) rfl)) dX9_flight_45 (fun q30 eq30 hq30 tq30 => ?_)
        have tq30 : τ q30 = (1, 0) := tq30
        have uq30 : q7 = q30 := S25.2.2.2.2 _ hq7 _ hq30 (tq7.trans tq30.symm) (by rw [tq7]; rfl)
        subst uq30
        refine tc_vi Z.1 Z.2.2.2.1 Z.2.2.2.2.1 Z.2.2.2.2.2 S25.1 S25.2 hq7 tq7 rfl rfl (k_X4_flightTreads_v0 l D cy S25.2 hq7 tq7) (cwV 0 hts gX9_flight_X4_flightTreads rfl rfl rfl (by decide +kernel) ⟨Nat.le_of_ble_eq_true rfl, Nat.le_of_ble_eq_true rfl⟩) rfl hl.1 rfl (Nat.le_of_ble_eq_true rfl) dX9_flight_48 ⟨Nat.zero_le _, Nat.zero_le _⟩ (fun v34 E31 H32 k33 W31 I31 G31 p31 => ?_)
        have q31 := p31
        have q31 := q31.symm
        subst q31
        have S31 : Now D TB cy (va_A (va_pl L E) sz) s L τ E H32 k33 := ⟨W31, I31⟩
        refine lv_aload_n hx hb dX9_flight_51 rfl (lv_at hl 0 rfl) ?_
        refine tr_getr Z.1 Z.2.2.2.1 S31.1 S31.2 ha0 ta0 rfl rfl (fun _ h => List.mem_cons_of_mem _ (List.mem_append_left _ (List.mem_append_left _ (List.mem_append_right _ h)))) 0 (by decide) rfl (hts _ (List.mem_of_getElem? (i := 1) rfl)) dX9_flight_52 (fun q35 eq35 hq35 tq35 => ?_)
        have tq35 : τ q35 = (1, 0) := tq35
        have uq35 : q7 = q35 := S31.2.2.2.2 _ hq7 _ hq35 (tq7.trans tq35.symm) (by rw [tq7]; rfl)
        subst uq35
        refine tr_getr Z.1 Z.2.2.2.1 S31.1 S31.2 hq7 tq7 rfl rfl (fun _ h => List.mem_cons_of_mem _ (List.mem_append_left _ (List.mem_append_right _ h))) 8 (by decide) rfl (hts _ (List.mem_of_getElem? (i := 3) rfl)) dX9_flight_55 (fun q36 eq36 hq36 tq36 => ?_)
        have tq36 : τ q36 = (20, 0) := tq36
        refine lv_iload_n hx hb dX9_flight_58 rfl (lv_at hl 1 rfl) ?_
        refine tr_iald Z.1 Z.2.2.2.1 S31.1 S31.2 hq36 tq36 rfl (by omega) (by omega) dX9_flight_59 (fun v37 ev37 lv37 uv37 => ?_)
        refine lv_isub hx hb dX9_flight_60 ?_
        refine lv_topi (fun v38 ev38 => ?_)
        refine lv_iload_n hx hb dX9_flight_61 rfl (lv_at hl 2 rfl) ?_
        refine lv_iadd hx hb dX9_flight_62 ?_
        refine lv_topi (fun v39 ev39 => ?_)
        refine lv_if_ne (tgt := 72) hx hb dX9_flight_63 (by decide) (fun c40 => ?_) (fun c40 => ?_)
        · skip
          have tc40 := nu_ne c40
          have uc40 : (0 : Int32).toInt = 0 := rfl
          refine lv_aload_n hx hb dX9_flight_72 rfl (lv_at hl 0 rfl) ?_
          refine tc_vv Z.1 Z.2.2.2.1 Z.2.2.2.2.1 Z.2.2.2.2.2 S31.1 S31.2 ha0 ta0 rfl rfl (k_X9_beginAct l D cy S31.2 ha0 ta0) (cwV 0 hts gX9_flight_X9_beginAct rfl rfl rfl (by decide +kernel) ⟨Nat.le_of_ble_eq_true rfl, Nat.le_of_ble_eq_true rfl⟩) rfl hl.1 rfl (Nat.le_of_ble_eq_true rfl) dX9_flight_73 ⟨Nat.zero_le _, Nat.zero_le _⟩ (fun E41 H42 k43 W41 I41 G41 p41 => ?_)
          have S41 : Now D TB cy (va_A (va_pl L E) sz) s L τ E41 H42 k43 := ⟨W41, I41⟩
          have F41 : Fr L τ (inW [(1, 1), (20, 1), (21, 1), (22, 1), (23, 1), (24, 1), (25, 1), (26, 1), (27, 1), (4, 0), (0, 0), (1, 0), (20, 0), (21, 0), (22, 0), (23, 0), (24, 0), (25, 0), (26, 0), (27, 0)]) E E41 := F0_.trans (G41.mono (inW_mono (by decide)))
          refine lv_aload_n hx hb dX9_flight_76 rfl (lv_at hl 0 rfl) ?_
          refine tr_getr Z.1 Z.2.2.2.1 S41.1 S41.2 ha0 ta0 rfl rfl (fun _ h => List.mem_cons_of_mem _ (List.mem_append_left _ (List.mem_append_left _ (List.mem_append_right _ h)))) 0 (by decide) rfl (hts _ (List.mem_of_getElem? (i := 1) rfl)) dX9_flight_77 (fun q45 eq45 hq45 tq45 => ?_)
          have tq45 : τ q45 = (1, 0) := tq45
          have uq45 : q7 = q45 := S41.2.2.2.2 _ hq7 _ hq45 (tq7.trans tq45.symm) (by rw [tq7]; rfl)
          subst uq45
          refine tr_getr Z.1 Z.2.2.2.1 S41.1 S41.2 hq7 tq7 rfl rfl (fun _ h => List.mem_cons_of_mem _ (List.mem_append_left _ (List.mem_append_right _ h))) 8 (by decide) rfl (hts _ (List.mem_of_getElem? (i := 3) rfl)) dX9_flight_80 (fun q46 eq46 hq46 tq46 => ?_)
          have tq46 : τ q46 = (20, 0) := tq46
          have uq46 : q36 = q46 := S41.2.2.2.2 _ hq36 _ hq46 (tq36.trans tq46.symm) (by rw [tq36]; rfl)
          subst uq46
          refine lv_iload_n hx hb dX9_flight_83 rfl (lv_at hl 1 rfl) ?_
          refine lv_iload_n hx hb dX9_flight_84 rfl (lv_at hl 2 rfl) ?_
          refine tr_iast Z.1 Z.2.2.2.1 S41.1 S41.2 hq36 tq36 rfl (by omega) (by omega) (by have := fb_rng a2; omega) (by have := fb_rng a2; omega) dX9_flight_85 (fun E47 H48 k49 W47 I47 P47 => ?_)
          have S47 : Now D TB cy (va_A (va_pl L E) sz) s L τ E47 H48 k49 := ⟨W47, I47⟩
          have F47 : Fr L τ (inW [(1, 1), (20, 1), (21, 1), (22, 1), (23, 1), (24, 1), (25, 1), (26, 1), (27, 1), (4, 0), (0, 0), (1, 0), (20, 0), (21, 0), (22, 0), (23, 0), (24, 0), (25, 0), (26, 0), (27, 0)]) E E47 := Fr.set F41 P47 tq36 rfl
          refine lv_aload_n hx hb dX9_flight_86 rfl (lv_at hl 0 rfl) ?_
          refine tr_getr Z.1 Z.2.2.2.1 S47.1 S47.2 ha0 ta0 rfl rfl (fun _ h => List.mem_cons_of_mem _ (List.mem_append_left _ (List.mem_append_left _ (List.mem_append_right _ h)))) 0 (by decide) rfl (hts _ (List.mem_of_getElem? (i := 1) rfl)) dX9_flight_87 (fun q50 eq50 hq50 tq50 => ?_)
          have tq50 : τ q50 = (1, 0) := tq50
          have uq50 : q7 = q50 := S47.2.2.2.2 _ hq7 _ hq50 (tq7.trans tq50.symm) (by rw [tq7]; rfl)
          subst uq50
          refine tr_getr Z.1 Z.2.2.2.1 S47.1 S47.2 hq7 tq7 rfl rfl (fun _ h => List.mem_cons_of_mem _ (List.mem_append_left _ (List.mem_append_right _ h))) 9 (by decide) rfl (hts _ (List.mem_of_getElem? (i := 4) rfl)) dX9_flight_90 (fun q51 eq51 hq51 tq51 => ?_)
          have tq51 : τ q51 = (21, 0) := tq51
          refine lv_iload_n hx hb dX9_flight_93 rfl (lv_at hl 1 rfl) ?_
          refine lv_iload_n hx hb dX9_flight_94 rfl (lv_at hl 3 rfl) ?_
          refine tr_iast Z.1 Z.2.2.2.1 S47.1 S47.2 hq51 tq51 rfl (by omega) (by omega) (by have := fb_rng a3; omega) (by have := fb_rng a3; omega) dX9_flight_95 (fun E52 H53 k54 W52 I52 P52 => ?_)
          have S52 : Now D TB cy (va_A (va_pl L E) sz) s L τ E52 H53 k54 := ⟨W52, I52⟩
          have F52 : Fr L τ (inW [(1, 1), (20, 1), (21, 1), (22, 1), (23, 1), (24, 1), (25, 1), (26, 1), (27, 1), (4, 0), (0, 0), (1, 0), (20, 0), (21, 0), (22, 0), (23, 0), (24, 0), (25, 0), (26, 0), (27, 0)]) E E52 := Fr.set F47 P52 tq51 rfl
          obtain ⟨v55, ev55, tv55⟩ : ∃ v : Int32, Int32.ofInt (1) = v ∧ v.toInt = 1 := ⟨_, rfl, by decide +kernel⟩
          refine lv_iconst hx hb dX9_flight_96 ev55 ?_
          rw [← hQ]
          exact en_z Z S52 F52 (zo v55 (by omega)) ⟨(by omega), (by omega)⟩ dX9_flight_97
        · skip
          have tc40 := nu_eq c40
          have uc40 : (0 : Int32).toInt = 0 := rfl
          exact J66 E H32 k33 ls S31 F0_ (lv_sub hl [0] rfl)
  · skip
    have tc15 := nu_eq c15
    have uc15 : (0 : Int32).toInt = 0 := rfl
    refine lv_aload_n hx hb dX9_flight_17 rfl (lv_at hl 0 rfl) ?_
    obtain ⟨v56, ev56, tv56⟩ : ∃ v : Int32, Int32.ofInt (4) = v ∧ v.toInt = 4 := ⟨_, rfl, by decide +kernel⟩
    refine lv_iconst hx hb dX9_flight_18 ev56 ?_
    refine tc_vi Z.1 Z.2.2.2.1 Z.2.2.2.2.1 Z.2.2.2.2.2 S11.1 S11.2 ha0 ta0 rfl rfl (k_X9_deny l D cy S11.2 ha0 ta0 v56) (cwV 1 hts gX9_flight_X9_deny rfl rfl rfl (by decide +kernel) ⟨Nat.le_of_ble_eq_true rfl, Nat.le_of_ble_eq_true rfl⟩) rfl hl.1 rfl (Nat.le_of_ble_eq_true rfl) dX9_flight_19 ⟨Nat.zero_le _, Nat.zero_le _⟩ (fun v60 E57 H58 k59 W57 I57 G57 p57 => ?_)
    obtain ⟨p57_0, p57_1⟩ := p57
    have S57 : Now D TB cy (va_A (va_pl L E) sz) s L τ E57 H58 k59 := ⟨W57, I57⟩
    have F57 : Fr L τ (inW [(1, 1), (20, 1), (21, 1), (22, 1), (23, 1), (24, 1), (25, 1), (26, 1), (27, 1), (4, 0), (0, 0), (1, 0), (20, 0), (21, 0), (22, 0), (23, 0), (24, 0), (25, 0), (26, 0), (27, 0)]) E E57 := F0_.trans (G57.mono (inW_mono (by decide)))
    rw [← hQ]
    exact en_z Z S57 F57 (zo v60 (by omega)) ⟨(by omega), (by omega)⟩ dX9_flight_22

set_option maxRecDepth 20000 in
theorem ggX9_turn_X9_within : GoodIn wsX9_turn wsX9_within := goodIn_r _ [7] (by decide +kernel) (by decide +kernel)
set_option maxRecDepth 20000 in
theorem gX9_turn_X9_within : GoodIn wsX9_turn (va_wsS RX9 73 yX9_within wsX9_within) := goodIn_app (goodIn_of _ (by decide +kernel)) ggX9_turn_X9_within
set_option maxRecDepth 20000 in
theorem ggX9_turn_X9_deny : GoodIn wsX9_turn wsX9_deny := goodIn_r _ [11, 12, 60, 61, 62, 63, 64, 65, 66, 67, 68, 69, 70] (by decide +kernel) (by decide +kernel)
set_option maxRecDepth 20000 in
theorem gX9_turn_X9_deny : GoodIn wsX9_turn (wsV RX9 77 RX9 yX9_deny wsX9_deny) := goodIn_app (goodIn_of _ (by decide +kernel)) ggX9_turn_X9_deny
set_option maxRecDepth 20000 in
theorem ggX9_turn_X9_beginAct : GoodIn wsX9_turn wsX9_beginAct := goodIn_r _ [16, 12, 17, 18, 19, 6, 20, 21, 1, 22, 23, 24, 25, 26, 27, 28, 29, 30, 31, 32, 33, 34, 35, 36, 37, 38, 39, 40, 41, 42, 43, 44, 45, 46, 47, 48, 49, 50, 51, 52, 53, 54, 55, 56, 57, 58, 59, 60, 61, 62, 63, 64, 65, 66, 67, 68, 69, 70, 87, 88, 89, 71, 72, 73, 74, 75, 76, 77, 78, 79, 80, 81, 82, 83, 84, 85, 86] (by decide +kernel) (by decide +kernel)
set_option maxRecDepth 20000 in
theorem gX9_turn_X9_beginAct : GoodIn wsX9_turn (wsV RX9 81 RX9 yX9_beginAct wsX9_beginAct) := goodIn_app (goodIn_of _ (by decide +kernel)) ggX9_turn_X9_beginAct
theorem dX9_turn_0 : decode cX9_turn 0 = .ok (.iload_n 1, 1) := by decide +kernel
theorem dX9_turn_1 : decode cX9_turn 1 = .ok (.iconst 0, 1) := by decide +kernel
theorem dX9_turn_2 : decode cX9_turn 2 = .ok (.aload_n 0, 1) := by decide +kernel
theorem dX9_turn_3 : decode cX9_turn 3 = .ok (.getfield 10, 3) := by decide +kernel
theorem dX9_turn_6 : decode cX9_turn 6 = .ok (.getfield 96, 3) := by decide +kernel
theorem dX9_turn_9 : decode cX9_turn 9 = .ok (.iconst 2, 1) := by decide +kernel
theorem dX9_turn_10 : decode cX9_turn 10 = .ok (.isub, 1) := by decide +kernel
theorem dX9_turn_11 : decode cX9_turn 11 = .ok (.invokestatic 73, 3) := by decide +kernel
theorem dX9_turn_14 : decode cX9_turn 14 = .ok (.ifCond .ne 9, 3) := by decide +kernel
theorem dX9_turn_17 : decode cX9_turn 17 = .ok (.aload_n 0, 1) := by decide +kernel
theorem dX9_turn_18 : decode cX9_turn 18 = .ok (.iconst 4, 1) := by decide +kernel
theorem dX9_turn_19 : decode cX9_turn 19 = .ok (.invokevirtual 77, 3) := by decide +kernel
theorem dX9_turn_22 : decode cX9_turn 22 = .ok (.ireturn, 1) := by decide +kernel
theorem dX9_turn_23 : decode cX9_turn 23 = .ok (.iload_n 2, 1) := by decide +kernel
theorem dX9_turn_24 : decode cX9_turn 24 = .ok (.iconst 0, 1) := by decide +kernel
theorem dX9_turn_25 : decode cX9_turn 25 = .ok (.iconst 1, 1) := by decide +kernel
theorem dX9_turn_26 : decode cX9_turn 26 = .ok (.invokestatic 73, 3) := by decide +kernel
theorem dX9_turn_29 : decode cX9_turn 29 = .ok (.ifCond .ne 9, 3) := by decide +kernel
theorem dX9_turn_32 : decode cX9_turn 32 = .ok (.aload_n 0, 1) := by decide +kernel
theorem dX9_turn_33 : decode cX9_turn 33 = .ok (.iconst 1, 1) := by decide +kernel
theorem dX9_turn_34 : decode cX9_turn 34 = .ok (.invokevirtual 77, 3) := by decide +kernel
theorem dX9_turn_37 : decode cX9_turn 37 = .ok (.ireturn, 1) := by decide +kernel
theorem dX9_turn_38 : decode cX9_turn 38 = .ok (.aload_n 0, 1) := by decide +kernel
theorem dX9_turn_39 : decode cX9_turn 39 = .ok (.invokevirtual 81, 3) := by decide +kernel
theorem dX9_turn_42 : decode cX9_turn 42 = .ok (.aload_n 0, 1) := by decide +kernel
theorem dX9_turn_43 : decode cX9_turn 43 = .ok (.getfield 10, 3) := by decide +kernel
theorem dX9_turn_46 : decode cX9_turn 46 = .ok (.getfield 111, 3) := by decide +kernel
theorem dX9_turn_49 : decode cX9_turn 49 = .ok (.iload_n 1, 1) := by decide +kernel
theorem dX9_turn_50 : decode cX9_turn 50 = .ok (.iload_n 2, 1) := by decide +kernel
theorem dX9_turn_51 : decode cX9_turn 51 = .ok (.iastore, 1) := by decide +kernel
theorem dX9_turn_52 : decode cX9_turn 52 = .ok (.iconst 1, 1) := by decide +kernel
theorem dX9_turn_53 : decode cX9_turn 53 = .ok (.ireturn, 1) := by decide +kernel
set_option maxHeartbeats 4000000 in
set_option maxRecDepth 100000 in
theorem k_X9_turn (l : Launch) (D : va_G) (cy : Nat → ClassId) {L : List Nat} {τ : Nat → Ro} {E : Ec} (hI : Inv TB cy L τ E) {a0 : Nat} (ha0 : a0 ∈ L) (ta0 : τ a0 = (0, 0)) (a1 : Int32) (a2 : Int32) : CtI l yX9_turn wsX9_turn { frames := 5, cells := 0, slots := 0, locals := 123 } D TB cy L τ E [.ref a0, .int a1, .int a2] (inW [(1, 1), (20, 1), (21, 1), (22, 1), (23, 1), (24, 1), (25, 1), (26, 1), (27, 1), (4, 0), (0, 0), (1, 0), (20, 0), (21, 0), (22, 0), (23, 0), (24, 0), (25, 0), (26, 0), (27, 0)]) (fun r E' => 0 ≤ r.toInt ∧ r.toInt ≤ 1) := by
  intro sz
  refine sta (cc := cX9_turn) (maxL := 3) hI (by decide) rfl (Nat.le_of_ble_eq_true rfl) (fun p e s m args below meth c ls hsz Z S0 hl => ?_)
  have hx := Z.1.1
  have hb := Z.1.2.1
  have hts := Z.1.2.2.2.2
  have F0_ : Fr L τ (inW [(1, 1), (20, 1), (21, 1), (22, 1), (23, 1), (24, 1), (25, 1), (26, 1), (27, 1), (4, 0), (0, 0), (1, 0), (20, 0), (21, 0), (22, 0), (23, 0), (24, 0), (25, 0), (26, 0), (27, 0)]) E E := Fr.refl
  have hl : lv_has ls 3 [(0, .ref a0), (1, .int a1), (2, .int a2)] := hl
  generalize hQ : MQ below _ args s 0 0 _ = QQ
  refine lv_iload_n hx hb dX9_turn_0 rfl (lv_at hl 1 rfl) ?_
  obtain ⟨v1, ev1, tv1⟩ : ∃ v : Int32, Int32.ofInt (0) = v ∧ v.toInt = 0 := ⟨_, rfl, by decide +kernel⟩
  refine lv_iconst hx hb dX9_turn_1 ev1 ?_
  refine lv_aload_n hx hb dX9_turn_2 rfl (lv_at hl 0 rfl) ?_
  refine tr_getr Z.1 Z.2.2.2.1 S0.1 S0.2 ha0 ta0 rfl rfl (fun _ h => List.mem_cons_of_mem _ (List.mem_append_left _ (List.mem_append_left _ (List.mem_append_right _ h)))) 0 (by decide) rfl (hts _ (List.mem_of_getElem? (i := 1) rfl)) dX9_turn_3 (fun q2 eq2 hq2 tq2 => ?_)
  have tq2 : τ q2 = (1, 0) := tq2
  refine tr_geti Z.1 Z.2.2.2.1 S0.1 S0.2 hq2 tq2 rfl rfl (fun _ h => List.mem_cons_of_mem _ (List.mem_append_left _ (List.mem_append_right _ h))) 4 (by decide) rfl (hts _ (List.mem_of_getElem? (i := 2) rfl)) dX9_turn_6 (fun v3 ev3 lv3 uv3 => ?_)
  obtain ⟨v4, ev4, tv4⟩ : ∃ v : Int32, Int32.ofInt (2) = v ∧ v.toInt = 2 := ⟨_, rfl, by decide +kernel⟩
  refine lv_iconst hx hb dX9_turn_9 ev4 ?_
  refine lv_isub hx hb dX9_turn_10 ?_
  refine lv_topi (fun v5 ev5 => ?_)
  have tv5 := nu_sub ev5 (by omega) (by omega)
  refine tc_si Z.1 Z.2.2.2.1 Z.2.2.2.2.1 Z.2.2.2.2.2 S0.1 (k_X9_within l D cy S0.2 a1 v1 v5) (va_cwS 3 hts gX9_turn_X9_within rfl rfl rfl (by decide +kernel) ⟨Nat.le_of_ble_eq_true rfl, Nat.le_of_ble_eq_true rfl⟩) rfl hl.1 rfl (Nat.le_of_ble_eq_true rfl) dX9_turn_11 ⟨Nat.zero_le _, Nat.zero_le _⟩ (fun v9 E6 H7 k8 W6 I6 G6 p6 => ?_)
  obtain ⟨q6, p6_0, p6_1, p6_2⟩ := p6
  have q6 := q6.symm
  subst q6
  have S6 : Now D TB cy (va_A (va_pl L E) sz) s L τ E H7 k8 := ⟨W6, I6⟩
  refine lv_if_ne (tgt := 23) hx hb dX9_turn_14 (by decide) (fun c10 => ?_) (fun c10 => ?_)
  · skip
    have tc10 := nu_ne c10
    have uc10 : (0 : Int32).toInt = 0 := rfl
    refine lv_iload_n hx hb dX9_turn_23 rfl (lv_at hl 2 rfl) ?_
    obtain ⟨v11, ev11, tv11⟩ : ∃ v : Int32, Int32.ofInt (0) = v ∧ v.toInt = 0 := ⟨_, rfl, by decide +kernel⟩
    refine lv_iconst hx hb dX9_turn_24 ev11 ?_
    obtain ⟨v12, ev12, tv12⟩ : ∃ v : Int32, Int32.ofInt (1) = v ∧ v.toInt = 1 := ⟨_, rfl, by decide +kernel⟩
    refine lv_iconst hx hb dX9_turn_25 ev12 ?_
    refine tc_si Z.1 Z.2.2.2.1 Z.2.2.2.2.1 Z.2.2.2.2.2 S6.1 (k_X9_within l D cy S6.2 a2 v11 v12) (va_cwS 3 hts gX9_turn_X9_within rfl rfl rfl (by decide +kernel) ⟨Nat.le_of_ble_eq_true rfl, Nat.le_of_ble_eq_true rfl⟩) rfl hl.1 rfl (Nat.le_of_ble_eq_true rfl) dX9_turn_26 ⟨Nat.zero_le _, Nat.zero_le _⟩ (fun v16 E13 H14 k15 W13 I13 G13 p13 => ?_)
    obtain ⟨q13, p13_0, p13_1, p13_2⟩ := p13
    have q13 := q13.symm
    subst q13
    have S13 : Now D TB cy (va_A (va_pl L E) sz) s L τ E H14 k15 := ⟨W13, I13⟩
    refine lv_if_ne (tgt := 38) hx hb dX9_turn_29 (by decide) (fun c17 => ?_) (fun c17 => ?_)
    · skip
      have tc17 := nu_ne c17
      have uc17 : (0 : Int32).toInt = 0 := rfl
      refine lv_aload_n hx hb dX9_turn_38 rfl (lv_at hl 0 rfl) ?_
      refine tc_vv Z.1 Z.2.2.2.1 Z.2.2.2.2.1 Z.2.2.2.2.2 S13.1 S13.2 ha0 ta0 rfl rfl (k_X9_beginAct l D cy S13.2 ha0 ta0) (cwV 0 hts gX9_turn_X9_beginAct rfl rfl rfl (by decide +kernel) ⟨Nat.le_of_ble_eq_true rfl, Nat.le_of_ble_eq_true rfl⟩) rfl hl.1 rfl (Nat.le_of_ble_eq_true rfl) dX9_turn_39 ⟨Nat.zero_le _, Nat.zero_le _⟩ (fun E18 H19 k20 W18 I18 G18 p18 => ?_)
      have S18 : Now D TB cy (va_A (va_pl L E) sz) s L τ E18 H19 k20 := ⟨W18, I18⟩
      have F18 : Fr L τ (inW [(1, 1), (20, 1), (21, 1), (22, 1), (23, 1), (24, 1), (25, 1), (26, 1), (27, 1), (4, 0), (0, 0), (1, 0), (20, 0), (21, 0), (22, 0), (23, 0), (24, 0), (25, 0), (26, 0), (27, 0)]) E E18 := F0_.trans (G18.mono (inW_mono (by decide)))
      refine lv_aload_n hx hb dX9_turn_42 rfl (lv_at hl 0 rfl) ?_
      refine tr_getr Z.1 Z.2.2.2.1 S18.1 S18.2 ha0 ta0 rfl rfl (fun _ h => List.mem_cons_of_mem _ (List.mem_append_left _ (List.mem_append_left _ (List.mem_append_right _ h)))) 0 (by decide) rfl (hts _ (List.mem_of_getElem? (i := 1) rfl)) dX9_turn_43 (fun q22 eq22 hq22 tq22 => ?_)
      have tq22 : τ q22 = (1, 0) := tq22
      have uq22 : q2 = q22 := S18.2.2.2.2 _ hq2 _ hq22 (tq2.trans tq22.symm) (by rw [tq2]; rfl)
      subst uq22
      refine tr_getr Z.1 Z.2.2.2.1 S18.1 S18.2 hq2 tq2 rfl rfl (fun _ h => List.mem_cons_of_mem _ (List.mem_append_left _ (List.mem_append_right _ h))) 10 (by decide) rfl (hts _ (List.mem_of_getElem? (i := 3) rfl)) dX9_turn_46 (fun q23 eq23 hq23 tq23 => ?_)
      have tq23 : τ q23 = (22, 0) := tq23
      refine lv_iload_n hx hb dX9_turn_49 rfl (lv_at hl 1 rfl) ?_
      refine lv_iload_n hx hb dX9_turn_50 rfl (lv_at hl 2 rfl) ?_
      refine tr_iast Z.1 Z.2.2.2.1 S18.1 S18.2 hq23 tq23 rfl (by omega) (by omega) (by have := fb_rng a2; omega) (by have := fb_rng a2; omega) dX9_turn_51 (fun E24 H25 k26 W24 I24 P24 => ?_)
      have S24 : Now D TB cy (va_A (va_pl L E) sz) s L τ E24 H25 k26 := ⟨W24, I24⟩
      have F24 : Fr L τ (inW [(1, 1), (20, 1), (21, 1), (22, 1), (23, 1), (24, 1), (25, 1), (26, 1), (27, 1), (4, 0), (0, 0), (1, 0), (20, 0), (21, 0), (22, 0), (23, 0), (24, 0), (25, 0), (26, 0), (27, 0)]) E E24 := Fr.set F18 P24 tq23 rfl
      obtain ⟨v27, ev27, tv27⟩ : ∃ v : Int32, Int32.ofInt (1) = v ∧ v.toInt = 1 := ⟨_, rfl, by decide +kernel⟩
      refine lv_iconst hx hb dX9_turn_52 ev27 ?_
      rw [← hQ]
      exact en_z Z S24 F24 (zo v27 (by omega)) ⟨(by omega), (by omega)⟩ dX9_turn_53
    · skip
      have tc17 := nu_eq c17
      have uc17 : (0 : Int32).toInt = 0 := rfl
      refine lv_aload_n hx hb dX9_turn_32 rfl (lv_at hl 0 rfl) ?_
      obtain ⟨v28, ev28, tv28⟩ : ∃ v : Int32, Int32.ofInt (1) = v ∧ v.toInt = 1 := ⟨_, rfl, by decide +kernel⟩
      refine lv_iconst hx hb dX9_turn_33 ev28 ?_
      refine tc_vi Z.1 Z.2.2.2.1 Z.2.2.2.2.1 Z.2.2.2.2.2 S13.1 S13.2 ha0 ta0 rfl rfl (k_X9_deny l D cy S13.2 ha0 ta0 v28) (cwV 1 hts gX9_turn_X9_deny rfl rfl rfl (by decide +kernel) ⟨Nat.le_of_ble_eq_true rfl, Nat.le_of_ble_eq_true rfl⟩) rfl hl.1 rfl (Nat.le_of_ble_eq_true rfl) dX9_turn_34 ⟨Nat.zero_le _, Nat.zero_le _⟩ (fun v32 E29 H30 k31 W29 I29 G29 p29 => ?_)
      obtain ⟨p29_0, p29_1⟩ := p29
      have S29 : Now D TB cy (va_A (va_pl L E) sz) s L τ E29 H30 k31 := ⟨W29, I29⟩
      have F29 : Fr L τ (inW [(1, 1), (20, 1), (21, 1), (22, 1), (23, 1), (24, 1), (25, 1), (26, 1), (27, 1), (4, 0), (0, 0), (1, 0), (20, 0), (21, 0), (22, 0), (23, 0), (24, 0), (25, 0), (26, 0), (27, 0)]) E E29 := F0_.trans (G29.mono (inW_mono (by decide)))
      rw [← hQ]
      exact en_z Z S29 F29 (zo v32 (by omega)) ⟨(by omega), (by omega)⟩ dX9_turn_37
  · skip
    have tc10 := nu_eq c10
    have uc10 : (0 : Int32).toInt = 0 := rfl
    refine lv_aload_n hx hb dX9_turn_17 rfl (lv_at hl 0 rfl) ?_
    obtain ⟨v33, ev33, tv33⟩ : ∃ v : Int32, Int32.ofInt (4) = v ∧ v.toInt = 4 := ⟨_, rfl, by decide +kernel⟩
    refine lv_iconst hx hb dX9_turn_18 ev33 ?_
    refine tc_vi Z.1 Z.2.2.2.1 Z.2.2.2.2.1 Z.2.2.2.2.2 S6.1 S6.2 ha0 ta0 rfl rfl (k_X9_deny l D cy S6.2 ha0 ta0 v33) (cwV 1 hts gX9_turn_X9_deny rfl rfl rfl (by decide +kernel) ⟨Nat.le_of_ble_eq_true rfl, Nat.le_of_ble_eq_true rfl⟩) rfl hl.1 rfl (Nat.le_of_ble_eq_true rfl) dX9_turn_19 ⟨Nat.zero_le _, Nat.zero_le _⟩ (fun v37 E34 H35 k36 W34 I34 G34 p34 => ?_)
    obtain ⟨p34_0, p34_1⟩ := p34
    have S34 : Now D TB cy (va_A (va_pl L E) sz) s L τ E34 H35 k36 := ⟨W34, I34⟩
    have F34 : Fr L τ (inW [(1, 1), (20, 1), (21, 1), (22, 1), (23, 1), (24, 1), (25, 1), (26, 1), (27, 1), (4, 0), (0, 0), (1, 0), (20, 0), (21, 0), (22, 0), (23, 0), (24, 0), (25, 0), (26, 0), (27, 0)]) E E34 := F0_.trans (G34.mono (inW_mono (by decide)))
    rw [← hQ]
    exact en_z Z S34 F34 (zo v37 (by omega)) ⟨(by omega), (by omega)⟩ dX9_turn_22

set_option maxRecDepth 20000 in
theorem ggX9_beam_X9_within : GoodIn wsX9_beam wsX9_within := goodIn_r _ [9] (by decide +kernel) (by decide +kernel)
set_option maxRecDepth 20000 in
theorem gX9_beam_X9_within : GoodIn wsX9_beam (va_wsS RX9 73 yX9_within wsX9_within) := goodIn_app (goodIn_of _ (by decide +kernel)) ggX9_beam_X9_within
set_option maxRecDepth 20000 in
theorem ggX9_beam_X9_refuse : GoodIn wsX9_beam wsX9_refuse := goodIn_r _ [13, 14, 62, 63, 64, 65, 66, 67, 68, 69, 70, 71, 72] (by decide +kernel) (by decide +kernel)
set_option maxRecDepth 20000 in
theorem gX9_beam_X9_refuse : GoodIn wsX9_beam (wsV RX9 153 RX9 yX9_refuse wsX9_refuse) := goodIn_app (goodIn_of _ (by decide +kernel)) ggX9_beam_X9_refuse
set_option maxRecDepth 20000 in
theorem ggX9_beam_X9_beginAct : GoodIn wsX9_beam wsX9_beginAct := goodIn_r _ [18, 14, 19, 20, 21, 8, 22, 23, 1, 24, 25, 26, 27, 28, 29, 30, 31, 32, 33, 34, 35, 36, 37, 38, 39, 40, 41, 42, 43, 44, 45, 46, 47, 48, 49, 50, 51, 52, 53, 54, 55, 56, 57, 58, 59, 60, 61, 62, 63, 64, 65, 66, 67, 68, 69, 70, 71, 72, 89, 90, 91, 73, 74, 75, 76, 77, 78, 79, 80, 81, 82, 83, 84, 85, 86, 87, 88] (by decide +kernel) (by decide +kernel)
set_option maxRecDepth 20000 in
theorem gX9_beam_X9_beginAct : GoodIn wsX9_beam (wsV RX9 81 RX9 yX9_beginAct wsX9_beginAct) := goodIn_app (goodIn_of _ (by decide +kernel)) ggX9_beam_X9_beginAct
theorem dX9_beam_0 : decode cX9_beam 0 = .ok (.iload_n 1, 1) := by decide +kernel
theorem dX9_beam_1 : decode cX9_beam 1 = .ok (.iconst 0, 1) := by decide +kernel
theorem dX9_beam_2 : decode cX9_beam 2 = .ok (.sipush 20000, 3) := by decide +kernel
theorem dX9_beam_5 : decode cX9_beam 5 = .ok (.invokestatic 73, 3) := by decide +kernel
theorem dX9_beam_8 : decode cX9_beam 8 = .ok (.ifCond .eq 19, 3) := by decide +kernel
theorem dX9_beam_11 : decode cX9_beam 11 = .ok (.iload_n 2, 1) := by decide +kernel
theorem dX9_beam_12 : decode cX9_beam 12 = .ok (.iload_n 1, 1) := by decide +kernel
theorem dX9_beam_13 : decode cX9_beam 13 = .ok (.if_icmp .le 14, 3) := by decide +kernel
theorem dX9_beam_16 : decode cX9_beam 16 = .ok (.iload_n 3, 1) := by decide +kernel
theorem dX9_beam_17 : decode cX9_beam 17 = .ok (.iconst 0, 1) := by decide +kernel
theorem dX9_beam_18 : decode cX9_beam 18 = .ok (.sipush 9000, 3) := by decide +kernel
theorem dX9_beam_21 : decode cX9_beam 21 = .ok (.invokestatic 73, 3) := by decide +kernel
theorem dX9_beam_24 : decode cX9_beam 24 = .ok (.ifCond .ne 9, 3) := by decide +kernel
theorem dX9_beam_27 : decode cX9_beam 27 = .ok (.aload_n 0, 1) := by decide +kernel
theorem dX9_beam_28 : decode cX9_beam 28 = .ok (.iconst 1, 1) := by decide +kernel
theorem dX9_beam_29 : decode cX9_beam 29 = .ok (.invokevirtual 153, 3) := by decide +kernel
theorem dX9_beam_32 : decode cX9_beam 32 = .ok (.ireturn, 1) := by decide +kernel
theorem dX9_beam_33 : decode cX9_beam 33 = .ok (.aload_n 0, 1) := by decide +kernel
theorem dX9_beam_34 : decode cX9_beam 34 = .ok (.getfield 10, 3) := by decide +kernel
theorem dX9_beam_37 : decode cX9_beam 37 = .ok (.getfield 131, 3) := by decide +kernel
theorem dX9_beam_40 : decode cX9_beam 40 = .ok (.bipush 8, 2) := by decide +kernel
theorem dX9_beam_42 : decode cX9_beam 42 = .ok (.if_icmp .lt 9, 3) := by decide +kernel
theorem dX9_beam_45 : decode cX9_beam 45 = .ok (.aload_n 0, 1) := by decide +kernel
theorem dX9_beam_46 : decode cX9_beam 46 = .ok (.iconst 3, 1) := by decide +kernel
theorem dX9_beam_47 : decode cX9_beam 47 = .ok (.invokevirtual 153, 3) := by decide +kernel
theorem dX9_beam_50 : decode cX9_beam 50 = .ok (.ireturn, 1) := by decide +kernel
theorem dX9_beam_51 : decode cX9_beam 51 = .ok (.aload_n 0, 1) := by decide +kernel
theorem dX9_beam_52 : decode cX9_beam 52 = .ok (.invokevirtual 81, 3) := by decide +kernel
theorem dX9_beam_55 : decode cX9_beam 55 = .ok (.aload_n 0, 1) := by decide +kernel
theorem dX9_beam_56 : decode cX9_beam 56 = .ok (.getfield 10, 3) := by decide +kernel
theorem dX9_beam_59 : decode cX9_beam 59 = .ok (.getfield 157, 3) := by decide +kernel
theorem dX9_beam_62 : decode cX9_beam 62 = .ok (.aload_n 0, 1) := by decide +kernel
theorem dX9_beam_63 : decode cX9_beam 63 = .ok (.getfield 10, 3) := by decide +kernel
theorem dX9_beam_66 : decode cX9_beam 66 = .ok (.getfield 131, 3) := by decide +kernel
theorem dX9_beam_69 : decode cX9_beam 69 = .ok (.iload_n 1, 1) := by decide +kernel
theorem dX9_beam_70 : decode cX9_beam 70 = .ok (.iastore, 1) := by decide +kernel
theorem dX9_beam_71 : decode cX9_beam 71 = .ok (.aload_n 0, 1) := by decide +kernel
theorem dX9_beam_72 : decode cX9_beam 72 = .ok (.getfield 10, 3) := by decide +kernel
theorem dX9_beam_75 : decode cX9_beam 75 = .ok (.getfield 160, 3) := by decide +kernel
theorem dX9_beam_78 : decode cX9_beam 78 = .ok (.aload_n 0, 1) := by decide +kernel
theorem dX9_beam_79 : decode cX9_beam 79 = .ok (.getfield 10, 3) := by decide +kernel
theorem dX9_beam_82 : decode cX9_beam 82 = .ok (.getfield 131, 3) := by decide +kernel
theorem dX9_beam_85 : decode cX9_beam 85 = .ok (.iload_n 2, 1) := by decide +kernel
theorem dX9_beam_86 : decode cX9_beam 86 = .ok (.iastore, 1) := by decide +kernel
theorem dX9_beam_87 : decode cX9_beam 87 = .ok (.aload_n 0, 1) := by decide +kernel
theorem dX9_beam_88 : decode cX9_beam 88 = .ok (.getfield 10, 3) := by decide +kernel
theorem dX9_beam_91 : decode cX9_beam 91 = .ok (.getfield 163, 3) := by decide +kernel
theorem dX9_beam_94 : decode cX9_beam 94 = .ok (.aload_n 0, 1) := by decide +kernel
theorem dX9_beam_95 : decode cX9_beam 95 = .ok (.getfield 10, 3) := by decide +kernel
theorem dX9_beam_98 : decode cX9_beam 98 = .ok (.getfield 131, 3) := by decide +kernel
theorem dX9_beam_101 : decode cX9_beam 101 = .ok (.iload_n 3, 1) := by decide +kernel
theorem dX9_beam_102 : decode cX9_beam 102 = .ok (.iastore, 1) := by decide +kernel
theorem dX9_beam_103 : decode cX9_beam 103 = .ok (.aload_n 0, 1) := by decide +kernel
theorem dX9_beam_104 : decode cX9_beam 104 = .ok (.getfield 10, 3) := by decide +kernel
theorem dX9_beam_107 : decode cX9_beam 107 = .ok (.dup, 1) := by decide +kernel
theorem dX9_beam_108 : decode cX9_beam 108 = .ok (.getfield 131, 3) := by decide +kernel
theorem dX9_beam_111 : decode cX9_beam 111 = .ok (.iconst 1, 1) := by decide +kernel
theorem dX9_beam_112 : decode cX9_beam 112 = .ok (.iadd, 1) := by decide +kernel
theorem dX9_beam_113 : decode cX9_beam 113 = .ok (.putfield 131, 3) := by decide +kernel
theorem dX9_beam_116 : decode cX9_beam 116 = .ok (.aload_n 0, 1) := by decide +kernel
theorem dX9_beam_117 : decode cX9_beam 117 = .ok (.getfield 10, 3) := by decide +kernel
theorem dX9_beam_120 : decode cX9_beam 120 = .ok (.getfield 131, 3) := by decide +kernel
theorem dX9_beam_123 : decode cX9_beam 123 = .ok (.ireturn, 1) := by decide +kernel
set_option maxHeartbeats 4000000 in
set_option maxRecDepth 100000 in
theorem k_X9_beam (l : Launch) (D : va_G) (cy : Nat → ClassId) {L : List Nat} {τ : Nat → Ro} {E : Ec} (hI : Inv TB cy L τ E) {a0 : Nat} (ha0 : a0 ∈ L) (ta0 : τ a0 = (0, 0)) (a1 : Int32) (a2 : Int32) (a3 : Int32) : CtI l yX9_beam wsX9_beam { frames := 5, cells := 0, slots := 0, locals := 123 } D TB cy L τ E [.ref a0, .int a1, .int a2, .int a3] (inW [(1, 1), (20, 1), (21, 1), (22, 1), (23, 1), (24, 1), (25, 1), (26, 1), (27, 1), (4, 0), (0, 0), (1, 0), (20, 0), (21, 0), (22, 0), (23, 0), (24, 0), (25, 0), (26, 0), (27, 0)]) (fun r E' => True) := by
  intro sz
  refine sta (cc := cX9_beam) (maxL := 4) hI (by decide) rfl (Nat.le_of_ble_eq_true rfl) (fun p e s m args below meth c ls hsz Z S0 hl => ?_)
  have hx := Z.1.1
  have hb := Z.1.2.1
  have hts := Z.1.2.2.2.2
  have F0_ : Fr L τ (inW [(1, 1), (20, 1), (21, 1), (22, 1), (23, 1), (24, 1), (25, 1), (26, 1), (27, 1), (4, 0), (0, 0), (1, 0), (20, 0), (21, 0), (22, 0), (23, 0), (24, 0), (25, 0), (26, 0), (27, 0)]) E E := Fr.refl
  have hl : lv_has ls 4 [(0, .ref a0), (1, .int a1), (2, .int a2), (3, .int a3)] := hl
  generalize hQ : MQ below _ args s 0 0 _ = QQ
  have J27 : ∀  (E_27 : Ec) (H_27 : Heap) (k_27 : List Loc) (l_27 : Array Slot), Now D TB cy (va_A (va_pl L E) sz) s L τ E_27 H_27 k_27 → Fr L τ (inW [(1, 1), (20, 1), (21, 1), (22, 1), (23, 1), (24, 1), (25, 1), (26, 1), (27, 1), (4, 0), (0, 0), (1, 0), (20, 0), (21, 0), (22, 0), (23, 0), (24, 0), (25, 0), (26, 0), (27, 0)]) E E_27 → lv_has l_27 4 [(0, .ref a0)] → W p l e { frames := 5, cells := 0, slots := 0, locals := 123 } s m args below meth c H_27 k_27 0 0 QQ (F0 m 27 l_27 []) := by
    intro  E_27 H_27 k_27 l_27 S_27 F_27  hl_27
    refine lv_aload_n hx hb dX9_beam_27 rfl (lv_at hl_27 0 rfl) ?_
    obtain ⟨v1, ev1, tv1⟩ : ∃ v : Int32, Int32.ofInt (1) = v ∧ v.toInt = 1 := ⟨_, rfl, by decide +kernel⟩
    refine lv_iconst hx hb dX9_beam_28 ev1 ?_
    refine tc_vi Z.1 Z.2.2.2.1 Z.2.2.2.2.1 Z.2.2.2.2.2 S_27.1 S_27.2 ha0 ta0 rfl rfl (k_X9_refuse l D cy S_27.2 ha0 ta0 v1) (cwV 1 hts gX9_beam_X9_refuse rfl rfl rfl (by decide +kernel) ⟨Nat.le_of_ble_eq_true rfl, Nat.le_of_ble_eq_true rfl⟩) rfl hl_27.1 rfl (Nat.le_of_ble_eq_true rfl) dX9_beam_29 ⟨Nat.zero_le _, Nat.zero_le _⟩ (fun v5 E2 H3 k4 W2 I2 G2 p2 => ?_)
    obtain ⟨p2_0, p2_1⟩ := p2
    have S2 : Now D TB cy (va_A (va_pl L E) sz) s L τ E2 H3 k4 := ⟨W2, I2⟩
    have F2 : Fr L τ (inW [(1, 1), (20, 1), (21, 1), (22, 1), (23, 1), (24, 1), (25, 1), (26, 1), (27, 1), (4, 0), (0, 0), (1, 0), (20, 0), (21, 0), (22, 0), (23, 0), (24, 0), (25, 0), (26, 0), (27, 0)]) E E2 := F_27.trans (G2.mono (inW_mono (by decide)))
    rw [← hQ]
    exact en_i Z S2 F2 trivial dX9_beam_32
  refine lv_iload_n hx hb dX9_beam_0 rfl (lv_at hl 1 rfl) ?_
  obtain ⟨v6, ev6, tv6⟩ : ∃ v : Int32, Int32.ofInt (0) = v ∧ v.toInt = 0 := ⟨_, rfl, by decide +kernel⟩
  refine lv_iconst hx hb dX9_beam_1 ev6 ?_
  obtain ⟨v7, ev7, tv7⟩ : ∃ v : Int32, (Int16.ofInt (20000)).toInt32 = v ∧ v.toInt = 20000 := ⟨_, rfl, by decide +kernel⟩
  refine lv_sipush hx hb dX9_beam_2 ev7 ?_
  refine tc_si Z.1 Z.2.2.2.1 Z.2.2.2.2.1 Z.2.2.2.2.2 S0.1 (k_X9_within l D cy S0.2 a1 v6 v7) (va_cwS 3 hts gX9_beam_X9_within rfl rfl rfl (by decide +kernel) ⟨Nat.le_of_ble_eq_true rfl, Nat.le_of_ble_eq_true rfl⟩) rfl hl.1 rfl (Nat.le_of_ble_eq_true rfl) dX9_beam_5 ⟨Nat.zero_le _, Nat.zero_le _⟩ (fun v11 E8 H9 k10 W8 I8 G8 p8 => ?_)
  obtain ⟨q8, p8_0, p8_1, p8_2⟩ := p8
  have q8 := q8.symm
  subst q8
  have S8 : Now D TB cy (va_A (va_pl L E) sz) s L τ E H9 k10 := ⟨W8, I8⟩
  refine lv_if_eq (tgt := 27) hx hb dX9_beam_8 (by decide) (fun c12 => ?_) (fun c12 => ?_)
  · skip
    have tc12 := nu_eq c12
    have uc12 : (0 : Int32).toInt = 0 := rfl
    exact J27 E H9 k10 ls S8 F0_ (lv_sub hl [0] rfl)
  · skip
    have tc12 := nu_ne c12
    have uc12 : (0 : Int32).toInt = 0 := rfl
    refine lv_iload_n hx hb dX9_beam_11 rfl (lv_at hl 2 rfl) ?_
    refine lv_iload_n hx hb dX9_beam_12 rfl (lv_at hl 1 rfl) ?_
    refine lv_icmp_le (tgt := 27) hx hb dX9_beam_13 (by decide) (fun c13 => ?_) (fun c13 => ?_)
    · skip
      have tc13 := nu_le c13
      exact J27 E H9 k10 ls S8 F0_ (lv_sub hl [0] rfl)
    · skip
      have tc13 := nu_nle c13
      refine lv_iload_n hx hb dX9_beam_16 rfl (lv_at hl 3 rfl) ?_
      obtain ⟨v14, ev14, tv14⟩ : ∃ v : Int32, Int32.ofInt (0) = v ∧ v.toInt = 0 := ⟨_, rfl, by decide +kernel⟩
      refine lv_iconst hx hb dX9_beam_17 ev14 ?_
      obtain ⟨v15, ev15, tv15⟩ : ∃ v : Int32, (Int16.ofInt (9000)).toInt32 = v ∧ v.toInt = 9000 := ⟨_, rfl, by decide +kernel⟩
      refine lv_sipush hx hb dX9_beam_18 ev15 ?_
      refine tc_si Z.1 Z.2.2.2.1 Z.2.2.2.2.1 Z.2.2.2.2.2 S8.1 (k_X9_within l D cy S8.2 a3 v14 v15) (va_cwS 3 hts gX9_beam_X9_within rfl rfl rfl (by decide +kernel) ⟨Nat.le_of_ble_eq_true rfl, Nat.le_of_ble_eq_true rfl⟩) rfl hl.1 rfl (Nat.le_of_ble_eq_true rfl) dX9_beam_21 ⟨Nat.zero_le _, Nat.zero_le _⟩ (fun v19 E16 H17 k18 W16 I16 G16 p16 => ?_)
      obtain ⟨q16, p16_0, p16_1, p16_2⟩ := p16
      have q16 := q16.symm
      subst q16
      have S16 : Now D TB cy (va_A (va_pl L E) sz) s L τ E H17 k18 := ⟨W16, I16⟩
      refine lv_if_ne (tgt := 33) hx hb dX9_beam_24 (by decide) (fun c20 => ?_) (fun c20 => ?_)
      · skip
        have tc20 := nu_ne c20
        have uc20 : (0 : Int32).toInt = 0 := rfl
        refine lv_aload_n hx hb dX9_beam_33 rfl (lv_at hl 0 rfl) ?_
        refine tr_getr Z.1 Z.2.2.2.1 S16.1 S16.2 ha0 ta0 rfl rfl (fun _ h => List.mem_cons_of_mem _ (List.mem_append_left _ (List.mem_append_left _ (List.mem_append_right _ h)))) 0 (by decide) rfl (hts _ (List.mem_of_getElem? (i := 1) rfl)) dX9_beam_34 (fun q21 eq21 hq21 tq21 => ?_)
        have tq21 : τ q21 = (1, 0) := tq21
        refine tr_geti Z.1 Z.2.2.2.1 S16.1 S16.2 hq21 tq21 rfl rfl (fun _ h => List.mem_cons_of_mem _ (List.mem_append_left _ (List.mem_append_right _ h))) 6 (by decide) rfl (hts _ (List.mem_of_getElem? (i := 2) rfl)) dX9_beam_37 (fun v22 ev22 lv22 uv22 => ?_)
        obtain ⟨v23, ev23, tv23⟩ : ∃ v : Int32, (Int8.ofInt (8)).toInt32 = v ∧ v.toInt = 8 := ⟨_, rfl, by decide +kernel⟩
        refine lv_bipush hx hb dX9_beam_40 ev23 ?_
        refine lv_icmp_lt (tgt := 51) hx hb dX9_beam_42 (by decide) (fun c24 => ?_) (fun c24 => ?_)
        · skip
          have tc24 := nu_lt c24
          refine lv_aload_n hx hb dX9_beam_51 rfl (lv_at hl 0 rfl) ?_
          refine tc_vv Z.1 Z.2.2.2.1 Z.2.2.2.2.1 Z.2.2.2.2.2 S16.1 S16.2 ha0 ta0 rfl rfl (k_X9_beginAct l D cy S16.2 ha0 ta0) (cwV 0 hts gX9_beam_X9_beginAct rfl rfl rfl (by decide +kernel) ⟨Nat.le_of_ble_eq_true rfl, Nat.le_of_ble_eq_true rfl⟩) rfl hl.1 rfl (Nat.le_of_ble_eq_true rfl) dX9_beam_52 ⟨Nat.zero_le _, Nat.zero_le _⟩ (fun E25 H26 k27 W25 I25 G25 p25 => ?_)
          have S25 : Now D TB cy (va_A (va_pl L E) sz) s L τ E25 H26 k27 := ⟨W25, I25⟩
          have F25 : Fr L τ (inW [(1, 1), (20, 1), (21, 1), (22, 1), (23, 1), (24, 1), (25, 1), (26, 1), (27, 1), (4, 0), (0, 0), (1, 0), (20, 0), (21, 0), (22, 0), (23, 0), (24, 0), (25, 0), (26, 0), (27, 0)]) E E25 := F0_.trans (G25.mono (inW_mono (by decide)))
          refine lv_aload_n hx hb dX9_beam_55 rfl (lv_at hl 0 rfl) ?_
          refine tr_getr Z.1 Z.2.2.2.1 S25.1 S25.2 ha0 ta0 rfl rfl (fun _ h => List.mem_cons_of_mem _ (List.mem_append_left _ (List.mem_append_left _ (List.mem_append_right _ h)))) 0 (by decide) rfl (hts _ (List.mem_of_getElem? (i := 1) rfl)) dX9_beam_56 (fun q29 eq29 hq29 tq29 => ?_)
          have tq29 : τ q29 = (1, 0) := tq29
          have uq29 : q21 = q29 := S25.2.2.2.2 _ hq21 _ hq29 (tq21.trans tq29.symm) (by rw [tq21]; rfl)
          subst uq29
          refine tr_getr Z.1 Z.2.2.2.1 S25.1 S25.2 hq21 tq21 rfl rfl (fun _ h => List.mem_cons_of_mem _ (List.mem_append_left _ (List.mem_append_right _ h))) 11 (by decide) rfl (hts _ (List.mem_of_getElem? (i := 3) rfl)) dX9_beam_59 (fun q30 eq30 hq30 tq30 => ?_)
          have tq30 : τ q30 = (23, 0) := tq30
          refine lv_aload_n hx hb dX9_beam_62 rfl (lv_at hl 0 rfl) ?_
          refine tr_getr Z.1 Z.2.2.2.1 S25.1 S25.2 ha0 ta0 rfl rfl (fun _ h => List.mem_cons_of_mem _ (List.mem_append_left _ (List.mem_append_left _ (List.mem_append_right _ h)))) 0 (by decide) rfl (hts _ (List.mem_of_getElem? (i := 1) rfl)) dX9_beam_63 (fun q31 eq31 hq31 tq31 => ?_)
          have tq31 : τ q31 = (1, 0) := tq31
          have uq31 : q21 = q31 := S25.2.2.2.2 _ hq21 _ hq31 (tq21.trans tq31.symm) (by rw [tq21]; rfl)
          subst uq31
          refine tr_geti Z.1 Z.2.2.2.1 S25.1 S25.2 hq21 tq21 rfl rfl (fun _ h => List.mem_cons_of_mem _ (List.mem_append_left _ (List.mem_append_right _ h))) 6 (by decide) rfl (hts _ (List.mem_of_getElem? (i := 2) rfl)) dX9_beam_66 (fun v32 ev32 lv32 uv32 => ?_)
          have wv32 : v32 = v22 := ev32.symm.trans ((fi_fr G25 hq21 (by rw [tq21]; rfl)).trans ev22)
          have xv32 : v32.toInt = v22.toInt := by rw [wv32]
          refine lv_iload_n hx hb dX9_beam_69 rfl (lv_at hl 1 rfl) ?_
          refine tr_iast Z.1 Z.2.2.2.1 S25.1 S25.2 hq30 tq30 rfl (by omega) (by omega) (by have := fb_rng a1; omega) (by have := fb_rng a1; omega) dX9_beam_70 (fun E33 H34 k35 W33 I33 P33 => ?_)
          have S33 : Now D TB cy (va_A (va_pl L E) sz) s L τ E33 H34 k35 := ⟨W33, I33⟩
          have F33 : Fr L τ (inW [(1, 1), (20, 1), (21, 1), (22, 1), (23, 1), (24, 1), (25, 1), (26, 1), (27, 1), (4, 0), (0, 0), (1, 0), (20, 0), (21, 0), (22, 0), (23, 0), (24, 0), (25, 0), (26, 0), (27, 0)]) E E33 := Fr.set F25 P33 tq30 rfl
          refine lv_aload_n hx hb dX9_beam_71 rfl (lv_at hl 0 rfl) ?_
          refine tr_getr Z.1 Z.2.2.2.1 S33.1 S33.2 ha0 ta0 rfl rfl (fun _ h => List.mem_cons_of_mem _ (List.mem_append_left _ (List.mem_append_left _ (List.mem_append_right _ h)))) 0 (by decide) rfl (hts _ (List.mem_of_getElem? (i := 1) rfl)) dX9_beam_72 (fun q36 eq36 hq36 tq36 => ?_)
          have tq36 : τ q36 = (1, 0) := tq36
          have uq36 : q21 = q36 := S33.2.2.2.2 _ hq21 _ hq36 (tq21.trans tq36.symm) (by rw [tq21]; rfl)
          subst uq36
          refine tr_getr Z.1 Z.2.2.2.1 S33.1 S33.2 hq21 tq21 rfl rfl (fun _ h => List.mem_cons_of_mem _ (List.mem_append_left _ (List.mem_append_right _ h))) 12 (by decide) rfl (hts _ (List.mem_of_getElem? (i := 4) rfl)) dX9_beam_75 (fun q37 eq37 hq37 tq37 => ?_)
          have tq37 : τ q37 = (24, 0) := tq37
          refine lv_aload_n hx hb dX9_beam_78 rfl (lv_at hl 0 rfl) ?_
          refine tr_getr Z.1 Z.2.2.2.1 S33.1 S33.2 ha0 ta0 rfl rfl (fun _ h => List.mem_cons_of_mem _ (List.mem_append_left _ (List.mem_append_left _ (List.mem_append_right _ h)))) 0 (by decide) rfl (hts _ (List.mem_of_getElem? (i := 1) rfl)) dX9_beam_79 (fun q38 eq38 hq38 tq38 => ?_)
          have tq38 : τ q38 = (1, 0) := tq38
          have uq38 : q21 = q38 := S33.2.2.2.2 _ hq21 _ hq38 (tq21.trans tq38.symm) (by rw [tq21]; rfl)
          subst uq38
          refine tr_geti Z.1 Z.2.2.2.1 S33.1 S33.2 hq21 tq21 rfl rfl (fun _ h => List.mem_cons_of_mem _ (List.mem_append_left _ (List.mem_append_right _ h))) 6 (by decide) rfl (hts _ (List.mem_of_getElem? (i := 2) rfl)) dX9_beam_82 (fun v39 ev39 lv39 uv39 => ?_)
          have wv39 : v39 = v32 := ev39.symm.trans ((fi_set P33 (ne_ro tq21 tq30 (by decide))).trans ev32)
          have xv39 : v39.toInt = v32.toInt := by rw [wv39]
          refine lv_iload_n hx hb dX9_beam_85 rfl (lv_at hl 2 rfl) ?_
          refine tr_iast Z.1 Z.2.2.2.1 S33.1 S33.2 hq37 tq37 rfl (by omega) (by omega) (by have := fb_rng a2; omega) (by have := fb_rng a2; omega) dX9_beam_86 (fun E40 H41 k42 W40 I40 P40 => ?_)
          have S40 : Now D TB cy (va_A (va_pl L E) sz) s L τ E40 H41 k42 := ⟨W40, I40⟩
          have F40 : Fr L τ (inW [(1, 1), (20, 1), (21, 1), (22, 1), (23, 1), (24, 1), (25, 1), (26, 1), (27, 1), (4, 0), (0, 0), (1, 0), (20, 0), (21, 0), (22, 0), (23, 0), (24, 0), (25, 0), (26, 0), (27, 0)]) E E40 := Fr.set F33 P40 tq37 rfl
          refine lv_aload_n hx hb dX9_beam_87 rfl (lv_at hl 0 rfl) ?_
          refine tr_getr Z.1 Z.2.2.2.1 S40.1 S40.2 ha0 ta0 rfl rfl (fun _ h => List.mem_cons_of_mem _ (List.mem_append_left _ (List.mem_append_left _ (List.mem_append_right _ h)))) 0 (by decide) rfl (hts _ (List.mem_of_getElem? (i := 1) rfl)) dX9_beam_88 (fun q43 eq43 hq43 tq43 => ?_)
          have tq43 : τ q43 = (1, 0) := tq43
          have uq43 : q21 = q43 := S40.2.2.2.2 _ hq21 _ hq43 (tq21.trans tq43.symm) (by rw [tq21]; rfl)
          subst uq43
          refine tr_getr Z.1 Z.2.2.2.1 S40.1 S40.2 hq21 tq21 rfl rfl (fun _ h => List.mem_cons_of_mem _ (List.mem_append_left _ (List.mem_append_right _ h))) 13 (by decide) rfl (hts _ (List.mem_of_getElem? (i := 5) rfl)) dX9_beam_91 (fun q44 eq44 hq44 tq44 => ?_)
          have tq44 : τ q44 = (25, 0) := tq44
          refine lv_aload_n hx hb dX9_beam_94 rfl (lv_at hl 0 rfl) ?_
          refine tr_getr Z.1 Z.2.2.2.1 S40.1 S40.2 ha0 ta0 rfl rfl (fun _ h => List.mem_cons_of_mem _ (List.mem_append_left _ (List.mem_append_left _ (List.mem_append_right _ h)))) 0 (by decide) rfl (hts _ (List.mem_of_getElem? (i := 1) rfl)) dX9_beam_95 (fun q45 eq45 hq45 tq45 => ?_)
          have tq45 : τ q45 = (1, 0) := tq45
          have uq45 : q21 = q45 := S40.2.2.2.2 _ hq21 _ hq45 (tq21.trans tq45.symm) (by rw [tq21]; rfl)
          subst uq45
          refine tr_geti Z.1 Z.2.2.2.1 S40.1 S40.2 hq21 tq21 rfl rfl (fun _ h => List.mem_cons_of_mem _ (List.mem_append_left _ (List.mem_append_right _ h))) 6 (by decide) rfl (hts _ (List.mem_of_getElem? (i := 2) rfl)) dX9_beam_98 (fun v46 ev46 lv46 uv46 => ?_)
          have wv46 : v46 = v39 := ev46.symm.trans ((fi_set P40 (ne_ro tq21 tq37 (by decide))).trans ev39)
          have xv46 : v46.toInt = v39.toInt := by rw [wv46]
          refine lv_iload_n hx hb dX9_beam_101 rfl (lv_at hl 3 rfl) ?_
          refine tr_iast Z.1 Z.2.2.2.1 S40.1 S40.2 hq44 tq44 rfl (by omega) (by omega) (by have := fb_rng a3; omega) (by have := fb_rng a3; omega) dX9_beam_102 (fun E47 H48 k49 W47 I47 P47 => ?_)
          have S47 : Now D TB cy (va_A (va_pl L E) sz) s L τ E47 H48 k49 := ⟨W47, I47⟩
          have F47 : Fr L τ (inW [(1, 1), (20, 1), (21, 1), (22, 1), (23, 1), (24, 1), (25, 1), (26, 1), (27, 1), (4, 0), (0, 0), (1, 0), (20, 0), (21, 0), (22, 0), (23, 0), (24, 0), (25, 0), (26, 0), (27, 0)]) E E47 := Fr.set F40 P47 tq44 rfl
          refine lv_aload_n hx hb dX9_beam_103 rfl (lv_at hl 0 rfl) ?_
          refine tr_getr Z.1 Z.2.2.2.1 S47.1 S47.2 ha0 ta0 rfl rfl (fun _ h => List.mem_cons_of_mem _ (List.mem_append_left _ (List.mem_append_left _ (List.mem_append_right _ h)))) 0 (by decide) rfl (hts _ (List.mem_of_getElem? (i := 1) rfl)) dX9_beam_104 (fun q50 eq50 hq50 tq50 => ?_)
          have tq50 : τ q50 = (1, 0) := tq50
          have uq50 : q21 = q50 := S47.2.2.2.2 _ hq21 _ hq50 (tq21.trans tq50.symm) (by rw [tq21]; rfl)
          subst uq50
          refine lv_dup hx hb dX9_beam_107 rfl ?_
          refine tr_geti Z.1 Z.2.2.2.1 S47.1 S47.2 hq21 tq21 rfl rfl (fun _ h => List.mem_cons_of_mem _ (List.mem_append_left _ (List.mem_append_right _ h))) 6 (by decide) rfl (hts _ (List.mem_of_getElem? (i := 2) rfl)) dX9_beam_108 (fun v51 ev51 lv51 uv51 => ?_)
          have wv51 : v51 = v46 := ev51.symm.trans ((fi_set P47 (ne_ro tq21 tq44 (by decide))).trans ev46)
          have xv51 : v51.toInt = v46.toInt := by rw [wv51]
          obtain ⟨v52, ev52, tv52⟩ : ∃ v : Int32, Int32.ofInt (1) = v ∧ v.toInt = 1 := ⟨_, rfl, by decide +kernel⟩
          refine lv_iconst hx hb dX9_beam_111 ev52 ?_
          refine lv_iadd hx hb dX9_beam_112 ?_
          refine lv_topi (fun v53 ev53 => ?_)
          have tv53 := nu_add ev53 (by omega) (by omega)
          refine tr_puti Z.1 Z.2.2.2.1 S47.1 S47.2 hq21 tq21 rfl rfl (fun _ h => List.mem_cons_of_mem _ (List.mem_append_left _ (List.mem_append_right _ h))) tyX4_ok nmX4 6 (by decide) rfl rfl rfl (hts _ (List.mem_of_getElem? (i := 2) rfl)) dX9_beam_113 (by omega) (by omega) (fun E54 H55 k56 W54 I54 P54 => ?_)
          have S54 : Now D TB cy (va_A (va_pl L E) sz) s L τ E54 H55 k56 := ⟨W54, I54⟩
          have F54 : Fr L τ (inW [(1, 1), (20, 1), (21, 1), (22, 1), (23, 1), (24, 1), (25, 1), (26, 1), (27, 1), (4, 0), (0, 0), (1, 0), (20, 0), (21, 0), (22, 0), (23, 0), (24, 0), (25, 0), (26, 0), (27, 0)]) E E54 := Fr.put F47 P54 tq21 rfl
          refine lv_aload_n hx hb dX9_beam_116 rfl (lv_at hl 0 rfl) ?_
          refine tr_getr Z.1 Z.2.2.2.1 S54.1 S54.2 ha0 ta0 rfl rfl (fun _ h => List.mem_cons_of_mem _ (List.mem_append_left _ (List.mem_append_left _ (List.mem_append_right _ h)))) 0 (by decide) rfl (hts _ (List.mem_of_getElem? (i := 1) rfl)) dX9_beam_117 (fun q57 eq57 hq57 tq57 => ?_)
          have tq57 : τ q57 = (1, 0) := tq57
          have uq57 : q21 = q57 := S54.2.2.2.2 _ hq21 _ hq57 (tq21.trans tq57.symm) (by rw [tq21]; rfl)
          subst uq57
          refine tr_geti Z.1 Z.2.2.2.1 S54.1 S54.2 hq21 tq21 rfl rfl (fun _ h => List.mem_cons_of_mem _ (List.mem_append_left _ (List.mem_append_right _ h))) 6 (by decide) rfl (hts _ (List.mem_of_getElem? (i := 2) rfl)) dX9_beam_120 (fun v58 ev58 lv58 uv58 => ?_)
          have wv58 : v58 = v53 := ev58.symm.trans (fi_at P54)
          have xv58 : v58.toInt = v53.toInt := by rw [wv58]
          rw [← hQ]
          exact en_i Z S54 F54 trivial dX9_beam_123
        · skip
          have tc24 := nu_nlt c24
          refine lv_aload_n hx hb dX9_beam_45 rfl (lv_at hl 0 rfl) ?_
          obtain ⟨v59, ev59, tv59⟩ : ∃ v : Int32, Int32.ofInt (3) = v ∧ v.toInt = 3 := ⟨_, rfl, by decide +kernel⟩
          refine lv_iconst hx hb dX9_beam_46 ev59 ?_
          refine tc_vi Z.1 Z.2.2.2.1 Z.2.2.2.2.1 Z.2.2.2.2.2 S16.1 S16.2 ha0 ta0 rfl rfl (k_X9_refuse l D cy S16.2 ha0 ta0 v59) (cwV 1 hts gX9_beam_X9_refuse rfl rfl rfl (by decide +kernel) ⟨Nat.le_of_ble_eq_true rfl, Nat.le_of_ble_eq_true rfl⟩) rfl hl.1 rfl (Nat.le_of_ble_eq_true rfl) dX9_beam_47 ⟨Nat.zero_le _, Nat.zero_le _⟩ (fun v63 E60 H61 k62 W60 I60 G60 p60 => ?_)
          obtain ⟨p60_0, p60_1⟩ := p60
          have S60 : Now D TB cy (va_A (va_pl L E) sz) s L τ E60 H61 k62 := ⟨W60, I60⟩
          have F60 : Fr L τ (inW [(1, 1), (20, 1), (21, 1), (22, 1), (23, 1), (24, 1), (25, 1), (26, 1), (27, 1), (4, 0), (0, 0), (1, 0), (20, 0), (21, 0), (22, 0), (23, 0), (24, 0), (25, 0), (26, 0), (27, 0)]) E E60 := F0_.trans (G60.mono (inW_mono (by decide)))
          rw [← hQ]
          exact en_i Z S60 F60 trivial dX9_beam_50
      · skip
        have tc20 := nu_eq c20
        have uc20 : (0 : Int32).toInt = 0 := rfl
        exact J27 E H17 k18 ls S16 F0_ (lv_sub hl [0] rfl)

set_option maxRecDepth 20000 in
theorem ggX9_clear_X9_keepAct : GoodIn wsX9_clear wsX9_keepAct := goodIn_r _ [7, 8, 1, 9, 10, 11, 12, 13, 14, 15, 16, 17, 18, 19, 20, 21, 22, 23, 24, 25, 26, 27, 28, 29, 30, 31, 32, 33, 34, 35, 36, 37, 38, 39, 40, 41, 42, 43, 44, 45, 46, 47, 48, 49, 50, 51, 52, 53, 54, 55, 56, 57, 74, 75, 76, 58, 59, 60, 61, 62, 63, 64, 65, 66, 67, 68, 69, 70, 71, 72, 73] (by decide +kernel) (by decide +kernel)
set_option maxRecDepth 20000 in
theorem gX9_clear_X9_keepAct : GoodIn wsX9_clear (wsV RX9 166 RX9 yX9_keepAct wsX9_keepAct) := goodIn_app (goodIn_of _ (by decide +kernel)) ggX9_clear_X9_keepAct
theorem dX9_clear_0 : decode cX9_clear 0 = .ok (.aload_n 0, 1) := by decide +kernel
theorem dX9_clear_1 : decode cX9_clear 1 = .ok (.getfield 10, 3) := by decide +kernel
theorem dX9_clear_4 : decode cX9_clear 4 = .ok (.getfield 131, 3) := by decide +kernel
theorem dX9_clear_7 : decode cX9_clear 7 = .ok (.istore_n 1, 1) := by decide +kernel
theorem dX9_clear_8 : decode cX9_clear 8 = .ok (.iload_n 1, 1) := by decide +kernel
theorem dX9_clear_9 : decode cX9_clear 9 = .ok (.ifCond .le 15, 3) := by decide +kernel
theorem dX9_clear_12 : decode cX9_clear 12 = .ok (.aload_n 0, 1) := by decide +kernel
theorem dX9_clear_13 : decode cX9_clear 13 = .ok (.invokevirtual 166, 3) := by decide +kernel
theorem dX9_clear_16 : decode cX9_clear 16 = .ok (.aload_n 0, 1) := by decide +kernel
theorem dX9_clear_17 : decode cX9_clear 17 = .ok (.getfield 10, 3) := by decide +kernel
theorem dX9_clear_20 : decode cX9_clear 20 = .ok (.iconst 0, 1) := by decide +kernel
theorem dX9_clear_21 : decode cX9_clear 21 = .ok (.putfield 131, 3) := by decide +kernel
theorem dX9_clear_24 : decode cX9_clear 24 = .ok (.iload_n 1, 1) := by decide +kernel
theorem dX9_clear_25 : decode cX9_clear 25 = .ok (.ireturn, 1) := by decide +kernel
set_option maxHeartbeats 4000000 in
set_option maxRecDepth 100000 in
theorem k_X9_clear (l : Launch) (D : va_G) (cy : Nat → ClassId) {L : List Nat} {τ : Nat → Ro} {E : Ec} (hI : Inv TB cy L τ E) {a0 : Nat} (ha0 : a0 ∈ L) (ta0 : τ a0 = (0, 0)) : CtI l yX9_clear wsX9_clear { frames := 4, cells := 0, slots := 0, locals := 103 } D TB cy L τ E [.ref a0] (inW [(1, 1), (20, 1), (21, 1), (22, 1), (23, 1), (24, 1), (25, 1), (26, 1), (27, 1), (4, 0), (0, 0), (1, 0), (20, 0), (21, 0), (22, 0), (23, 0), (24, 0), (25, 0), (26, 0), (27, 0)]) (fun r E' => True) := by
  intro sz
  refine sta (cc := cX9_clear) (maxL := 2) hI (by decide) rfl (Nat.le_of_ble_eq_true rfl) (fun p e s m args below meth c ls hsz Z S0 hl => ?_)
  have hx := Z.1.1
  have hb := Z.1.2.1
  have hts := Z.1.2.2.2.2
  have F0_ : Fr L τ (inW [(1, 1), (20, 1), (21, 1), (22, 1), (23, 1), (24, 1), (25, 1), (26, 1), (27, 1), (4, 0), (0, 0), (1, 0), (20, 0), (21, 0), (22, 0), (23, 0), (24, 0), (25, 0), (26, 0), (27, 0)]) E E := Fr.refl
  have hl : lv_has ls 2 [(0, .ref a0)] := hl
  generalize hQ : MQ below _ args s 0 0 _ = QQ
  refine lv_aload_n hx hb dX9_clear_0 rfl (lv_at hl 0 rfl) ?_
  refine tr_getr Z.1 Z.2.2.2.1 S0.1 S0.2 ha0 ta0 rfl rfl (fun _ h => List.mem_cons_of_mem _ (List.mem_append_left _ (List.mem_append_left _ (List.mem_append_right _ h)))) 0 (by decide) rfl (hts _ (List.mem_of_getElem? (i := 1) rfl)) dX9_clear_1 (fun q1 eq1 hq1 tq1 => ?_)
  have tq1 : τ q1 = (1, 0) := tq1
  refine tr_geti Z.1 Z.2.2.2.1 S0.1 S0.2 hq1 tq1 rfl rfl (fun _ h => List.mem_cons_of_mem _ (List.mem_append_left _ (List.mem_append_right _ h))) 6 (by decide) rfl (hts _ (List.mem_of_getElem? (i := 2) rfl)) dX9_clear_4 (fun v2 ev2 lv2 uv2 => ?_)
  refine lv_istore_n (lv' := [(1, .int v2), (0, .ref a0)]) hx hb dX9_clear_7 rfl hl (by decide) rfl (fun l3 hl4 => ?_)
  refine lv_iload_n hx hb dX9_clear_8 rfl (lv_at hl4 0 rfl) ?_
  refine lv_if_le (tgt := 24) hx hb dX9_clear_9 (by decide) (fun c5 => ?_) (fun c5 => ?_)
  · skip
    have tc5 := nu_le c5
    have uc5 : (0 : Int32).toInt = 0 := rfl
    refine lv_iload_n hx hb dX9_clear_24 rfl (lv_at hl4 0 rfl) ?_
    rw [← hQ]
    exact en_i Z S0 F0_ trivial dX9_clear_25
  · skip
    have tc5 := nu_nle c5
    have uc5 : (0 : Int32).toInt = 0 := rfl
    refine lv_aload_n hx hb dX9_clear_12 rfl (lv_at hl4 1 rfl) ?_
    refine tc_vv Z.1 Z.2.2.2.1 Z.2.2.2.2.1 Z.2.2.2.2.2 S0.1 S0.2 ha0 ta0 rfl rfl (k_X9_keepAct l D cy S0.2 ha0 ta0) (cwV 0 hts gX9_clear_X9_keepAct rfl rfl rfl (by decide +kernel) ⟨Nat.le_of_ble_eq_true rfl, Nat.le_of_ble_eq_true rfl⟩) rfl hl4.1 rfl (Nat.le_of_ble_eq_true rfl) dX9_clear_13 ⟨Nat.zero_le _, Nat.zero_le _⟩ (fun E6 H7 k8 W6 I6 G6 p6 => ?_)
    have S6 : Now D TB cy (va_A (va_pl L E) sz) s L τ E6 H7 k8 := ⟨W6, I6⟩
    have F6 : Fr L τ (inW [(1, 1), (20, 1), (21, 1), (22, 1), (23, 1), (24, 1), (25, 1), (26, 1), (27, 1), (4, 0), (0, 0), (1, 0), (20, 0), (21, 0), (22, 0), (23, 0), (24, 0), (25, 0), (26, 0), (27, 0)]) E E6 := F0_.trans (G6.mono (inW_mono (by decide)))
    refine lv_aload_n hx hb dX9_clear_16 rfl (lv_at hl4 1 rfl) ?_
    refine tr_getr Z.1 Z.2.2.2.1 S6.1 S6.2 ha0 ta0 rfl rfl (fun _ h => List.mem_cons_of_mem _ (List.mem_append_left _ (List.mem_append_left _ (List.mem_append_right _ h)))) 0 (by decide) rfl (hts _ (List.mem_of_getElem? (i := 1) rfl)) dX9_clear_17 (fun q10 eq10 hq10 tq10 => ?_)
    have tq10 : τ q10 = (1, 0) := tq10
    have uq10 : q1 = q10 := S6.2.2.2.2 _ hq1 _ hq10 (tq1.trans tq10.symm) (by rw [tq1]; rfl)
    subst uq10
    obtain ⟨v11, ev11, tv11⟩ : ∃ v : Int32, Int32.ofInt (0) = v ∧ v.toInt = 0 := ⟨_, rfl, by decide +kernel⟩
    refine lv_iconst hx hb dX9_clear_20 ev11 ?_
    refine tr_puti Z.1 Z.2.2.2.1 S6.1 S6.2 hq1 tq1 rfl rfl (fun _ h => List.mem_cons_of_mem _ (List.mem_append_left _ (List.mem_append_right _ h))) tyX4_ok nmX4 6 (by decide) rfl rfl rfl (hts _ (List.mem_of_getElem? (i := 2) rfl)) dX9_clear_21 (by omega) (by omega) (fun E12 H13 k14 W12 I12 P12 => ?_)
    have S12 : Now D TB cy (va_A (va_pl L E) sz) s L τ E12 H13 k14 := ⟨W12, I12⟩
    have F12 : Fr L τ (inW [(1, 1), (20, 1), (21, 1), (22, 1), (23, 1), (24, 1), (25, 1), (26, 1), (27, 1), (4, 0), (0, 0), (1, 0), (20, 0), (21, 0), (22, 0), (23, 0), (24, 0), (25, 0), (26, 0), (27, 0)]) E E12 := Fr.put F6 P12 tq1 rfl
    refine lv_iload_n hx hb dX9_clear_24 rfl (lv_at hl4 0 rfl) ?_
    rw [← hQ]
    exact en_i Z S12 F12 trivial dX9_clear_25

set_option maxRecDepth 20000 in
theorem ggX9_repeal_X9_deny : GoodIn wsX9_repeal wsX9_deny := goodIn_r _ [8, 9, 57, 58, 59, 60, 61, 62, 63, 64, 65, 66, 67] (by decide +kernel) (by decide +kernel)
set_option maxRecDepth 20000 in
theorem gX9_repeal_X9_deny : GoodIn wsX9_repeal (wsV RX9 77 RX9 yX9_deny wsX9_deny) := goodIn_app (goodIn_of _ (by decide +kernel)) ggX9_repeal_X9_deny
set_option maxRecDepth 20000 in
theorem ggX9_repeal_X9_beginAct : GoodIn wsX9_repeal wsX9_beginAct := goodIn_r _ [13, 9, 14, 15, 16, 7, 17, 18, 1, 19, 20, 21, 22, 23, 24, 25, 26, 27, 28, 29, 30, 31, 32, 33, 34, 35, 36, 37, 38, 39, 40, 41, 42, 43, 44, 45, 46, 47, 48, 49, 50, 51, 52, 53, 54, 55, 56, 57, 58, 59, 60, 61, 62, 63, 64, 65, 66, 67, 84, 85, 86, 68, 69, 70, 71, 72, 73, 74, 75, 76, 77, 78, 79, 80, 81, 82, 83] (by decide +kernel) (by decide +kernel)
set_option maxRecDepth 20000 in
theorem gX9_repeal_X9_beginAct : GoodIn wsX9_repeal (wsV RX9 81 RX9 yX9_beginAct wsX9_beginAct) := goodIn_app (goodIn_of _ (by decide +kernel)) ggX9_repeal_X9_beginAct
theorem dX9_repeal_0 : decode cX9_repeal 0 = .ok (.aload_n 0, 1) := by decide +kernel
theorem dX9_repeal_1 : decode cX9_repeal 1 = .ok (.getfield 10, 3) := by decide +kernel
theorem dX9_repeal_4 : decode cX9_repeal 4 = .ok (.getfield 128, 3) := by decide +kernel
theorem dX9_repeal_7 : decode cX9_repeal 7 = .ok (.ifCond .gt 9, 3) := by decide +kernel
theorem dX9_repeal_10 : decode cX9_repeal 10 = .ok (.aload_n 0, 1) := by decide +kernel
theorem dX9_repeal_11 : decode cX9_repeal 11 = .ok (.iconst 4, 1) := by decide +kernel
theorem dX9_repeal_12 : decode cX9_repeal 12 = .ok (.invokevirtual 77, 3) := by decide +kernel
theorem dX9_repeal_15 : decode cX9_repeal 15 = .ok (.ireturn, 1) := by decide +kernel
theorem dX9_repeal_16 : decode cX9_repeal 16 = .ok (.aload_n 0, 1) := by decide +kernel
theorem dX9_repeal_17 : decode cX9_repeal 17 = .ok (.invokevirtual 81, 3) := by decide +kernel
theorem dX9_repeal_20 : decode cX9_repeal 20 = .ok (.aload_n 0, 1) := by decide +kernel
theorem dX9_repeal_21 : decode cX9_repeal 21 = .ok (.getfield 10, 3) := by decide +kernel
theorem dX9_repeal_24 : decode cX9_repeal 24 = .ok (.dup, 1) := by decide +kernel
theorem dX9_repeal_25 : decode cX9_repeal 25 = .ok (.getfield 128, 3) := by decide +kernel
theorem dX9_repeal_28 : decode cX9_repeal 28 = .ok (.iconst 1, 1) := by decide +kernel
theorem dX9_repeal_29 : decode cX9_repeal 29 = .ok (.isub, 1) := by decide +kernel
theorem dX9_repeal_30 : decode cX9_repeal 30 = .ok (.putfield 128, 3) := by decide +kernel
theorem dX9_repeal_33 : decode cX9_repeal 33 = .ok (.aload_n 0, 1) := by decide +kernel
theorem dX9_repeal_34 : decode cX9_repeal 34 = .ok (.getfield 10, 3) := by decide +kernel
theorem dX9_repeal_37 : decode cX9_repeal 37 = .ok (.getfield 184, 3) := by decide +kernel
theorem dX9_repeal_40 : decode cX9_repeal 40 = .ok (.aload_n 0, 1) := by decide +kernel
theorem dX9_repeal_41 : decode cX9_repeal 41 = .ok (.getfield 10, 3) := by decide +kernel
theorem dX9_repeal_44 : decode cX9_repeal 44 = .ok (.getfield 128, 3) := by decide +kernel
theorem dX9_repeal_47 : decode cX9_repeal 47 = .ok (.aconst_null, 1) := by decide +kernel
theorem dX9_repeal_48 : decode cX9_repeal 48 = .ok (.aastore, 1) := by decide +kernel
theorem dX9_repeal_49 : decode cX9_repeal 49 = .ok (.iconst 1, 1) := by decide +kernel
theorem dX9_repeal_50 : decode cX9_repeal 50 = .ok (.ireturn, 1) := by decide +kernel
set_option maxHeartbeats 4000000 in
set_option maxRecDepth 100000 in
theorem k_X9_repeal (l : Launch) (D : va_G) (cy : Nat → ClassId) {L : List Nat} {τ : Nat → Ro} {E : Ec} (hI : Inv TB cy L τ E) {a0 : Nat} (ha0 : a0 ∈ L) (ta0 : τ a0 = (0, 0)) : CtI l yX9_repeal wsX9_repeal { frames := 5, cells := 0, slots := 0, locals := 123 } D TB cy L τ E [.ref a0] (inW [(1, 1), (20, 1), (21, 1), (22, 1), (23, 1), (24, 1), (25, 1), (26, 1), (27, 1), (4, 0), (0, 0), (1, 0), (20, 0), (21, 0), (22, 0), (23, 0), (24, 0), (25, 0), (26, 0), (27, 0)]) (fun r E' => 0 ≤ r.toInt ∧ r.toInt ≤ 1) := by
  intro sz
  refine sta (cc := cX9_repeal) (maxL := 1) hI (by decide) rfl (Nat.le_of_ble_eq_true rfl) (fun p e s m args below meth c ls hsz Z S0 hl => ?_)
  have hx := Z.1.1
  have hb := Z.1.2.1
  have hts := Z.1.2.2.2.2
  have F0_ : Fr L τ (inW [(1, 1), (20, 1), (21, 1), (22, 1), (23, 1), (24, 1), (25, 1), (26, 1), (27, 1), (4, 0), (0, 0), (1, 0), (20, 0), (21, 0), (22, 0), (23, 0), (24, 0), (25, 0), (26, 0), (27, 0)]) E E := Fr.refl
  have hl : lv_has ls 1 [(0, .ref a0)] := hl
  generalize hQ : MQ below _ args s 0 0 _ = QQ
  refine lv_aload_n hx hb dX9_repeal_0 rfl (lv_at hl 0 rfl) ?_
  refine tr_getr Z.1 Z.2.2.2.1 S0.1 S0.2 ha0 ta0 rfl rfl (fun _ h => List.mem_cons_of_mem _ (List.mem_append_left _ (List.mem_append_left _ (List.mem_append_right _ h)))) 0 (by decide) rfl (hts _ (List.mem_of_getElem? (i := 1) rfl)) dX9_repeal_1 (fun q1 eq1 hq1 tq1 => ?_)
  have tq1 : τ q1 = (1, 0) := tq1
  refine tr_geti Z.1 Z.2.2.2.1 S0.1 S0.2 hq1 tq1 rfl rfl (fun _ h => List.mem_cons_of_mem _ (List.mem_append_left _ (List.mem_append_right _ h))) 7 (by decide) rfl (hts _ (List.mem_of_getElem? (i := 2) rfl)) dX9_repeal_4 (fun v2 ev2 lv2 uv2 => ?_)
  refine lv_if_gt (tgt := 16) hx hb dX9_repeal_7 (by decide) (fun c3 => ?_) (fun c3 => ?_)
  · skip
    have tc3 := nu_lt c3
    have uc3 : (0 : Int32).toInt = 0 := rfl
    refine lv_aload_n hx hb dX9_repeal_16 rfl (lv_at hl 0 rfl) ?_
    refine tc_vv Z.1 Z.2.2.2.1 Z.2.2.2.2.1 Z.2.2.2.2.2 S0.1 S0.2 ha0 ta0 rfl rfl (k_X9_beginAct l D cy S0.2 ha0 ta0) (cwV 0 hts gX9_repeal_X9_beginAct rfl rfl rfl (by decide +kernel) ⟨Nat.le_of_ble_eq_true rfl, Nat.le_of_ble_eq_true rfl⟩) rfl hl.1 rfl (Nat.le_of_ble_eq_true rfl) dX9_repeal_17 ⟨Nat.zero_le _, Nat.zero_le _⟩ (fun E4 H5 k6 W4 I4 G4 p4 => ?_)
    have S4 : Now D TB cy (va_A (va_pl L E) sz) s L τ E4 H5 k6 := ⟨W4, I4⟩
    have F4 : Fr L τ (inW [(1, 1), (20, 1), (21, 1), (22, 1), (23, 1), (24, 1), (25, 1), (26, 1), (27, 1), (4, 0), (0, 0), (1, 0), (20, 0), (21, 0), (22, 0), (23, 0), (24, 0), (25, 0), (26, 0), (27, 0)]) E E4 := F0_.trans (G4.mono (inW_mono (by decide)))
    refine lv_aload_n hx hb dX9_repeal_20 rfl (lv_at hl 0 rfl) ?_
    refine tr_getr Z.1 Z.2.2.2.1 S4.1 S4.2 ha0 ta0 rfl rfl (fun _ h => List.mem_cons_of_mem _ (List.mem_append_left _ (List.mem_append_left _ (List.mem_append_right _ h)))) 0 (by decide) rfl (hts _ (List.mem_of_getElem? (i := 1) rfl)) dX9_repeal_21 (fun q8 eq8 hq8 tq8 => ?_)
    have tq8 : τ q8 = (1, 0) := tq8
    have uq8 : q1 = q8 := S4.2.2.2.2 _ hq1 _ hq8 (tq1.trans tq8.symm) (by rw [tq1]; rfl)
    subst uq8
    refine lv_dup hx hb dX9_repeal_24 rfl ?_
    refine tr_geti Z.1 Z.2.2.2.1 S4.1 S4.2 hq1 tq1 rfl rfl (fun _ h => List.mem_cons_of_mem _ (List.mem_append_left _ (List.mem_append_right _ h))) 7 (by decide) rfl (hts _ (List.mem_of_getElem? (i := 2) rfl)) dX9_repeal_25 (fun v9 ev9 lv9 uv9 => ?_)
    have wv9 : v9 = v2 := ev9.symm.trans ((fi_fr G4 hq1 (by rw [tq1]; rfl)).trans ev2)
    have xv9 : v9.toInt = v2.toInt := by rw [wv9]
    obtain ⟨v10, ev10, tv10⟩ : ∃ v : Int32, Int32.ofInt (1) = v ∧ v.toInt = 1 := ⟨_, rfl, by decide +kernel⟩
    refine lv_iconst hx hb dX9_repeal_28 ev10 ?_
    refine lv_isub hx hb dX9_repeal_29 ?_
    refine lv_topi (fun v11 ev11 => ?_)
    have tv11 := nu_sub ev11 (by omega) (by omega)
    refine tr_puti Z.1 Z.2.2.2.1 S4.1 S4.2 hq1 tq1 rfl rfl (fun _ h => List.mem_cons_of_mem _ (List.mem_append_left _ (List.mem_append_right _ h))) tyX4_ok nmX4 7 (by decide) rfl rfl rfl (hts _ (List.mem_of_getElem? (i := 2) rfl)) dX9_repeal_30 (by omega) (by omega) (fun E12 H13 k14 W12 I12 P12 => ?_)
    have S12 : Now D TB cy (va_A (va_pl L E) sz) s L τ E12 H13 k14 := ⟨W12, I12⟩
    have F12 : Fr L τ (inW [(1, 1), (20, 1), (21, 1), (22, 1), (23, 1), (24, 1), (25, 1), (26, 1), (27, 1), (4, 0), (0, 0), (1, 0), (20, 0), (21, 0), (22, 0), (23, 0), (24, 0), (25, 0), (26, 0), (27, 0)]) E E12 := Fr.put F4 P12 tq1 rfl
    refine lv_aload_n hx hb dX9_repeal_33 rfl (lv_at hl 0 rfl) ?_
    refine tr_getr Z.1 Z.2.2.2.1 S12.1 S12.2 ha0 ta0 rfl rfl (fun _ h => List.mem_cons_of_mem _ (List.mem_append_left _ (List.mem_append_left _ (List.mem_append_right _ h)))) 0 (by decide) rfl (hts _ (List.mem_of_getElem? (i := 1) rfl)) dX9_repeal_34 (fun q15 eq15 hq15 tq15 => ?_)
    have tq15 : τ q15 = (1, 0) := tq15
    have uq15 : q1 = q15 := S12.2.2.2.2 _ hq1 _ hq15 (tq1.trans tq15.symm) (by rw [tq1]; rfl)
    subst uq15
    refine tr_getr Z.1 Z.2.2.2.1 S12.1 S12.2 hq1 tq1 rfl rfl (fun _ h => List.mem_cons_of_mem _ (List.mem_append_left _ (List.mem_append_right _ h))) 15 (by decide) rfl (hts _ (List.mem_of_getElem? (i := 3) rfl)) dX9_repeal_37 (fun q16 eq16 hq16 tq16 => ?_)
    have tq16 : τ q16 = (27, 0) := tq16
    refine lv_aload_n hx hb dX9_repeal_40 rfl (lv_at hl 0 rfl) ?_
    refine tr_getr Z.1 Z.2.2.2.1 S12.1 S12.2 ha0 ta0 rfl rfl (fun _ h => List.mem_cons_of_mem _ (List.mem_append_left _ (List.mem_append_left _ (List.mem_append_right _ h)))) 0 (by decide) rfl (hts _ (List.mem_of_getElem? (i := 1) rfl)) dX9_repeal_41 (fun q17 eq17 hq17 tq17 => ?_)
    have tq17 : τ q17 = (1, 0) := tq17
    have uq17 : q1 = q17 := S12.2.2.2.2 _ hq1 _ hq17 (tq1.trans tq17.symm) (by rw [tq1]; rfl)
    subst uq17
    refine tr_geti Z.1 Z.2.2.2.1 S12.1 S12.2 hq1 tq1 rfl rfl (fun _ h => List.mem_cons_of_mem _ (List.mem_append_left _ (List.mem_append_right _ h))) 7 (by decide) rfl (hts _ (List.mem_of_getElem? (i := 2) rfl)) dX9_repeal_44 (fun v18 ev18 lv18 uv18 => ?_)
    have wv18 : v18 = v11 := ev18.symm.trans (fi_at P12)
    have xv18 : v18.toInt = v11.toInt := by rw [wv18]
    refine lv_null hx hb dX9_repeal_47 ?_
    have hv19 : ∀ y : Nat, none = some y → y ∈ L ∧ (τ y).1 = 10 := (fun _ h => nomatch h)
    refine tr_aast (v := none) (ci := 1) Z.1 Z.2.2.2.1 S12.1 S12.2 hq16 tq16 rfl rfl rfl (law_ob hv19) (law_ok hv19) (by omega) (by omega) dX9_repeal_48 (fun E19 H20 k21 W19 I19 P19 => ?_)
    have S19 : Now D TB cy (va_A (va_pl L E) sz) s L τ E19 H20 k21 := ⟨W19, I19⟩
    have F19 : Fr L τ (inW [(1, 1), (20, 1), (21, 1), (22, 1), (23, 1), (24, 1), (25, 1), (26, 1), (27, 1), (4, 0), (0, 0), (1, 0), (20, 0), (21, 0), (22, 0), (23, 0), (24, 0), (25, 0), (26, 0), (27, 0)]) E E19 := Fr.seq F12 P19 tq16 rfl
    obtain ⟨v22, ev22, tv22⟩ : ∃ v : Int32, Int32.ofInt (1) = v ∧ v.toInt = 1 := ⟨_, rfl, by decide +kernel⟩
    refine lv_iconst hx hb dX9_repeal_49 ev22 ?_
    rw [← hQ]
    exact en_z Z S19 F19 (zo v22 (by omega)) ⟨(by omega), (by omega)⟩ dX9_repeal_50
  · skip
    have tc3 := nu_nlt c3
    have uc3 : (0 : Int32).toInt = 0 := rfl
    refine lv_aload_n hx hb dX9_repeal_10 rfl (lv_at hl 0 rfl) ?_
    obtain ⟨v23, ev23, tv23⟩ : ∃ v : Int32, Int32.ofInt (4) = v ∧ v.toInt = 4 := ⟨_, rfl, by decide +kernel⟩
    refine lv_iconst hx hb dX9_repeal_11 ev23 ?_
    refine tc_vi Z.1 Z.2.2.2.1 Z.2.2.2.2.1 Z.2.2.2.2.2 S0.1 S0.2 ha0 ta0 rfl rfl (k_X9_deny l D cy S0.2 ha0 ta0 v23) (cwV 1 hts gX9_repeal_X9_deny rfl rfl rfl (by decide +kernel) ⟨Nat.le_of_ble_eq_true rfl, Nat.le_of_ble_eq_true rfl⟩) rfl hl.1 rfl (Nat.le_of_ble_eq_true rfl) dX9_repeal_12 ⟨Nat.zero_le _, Nat.zero_le _⟩ (fun v27 E24 H25 k26 W24 I24 G24 p24 => ?_)
    obtain ⟨p24_0, p24_1⟩ := p24
    have S24 : Now D TB cy (va_A (va_pl L E) sz) s L τ E24 H25 k26 := ⟨W24, I24⟩
    have F24 : Fr L τ (inW [(1, 1), (20, 1), (21, 1), (22, 1), (23, 1), (24, 1), (25, 1), (26, 1), (27, 1), (4, 0), (0, 0), (1, 0), (20, 0), (21, 0), (22, 0), (23, 0), (24, 0), (25, 0), (26, 0), (27, 0)]) E E24 := F0_.trans (G24.mono (inW_mono (by decide)))
    rw [← hQ]
    exact en_z Z S24 F24 (zo v27 (by omega)) ⟨(by omega), (by omega)⟩ dX9_repeal_15

set_option maxRecDepth 20000 in
theorem ggX9_take_X9_deny : GoodIn wsX9_take wsX9_deny := goodIn_r _ [12, 13, 61, 62, 63, 64, 65, 66, 67, 68, 69, 70, 71] (by decide +kernel) (by decide +kernel)
set_option maxRecDepth 20000 in
theorem gX9_take_X9_deny : GoodIn wsX9_take (wsV RX9 77 RX9 yX9_deny wsX9_deny) := goodIn_app (goodIn_of _ (by decide +kernel)) ggX9_take_X9_deny
set_option maxRecDepth 20000 in
theorem ggX9_take_X9_beginAct : GoodIn wsX9_take wsX9_beginAct := goodIn_r _ [17, 13, 18, 19, 20, 11, 21, 22, 4, 23, 24, 25, 26, 27, 28, 29, 30, 31, 32, 33, 34, 35, 36, 37, 38, 39, 40, 41, 42, 43, 44, 45, 46, 47, 48, 49, 50, 51, 52, 53, 54, 55, 56, 57, 58, 59, 60, 61, 62, 63, 64, 65, 66, 67, 68, 69, 70, 71, 99, 100, 101, 83, 84, 85, 86, 87, 88, 89, 90, 91, 92, 93, 94, 95, 96, 97, 98] (by decide +kernel) (by decide +kernel)
set_option maxRecDepth 20000 in
theorem gX9_take_X9_beginAct : GoodIn wsX9_take (wsV RX9 81 RX9 yX9_beginAct wsX9_beginAct) := goodIn_app (goodIn_of _ (by decide +kernel)) ggX9_take_X9_beginAct
theorem dX9_take_0 : decode cX9_take 0 = .ok (.aload_n 0, 1) := by decide +kernel
theorem dX9_take_1 : decode cX9_take 1 = .ok (.getfield 47, 3) := by decide +kernel
theorem dX9_take_4 : decode cX9_take 4 = .ok (.getfield 236, 3) := by decide +kernel
theorem dX9_take_7 : decode cX9_take 7 = .ok (.ifCond .le 20, 3) := by decide +kernel
theorem dX9_take_10 : decode cX9_take 10 = .ok (.aload_n 0, 1) := by decide +kernel
theorem dX9_take_11 : decode cX9_take 11 = .ok (.getfield 47, 3) := by decide +kernel
theorem dX9_take_14 : decode cX9_take 14 = .ok (.getfield 251, 3) := by decide +kernel
theorem dX9_take_17 : decode cX9_take 17 = .ok (.aload_n 0, 1) := by decide +kernel
theorem dX9_take_18 : decode cX9_take 18 = .ok (.getfield 10, 3) := by decide +kernel
theorem dX9_take_21 : decode cX9_take 21 = .ok (.getfield 96, 3) := by decide +kernel
theorem dX9_take_24 : decode cX9_take 24 = .ok (.if_icmp .eq 9, 3) := by decide +kernel
theorem dX9_take_27 : decode cX9_take 27 = .ok (.aload_n 0, 1) := by decide +kernel
theorem dX9_take_28 : decode cX9_take 28 = .ok (.iconst 5, 1) := by decide +kernel
theorem dX9_take_29 : decode cX9_take 29 = .ok (.invokevirtual 77, 3) := by decide +kernel
theorem dX9_take_32 : decode cX9_take 32 = .ok (.ireturn, 1) := by decide +kernel
theorem dX9_take_33 : decode cX9_take 33 = .ok (.aload_n 0, 1) := by decide +kernel
theorem dX9_take_34 : decode cX9_take 34 = .ok (.invokevirtual 81, 3) := by decide +kernel
theorem dX9_take_37 : decode cX9_take 37 = .ok (.iconst 0, 1) := by decide +kernel
theorem dX9_take_38 : decode cX9_take 38 = .ok (.istore_n 1, 1) := by decide +kernel
theorem dX9_take_39 : decode cX9_take 39 = .ok (.iload_n 1, 1) := by decide +kernel
theorem dX9_take_40 : decode cX9_take 40 = .ok (.aload_n 0, 1) := by decide +kernel
theorem dX9_take_41 : decode cX9_take 41 = .ok (.getfield 10, 3) := by decide +kernel
theorem dX9_take_44 : decode cX9_take 44 = .ok (.getfield 96, 3) := by decide +kernel
theorem dX9_take_47 : decode cX9_take 47 = .ok (.if_icmp .ge 27, 3) := by decide +kernel
theorem dX9_take_50 : decode cX9_take 50 = .ok (.aload_n 0, 1) := by decide +kernel
theorem dX9_take_51 : decode cX9_take 51 = .ok (.getfield 10, 3) := by decide +kernel
theorem dX9_take_54 : decode cX9_take 54 = .ok (.getfield 99, 3) := by decide +kernel
theorem dX9_take_57 : decode cX9_take 57 = .ok (.iload_n 1, 1) := by decide +kernel
theorem dX9_take_58 : decode cX9_take 58 = .ok (.aload_n 0, 1) := by decide +kernel
theorem dX9_take_59 : decode cX9_take 59 = .ok (.getfield 47, 3) := by decide +kernel
theorem dX9_take_62 : decode cX9_take 62 = .ok (.getfield 252, 3) := by decide +kernel
theorem dX9_take_65 : decode cX9_take 65 = .ok (.iload_n 1, 1) := by decide +kernel
theorem dX9_take_66 : decode cX9_take 66 = .ok (.iaload, 1) := by decide +kernel
theorem dX9_take_67 : decode cX9_take 67 = .ok (.iastore, 1) := by decide +kernel
theorem dX9_take_68 : decode cX9_take 68 = .ok (.iinc 1 1, 3) := by decide +kernel
theorem dX9_take_71 : decode cX9_take 71 = .ok (.goto (-32), 3) := by decide +kernel
theorem dX9_take_74 : decode cX9_take 74 = .ok (.iconst 1, 1) := by decide +kernel
theorem dX9_take_75 : decode cX9_take 75 = .ok (.ireturn, 1) := by decide +kernel
set_option maxHeartbeats 4000000 in
set_option maxRecDepth 100000 in
theorem k_X9_take (l : Launch) (D : va_G) (cy : Nat → ClassId) {L : List Nat} {τ : Nat → Ro} {E : Ec} (hI : Inv TB cy L τ E) {a0 : Nat} (ha0 : a0 ∈ L) (ta0 : τ a0 = (0, 0)) : CtI l yX9_take wsX9_take { frames := 5, cells := 0, slots := 0, locals := 123 } D TB cy L τ E [.ref a0] (inW [(1, 1), (20, 1), (21, 1), (22, 1), (23, 1), (24, 1), (25, 1), (26, 1), (27, 1), (4, 0), (0, 0), (1, 0), (20, 0), (21, 0), (22, 0), (23, 0), (24, 0), (25, 0), (26, 0), (27, 0)]) (fun r E' => 0 ≤ r.toInt ∧ r.toInt ≤ 1) := by
  intro sz
  refine sta (cc := cX9_take) (maxL := 2) hI (by decide) rfl (Nat.le_of_ble_eq_true rfl) (fun p e s m args below meth c ls hsz Z S0 hl => ?_)
  have hx := Z.1.1
  have hb := Z.1.2.1
  have hts := Z.1.2.2.2.2
  have F0_ : Fr L τ (inW [(1, 1), (20, 1), (21, 1), (22, 1), (23, 1), (24, 1), (25, 1), (26, 1), (27, 1), (4, 0), (0, 0), (1, 0), (20, 0), (21, 0), (22, 0), (23, 0), (24, 0), (25, 0), (26, 0), (27, 0)]) E E := Fr.refl
  have hl : lv_has ls 2 [(0, .ref a0)] := hl
  generalize hQ : MQ below _ args s 0 0 _ = QQ
  have J39 : ∀ (n : Nat) (x1_39 : Int32) (E_39 : Ec) (H_39 : Heap) (k_39 : List Loc) (l_39 : Array Slot), Now D TB cy (va_A (va_pl L E) sz) s L τ E_39 H_39 k_39 → Fr L τ (inW [(1, 1), (20, 1), (21, 1), (22, 1), (23, 1), (24, 1), (25, 1), (26, 1), (27, 1), (4, 0), (0, 0), (1, 0), (20, 0), (21, 0), (22, 0), (23, 0), (24, 0), (25, 0), (26, 0), (27, 0)]) E E_39 → (0 ≤ x1_39.toInt) → (x1_39.toInt ≤ 3) → (3 - x1_39.toInt).toNat < n → lv_has l_39 2 [(0, .ref a0), (1, .int x1_39)] → W p l e { frames := 5, cells := 0, slots := 0, locals := 123 } s m args below meth c H_39 k_39 0 0 QQ (F0 m 39 l_39 []) := by
    intro n
    induction n with
    | zero => intro x1_39 E_39 H_39 k_39 l_39 S_39 F_39 z1 z2 hm hl_39; exact absurd hm (Nat.not_lt_zero _)
    | succ n ih =>
      intro x1_39 E_39 H_39 k_39 l_39 S_39 F_39 z1 z2 hm hl_39
      have ih_39 := ih
      refine lv_iload_n hx hb dX9_take_39 rfl (lv_at hl_39 1 rfl) ?_
      refine lv_aload_n hx hb dX9_take_40 rfl (lv_at hl_39 0 rfl) ?_
      refine tr_getr Z.1 Z.2.2.2.1 S_39.1 S_39.2 ha0 ta0 rfl rfl (fun _ h => List.mem_cons_of_mem _ (List.mem_append_left _ (List.mem_append_left _ (List.mem_append_left _ (List.mem_append_right _ h))))) 0 (by decide) rfl (hts _ (List.mem_of_getElem? (i := 4) rfl)) dX9_take_41 (fun q3 eq3 hq3 tq3 => ?_)
      have tq3 : τ q3 = (1, 0) := tq3
      refine tr_geti Z.1 Z.2.2.2.1 S_39.1 S_39.2 hq3 tq3 rfl rfl (fun _ h => List.mem_cons_of_mem _ (List.mem_append_left _ (List.mem_append_right _ h))) 4 (by decide) rfl (hts _ (List.mem_of_getElem? (i := 5) rfl)) dX9_take_44 (fun v4 ev4 lv4 uv4 => ?_)
      refine lv_icmp_ge (tgt := 74) hx hb dX9_take_47 (by decide) (fun c5 => ?_) (fun c5 => ?_)
      · skip
        have tc5 := nu_le c5
        obtain ⟨v6, ev6, tv6⟩ : ∃ v : Int32, Int32.ofInt (1) = v ∧ v.toInt = 1 := ⟨_, rfl, by decide +kernel⟩
        refine lv_iconst hx hb dX9_take_74 ev6 ?_
        rw [← hQ]
        exact en_z Z S_39 F_39 (zo v6 (by omega)) ⟨(by omega), (by omega)⟩ dX9_take_75
      · skip
        have tc5 := nu_nle c5
        refine lv_aload_n hx hb dX9_take_50 rfl (lv_at hl_39 0 rfl) ?_
        refine tr_getr Z.1 Z.2.2.2.1 S_39.1 S_39.2 ha0 ta0 rfl rfl (fun _ h => List.mem_cons_of_mem _ (List.mem_append_left _ (List.mem_append_left _ (List.mem_append_left _ (List.mem_append_right _ h))))) 0 (by decide) rfl (hts _ (List.mem_of_getElem? (i := 4) rfl)) dX9_take_51 (fun q7 eq7 hq7 tq7 => ?_)
        have tq7 : τ q7 = (1, 0) := tq7
        have uq7 : q3 = q7 := S_39.2.2.2.2 _ hq3 _ hq7 (tq3.trans tq7.symm) (by rw [tq3]; rfl)
        subst uq7
        refine tr_getr Z.1 Z.2.2.2.1 S_39.1 S_39.2 hq3 tq3 rfl rfl (fun _ h => List.mem_cons_of_mem _ (List.mem_append_left _ (List.mem_append_right _ h))) 8 (by decide) rfl (hts _ (List.mem_of_getElem? (i := 6) rfl)) dX9_take_54 (fun q8 eq8 hq8 tq8 => ?_)
        have tq8 : τ q8 = (20, 0) := tq8
        refine lv_iload_n hx hb dX9_take_57 rfl (lv_at hl_39 1 rfl) ?_
        refine lv_aload_n hx hb dX9_take_58 rfl (lv_at hl_39 0 rfl) ?_
        refine tr_getr Z.1 Z.2.2.2.1 S_39.1 S_39.2 ha0 ta0 rfl rfl (fun _ h => List.mem_cons_of_mem _ (List.mem_append_left _ (List.mem_append_left _ (List.mem_append_left _ (List.mem_append_right _ h))))) 5 (by decide) rfl (hts _ (List.mem_of_getElem? (i := 1) rfl)) dX9_take_59 (fun q9 eq9 hq9 tq9 => ?_)
        have tq9 : τ q9 = (8, 0) := tq9
        refine tr_getr Z.1 Z.2.2.2.1 S_39.1 S_39.2 hq9 tq9 rfl rfl (fun _ h => List.mem_cons_of_mem _ (List.mem_append_left _ (List.mem_append_left _ (List.mem_append_right _ h)))) 4 (by decide) rfl (hts _ (List.mem_of_getElem? (i := 7) rfl)) dX9_take_62 (fun q10 eq10 hq10 tq10 => ?_)
        have tq10 : τ q10 = (38, 0) := tq10
        refine lv_iload_n hx hb dX9_take_65 rfl (lv_at hl_39 1 rfl) ?_
        refine tr_iald Z.1 Z.2.2.2.1 S_39.1 S_39.2 hq10 tq10 rfl (by omega) (by omega) dX9_take_66 (fun v11 ev11 lv11 uv11 => ?_)
        refine tr_iast Z.1 Z.2.2.2.1 S_39.1 S_39.2 hq8 tq8 rfl (by omega) (by omega) (by have := fb_rng v11; omega) (by have := fb_rng v11; omega) dX9_take_67 (fun E12 H13 k14 W12 I12 P12 => ?_)
        have S12 : Now D TB cy (va_A (va_pl L E) sz) s L τ E12 H13 k14 := ⟨W12, I12⟩
        have F12 : Fr L τ (inW [(1, 1), (20, 1), (21, 1), (22, 1), (23, 1), (24, 1), (25, 1), (26, 1), (27, 1), (4, 0), (0, 0), (1, 0), (20, 0), (21, 0), (22, 0), (23, 0), (24, 0), (25, 0), (26, 0), (27, 0)]) E E12 := Fr.set F_39 P12 tq8 rfl
        obtain ⟨v15, ev15⟩ : ∃ y : Int32, x1_39 + Int32.ofInt (1) = y := ⟨_, rfl⟩
        have tv15 : v15.toInt = x1_39.toInt + (1) := by rw [← ev15]; exact (fb_addI (by rw [show (Int32.ofInt (1)).toInt = 1 from by decide +kernel]; omega) (by rw [show (Int32.ofInt (1)).toInt = 1 from by decide +kernel]; omega)).trans (by rw [show (Int32.ofInt (1)).toInt = 1 from by decide +kernel])
        refine lv_iinc (v := v15) (lv' := [(1, .int v15), (0, .ref a0)]) hx hb dX9_take_68 hl_39 (k := 1) rfl ev15 (by decide) rfl (fun l16 hl17 => ?_)
        refine lv_goto (tgt := 39) hx hb dX9_take_71 (by decide) ?_
        exact ih_39 v15 E12 H13 k14 l16 S12 F12 (by omega) (by omega) (by omega) (lv_sub hl17 [1, 0] rfl)
  have J27 : ∀  (E_27 : Ec) (H_27 : Heap) (k_27 : List Loc) (l_27 : Array Slot), Now D TB cy (va_A (va_pl L E) sz) s L τ E_27 H_27 k_27 → Fr L τ (inW [(1, 1), (20, 1), (21, 1), (22, 1), (23, 1), (24, 1), (25, 1), (26, 1), (27, 1), (4, 0), (0, 0), (1, 0), (20, 0), (21, 0), (22, 0), (23, 0), (24, 0), (25, 0), (26, 0), (27, 0)]) E E_27 → lv_has l_27 2 [(0, .ref a0)] → W p l e { frames := 5, cells := 0, slots := 0, locals := 123 } s m args below meth c H_27 k_27 0 0 QQ (F0 m 27 l_27 []) := by
    intro  E_27 H_27 k_27 l_27 S_27 F_27  hl_27
    refine lv_aload_n hx hb dX9_take_27 rfl (lv_at hl_27 0 rfl) ?_
    obtain ⟨v18, ev18, tv18⟩ : ∃ v : Int32, Int32.ofInt (5) = v ∧ v.toInt = 5 := ⟨_, rfl, by decide +kernel⟩
    refine lv_iconst hx hb dX9_take_28 ev18 ?_
    refine tc_vi Z.1 Z.2.2.2.1 Z.2.2.2.2.1 Z.2.2.2.2.2 S_27.1 S_27.2 ha0 ta0 rfl rfl (k_X9_deny l D cy S_27.2 ha0 ta0 v18) (cwV 1 hts gX9_take_X9_deny rfl rfl rfl (by decide +kernel) ⟨Nat.le_of_ble_eq_true rfl, Nat.le_of_ble_eq_true rfl⟩) rfl hl_27.1 rfl (Nat.le_of_ble_eq_true rfl) dX9_take_29 ⟨Nat.zero_le _, Nat.zero_le _⟩ (fun v22 E19 H20 k21 W19 I19 G19 p19 => ?_)
    obtain ⟨p19_0, p19_1⟩ := p19
    have S19 : Now D TB cy (va_A (va_pl L E) sz) s L τ E19 H20 k21 := ⟨W19, I19⟩
    have F19 : Fr L τ (inW [(1, 1), (20, 1), (21, 1), (22, 1), (23, 1), (24, 1), (25, 1), (26, 1), (27, 1), (4, 0), (0, 0), (1, 0), (20, 0), (21, 0), (22, 0), (23, 0), (24, 0), (25, 0), (26, 0), (27, 0)]) E E19 := F_27.trans (G19.mono (inW_mono (by decide)))
    rw [← hQ]
    exact en_z Z S19 F19 (zo v22 (by omega)) ⟨(by omega), (by omega)⟩ dX9_take_32
  refine lv_aload_n hx hb dX9_take_0 rfl (lv_at hl 0 rfl) ?_
  refine tr_getr Z.1 Z.2.2.2.1 S0.1 S0.2 ha0 ta0 rfl rfl (fun _ h => List.mem_cons_of_mem _ (List.mem_append_left _ (List.mem_append_left _ (List.mem_append_left _ (List.mem_append_right _ h))))) 5 (by decide) rfl (hts _ (List.mem_of_getElem? (i := 1) rfl)) dX9_take_1 (fun q23 eq23 hq23 tq23 => ?_)
  have tq23 : τ q23 = (8, 0) := tq23
  refine tr_geti Z.1 Z.2.2.2.1 S0.1 S0.2 hq23 tq23 rfl rfl (fun _ h => List.mem_cons_of_mem _ (List.mem_append_left _ (List.mem_append_left _ (List.mem_append_right _ h)))) 8 (by decide) rfl (hts _ (List.mem_of_getElem? (i := 2) rfl)) dX9_take_4 (fun v24 ev24 lv24 uv24 => ?_)
  refine lv_if_le (tgt := 27) hx hb dX9_take_7 (by decide) (fun c25 => ?_) (fun c25 => ?_)
  · skip
    have tc25 := nu_le c25
    have uc25 : (0 : Int32).toInt = 0 := rfl
    exact J27 E s.heap [] ls S0 F0_ (lv_sub hl [0] rfl)
  · skip
    have tc25 := nu_nle c25
    have uc25 : (0 : Int32).toInt = 0 := rfl
    refine lv_aload_n hx hb dX9_take_10 rfl (lv_at hl 0 rfl) ?_
    refine tr_getr Z.1 Z.2.2.2.1 S0.1 S0.2 ha0 ta0 rfl rfl (fun _ h => List.mem_cons_of_mem _ (List.mem_append_left _ (List.mem_append_left _ (List.mem_append_left _ (List.mem_append_right _ h))))) 5 (by decide) rfl (hts _ (List.mem_of_getElem? (i := 1) rfl)) dX9_take_11 (fun q26 eq26 hq26 tq26 => ?_)
    have tq26 : τ q26 = (8, 0) := tq26
    have uq26 : q23 = q26 := S0.2.2.2.2 _ hq23 _ hq26 (tq23.trans tq26.symm) (by rw [tq23]; rfl)
    subst uq26
    refine tr_geti Z.1 Z.2.2.2.1 S0.1 S0.2 hq23 tq23 rfl rfl (fun _ h => List.mem_cons_of_mem _ (List.mem_append_left _ (List.mem_append_left _ (List.mem_append_right _ h)))) 6 (by decide) rfl (hts _ (List.mem_of_getElem? (i := 3) rfl)) dX9_take_14 (fun v27 ev27 lv27 uv27 => ?_)
    refine lv_aload_n hx hb dX9_take_17 rfl (lv_at hl 0 rfl) ?_
    refine tr_getr Z.1 Z.2.2.2.1 S0.1 S0.2 ha0 ta0 rfl rfl (fun _ h => List.mem_cons_of_mem _ (List.mem_append_left _ (List.mem_append_left _ (List.mem_append_left _ (List.mem_append_right _ h))))) 0 (by decide) rfl (hts _ (List.mem_of_getElem? (i := 4) rfl)) dX9_take_18 (fun q28 eq28 hq28 tq28 => ?_)
    have tq28 : τ q28 = (1, 0) := tq28
    refine tr_geti Z.1 Z.2.2.2.1 S0.1 S0.2 hq28 tq28 rfl rfl (fun _ h => List.mem_cons_of_mem _ (List.mem_append_left _ (List.mem_append_right _ h))) 4 (by decide) rfl (hts _ (List.mem_of_getElem? (i := 5) rfl)) dX9_take_21 (fun v29 ev29 lv29 uv29 => ?_)
    refine lv_icmp_eq (tgt := 33) hx hb dX9_take_24 (by decide) (fun c30 => ?_) (fun c30 => ?_)
    · skip
      have tc30 := nu_eq c30
      refine lv_aload_n hx hb dX9_take_33 rfl (lv_at hl 0 rfl) ?_
      refine tc_vv Z.1 Z.2.2.2.1 Z.2.2.2.2.1 Z.2.2.2.2.2 S0.1 S0.2 ha0 ta0 rfl rfl (k_X9_beginAct l D cy S0.2 ha0 ta0) (cwV 0 hts gX9_take_X9_beginAct rfl rfl rfl (by decide +kernel) ⟨Nat.le_of_ble_eq_true rfl, Nat.le_of_ble_eq_true rfl⟩) rfl hl.1 rfl (Nat.le_of_ble_eq_true rfl) dX9_take_34 ⟨Nat.zero_le _, Nat.zero_le _⟩ (fun E31 H32 k33 W31 I31 G31 p31 => ?_)
      have S31 : Now D TB cy (va_A (va_pl L E) sz) s L τ E31 H32 k33 := ⟨W31, I31⟩
      have F31 : Fr L τ (inW [(1, 1), (20, 1), (21, 1), (22, 1), (23, 1), (24, 1), (25, 1), (26, 1), (27, 1), (4, 0), (0, 0), (1, 0), (20, 0), (21, 0), (22, 0), (23, 0), (24, 0), (25, 0), (26, 0), (27, 0)]) E E31 := F0_.trans (G31.mono (inW_mono (by decide)))
      obtain ⟨v35, ev35, tv35⟩ : ∃ v : Int32, Int32.ofInt (0) = v ∧ v.toInt = 0 := ⟨_, rfl, by decide +kernel⟩
      refine lv_iconst hx hb dX9_take_37 ev35 ?_
      refine lv_istore_n (lv' := [(1, .int v35), (0, .ref a0)]) hx hb dX9_take_38 rfl hl (by decide) rfl (fun l36 hl37 => ?_)
      exact J39 _ v35 E31 H32 k33 l36 S31 F31 (by omega) (by omega) (Nat.lt_succ_self _) (lv_sub hl37 [1, 0] rfl)
    · skip
      have tc30 := nu_ne c30
      exact J27 E s.heap [] ls S0 F0_ (lv_sub hl [0] rfl)

set_option maxRecDepth 20000 in
theorem ggX9_undo_X3_takeBack : GoodIn wsX9_undo wsX3_takeBack := goodIn_r _ [8, 9, 10, 11, 12, 13, 14, 15, 16, 17, 18, 19, 20, 21, 22, 23, 24, 25, 26, 27, 28, 29, 30, 31, 32, 33, 34, 35, 36, 48, 49, 50, 51, 52, 53, 54, 55, 56, 57, 58, 59, 60, 61, 62, 63, 64, 65, 66] (by decide +kernel) (by decide +kernel)
set_option maxRecDepth 20000 in
theorem gX9_undo_X3_takeBack : GoodIn wsX9_undo (wsV RX9 284 RX3 yX3_takeBack wsX3_takeBack) := goodIn_app (goodIn_of _ (by decide +kernel)) ggX9_undo_X3_takeBack
theorem dX9_undo_0 : decode cX9_undo 0 = .ok (.aload_n 0, 1) := by decide +kernel
theorem dX9_undo_1 : decode cX9_undo 1 = .ok (.getfield 19, 3) := by decide +kernel
theorem dX9_undo_4 : decode cX9_undo 4 = .ok (.aload_n 0, 1) := by decide +kernel
theorem dX9_undo_5 : decode cX9_undo 5 = .ok (.getfield 10, 3) := by decide +kernel
theorem dX9_undo_8 : decode cX9_undo 8 = .ok (.invokevirtual 284, 3) := by decide +kernel
theorem dX9_undo_11 : decode cX9_undo 11 = .ok (.ifCond .ne 5, 3) := by decide +kernel
theorem dX9_undo_14 : decode cX9_undo 14 = .ok (.iconst 0, 1) := by decide +kernel
theorem dX9_undo_15 : decode cX9_undo 15 = .ok (.ireturn, 1) := by decide +kernel
theorem dX9_undo_16 : decode cX9_undo 16 = .ok (.aload_n 0, 1) := by decide +kernel
theorem dX9_undo_17 : decode cX9_undo 17 = .ok (.iconst 1, 1) := by decide +kernel
theorem dX9_undo_18 : decode cX9_undo 18 = .ok (.putfield 69, 3) := by decide +kernel
theorem dX9_undo_21 : decode cX9_undo 21 = .ok (.iconst 1, 1) := by decide +kernel
theorem dX9_undo_22 : decode cX9_undo 22 = .ok (.ireturn, 1) := by decide +kernel
set_option maxHeartbeats 4000000 in
set_option maxRecDepth 100000 in
theorem k_X9_undo (l : Launch) (D : va_G) (cy : Nat → ClassId) {L : List Nat} {τ : Nat → Ro} {E : Ec} (hI : Inv TB cy L τ E) {a0 : Nat} (ha0 : a0 ∈ L) (ta0 : τ a0 = (0, 0)) : CtI l yX9_undo wsX9_undo { frames := 3, cells := 0, slots := 0, locals := 83 } D TB cy L τ E [.ref a0] (inW [(0, 0), (4, 0), (1, 0), (20, 0), (21, 0), (22, 0), (23, 0), (24, 0), (25, 0), (26, 0), (27, 0)]) (fun r E' => 0 ≤ r.toInt ∧ r.toInt ≤ 1) := by
  intro sz
  refine sta (cc := cX9_undo) (maxL := 1) hI (by decide) rfl (Nat.le_of_ble_eq_true rfl) (fun p e s m args below meth c ls hsz Z S0 hl => ?_)
  have hx := Z.1.1
  have hb := Z.1.2.1
  have hts := Z.1.2.2.2.2
  have F0_ : Fr L τ (inW [(0, 0), (4, 0), (1, 0), (20, 0), (21, 0), (22, 0), (23, 0), (24, 0), (25, 0), (26, 0), (27, 0)]) E E := Fr.refl
  have hl : lv_has ls 1 [(0, .ref a0)] := hl
  generalize hQ : MQ below _ args s 0 0 _ = QQ
  refine lv_aload_n hx hb dX9_undo_0 rfl (lv_at hl 0 rfl) ?_
  refine tr_getr Z.1 Z.2.2.2.1 S0.1 S0.2 ha0 ta0 rfl rfl (fun _ h => List.mem_cons_of_mem _ (List.mem_append_left _ (List.mem_append_left _ (List.mem_append_right _ h)))) 1 (by decide) rfl (hts _ (List.mem_of_getElem? (i := 1) rfl)) dX9_undo_1 (fun q1 eq1 hq1 tq1 => ?_)
  have tq1 : τ q1 = (4, 0) := tq1
  refine lv_aload_n hx hb dX9_undo_4 rfl (lv_at hl 0 rfl) ?_
  refine tr_getr Z.1 Z.2.2.2.1 S0.1 S0.2 ha0 ta0 rfl rfl (fun _ h => List.mem_cons_of_mem _ (List.mem_append_left _ (List.mem_append_left _ (List.mem_append_right _ h)))) 0 (by decide) rfl (hts _ (List.mem_of_getElem? (i := 2) rfl)) dX9_undo_5 (fun q2 eq2 hq2 tq2 => ?_)
  have tq2 : τ q2 = (1, 0) := tq2
  refine tc_vi Z.1 Z.2.2.2.1 Z.2.2.2.2.1 Z.2.2.2.2.2 S0.1 S0.2 hq1 tq1 rfl rfl (k_X3_takeBack l D cy S0.2 hq1 tq1 hq2 tq2) (cwV 1 hts gX9_undo_X3_takeBack rfl rfl rfl (by decide +kernel) ⟨Nat.le_of_ble_eq_true rfl, Nat.le_of_ble_eq_true rfl⟩) rfl hl.1 rfl (Nat.le_of_ble_eq_true rfl) dX9_undo_8 ⟨Nat.zero_le _, Nat.zero_le _⟩ (fun v6 E3 H4 k5 W3 I3 G3 p3 => ?_)
  obtain ⟨p3_0, p3_1⟩ := p3
  have S3 : Now D TB cy (va_A (va_pl L E) sz) s L τ E3 H4 k5 := ⟨W3, I3⟩
  have F3 : Fr L τ (inW [(0, 0), (4, 0), (1, 0), (20, 0), (21, 0), (22, 0), (23, 0), (24, 0), (25, 0), (26, 0), (27, 0)]) E E3 := F0_.trans (G3.mono (inW_mono (by decide)))
  refine lv_if_ne (tgt := 16) hx hb dX9_undo_11 (by decide) (fun c7 => ?_) (fun c7 => ?_)
  · skip
    have tc7 := nu_ne c7
    have uc7 : (0 : Int32).toInt = 0 := rfl
    refine lv_aload_n hx hb dX9_undo_16 rfl (lv_at hl 0 rfl) ?_
    obtain ⟨v8, ev8, tv8⟩ : ∃ v : Int32, Int32.ofInt (1) = v ∧ v.toInt = 1 := ⟨_, rfl, by decide +kernel⟩
    refine lv_iconst hx hb dX9_undo_17 ev8 ?_
    refine tr_putz Z.1 Z.2.2.2.1 S3.1 S3.2 ha0 ta0 rfl rfl (fun _ h => List.mem_cons_of_mem _ (List.mem_append_left _ (List.mem_append_left _ (List.mem_append_right _ h)))) tyX9_ok nmX9 10 (by decide) rfl rfl rfl (hts _ (List.mem_of_getElem? (i := 3) rfl)) dX9_undo_18 (by omega) (by omega) (fun E9 H10 k11 W9 I9 P9 => ?_)
    have S9 : Now D TB cy (va_A (va_pl L E) sz) s L τ E9 H10 k11 := ⟨W9, I9⟩
    have F9 : Fr L τ (inW [(0, 0), (4, 0), (1, 0), (20, 0), (21, 0), (22, 0), (23, 0), (24, 0), (25, 0), (26, 0), (27, 0)]) E E9 := Fr.put F3 P9 ta0 rfl
    obtain ⟨v12, ev12, tv12⟩ : ∃ v : Int32, Int32.ofInt (1) = v ∧ v.toInt = 1 := ⟨_, rfl, by decide +kernel⟩
    refine lv_iconst hx hb dX9_undo_21 ev12 ?_
    rw [← hQ]
    exact en_i Z S9 F9 ⟨(by omega), (by omega)⟩ dX9_undo_22
  · skip
    have tc7 := nu_eq c7
    have uc7 : (0 : Int32).toInt = 0 := rfl
    obtain ⟨v13, ev13, tv13⟩ : ∃ v : Int32, Int32.ofInt (0) = v ∧ v.toInt = 0 := ⟨_, rfl, by decide +kernel⟩
    refine lv_iconst hx hb dX9_undo_14 ev13 ?_
    rw [← hQ]
    exact en_i Z S3 F3 ⟨(by omega), (by omega)⟩ dX9_undo_15

