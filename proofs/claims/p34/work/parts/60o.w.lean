set_option maxHeartbeats 4000000 in
set_option maxRecDepth 100000 in
theorem k_X9_refuse_vw (l : Launch) (D : va_G) (cy : Nat → ClassId) {L : List Nat} {τ : Nat → Ro} {E : Ec} (hI : Inv TB cy L τ E) {a0 : Nat} (ha0 : a0 ∈ L) (ta0 : τ a0 = (0, 0)) (a1 : Int32) : CtI l yX9_refuse wsX9_refuse { frames := 0, cells := 0, slots := 0, locals := 0 } D TB cy L τ E [.ref a0, .int a1] (inW [(0, 0)]) (fun r E' => ((fi E' a0 9).toInt = a1.toInt) ∧ -1 ≤ r.toInt ∧ r.toInt ≤ -1 ∧ (∀ k : Nat, k ∉ ([9] : List Nat) → fi E' a0 k = fi E a0 k)) := by
  intro sz
  refine sta (cc := cX9_refuse) (maxL := 2) hI (by decide) rfl (Nat.le_of_ble_eq_true rfl) (fun p e s m args below meth c ls hsz Z S0 hl => ?_)
  have hx := Z.1.1
  have hb := Z.1.2.1
  have hts := Z.1.2.2.2.2
  have F0_ : Fr L τ (inW [(0, 0)]) E E := Fr.refl
  have hl : lv_has ls 2 [(0, .ref a0), (1, .int a1)] := hl
  generalize hQ : MQ below _ args s 0 0 _ = QQ
  refine lv_aload_n hx hb dX9_refuse_0 rfl (lv_at hl 0 rfl) ?_
  refine lv_iload_n hx hb dX9_refuse_1 rfl (lv_at hl 1 rfl) ?_
  refine tr_puti Z.1 Z.2.2.2.1 S0.1 S0.2 ha0 ta0 rfl rfl (fun _ h => List.mem_cons_of_mem _ (List.mem_append_right _ h)) tyX9_ok nmX9 9 (by decide) rfl rfl rfl (hts _ (List.mem_of_getElem? (i := 1) rfl)) dX9_refuse_2 (by have := fb_rng a1; omega) (by have := fb_rng a1; omega) (fun E1 H2 k3 W1 I1 P1 => ?_)
  have S1 : Now D TB cy (va_A (va_pl L E) sz) s L τ E1 H2 k3 := ⟨W1, I1⟩
  have F1 : Fr L τ (inW [(0, 0)]) E E1 := Fr.put F0_ P1 ta0 rfl
  obtain ⟨v4, ev4, tv4⟩ : ∃ v : Int32, Int32.ofInt (-1) = v ∧ v.toInt = -1 := ⟨_, rfl, by decide +kernel⟩
  refine lv_iconst hx hb dX9_refuse_5 ev4 ?_
  rw [← hQ]
  exact en_i Z S1 F1 ⟨(by rw [(fi_at P1)]; first | done | omega), (by omega), (by omega), (fun k hk => ((fi_put P1 (Or.inr (fw_ne (by decide) hk))).trans ((fun k hk => rfl) k hk)))⟩ dX9_refuse_6

set_option maxHeartbeats 4000000 in
set_option maxRecDepth 100000 in
theorem k_X9_deny_vw (l : Launch) (D : va_G) (cy : Nat → ClassId) {L : List Nat} {τ : Nat → Ro} {E : Ec} (hI : Inv TB cy L τ E) {a0 : Nat} (ha0 : a0 ∈ L) (ta0 : τ a0 = (0, 0)) (a1 : Int32) : CtI l yX9_deny wsX9_deny { frames := 0, cells := 0, slots := 0, locals := 0 } D TB cy L τ E [.ref a0, .int a1] (inW [(0, 0)]) (fun r E' => ((fi E' a0 9).toInt = a1.toInt) ∧ 0 ≤ r.toInt ∧ r.toInt ≤ 0 ∧ (∀ k : Nat, k ∉ ([9] : List Nat) → fi E' a0 k = fi E a0 k)) := by
  intro sz
  refine sta (cc := cX9_deny) (maxL := 2) hI (by decide) rfl (Nat.le_of_ble_eq_true rfl) (fun p e s m args below meth c ls hsz Z S0 hl => ?_)
  have hx := Z.1.1
  have hb := Z.1.2.1
  have hts := Z.1.2.2.2.2
  have F0_ : Fr L τ (inW [(0, 0)]) E E := Fr.refl
  have hl : lv_has ls 2 [(0, .ref a0), (1, .int a1)] := hl
  generalize hQ : MQ below _ args s 0 0 _ = QQ
  refine lv_aload_n hx hb dX9_deny_0 rfl (lv_at hl 0 rfl) ?_
  refine lv_iload_n hx hb dX9_deny_1 rfl (lv_at hl 1 rfl) ?_
  refine tr_puti Z.1 Z.2.2.2.1 S0.1 S0.2 ha0 ta0 rfl rfl (fun _ h => List.mem_cons_of_mem _ (List.mem_append_right _ h)) tyX9_ok nmX9 9 (by decide) rfl rfl rfl (hts _ (List.mem_of_getElem? (i := 1) rfl)) dX9_deny_2 (by have := fb_rng a1; omega) (by have := fb_rng a1; omega) (fun E1 H2 k3 W1 I1 P1 => ?_)
  have S1 : Now D TB cy (va_A (va_pl L E) sz) s L τ E1 H2 k3 := ⟨W1, I1⟩
  have F1 : Fr L τ (inW [(0, 0)]) E E1 := Fr.put F0_ P1 ta0 rfl
  obtain ⟨v4, ev4, tv4⟩ : ∃ v : Int32, Int32.ofInt (0) = v ∧ v.toInt = 0 := ⟨_, rfl, by decide +kernel⟩
  refine lv_iconst hx hb dX9_deny_5 ev4 ?_
  rw [← hQ]
  exact en_z Z S1 F1 (zo v4 (by omega)) ⟨(by rw [(fi_at P1)]; first | done | omega), (by omega), (by omega), (fun k hk => ((fi_put P1 (Or.inr (fw_ne (by decide) hk))).trans ((fun k hk => rfl) k hk)))⟩ dX9_deny_6

set_option maxHeartbeats 4000000 in
set_option maxRecDepth 100000 in
theorem k_X9_keepAct_vw (l : Launch) (D : va_G) (cy : Nat → ClassId) {L : List Nat} {τ : Nat → Ro} {E : Ec} (hI : Inv TB cy L τ E) {a0 : Nat} (ha0 : a0 ∈ L) (ta0 : τ a0 = (0, 0)) : CtV l yX9_keepAct wsX9_keepAct { frames := 3, cells := 0, slots := 0, locals := 83 } D TB cy L τ E [.ref a0] (inW [(1, 1), (20, 1), (21, 1), (22, 1), (23, 1), (24, 1), (25, 1), (26, 1), (27, 1), (4, 0), (0, 0)]) (fun E' => (∀ k : Nat, k ∉ ([10] : List Nat) → fi E' a0 k = fi E a0 k)) := by
  intro sz
  refine sta (cc := cX9_keepAct) (maxL := 1) hI (by decide) rfl (Nat.le_of_ble_eq_true rfl) (fun p e s m args below meth c ls hsz Z S0 hl => ?_)
  have hx := Z.1.1
  have hb := Z.1.2.1
  have hts := Z.1.2.2.2.2
  have F0_ : Fr L τ (inW [(1, 1), (20, 1), (21, 1), (22, 1), (23, 1), (24, 1), (25, 1), (26, 1), (27, 1), (4, 0), (0, 0)]) E E := Fr.refl
  have hl : lv_has ls 1 [(0, .ref a0)] := hl
  generalize hQ : MQ below _ args s 0 0 _ = QQ
  refine lv_aload_n hx hb dX9_keepAct_0 rfl (lv_at hl 0 rfl) ?_
  refine tr_getr Z.1 Z.2.2.2.1 S0.1 S0.2 ha0 ta0 rfl rfl (fun _ h => List.mem_cons_of_mem _ (List.mem_append_left _ (List.mem_append_left _ (List.mem_append_right _ h)))) 1 (by decide) rfl (hts _ (List.mem_of_getElem? (i := 1) rfl)) dX9_keepAct_1 (fun q1 eq1 hq1 tq1 => ?_)
  have tq1 : τ q1 = (4, 0) := tq1
  refine lv_aload_n hx hb dX9_keepAct_4 rfl (lv_at hl 0 rfl) ?_
  refine tr_getr Z.1 Z.2.2.2.1 S0.1 S0.2 ha0 ta0 rfl rfl (fun _ h => List.mem_cons_of_mem _ (List.mem_append_left _ (List.mem_append_left _ (List.mem_append_right _ h)))) 0 (by decide) rfl (hts _ (List.mem_of_getElem? (i := 2) rfl)) dX9_keepAct_5 (fun q2 eq2 hq2 tq2 => ?_)
  have tq2 : τ q2 = (1, 0) := tq2
  refine tc_vv Z.1 Z.2.2.2.1 Z.2.2.2.2.1 Z.2.2.2.2.2 S0.1 S0.2 hq1 tq1 rfl rfl (k_X3_keep l D cy S0.2 hq1 tq1 hq2 tq2) (cwV 1 hts gX9_keepAct_X3_keep rfl rfl rfl (by decide +kernel) ⟨Nat.le_of_ble_eq_true rfl, Nat.le_of_ble_eq_true rfl⟩) rfl hl.1 rfl (Nat.le_of_ble_eq_true rfl) dX9_keepAct_8 ⟨Nat.zero_le _, Nat.zero_le _⟩ (fun E3 H4 k5 W3 I3 G3 p3 => ?_)
  have S3 : Now D TB cy (va_A (va_pl L E) sz) s L τ E3 H4 k5 := ⟨W3, I3⟩
  have F3 : Fr L τ (inW [(1, 1), (20, 1), (21, 1), (22, 1), (23, 1), (24, 1), (25, 1), (26, 1), (27, 1), (4, 0), (0, 0)]) E E3 := F0_.trans (G3.mono (inW_mono (by decide)))
  refine lv_aload_n hx hb dX9_keepAct_11 rfl (lv_at hl 0 rfl) ?_
  obtain ⟨v7, ev7, tv7⟩ : ∃ v : Int32, Int32.ofInt (1) = v ∧ v.toInt = 1 := ⟨_, rfl, by decide +kernel⟩
  refine lv_iconst hx hb dX9_keepAct_12 ev7 ?_
  refine tr_putz Z.1 Z.2.2.2.1 S3.1 S3.2 ha0 ta0 rfl rfl (fun _ h => List.mem_cons_of_mem _ (List.mem_append_left _ (List.mem_append_left _ (List.mem_append_right _ h)))) tyX9_ok nmX9 10 (by decide) rfl rfl rfl (hts _ (List.mem_of_getElem? (i := 3) rfl)) dX9_keepAct_13 (by omega) (by omega) (fun E8 H9 k10 W8 I8 P8 => ?_)
  have S8 : Now D TB cy (va_A (va_pl L E) sz) s L τ E8 H9 k10 := ⟨W8, I8⟩
  have F8 : Fr L τ (inW [(1, 1), (20, 1), (21, 1), (22, 1), (23, 1), (24, 1), (25, 1), (26, 1), (27, 1), (4, 0), (0, 0)]) E E8 := Fr.put F3 P8 ta0 rfl
  rw [← hQ]
  exact en_v Z S8 F8 (fun k hk => ((fi_put P8 (Or.inr (fw_ne (by decide) hk))).trans ((fi_fr G3 ha0 (by rw [ta0]; rfl)).trans ((fun k hk => rfl) k hk)))) dX9_keepAct_16

set_option maxHeartbeats 4000000 in
set_option maxRecDepth 100000 in
theorem k_X9_beginAct_vw (l : Launch) (D : va_G) (cy : Nat → ClassId) {L : List Nat} {τ : Nat → Ro} {E : Ec} (hI : Inv TB cy L τ E) {a0 : Nat} (ha0 : a0 ∈ L) (ta0 : τ a0 = (0, 0)) : CtV l yX9_beginAct wsX9_beginAct { frames := 4, cells := 0, slots := 0, locals := 103 } D TB cy L τ E [.ref a0] (inW [(1, 1), (20, 1), (21, 1), (22, 1), (23, 1), (24, 1), (25, 1), (26, 1), (27, 1), (4, 0), (0, 0)]) (fun E' => ((fi E' a0 9).toInt = 0) ∧ (∀ k : Nat, k ∉ ([9, 10] : List Nat) → fi E' a0 k = fi E a0 k)) := by
  intro sz
  refine sta (cc := cX9_beginAct) (maxL := 1) hI (by decide) rfl (Nat.le_of_ble_eq_true rfl) (fun p e s m args below meth c ls hsz Z S0 hl => ?_)
  have hx := Z.1.1
  have hb := Z.1.2.1
  have hts := Z.1.2.2.2.2
  have F0_ : Fr L τ (inW [(1, 1), (20, 1), (21, 1), (22, 1), (23, 1), (24, 1), (25, 1), (26, 1), (27, 1), (4, 0), (0, 0)]) E E := Fr.refl
  have hl : lv_has ls 1 [(0, .ref a0)] := hl
  generalize hQ : MQ below _ args s 0 0 _ = QQ
  refine lv_aload_n hx hb dX9_beginAct_0 rfl (lv_at hl 0 rfl) ?_
  obtain ⟨v1, ev1, tv1⟩ : ∃ v : Int32, Int32.ofInt (0) = v ∧ v.toInt = 0 := ⟨_, rfl, by decide +kernel⟩
  refine lv_iconst hx hb dX9_beginAct_1 ev1 ?_
  refine tr_puti Z.1 Z.2.2.2.1 S0.1 S0.2 ha0 ta0 rfl rfl (fun _ h => List.mem_cons_of_mem _ (List.mem_append_left _ (List.mem_append_left _ (List.mem_append_right _ h)))) tyX9_ok nmX9 9 (by decide) rfl rfl rfl (hts _ (List.mem_of_getElem? (i := 1) rfl)) dX9_beginAct_2 (by have := fb_rng v1; omega) (by have := fb_rng v1; omega) (fun E2 H3 k4 W2 I2 P2 => ?_)
  have S2 : Now D TB cy (va_A (va_pl L E) sz) s L τ E2 H3 k4 := ⟨W2, I2⟩
  have F2 : Fr L τ (inW [(1, 1), (20, 1), (21, 1), (22, 1), (23, 1), (24, 1), (25, 1), (26, 1), (27, 1), (4, 0), (0, 0)]) E E2 := Fr.put F0_ P2 ta0 rfl
  refine lv_aload_n hx hb dX9_beginAct_5 rfl (lv_at hl 0 rfl) ?_
  refine tc_vv Z.1 Z.2.2.2.1 Z.2.2.2.2.1 Z.2.2.2.2.2 S2.1 S2.2 ha0 ta0 rfl rfl (k_X9_keepAct_vw l D cy S2.2 ha0 ta0) (cwV 0 hts gX9_beginAct_X9_keepAct rfl rfl rfl (by decide +kernel) ⟨Nat.le_of_ble_eq_true rfl, Nat.le_of_ble_eq_true rfl⟩) rfl hl.1 rfl (Nat.le_of_ble_eq_true rfl) dX9_beginAct_6 ⟨Nat.zero_le _, Nat.zero_le _⟩ (fun E5 H6 k7 W5 I5 G5 p5 => ?_)
  have p5_0 := p5
  have S5 : Now D TB cy (va_A (va_pl L E) sz) s L τ E5 H6 k7 := ⟨W5, I5⟩
  have F5 : Fr L τ (inW [(1, 1), (20, 1), (21, 1), (22, 1), (23, 1), (24, 1), (25, 1), (26, 1), (27, 1), (4, 0), (0, 0)]) E E5 := F2.trans (G5.mono (inW_mono (by decide)))
  rw [← hQ]
  exact en_v Z S5 F5 ⟨(by rw [((p5_0 9 (by decide)).trans (fi_at P2))]; first | done | omega), (fun k hk => ((p5_0 k (fw_sub (by decide) hk)).trans ((fi_put P2 (Or.inr (fw_ne (by decide) hk))).trans ((fun k hk => rfl) k hk))))⟩ dX9_beginAct_9

set_option maxHeartbeats 4000000 in
set_option maxRecDepth 100000 in
theorem k_X9_laidRows_vw (l : Launch) (D : va_G) (cy : Nat → ClassId) {L : List Nat} {τ : Nat → Ro} {E : Ec} (hI : Inv TB cy L τ E) {a0 : Nat} (ha0 : a0 ∈ L) (ta0 : τ a0 = (0, 0)) : CtQ l yX9_laidRows wsX9_laidRows { frames := 4, cells := 0, slots := 0, locals := 94 } D TB cy L τ E [.ref a0] (inW [(0, 0), (5, 0), (100, 0), (101, 0), (102, 0), (103, 0), (104, 0), (105, 0), (106, 0), (107, 0), (108, 0), (109, 0), (110, 0), (111, 0), (112, 0)]) (fun r E' => (∃ q : Nat, r = some q ∧ q ∈ L ∧ τ q = (5, 0)) ∧ (∀ k : Nat, k ∉ ([10] : List Nat) → fi E' a0 k = fi E a0 k)) := by
  intro sz
  refine sta (cc := cX9_laidRows) (maxL := 1) hI (by decide) rfl (Nat.le_of_ble_eq_true rfl) (fun p e s m args below meth c ls hsz Z S0 hl => ?_)
  have hx := Z.1.1
  have hb := Z.1.2.1
  have hts := Z.1.2.2.2.2
  have F0_ : Fr L τ (inW [(0, 0), (5, 0), (100, 0), (101, 0), (102, 0), (103, 0), (104, 0), (105, 0), (106, 0), (107, 0), (108, 0), (109, 0), (110, 0), (111, 0), (112, 0)]) E E := Fr.refl
  have hl : lv_has ls 1 [(0, .ref a0)] := hl
  generalize hQ : MQ below _ args s 0 0 _ = QQ
  refine lv_aload_n hx hb dX9_laidRows_0 rfl (lv_at hl 0 rfl) ?_
  refine tr_geti Z.1 Z.2.2.2.1 S0.1 S0.2 ha0 ta0 rfl rfl (fun _ h => List.mem_cons_of_mem _ (List.mem_append_left _ (List.mem_append_left _ (List.mem_append_right _ h)))) 10 (by decide) rfl (hts _ (List.mem_of_getElem? (i := 1) rfl)) dX9_laidRows_1 (fun v1 ev1 lv1 uv1 => ?_)
  refine lv_if_eq (tgt := 23) hx hb dX9_laidRows_4 (by decide) (fun c2 => ?_) (fun c2 => ?_)
  · skip
    have tc2 := nu_eq c2
    have uc2 : (0 : Int32).toInt = 0 := rfl
    refine lv_aload_n hx hb dX9_laidRows_23 rfl (lv_at hl 0 rfl) ?_
    refine tr_getr Z.1 Z.2.2.2.1 S0.1 S0.2 ha0 ta0 rfl rfl (fun _ h => List.mem_cons_of_mem _ (List.mem_append_left _ (List.mem_append_left _ (List.mem_append_right _ h)))) 2 (by decide) rfl (hts _ (List.mem_of_getElem? (i := 2) rfl)) dX9_laidRows_24 (fun q3 eq3 hq3 tq3 => ?_)
    have tq3 : τ q3 = (5, 0) := tq3
    rw [← hQ]
    exact en_q (x := some q3) Z (by first | exact Or.inl ⟨_, rfl⟩ | exact Or.inr ⟨_, rfl⟩) S0 F0_ ⟨⟨q3, rfl, hq3, tq3⟩, (fun k hk => ((fun k hk => rfl) k hk))⟩ dX9_laidRows_27
  · skip
    have tc2 := nu_ne c2
    have uc2 : (0 : Int32).toInt = 0 := rfl
    refine lv_aload_n hx hb dX9_laidRows_7 rfl (lv_at hl 0 rfl) ?_
    refine tr_getr Z.1 Z.2.2.2.1 S0.1 S0.2 ha0 ta0 rfl rfl (fun _ h => List.mem_cons_of_mem _ (List.mem_append_left _ (List.mem_append_left _ (List.mem_append_right _ h)))) 2 (by decide) rfl (hts _ (List.mem_of_getElem? (i := 2) rfl)) dX9_laidRows_8 (fun q4 eq4 hq4 tq4 => ?_)
    have tq4 : τ q4 = (5, 0) := tq4
    refine lv_aload_n hx hb dX9_laidRows_11 rfl (lv_at hl 0 rfl) ?_
    refine tr_getr Z.1 Z.2.2.2.1 S0.1 S0.2 ha0 ta0 rfl rfl (fun _ h => List.mem_cons_of_mem _ (List.mem_append_left _ (List.mem_append_left _ (List.mem_append_right _ h)))) 0 (by decide) rfl (hts _ (List.mem_of_getElem? (i := 3) rfl)) dX9_laidRows_12 (fun q5 eq5 hq5 tq5 => ?_)
    have tq5 : τ q5 = (1, 0) := tq5
    refine tc_vv Z.1 Z.2.2.2.1 Z.2.2.2.2.1 Z.2.2.2.2.2 S0.1 S0.2 hq4 tq4 rfl rfl (k_X6_lay_v0 l D cy S0.2 hq4 tq4 hq5 tq5) (cwV 1 hts gX9_laidRows_X6_lay rfl rfl rfl (by decide +kernel) ⟨Nat.le_of_ble_eq_true rfl, Nat.le_of_ble_eq_true rfl⟩) rfl hl.1 rfl (Nat.le_of_ble_eq_true rfl) dX9_laidRows_15 ⟨Nat.zero_le _, Nat.zero_le _⟩ (fun E6 H7 k8 W6 I6 G6 p6 => ?_)
    have S6 : Now D TB cy (va_A (va_pl L E) sz) s L τ E6 H7 k8 := ⟨W6, I6⟩
    have F6 : Fr L τ (inW [(0, 0), (5, 0), (100, 0), (101, 0), (102, 0), (103, 0), (104, 0), (105, 0), (106, 0), (107, 0), (108, 0), (109, 0), (110, 0), (111, 0), (112, 0)]) E E6 := F0_.trans (G6.mono (inW_mono (by decide)))
    refine lv_aload_n hx hb dX9_laidRows_18 rfl (lv_at hl 0 rfl) ?_
    obtain ⟨v10, ev10, tv10⟩ : ∃ v : Int32, Int32.ofInt (0) = v ∧ v.toInt = 0 := ⟨_, rfl, by decide +kernel⟩
    refine lv_iconst hx hb dX9_laidRows_19 ev10 ?_
    refine tr_putz Z.1 Z.2.2.2.1 S6.1 S6.2 ha0 ta0 rfl rfl (fun _ h => List.mem_cons_of_mem _ (List.mem_append_left _ (List.mem_append_left _ (List.mem_append_right _ h)))) tyX9_ok nmX9 10 (by decide) rfl rfl rfl (hts _ (List.mem_of_getElem? (i := 1) rfl)) dX9_laidRows_20 (by omega) (by omega) (fun E11 H12 k13 W11 I11 P11 => ?_)
    have S11 : Now D TB cy (va_A (va_pl L E) sz) s L τ E11 H12 k13 := ⟨W11, I11⟩
    have F11 : Fr L τ (inW [(0, 0), (5, 0), (100, 0), (101, 0), (102, 0), (103, 0), (104, 0), (105, 0), (106, 0), (107, 0), (108, 0), (109, 0), (110, 0), (111, 0), (112, 0)]) E E11 := Fr.put F6 P11 ta0 rfl
    refine lv_aload_n hx hb dX9_laidRows_23 rfl (lv_at hl 0 rfl) ?_
    refine tr_getr Z.1 Z.2.2.2.1 S11.1 S11.2 ha0 ta0 rfl rfl (fun _ h => List.mem_cons_of_mem _ (List.mem_append_left _ (List.mem_append_left _ (List.mem_append_right _ h)))) 2 (by decide) rfl (hts _ (List.mem_of_getElem? (i := 2) rfl)) dX9_laidRows_24 (fun q14 eq14 hq14 tq14 => ?_)
    have tq14 : τ q14 = (5, 0) := tq14
    have uq14 : q4 = q14 := S11.2.2.2.2 _ hq4 _ hq14 (tq4.trans tq14.symm) (by rw [tq4]; rfl)
    subst uq14
    rw [← hQ]
    exact en_q (x := some q4) Z (by first | exact Or.inl ⟨_, rfl⟩ | exact Or.inr ⟨_, rfl⟩) S11 F11 ⟨⟨q4, rfl, hq4, tq4⟩, (fun k hk => ((fi_put P11 (Or.inr (fw_ne (by decide) hk))).trans ((fi_fr G6 ha0 (by rw [ta0]; rfl)).trans ((fun k hk => rfl) k hk))))⟩ dX9_laidRows_27

set_option maxHeartbeats 4000000 in
set_option maxRecDepth 100000 in
theorem k_X9_askedLaw_vw (l : Launch) (D : va_G) (cy : Nat → ClassId) {L : List Nat} {τ : Nat → Ro} {E : Ec} (hI : Inv TB cy L τ E) {a0 : Nat} (ha0 : a0 ∈ L) (ta0 : τ a0 = (0, 0)) (a1 : Int32) (a2 : Int32) : CtQ l yX9_askedLaw wsX9_askedLaw { frames := 2, cells := 0, slots := 0, locals := 43 } D TB cy L τ E [.ref a0, .int a1, .int a2] (inW [(0, 0)]) (fun r E' => ((fi E' a0 9).toInt ≠ 2) ∧ (∀ q : Nat, r = some q → q ∈ L ∧ (τ q).1 = 10)) := by
  intro sz
  refine sta (cc := cX9_askedLaw) (maxL := 4) hI (by decide) rfl (Nat.le_of_ble_eq_true rfl) (fun p e s m args below meth c ls hsz Z S0 hl => ?_)
  have hx := Z.1.1
  have hb := Z.1.2.1
  have hts := Z.1.2.2.2.2
  have F0_ : Fr L τ (inW [(0, 0)]) E E := Fr.refl
  have hl : lv_has ls 4 [(0, .ref a0), (1, .int a1), (2, .int a2)] := hl
  generalize hQ : MQ below _ args s 0 0 _ = QQ
  have J35 : ∀ (x3_35 : Nat) (y1_35 : Int32) (E_35 : Ec) (H_35 : Heap) (k_35 : List Loc) (l_35 : Array Slot), Now D TB cy (va_A (va_pl L E) sz) s L τ E_35 H_35 k_35 → Fr L τ (inW [(0, 0)]) E E_35 → (x3_35 ∈ L) → ((τ x3_35).1 = 10) → (0 ≤ y1_35.toInt) → (y1_35.toInt ≤ 1) → lv_has l_35 4 [(0, .ref a0), (3, .ref x3_35)] → W p l e { frames := 2, cells := 0, slots := 0, locals := 43 } s m args below meth c H_35 k_35 0 0 QQ (F0 m 35 l_35 [.int y1_35, .ref a0]) := by
    intro x3_35 y1_35 E_35 H_35 k_35 l_35 S_35 F_35 z1 z2 z3 z4 hl_35
    obtain ⟨nx3_35, tx3_35⟩ : ∃ n : Nat, τ x3_35 = (10, n) := ⟨(τ x3_35).2, by rw [← z2]⟩
    refine tr_puti Z.1 Z.2.2.2.1 S_35.1 S_35.2 ha0 ta0 rfl rfl (fun _ h => List.mem_cons_of_mem _ (List.mem_append_left _ (List.mem_append_right _ h))) tyX9_ok nmX9 9 (by decide) rfl rfl rfl (hts _ (List.mem_of_getElem? (i := 2) rfl)) dX9_askedLaw_35 (by have := fb_rng y1_35; omega) (by have := fb_rng y1_35; omega) (fun E5 H6 k7 W5 I5 P5 => ?_)
    have S5 : Now D TB cy (va_A (va_pl L E) sz) s L τ E5 H6 k7 := ⟨W5, I5⟩
    have F5 : Fr L τ (inW [(0, 0)]) E E5 := Fr.put F_35 P5 ta0 rfl
    refine lv_aload_n hx hb dX9_askedLaw_38 rfl (lv_at hl_35 0 rfl) ?_
    refine tr_geti Z.1 Z.2.2.2.1 S5.1 S5.2 ha0 ta0 rfl rfl (fun _ h => List.mem_cons_of_mem _ (List.mem_append_left _ (List.mem_append_right _ h))) 9 (by decide) rfl (hts _ (List.mem_of_getElem? (i := 2) rfl)) dX9_askedLaw_39 (fun v8 ev8 lv8 uv8 => ?_)
    have wv8 : v8 = y1_35 := ev8.symm.trans (fi_at P5)
    have xv8 : v8.toInt = y1_35.toInt := by rw [wv8]
    refine lv_if_ne (tgt := 49) hx hb dX9_askedLaw_42 (by decide) (fun c9 => ?_) (fun c9 => ?_)
    · skip
      have tc9 := nu_ne c9
      have uc9 : (0 : Int32).toInt = 0 := rfl
      refine lv_null hx hb dX9_askedLaw_49 ?_
      rw [← hQ]
      exact en_q (x := none) Z (by first | exact Or.inl ⟨_, rfl⟩ | exact Or.inr ⟨_, rfl⟩) S5 F5 ⟨(by rw [ev8]; omega), (fun _ h => nomatch h)⟩ dX9_askedLaw_50
    · skip
      have tc9 := nu_eq c9
      have uc9 : (0 : Int32).toInt = 0 := rfl
      refine lv_aload_n hx hb dX9_askedLaw_45 rfl (lv_at hl_35 1 rfl) ?_
      refine lv_goto (tgt := 50) hx hb dX9_askedLaw_46 (by decide) ?_
      rw [← hQ]
      exact en_q (x := some x3_35) Z (by first | exact Or.inl ⟨_, rfl⟩ | exact Or.inr ⟨_, rfl⟩) S5 F5 ⟨(by rw [ev8]; omega), (fun y h => by cases h; exact ⟨z1, by rw [tx3_35]⟩)⟩ dX9_askedLaw_50
  refine lv_aload_n hx hb dX9_askedLaw_0 rfl (lv_at hl 0 rfl) ?_
  refine tr_getr Z.1 Z.2.2.2.1 S0.1 S0.2 ha0 ta0 rfl rfl (fun _ h => List.mem_cons_of_mem _ (List.mem_append_left _ (List.mem_append_right _ h))) 0 (by decide) rfl (hts _ (List.mem_of_getElem? (i := 1) rfl)) dX9_askedLaw_1 (fun q10 eq10 hq10 tq10 => ?_)
  have tq10 : τ q10 = (1, 0) := tq10
  refine lv_iload_n hx hb dX9_askedLaw_4 rfl (lv_at hl 1 rfl) ?_
  refine tc_vq Z.1 Z.2.2.2.1 Z.2.2.2.2.1 Z.2.2.2.2.2 S0.1 S0.2 hq10 tq10 rfl rfl (k_X4_lawAt_v0 l D cy S0.2 hq10 tq10 a1) (cwV 1 hts gX9_askedLaw_X4_lawAt rfl rfl rfl (by decide +kernel) ⟨Nat.le_of_ble_eq_true rfl, Nat.le_of_ble_eq_true rfl⟩) rfl hl.1 rfl (Nat.le_of_ble_eq_true rfl) dX9_askedLaw_5 ⟨Nat.zero_le _, Nat.zero_le _⟩ (fun v14 E11 H12 k13 W11 I11 G11 p11 => ?_)
  obtain ⟨q11, p11_0⟩ := p11
  have q11 := q11.symm
  subst q11
  have S11 : Now D TB cy (va_A (va_pl L E) sz) s L τ E H12 k13 := ⟨W11, I11⟩
  cases v14 with
  | none =>
    refine W.eq (g2 := F0 m 8 ls [.null]) rfl ?_
    refine lv_astore_nN (lv' := [(3, .null), (0, .ref a0), (1, .int a1), (2, .int a2)]) hx hb dX9_askedLaw_8 rfl hl (by decide) rfl (fun l15 hl16 => ?_)
    refine lv_aload_nN hx hb dX9_askedLaw_9 rfl (lv_at hl16 0 rfl) ?_
    refine lv_ifnonnullN hx hb dX9_askedLaw_10 ?_
    refine lv_aload_n hx hb dX9_askedLaw_13 rfl (lv_at hl16 1 rfl) ?_
    obtain ⟨v17, ev17, tv17⟩ : ∃ v : Int32, Int32.ofInt (4) = v ∧ v.toInt = 4 := ⟨_, rfl, by decide +kernel⟩
    refine lv_iconst hx hb dX9_askedLaw_14 ev17 ?_
    refine tr_puti Z.1 Z.2.2.2.1 S11.1 S11.2 ha0 ta0 rfl rfl (fun _ h => List.mem_cons_of_mem _ (List.mem_append_left _ (List.mem_append_right _ h))) tyX9_ok nmX9 9 (by decide) rfl rfl rfl (hts _ (List.mem_of_getElem? (i := 2) rfl)) dX9_askedLaw_15 (by have := fb_rng v17; omega) (by have := fb_rng v17; omega) (fun E18 H19 k20 W18 I18 P18 => ?_)
    have S18 : Now D TB cy (va_A (va_pl L E) sz) s L τ E18 H19 k20 := ⟨W18, I18⟩
    have F18 : Fr L τ (inW [(0, 0)]) E E18 := Fr.put F0_ P18 ta0 rfl
    refine lv_null hx hb dX9_askedLaw_18 ?_
    rw [← hQ]
    exact en_q (x := none) Z (by first | exact Or.inl ⟨_, rfl⟩ | exact Or.inr ⟨_, rfl⟩) S18 F18 ⟨(by rw [(fi_at P18)]; omega), (fun _ h => nomatch h)⟩ dX9_askedLaw_19
  | some q21 =>
    obtain ⟨hq21, gq21⟩ := p11_0 q21 rfl
    obtain ⟨nq21, tq21⟩ : ∃ n : Nat, τ q21 = (10, n) := ⟨(τ q21).2, by rw [← gq21]⟩
    refine W.eq (g2 := F0 m 8 ls [.ref q21]) rfl ?_
    refine lv_astore_n (lv' := [(3, .ref q21), (0, .ref a0), (1, .int a1), (2, .int a2)]) hx hb dX9_askedLaw_8 rfl hl (by decide) rfl (fun l22 hl23 => ?_)
    refine lv_aload_n hx hb dX9_askedLaw_9 rfl (lv_at hl23 0 rfl) ?_
    refine lv_ifnonnull (tgt := 20) hx hb dX9_askedLaw_10 (by decide) ?_
    refine lv_aload_n hx hb dX9_askedLaw_20 rfl (lv_at hl23 1 rfl) ?_
    refine lv_iload_n hx hb dX9_askedLaw_21 rfl (lv_at hl23 3 rfl) ?_
    obtain ⟨v24, ev24, tv24⟩ : ∃ v : Int32, Int32.ofInt (0) = v ∧ v.toInt = 0 := ⟨_, rfl, by decide +kernel⟩
    refine lv_iconst hx hb dX9_askedLaw_22 ev24 ?_
    obtain ⟨v25, ev25, tv25⟩ : ∃ v : Int32, Int32.ofInt (3) = v ∧ v.toInt = 3 := ⟨_, rfl, by decide +kernel⟩
    refine lv_iconst hx hb dX9_askedLaw_23 ev25 ?_
    refine tc_si Z.1 Z.2.2.2.1 Z.2.2.2.2.1 Z.2.2.2.2.2 S11.1 (k_X9_within l D cy S11.2 a2 v24 v25) (va_cwS 3 hts gX9_askedLaw_X9_within rfl rfl rfl (by decide +kernel) ⟨Nat.le_of_ble_eq_true rfl, Nat.le_of_ble_eq_true rfl⟩) rfl hl23.1 rfl (Nat.le_of_ble_eq_true rfl) dX9_askedLaw_24 ⟨Nat.zero_le _, Nat.zero_le _⟩ (fun v29 E26 H27 k28 W26 I26 G26 p26 => ?_)
    obtain ⟨q26, p26_0, p26_1, p26_2⟩ := p26
    have q26 := q26.symm
    subst q26
    have S26 : Now D TB cy (va_A (va_pl L E) sz) s L τ E H27 k28 := ⟨W26, I26⟩
    refine lv_if_eq (tgt := 34) hx hb dX9_askedLaw_27 (by decide) (fun c30 => ?_) (fun c30 => ?_)
    · skip
      have tc30 := nu_eq c30
      have uc30 : (0 : Int32).toInt = 0 := rfl
      obtain ⟨v31, ev31, tv31⟩ : ∃ v : Int32, Int32.ofInt (1) = v ∧ v.toInt = 1 := ⟨_, rfl, by decide +kernel⟩
      refine lv_iconst hx hb dX9_askedLaw_34 ev31 ?_
      exact J35 q21 v31 E H27 k28 l22 S26 F0_ hq21 (by rw [tq21]) (by have := fb_rng a1; have := fb_rng a2; omega) (by have := fb_rng a1; have := fb_rng a2; omega) (lv_sub hl23 [1, 0] rfl)
    · skip
      have tc30 := nu_ne c30
      have uc30 : (0 : Int32).toInt = 0 := rfl
      obtain ⟨v32, ev32, tv32⟩ : ∃ v : Int32, Int32.ofInt (0) = v ∧ v.toInt = 0 := ⟨_, rfl, by decide +kernel⟩
      refine lv_iconst hx hb dX9_askedLaw_30 ev32 ?_
      refine lv_goto (tgt := 35) hx hb dX9_askedLaw_31 (by decide) ?_
      exact J35 q21 v32 E H27 k28 l22 S26 F0_ hq21 (by rw [tq21]) (by have := fb_rng a1; omega) (by have := fb_rng a1; omega) (lv_sub hl23 [1, 0] rfl)

set_option maxHeartbeats 4000000 in
set_option maxRecDepth 100000 in
theorem k_X9_measures_vw (l : Launch) (D : va_G) (cy : Nat → ClassId) {L : List Nat} {τ : Nat → Ro} {E : Ec} (hI : Inv TB cy L τ E) {a0 : Nat} (ha0 : a0 ∈ L) (ta0 : τ a0 = (0, 0)) (a1 : Int32) (a2 : Int32) (a3 : Int32) (a4 : Int32) : CtI l yX9_measures wsX9_measures { frames := 5, cells := 0, slots := 0, locals := 123 } D TB cy L τ E [.ref a0, .int a1, .int a2, .int a3, .int a4] (inW [(1, 1), (20, 1), (21, 1), (22, 1), (23, 1), (24, 1), (25, 1), (26, 1), (27, 1), (4, 0), (0, 0), (1, 0), (20, 0), (21, 0), (22, 0), (23, 0), (24, 0), (25, 0), (26, 0), (27, 0)]) (fun r E' => ((r.toInt = 1 ∧ 500 ≤ a1.toInt ∧ a1.toInt ≤ 6000 ∧ 500 ≤ a2.toInt ∧ a2.toInt ≤ 1500 ∧ 200 ≤ a3.toInt ∧ a3.toInt ≤ 500 ∧ 20 ≤ a4.toInt ∧ a4.toInt ≤ 150) ∨ (r.toInt = 0 ∧ ¬ (500 ≤ a1.toInt ∧ a1.toInt ≤ 6000 ∧ 500 ≤ a2.toInt ∧ a2.toInt ≤ 1500 ∧ 200 ≤ a3.toInt ∧ a3.toInt ≤ 500 ∧ 20 ≤ a4.toInt ∧ a4.toInt ≤ 150))) ∧ ((fi E' a0 9).toInt ≠ 2) ∧ 0 ≤ r.toInt ∧ r.toInt ≤ 1) := by
  intro sz
  refine sta (cc := cX9_measures) (maxL := 5) hI (by decide) rfl (Nat.le_of_ble_eq_true rfl) (fun p e s m args below meth c ls hsz Z S0 hl => ?_)
  have hx := Z.1.1
  have hb := Z.1.2.1
  have hts := Z.1.2.2.2.2
  have F0_ : Fr L τ (inW [(1, 1), (20, 1), (21, 1), (22, 1), (23, 1), (24, 1), (25, 1), (26, 1), (27, 1), (4, 0), (0, 0), (1, 0), (20, 0), (21, 0), (22, 0), (23, 0), (24, 0), (25, 0), (26, 0), (27, 0)]) E E := Fr.refl
  have hl : lv_has ls 5 [(0, .ref a0), (1, .int a1), (2, .int a2), (3, .int a3), (4, .int a4)] := hl
  generalize hQ : MQ below _ args s 0 0 _ = QQ
  have J52 : ∀  (E_52 : Ec) (H_52 : Heap) (k_52 : List Loc) (l_52 : Array Slot), Now D TB cy (va_A (va_pl L E) sz) s L τ E_52 H_52 k_52 → Fr L τ (inW [(1, 1), (20, 1), (21, 1), (22, 1), (23, 1), (24, 1), (25, 1), (26, 1), (27, 1), (4, 0), (0, 0), (1, 0), (20, 0), (21, 0), (22, 0), (23, 0), (24, 0), (25, 0), (26, 0), (27, 0)]) E E_52 → (¬ (500 ≤ a1.toInt ∧ a1.toInt ≤ 6000 ∧ 500 ≤ a2.toInt ∧ a2.toInt ≤ 1500 ∧ 200 ≤ a3.toInt ∧ a3.toInt ≤ 500 ∧ 20 ≤ a4.toInt ∧ a4.toInt ≤ 150)) → lv_has l_52 5 [(0, .ref a0)] → W p l e { frames := 5, cells := 0, slots := 0, locals := 123 } s m args below meth c H_52 k_52 0 0 QQ (F0 m 52 l_52 []) := by
    intro  E_52 H_52 k_52 l_52 S_52 F_52 z1 hl_52
    refine lv_aload_n hx hb dX9_measures_52 rfl (lv_at hl_52 0 rfl) ?_
    obtain ⟨v2, ev2, tv2⟩ : ∃ v : Int32, Int32.ofInt (1) = v ∧ v.toInt = 1 := ⟨_, rfl, by decide +kernel⟩
    refine lv_iconst hx hb dX9_measures_53 ev2 ?_
    refine tc_vi Z.1 Z.2.2.2.1 Z.2.2.2.2.1 Z.2.2.2.2.2 S_52.1 S_52.2 ha0 ta0 rfl rfl (k_X9_deny_vw l D cy S_52.2 ha0 ta0 v2) (cwV 1 hts gX9_measures_X9_deny rfl rfl rfl (by decide +kernel) ⟨Nat.le_of_ble_eq_true rfl, Nat.le_of_ble_eq_true rfl⟩) rfl hl_52.1 rfl (Nat.le_of_ble_eq_true rfl) dX9_measures_54 ⟨Nat.zero_le _, Nat.zero_le _⟩ (fun v6 E3 H4 k5 W3 I3 G3 p3 => ?_)
    obtain ⟨p3_0, p3_1, p3_2, p3_3⟩ := p3
    have S3 : Now D TB cy (va_A (va_pl L E) sz) s L τ E3 H4 k5 := ⟨W3, I3⟩
    have F3 : Fr L τ (inW [(1, 1), (20, 1), (21, 1), (22, 1), (23, 1), (24, 1), (25, 1), (26, 1), (27, 1), (4, 0), (0, 0), (1, 0), (20, 0), (21, 0), (22, 0), (23, 0), (24, 0), (25, 0), (26, 0), (27, 0)]) E E3 := F_52.trans (G3.mono (inW_mono (by decide)))
    have kz3_9 := fi_rng (k := 9) S3.2 ha0 ta0 rfl rfl
    rw [← hQ]
    exact en_z Z S3 F3 (zo v6 (by omega)) ⟨(by omega), (by omega), (by omega), (by omega)⟩ dX9_measures_57
  refine lv_iload_n hx hb dX9_measures_0 rfl (lv_at hl 1 rfl) ?_
  obtain ⟨v7, ev7, tv7⟩ : ∃ v : Int32, (Int16.ofInt (500)).toInt32 = v ∧ v.toInt = 500 := ⟨_, rfl, by decide +kernel⟩
  refine lv_sipush hx hb dX9_measures_1 ev7 ?_
  obtain ⟨v8, ev8, tv8⟩ : ∃ v : Int32, (Int16.ofInt (6000)).toInt32 = v ∧ v.toInt = 6000 := ⟨_, rfl, by decide +kernel⟩
  refine lv_sipush hx hb dX9_measures_4 ev8 ?_
  refine tc_si Z.1 Z.2.2.2.1 Z.2.2.2.2.1 Z.2.2.2.2.2 S0.1 (k_X9_within l D cy S0.2 a1 v7 v8) (va_cwS 3 hts gX9_measures_X9_within rfl rfl rfl (by decide +kernel) ⟨Nat.le_of_ble_eq_true rfl, Nat.le_of_ble_eq_true rfl⟩) rfl hl.1 rfl (Nat.le_of_ble_eq_true rfl) dX9_measures_7 ⟨Nat.zero_le _, Nat.zero_le _⟩ (fun v12 E9 H10 k11 W9 I9 G9 p9 => ?_)
  obtain ⟨q9, p9_0, p9_1, p9_2⟩ := p9
  have q9 := q9.symm
  subst q9
  have S9 : Now D TB cy (va_A (va_pl L E) sz) s L τ E H10 k11 := ⟨W9, I9⟩
  refine lv_if_eq (tgt := 52) hx hb dX9_measures_10 (by decide) (fun c13 => ?_) (fun c13 => ?_)
  · skip
    have tc13 := nu_eq c13
    have uc13 : (0 : Int32).toInt = 0 := rfl
    exact J52 E H10 k11 ls S9 F0_ (by have := fb_rng a1; have := fb_rng a2; have := fb_rng a3; have := fb_rng a4; omega) (lv_sub hl [0] rfl)
  · skip
    have tc13 := nu_ne c13
    have uc13 : (0 : Int32).toInt = 0 := rfl
    refine lv_iload_n hx hb dX9_measures_13 rfl (lv_at hl 2 rfl) ?_
    obtain ⟨v14, ev14, tv14⟩ : ∃ v : Int32, (Int16.ofInt (500)).toInt32 = v ∧ v.toInt = 500 := ⟨_, rfl, by decide +kernel⟩
    refine lv_sipush hx hb dX9_measures_14 ev14 ?_
    obtain ⟨v15, ev15, tv15⟩ : ∃ v : Int32, (Int16.ofInt (1500)).toInt32 = v ∧ v.toInt = 1500 := ⟨_, rfl, by decide +kernel⟩
    refine lv_sipush hx hb dX9_measures_17 ev15 ?_
    refine tc_si Z.1 Z.2.2.2.1 Z.2.2.2.2.1 Z.2.2.2.2.2 S9.1 (k_X9_within l D cy S9.2 a2 v14 v15) (va_cwS 3 hts gX9_measures_X9_within rfl rfl rfl (by decide +kernel) ⟨Nat.le_of_ble_eq_true rfl, Nat.le_of_ble_eq_true rfl⟩) rfl hl.1 rfl (Nat.le_of_ble_eq_true rfl) dX9_measures_20 ⟨Nat.zero_le _, Nat.zero_le _⟩ (fun v19 E16 H17 k18 W16 I16 G16 p16 => ?_)
    obtain ⟨q16, p16_0, p16_1, p16_2⟩ := p16
    have q16 := q16.symm
    subst q16
    have S16 : Now D TB cy (va_A (va_pl L E) sz) s L τ E H17 k18 := ⟨W16, I16⟩
    refine lv_if_eq (tgt := 52) hx hb dX9_measures_23 (by decide) (fun c20 => ?_) (fun c20 => ?_)
    · skip
      have tc20 := nu_eq c20
      have uc20 : (0 : Int32).toInt = 0 := rfl
      exact J52 E H17 k18 ls S16 F0_ (by have := fb_rng a2; have := fb_rng a3; have := fb_rng a4; omega) (lv_sub hl [0] rfl)
    · skip
      have tc20 := nu_ne c20
      have uc20 : (0 : Int32).toInt = 0 := rfl
      refine lv_iload_n hx hb dX9_measures_26 rfl (lv_at hl 3 rfl) ?_
      obtain ⟨v21, ev21, tv21⟩ : ∃ v : Int32, (Int16.ofInt (200)).toInt32 = v ∧ v.toInt = 200 := ⟨_, rfl, by decide +kernel⟩
      refine lv_sipush hx hb dX9_measures_27 ev21 ?_
      obtain ⟨v22, ev22, tv22⟩ : ∃ v : Int32, (Int16.ofInt (500)).toInt32 = v ∧ v.toInt = 500 := ⟨_, rfl, by decide +kernel⟩
      refine lv_sipush hx hb dX9_measures_30 ev22 ?_
      refine tc_si Z.1 Z.2.2.2.1 Z.2.2.2.2.1 Z.2.2.2.2.2 S16.1 (k_X9_within l D cy S16.2 a3 v21 v22) (va_cwS 3 hts gX9_measures_X9_within rfl rfl rfl (by decide +kernel) ⟨Nat.le_of_ble_eq_true rfl, Nat.le_of_ble_eq_true rfl⟩) rfl hl.1 rfl (Nat.le_of_ble_eq_true rfl) dX9_measures_33 ⟨Nat.zero_le _, Nat.zero_le _⟩ (fun v26 E23 H24 k25 W23 I23 G23 p23 => ?_)
      obtain ⟨q23, p23_0, p23_1, p23_2⟩ := p23
      have q23 := q23.symm
      subst q23
      have S23 : Now D TB cy (va_A (va_pl L E) sz) s L τ E H24 k25 := ⟨W23, I23⟩
      refine lv_if_eq (tgt := 52) hx hb dX9_measures_36 (by decide) (fun c27 => ?_) (fun c27 => ?_)
      · skip
        have tc27 := nu_eq c27
        have uc27 : (0 : Int32).toInt = 0 := rfl
        exact J52 E H24 k25 ls S23 F0_ (by have := fb_rng a3; have := fb_rng a4; omega) (lv_sub hl [0] rfl)
      · skip
        have tc27 := nu_ne c27
        have uc27 : (0 : Int32).toInt = 0 := rfl
        refine lv_iload hx hb dX9_measures_39 (lv_at hl 4 rfl) ?_
        obtain ⟨v28, ev28, tv28⟩ : ∃ v : Int32, (Int8.ofInt (20)).toInt32 = v ∧ v.toInt = 20 := ⟨_, rfl, by decide +kernel⟩
        refine lv_bipush hx hb dX9_measures_41 ev28 ?_
        obtain ⟨v29, ev29, tv29⟩ : ∃ v : Int32, (Int16.ofInt (150)).toInt32 = v ∧ v.toInt = 150 := ⟨_, rfl, by decide +kernel⟩
        refine lv_sipush hx hb dX9_measures_43 ev29 ?_
        refine tc_si Z.1 Z.2.2.2.1 Z.2.2.2.2.1 Z.2.2.2.2.2 S23.1 (k_X9_within l D cy S23.2 a4 v28 v29) (va_cwS 3 hts gX9_measures_X9_within rfl rfl rfl (by decide +kernel) ⟨Nat.le_of_ble_eq_true rfl, Nat.le_of_ble_eq_true rfl⟩) rfl hl.1 rfl (Nat.le_of_ble_eq_true rfl) dX9_measures_46 ⟨Nat.zero_le _, Nat.zero_le _⟩ (fun v33 E30 H31 k32 W30 I30 G30 p30 => ?_)
        obtain ⟨q30, p30_0, p30_1, p30_2⟩ := p30
        have q30 := q30.symm
        subst q30
        have S30 : Now D TB cy (va_A (va_pl L E) sz) s L τ E H31 k32 := ⟨W30, I30⟩
        refine lv_if_ne (tgt := 58) hx hb dX9_measures_49 (by decide) (fun c34 => ?_) (fun c34 => ?_)
        · skip
          have tc34 := nu_ne c34
          have uc34 : (0 : Int32).toInt = 0 := rfl
          refine lv_aload_n hx hb dX9_measures_58 rfl (lv_at hl 0 rfl) ?_
          refine tc_vv Z.1 Z.2.2.2.1 Z.2.2.2.2.1 Z.2.2.2.2.2 S30.1 S30.2 ha0 ta0 rfl rfl (k_X9_beginAct_vw l D cy S30.2 ha0 ta0) (cwV 0 hts gX9_measures_X9_beginAct rfl rfl rfl (by decide +kernel) ⟨Nat.le_of_ble_eq_true rfl, Nat.le_of_ble_eq_true rfl⟩) rfl hl.1 rfl (Nat.le_of_ble_eq_true rfl) dX9_measures_59 ⟨Nat.zero_le _, Nat.zero_le _⟩ (fun E35 H36 k37 W35 I35 G35 p35 => ?_)
          obtain ⟨p35_0, p35_1⟩ := p35
          have S35 : Now D TB cy (va_A (va_pl L E) sz) s L τ E35 H36 k37 := ⟨W35, I35⟩
          have F35 : Fr L τ (inW [(1, 1), (20, 1), (21, 1), (22, 1), (23, 1), (24, 1), (25, 1), (26, 1), (27, 1), (4, 0), (0, 0), (1, 0), (20, 0), (21, 0), (22, 0), (23, 0), (24, 0), (25, 0), (26, 0), (27, 0)]) E E35 := F0_.trans (G35.mono (inW_mono (by decide)))
          have kz35_9 := fi_rng (k := 9) S35.2 ha0 ta0 rfl rfl
          refine lv_aload_n hx hb dX9_measures_62 rfl (lv_at hl 0 rfl) ?_
          refine tr_getr Z.1 Z.2.2.2.1 S35.1 S35.2 ha0 ta0 rfl rfl (fun _ h => List.mem_cons_of_mem _ (List.mem_append_left _ (List.mem_append_left _ (List.mem_append_right _ h)))) 0 (by decide) rfl (hts _ (List.mem_of_getElem? (i := 1) rfl)) dX9_measures_63 (fun q39 eq39 hq39 tq39 => ?_)
          have tq39 : τ q39 = (1, 0) := tq39
          refine lv_iload_n hx hb dX9_measures_66 rfl (lv_at hl 1 rfl) ?_
          refine tr_puti Z.1 Z.2.2.2.1 S35.1 S35.2 hq39 tq39 rfl rfl (fun _ h => List.mem_cons_of_mem _ (List.mem_append_left _ (List.mem_append_right _ h))) tyX4_ok nmX4 0 (by decide) rfl rfl rfl (hts _ (List.mem_of_getElem? (i := 2) rfl)) dX9_measures_67 (by have := fb_rng a1; omega) (by have := fb_rng a1; omega) (fun E40 H41 k42 W40 I40 P40 => ?_)
          have S40 : Now D TB cy (va_A (va_pl L E) sz) s L τ E40 H41 k42 := ⟨W40, I40⟩
          have F40 : Fr L τ (inW [(1, 1), (20, 1), (21, 1), (22, 1), (23, 1), (24, 1), (25, 1), (26, 1), (27, 1), (4, 0), (0, 0), (1, 0), (20, 0), (21, 0), (22, 0), (23, 0), (24, 0), (25, 0), (26, 0), (27, 0)]) E E40 := Fr.put F35 P40 tq39 rfl
          refine lv_aload_n hx hb dX9_measures_70 rfl (lv_at hl 0 rfl) ?_
          refine tr_getr Z.1 Z.2.2.2.1 S40.1 S40.2 ha0 ta0 rfl rfl (fun _ h => List.mem_cons_of_mem _ (List.mem_append_left _ (List.mem_append_left _ (List.mem_append_right _ h)))) 0 (by decide) rfl (hts _ (List.mem_of_getElem? (i := 1) rfl)) dX9_measures_71 (fun q43 eq43 hq43 tq43 => ?_)
          have tq43 : τ q43 = (1, 0) := tq43
          have uq43 : q39 = q43 := S40.2.2.2.2 _ hq39 _ hq43 (tq39.trans tq43.symm) (by rw [tq39]; rfl)
          subst uq43
          refine lv_iload_n hx hb dX9_measures_74 rfl (lv_at hl 2 rfl) ?_
          refine tr_puti Z.1 Z.2.2.2.1 S40.1 S40.2 hq39 tq39 rfl rfl (fun _ h => List.mem_cons_of_mem _ (List.mem_append_left _ (List.mem_append_right _ h))) tyX4_ok nmX4 1 (by decide) rfl rfl rfl (hts _ (List.mem_of_getElem? (i := 3) rfl)) dX9_measures_75 (by have := fb_rng a2; omega) (by have := fb_rng a2; omega) (fun E44 H45 k46 W44 I44 P44 => ?_)
          have S44 : Now D TB cy (va_A (va_pl L E) sz) s L τ E44 H45 k46 := ⟨W44, I44⟩
          have F44 : Fr L τ (inW [(1, 1), (20, 1), (21, 1), (22, 1), (23, 1), (24, 1), (25, 1), (26, 1), (27, 1), (4, 0), (0, 0), (1, 0), (20, 0), (21, 0), (22, 0), (23, 0), (24, 0), (25, 0), (26, 0), (27, 0)]) E E44 := Fr.put F40 P44 tq39 rfl
          refine lv_aload_n hx hb dX9_measures_78 rfl (lv_at hl 0 rfl) ?_
          refine tr_getr Z.1 Z.2.2.2.1 S44.1 S44.2 ha0 ta0 rfl rfl (fun _ h => List.mem_cons_of_mem _ (List.mem_append_left _ (List.mem_append_left _ (List.mem_append_right _ h)))) 0 (by decide) rfl (hts _ (List.mem_of_getElem? (i := 1) rfl)) dX9_measures_79 (fun q47 eq47 hq47 tq47 => ?_)
          have tq47 : τ q47 = (1, 0) := tq47
          have uq47 : q39 = q47 := S44.2.2.2.2 _ hq39 _ hq47 (tq39.trans tq47.symm) (by rw [tq39]; rfl)
          subst uq47
          refine lv_iload_n hx hb dX9_measures_82 rfl (lv_at hl 3 rfl) ?_
          refine tr_puti Z.1 Z.2.2.2.1 S44.1 S44.2 hq39 tq39 rfl rfl (fun _ h => List.mem_cons_of_mem _ (List.mem_append_left _ (List.mem_append_right _ h))) tyX4_ok nmX4 2 (by decide) rfl rfl rfl (hts _ (List.mem_of_getElem? (i := 4) rfl)) dX9_measures_83 (by have := fb_rng a3; omega) (by have := fb_rng a3; omega) (fun E48 H49 k50 W48 I48 P48 => ?_)
          have S48 : Now D TB cy (va_A (va_pl L E) sz) s L τ E48 H49 k50 := ⟨W48, I48⟩
          have F48 : Fr L τ (inW [(1, 1), (20, 1), (21, 1), (22, 1), (23, 1), (24, 1), (25, 1), (26, 1), (27, 1), (4, 0), (0, 0), (1, 0), (20, 0), (21, 0), (22, 0), (23, 0), (24, 0), (25, 0), (26, 0), (27, 0)]) E E48 := Fr.put F44 P48 tq39 rfl
          refine lv_aload_n hx hb dX9_measures_86 rfl (lv_at hl 0 rfl) ?_
          refine tr_getr Z.1 Z.2.2.2.1 S48.1 S48.2 ha0 ta0 rfl rfl (fun _ h => List.mem_cons_of_mem _ (List.mem_append_left _ (List.mem_append_left _ (List.mem_append_right _ h)))) 0 (by decide) rfl (hts _ (List.mem_of_getElem? (i := 1) rfl)) dX9_measures_87 (fun q51 eq51 hq51 tq51 => ?_)
          have tq51 : τ q51 = (1, 0) := tq51
          have uq51 : q39 = q51 := S48.2.2.2.2 _ hq39 _ hq51 (tq39.trans tq51.symm) (by rw [tq39]; rfl)
          subst uq51
          refine lv_iload hx hb dX9_measures_90 (lv_at hl 4 rfl) ?_
          refine tr_puti Z.1 Z.2.2.2.1 S48.1 S48.2 hq39 tq39 rfl rfl (fun _ h => List.mem_cons_of_mem _ (List.mem_append_left _ (List.mem_append_right _ h))) tyX4_ok nmX4 3 (by decide) rfl rfl rfl (hts _ (List.mem_of_getElem? (i := 5) rfl)) dX9_measures_92 (by have := fb_rng a4; omega) (by have := fb_rng a4; omega) (fun E52 H53 k54 W52 I52 P52 => ?_)
          have S52 : Now D TB cy (va_A (va_pl L E) sz) s L τ E52 H53 k54 := ⟨W52, I52⟩
          have F52 : Fr L τ (inW [(1, 1), (20, 1), (21, 1), (22, 1), (23, 1), (24, 1), (25, 1), (26, 1), (27, 1), (4, 0), (0, 0), (1, 0), (20, 0), (21, 0), (22, 0), (23, 0), (24, 0), (25, 0), (26, 0), (27, 0)]) E E52 := Fr.put F48 P52 tq39 rfl
          obtain ⟨v55, ev55, tv55⟩ : ∃ v : Int32, Int32.ofInt (1) = v ∧ v.toInt = 1 := ⟨_, rfl, by decide +kernel⟩
          refine lv_iconst hx hb dX9_measures_95 ev55 ?_
          rw [← hQ]
          exact en_z Z S52 F52 (zo v55 (by omega)) ⟨(by omega), (by rw [((fi_put (k := 9) P52 (Or.inl (ne_ro ta0 tq39 (by decide)))).trans ((fi_put (k := 9) P48 (Or.inl (ne_ro ta0 tq39 (by decide)))).trans ((fi_put (k := 9) P44 (Or.inl (ne_ro ta0 tq39 (by decide)))).trans ((fi_put (k := 9) P40 (Or.inl (ne_ro ta0 tq39 (by decide)))).trans rfl))))]; omega), (by omega), (by omega)⟩ dX9_measures_96
        · skip
          have tc34 := nu_eq c34
          have uc34 : (0 : Int32).toInt = 0 := rfl
          exact J52 E H31 k32 ls S30 F0_ (by have := fb_rng a4; omega) (lv_sub hl [0] rfl)

set_option maxHeartbeats 4000000 in
set_option maxRecDepth 100000 in
theorem k_X9_path_vw (l : Launch) (D : va_G) (cy : Nat → ClassId) {L : List Nat} {τ : Nat → Ro} {E : Ec} (hI : Inv TB cy L τ E) {a0 : Nat} (ha0 : a0 ∈ L) (ta0 : τ a0 = (0, 0)) (a1 : Int32) : CtI l yX9_path wsX9_path { frames := 5, cells := 0, slots := 0, locals := 123 } D TB cy L τ E [.ref a0, .int a1] (inW [(1, 1), (20, 1), (21, 1), (22, 1), (23, 1), (24, 1), (25, 1), (26, 1), (27, 1), (4, 0), (0, 0), (1, 0), (20, 0), (21, 0), (22, 0), (23, 0), (24, 0), (25, 0), (26, 0), (27, 0)]) (fun r E' => ((r.toInt = 1 ∧ 1 ≤ a1.toInt ∧ a1.toInt ≤ 3) ∨ (r.toInt = 0 ∧ ¬ (1 ≤ a1.toInt ∧ a1.toInt ≤ 3))) ∧ ((fi E' a0 9).toInt ≠ 2) ∧ 0 ≤ r.toInt ∧ r.toInt ≤ 1) := by
  intro sz
  refine sta (cc := cX9_path) (maxL := 2) hI (by decide) rfl (Nat.le_of_ble_eq_true rfl) (fun p e s m args below meth c ls hsz Z S0 hl => ?_)
  have hx := Z.1.1
  have hb := Z.1.2.1
  have hts := Z.1.2.2.2.2
  have F0_ : Fr L τ (inW [(1, 1), (20, 1), (21, 1), (22, 1), (23, 1), (24, 1), (25, 1), (26, 1), (27, 1), (4, 0), (0, 0), (1, 0), (20, 0), (21, 0), (22, 0), (23, 0), (24, 0), (25, 0), (26, 0), (27, 0)]) E E := Fr.refl
  have hl : lv_has ls 2 [(0, .ref a0), (1, .int a1)] := hl
  generalize hQ : MQ below _ args s 0 0 _ = QQ
  refine lv_iload_n hx hb dX9_path_0 rfl (lv_at hl 1 rfl) ?_
  obtain ⟨v1, ev1, tv1⟩ : ∃ v : Int32, Int32.ofInt (1) = v ∧ v.toInt = 1 := ⟨_, rfl, by decide +kernel⟩
  refine lv_iconst hx hb dX9_path_1 ev1 ?_
  obtain ⟨v2, ev2, tv2⟩ : ∃ v : Int32, Int32.ofInt (3) = v ∧ v.toInt = 3 := ⟨_, rfl, by decide +kernel⟩
  refine lv_iconst hx hb dX9_path_2 ev2 ?_
  refine tc_si Z.1 Z.2.2.2.1 Z.2.2.2.2.1 Z.2.2.2.2.2 S0.1 (k_X9_within l D cy S0.2 a1 v1 v2) (va_cwS 3 hts gX9_path_X9_within rfl rfl rfl (by decide +kernel) ⟨Nat.le_of_ble_eq_true rfl, Nat.le_of_ble_eq_true rfl⟩) rfl hl.1 rfl (Nat.le_of_ble_eq_true rfl) dX9_path_3 ⟨Nat.zero_le _, Nat.zero_le _⟩ (fun v6 E3 H4 k5 W3 I3 G3 p3 => ?_)
  obtain ⟨q3, p3_0, p3_1, p3_2⟩ := p3
  have q3 := q3.symm
  subst q3
  have S3 : Now D TB cy (va_A (va_pl L E) sz) s L τ E H4 k5 := ⟨W3, I3⟩
  refine lv_if_ne (tgt := 15) hx hb dX9_path_6 (by decide) (fun c7 => ?_) (fun c7 => ?_)
  · skip
    have tc7 := nu_ne c7
    have uc7 : (0 : Int32).toInt = 0 := rfl
    refine lv_aload_n hx hb dX9_path_15 rfl (lv_at hl 0 rfl) ?_
    refine tc_vv Z.1 Z.2.2.2.1 Z.2.2.2.2.1 Z.2.2.2.2.2 S3.1 S3.2 ha0 ta0 rfl rfl (k_X9_beginAct_vw l D cy S3.2 ha0 ta0) (cwV 0 hts gX9_path_X9_beginAct rfl rfl rfl (by decide +kernel) ⟨Nat.le_of_ble_eq_true rfl, Nat.le_of_ble_eq_true rfl⟩) rfl hl.1 rfl (Nat.le_of_ble_eq_true rfl) dX9_path_16 ⟨Nat.zero_le _, Nat.zero_le _⟩ (fun E8 H9 k10 W8 I8 G8 p8 => ?_)
    obtain ⟨p8_0, p8_1⟩ := p8
    have S8 : Now D TB cy (va_A (va_pl L E) sz) s L τ E8 H9 k10 := ⟨W8, I8⟩
    have F8 : Fr L τ (inW [(1, 1), (20, 1), (21, 1), (22, 1), (23, 1), (24, 1), (25, 1), (26, 1), (27, 1), (4, 0), (0, 0), (1, 0), (20, 0), (21, 0), (22, 0), (23, 0), (24, 0), (25, 0), (26, 0), (27, 0)]) E E8 := F0_.trans (G8.mono (inW_mono (by decide)))
    have kz8_9 := fi_rng (k := 9) S8.2 ha0 ta0 rfl rfl
    refine lv_aload_n hx hb dX9_path_19 rfl (lv_at hl 0 rfl) ?_
    refine tr_getr Z.1 Z.2.2.2.1 S8.1 S8.2 ha0 ta0 rfl rfl (fun _ h => List.mem_cons_of_mem _ (List.mem_append_left _ (List.mem_append_left _ (List.mem_append_right _ h)))) 0 (by decide) rfl (hts _ (List.mem_of_getElem? (i := 1) rfl)) dX9_path_20 (fun q12 eq12 hq12 tq12 => ?_)
    have tq12 : τ q12 = (1, 0) := tq12
    refine lv_iload_n hx hb dX9_path_23 rfl (lv_at hl 1 rfl) ?_
    refine tr_puti Z.1 Z.2.2.2.1 S8.1 S8.2 hq12 tq12 rfl rfl (fun _ h => List.mem_cons_of_mem _ (List.mem_append_left _ (List.mem_append_right _ h))) tyX4_ok nmX4 4 (by decide) rfl rfl rfl (hts _ (List.mem_of_getElem? (i := 2) rfl)) dX9_path_24 (by omega) (by omega) (fun E13 H14 k15 W13 I13 P13 => ?_)
    have S13 : Now D TB cy (va_A (va_pl L E) sz) s L τ E13 H14 k15 := ⟨W13, I13⟩
    have F13 : Fr L τ (inW [(1, 1), (20, 1), (21, 1), (22, 1), (23, 1), (24, 1), (25, 1), (26, 1), (27, 1), (4, 0), (0, 0), (1, 0), (20, 0), (21, 0), (22, 0), (23, 0), (24, 0), (25, 0), (26, 0), (27, 0)]) E E13 := Fr.put F8 P13 tq12 rfl
    refine lv_aload_n hx hb dX9_path_27 rfl (lv_at hl 0 rfl) ?_
    refine tr_getr Z.1 Z.2.2.2.1 S13.1 S13.2 ha0 ta0 rfl rfl (fun _ h => List.mem_cons_of_mem _ (List.mem_append_left _ (List.mem_append_left _ (List.mem_append_right _ h)))) 0 (by decide) rfl (hts _ (List.mem_of_getElem? (i := 1) rfl)) dX9_path_28 (fun q16 eq16 hq16 tq16 => ?_)
    have tq16 : τ q16 = (1, 0) := tq16
    have uq16 : q12 = q16 := S13.2.2.2.2 _ hq12 _ hq16 (tq12.trans tq16.symm) (by rw [tq12]; rfl)
    subst uq16
    refine tr_getr Z.1 Z.2.2.2.1 S13.1 S13.2 hq12 tq12 rfl rfl (fun _ h => List.mem_cons_of_mem _ (List.mem_append_left _ (List.mem_append_right _ h))) 8 (by decide) rfl (hts _ (List.mem_of_getElem? (i := 3) rfl)) dX9_path_31 (fun q17 eq17 hq17 tq17 => ?_)
    have tq17 : τ q17 = (20, 0) := tq17
    obtain ⟨v18, ev18, tv18⟩ : ∃ v : Int32, Int32.ofInt (4) = v ∧ v.toInt = 4 := ⟨_, rfl, by decide +kernel⟩
    refine lv_iconst hx hb dX9_path_34 ev18 ?_
    refine tc_sv Z.1 Z.2.2.2.1 Z.2.2.2.2.1 Z.2.2.2.2.2 S13.1 (k_J7_fill_53178_v20_0 l D cy S13.2 hq17 tq17 v18) (va_cwS 2 hts gX9_path_J7_fill_53178 rfl rfl rfl (by decide +kernel) ⟨Nat.le_of_ble_eq_true rfl, Nat.le_of_ble_eq_true rfl⟩) rfl hl.1 rfl (Nat.le_of_ble_eq_true rfl) dX9_path_35 ⟨Nat.zero_le _, Nat.zero_le _⟩ (fun E19 H20 k21 W19 I19 G19 p19 => ?_)
    have S19 : Now D TB cy (va_A (va_pl L E) sz) s L τ E19 H20 k21 := ⟨W19, I19⟩
    have F19 : Fr L τ (inW [(1, 1), (20, 1), (21, 1), (22, 1), (23, 1), (24, 1), (25, 1), (26, 1), (27, 1), (4, 0), (0, 0), (1, 0), (20, 0), (21, 0), (22, 0), (23, 0), (24, 0), (25, 0), (26, 0), (27, 0)]) E E19 := F13.trans (G19.mono (inW_mono (by decide)))
    refine lv_aload_n hx hb dX9_path_38 rfl (lv_at hl 0 rfl) ?_
    refine tr_getr Z.1 Z.2.2.2.1 S19.1 S19.2 ha0 ta0 rfl rfl (fun _ h => List.mem_cons_of_mem _ (List.mem_append_left _ (List.mem_append_left _ (List.mem_append_right _ h)))) 0 (by decide) rfl (hts _ (List.mem_of_getElem? (i := 1) rfl)) dX9_path_39 (fun q23 eq23 hq23 tq23 => ?_)
    have tq23 : τ q23 = (1, 0) := tq23
    have uq23 : q12 = q23 := S19.2.2.2.2 _ hq12 _ hq23 (tq12.trans tq23.symm) (by rw [tq12]; rfl)
    subst uq23
    refine tr_getr Z.1 Z.2.2.2.1 S19.1 S19.2 hq12 tq12 rfl rfl (fun _ h => List.mem_cons_of_mem _ (List.mem_append_left _ (List.mem_append_right _ h))) 9 (by decide) rfl (hts _ (List.mem_of_getElem? (i := 4) rfl)) dX9_path_42 (fun q24 eq24 hq24 tq24 => ?_)
    have tq24 : τ q24 = (21, 0) := tq24
    obtain ⟨v25, ev25, tv25⟩ : ∃ v : Int32, (Int16.ofInt (1000)).toInt32 = v ∧ v.toInt = 1000 := ⟨_, rfl, by decide +kernel⟩
    refine lv_sipush hx hb dX9_path_45 ev25 ?_
    refine tc_sv Z.1 Z.2.2.2.1 Z.2.2.2.2.1 Z.2.2.2.2.2 S19.1 (k_J7_fill_53178_v21_0 l D cy S19.2 hq24 tq24 v25) (va_cwS 2 hts gX9_path_J7_fill_53178 rfl rfl rfl (by decide +kernel) ⟨Nat.le_of_ble_eq_true rfl, Nat.le_of_ble_eq_true rfl⟩) rfl hl.1 rfl (Nat.le_of_ble_eq_true rfl) dX9_path_48 ⟨Nat.zero_le _, Nat.zero_le _⟩ (fun E26 H27 k28 W26 I26 G26 p26 => ?_)
    have S26 : Now D TB cy (va_A (va_pl L E) sz) s L τ E26 H27 k28 := ⟨W26, I26⟩
    have F26 : Fr L τ (inW [(1, 1), (20, 1), (21, 1), (22, 1), (23, 1), (24, 1), (25, 1), (26, 1), (27, 1), (4, 0), (0, 0), (1, 0), (20, 0), (21, 0), (22, 0), (23, 0), (24, 0), (25, 0), (26, 0), (27, 0)]) E E26 := F19.trans (G26.mono (inW_mono (by decide)))
    refine lv_aload_n hx hb dX9_path_51 rfl (lv_at hl 0 rfl) ?_
    refine tr_getr Z.1 Z.2.2.2.1 S26.1 S26.2 ha0 ta0 rfl rfl (fun _ h => List.mem_cons_of_mem _ (List.mem_append_left _ (List.mem_append_left _ (List.mem_append_right _ h)))) 0 (by decide) rfl (hts _ (List.mem_of_getElem? (i := 1) rfl)) dX9_path_52 (fun q30 eq30 hq30 tq30 => ?_)
    have tq30 : τ q30 = (1, 0) := tq30
    have uq30 : q12 = q30 := S26.2.2.2.2 _ hq12 _ hq30 (tq12.trans tq30.symm) (by rw [tq12]; rfl)
    subst uq30
    refine tr_getr Z.1 Z.2.2.2.1 S26.1 S26.2 hq12 tq12 rfl rfl (fun _ h => List.mem_cons_of_mem _ (List.mem_append_left _ (List.mem_append_right _ h))) 10 (by decide) rfl (hts _ (List.mem_of_getElem? (i := 5) rfl)) dX9_path_55 (fun q31 eq31 hq31 tq31 => ?_)
    have tq31 : τ q31 = (22, 0) := tq31
    obtain ⟨v32, ev32, tv32⟩ : ∃ v : Int32, Int32.ofInt (0) = v ∧ v.toInt = 0 := ⟨_, rfl, by decide +kernel⟩
    refine lv_iconst hx hb dX9_path_58 ev32 ?_
    refine tc_sv Z.1 Z.2.2.2.1 Z.2.2.2.2.1 Z.2.2.2.2.2 S26.1 (k_J7_fill_53178_v22_0 l D cy S26.2 hq31 tq31 v32) (va_cwS 2 hts gX9_path_J7_fill_53178 rfl rfl rfl (by decide +kernel) ⟨Nat.le_of_ble_eq_true rfl, Nat.le_of_ble_eq_true rfl⟩) rfl hl.1 rfl (Nat.le_of_ble_eq_true rfl) dX9_path_59 ⟨Nat.zero_le _, Nat.zero_le _⟩ (fun E33 H34 k35 W33 I33 G33 p33 => ?_)
    have S33 : Now D TB cy (va_A (va_pl L E) sz) s L τ E33 H34 k35 := ⟨W33, I33⟩
    have F33 : Fr L τ (inW [(1, 1), (20, 1), (21, 1), (22, 1), (23, 1), (24, 1), (25, 1), (26, 1), (27, 1), (4, 0), (0, 0), (1, 0), (20, 0), (21, 0), (22, 0), (23, 0), (24, 0), (25, 0), (26, 0), (27, 0)]) E E33 := F26.trans (G33.mono (inW_mono (by decide)))
    obtain ⟨v37, ev37, tv37⟩ : ∃ v : Int32, Int32.ofInt (1) = v ∧ v.toInt = 1 := ⟨_, rfl, by decide +kernel⟩
    refine lv_iconst hx hb dX9_path_62 ev37 ?_
    rw [← hQ]
    exact en_z Z S33 F33 (zo v37 (by omega)) ⟨(by omega), (by rw [((fi_fr (k := 9) G33 ha0 (by rw [ta0]; rfl)).trans ((fi_fr (k := 9) G26 ha0 (by rw [ta0]; rfl)).trans ((fi_fr (k := 9) G19 ha0 (by rw [ta0]; rfl)).trans ((fi_put (k := 9) P13 (Or.inl (ne_ro ta0 tq12 (by decide)))).trans rfl))))]; omega), (by omega), (by omega)⟩ dX9_path_63
  · skip
    have tc7 := nu_eq c7
    have uc7 : (0 : Int32).toInt = 0 := rfl
    refine lv_aload_n hx hb dX9_path_9 rfl (lv_at hl 0 rfl) ?_
    obtain ⟨v38, ev38, tv38⟩ : ∃ v : Int32, Int32.ofInt (1) = v ∧ v.toInt = 1 := ⟨_, rfl, by decide +kernel⟩
    refine lv_iconst hx hb dX9_path_10 ev38 ?_
    refine tc_vi Z.1 Z.2.2.2.1 Z.2.2.2.2.1 Z.2.2.2.2.2 S3.1 S3.2 ha0 ta0 rfl rfl (k_X9_deny_vw l D cy S3.2 ha0 ta0 v38) (cwV 1 hts gX9_path_X9_deny rfl rfl rfl (by decide +kernel) ⟨Nat.le_of_ble_eq_true rfl, Nat.le_of_ble_eq_true rfl⟩) rfl hl.1 rfl (Nat.le_of_ble_eq_true rfl) dX9_path_11 ⟨Nat.zero_le _, Nat.zero_le _⟩ (fun v42 E39 H40 k41 W39 I39 G39 p39 => ?_)
    obtain ⟨p39_0, p39_1, p39_2, p39_3⟩ := p39
    have S39 : Now D TB cy (va_A (va_pl L E) sz) s L τ E39 H40 k41 := ⟨W39, I39⟩
    have F39 : Fr L τ (inW [(1, 1), (20, 1), (21, 1), (22, 1), (23, 1), (24, 1), (25, 1), (26, 1), (27, 1), (4, 0), (0, 0), (1, 0), (20, 0), (21, 0), (22, 0), (23, 0), (24, 0), (25, 0), (26, 0), (27, 0)]) E E39 := F0_.trans (G39.mono (inW_mono (by decide)))
    have kz39_9 := fi_rng (k := 9) S39.2 ha0 ta0 rfl rfl
    rw [← hQ]
    exact en_z Z S39 F39 (zo v42 (by omega)) ⟨(by omega), (by omega), (by omega), (by omega)⟩ dX9_path_14

set_option maxHeartbeats 4000000 in
set_option maxRecDepth 100000 in
theorem k_X9_flight_vw (l : Launch) (D : va_G) (cy : Nat → ClassId) {L : List Nat} {τ : Nat → Ro} {E : Ec} (hI : Inv TB cy L τ E) {a0 : Nat} (ha0 : a0 ∈ L) (ta0 : τ a0 = (0, 0)) (a1 : Int32) (a2 : Int32) (a3 : Int32) : CtI l yX9_flight wsX9_flight { frames := 5, cells := 0, slots := 0, locals := 123 } D TB cy L τ E [.ref a0, .int a1, .int a2, .int a3] (inW [(1, 1), (20, 1), (21, 1), (22, 1), (23, 1), (24, 1), (25, 1), (26, 1), (27, 1), (4, 0), (0, 0), (1, 0), (20, 0), (21, 0), (22, 0), (23, 0), (24, 0), (25, 0), (26, 0), (27, 0)]) (fun r E' => ((fi E' a0 9).toInt ≠ 2) ∧ 0 ≤ r.toInt ∧ r.toInt ≤ 1) := by
  intro sz
  refine sta (cc := cX9_flight) (maxL := 4) hI (by decide) rfl (Nat.le_of_ble_eq_true rfl) (fun p e s m args below meth c ls hsz Z S0 hl => ?_)
  have hx := Z.1.1
  have hb := Z.1.2.1
  have hts := Z.1.2.2.2.2
  have F0_ : Fr L τ (inW [(1, 1), (20, 1), (21, 1), (22, 1), (23, 1), (24, 1), (25, 1), (26, 1), (27, 1), (4, 0), (0, 0), (1, 0), (20, 0), (21, 0), (22, 0), (23, 0), (24, 0), (25, 0), (26, 0), (27, 0)]) E E := Fr.refl
  have hl : lv_has ls 4 [(0, .ref a0), (1, .int a1), (2, .int a2), (3, .int a3)] := hl
  generalize hQ : MQ below _ args s 0 0 _ = QQ
  have J66 : ∀  (E_66 : Ec) (H_66 : Heap) (k_66 : List Loc) (l_66 : Array Slot), Now D TB cy (va_A (va_pl L E) sz) s L τ E_66 H_66 k_66 → Fr L τ (inW [(1, 1), (20, 1), (21, 1), (22, 1), (23, 1), (24, 1), (25, 1), (26, 1), (27, 1), (4, 0), (0, 0), (1, 0), (20, 0), (21, 0), (22, 0), (23, 0), (24, 0), (25, 0), (26, 0), (27, 0)]) E E_66 → lv_has l_66 4 [(0, .ref a0)] → W p l e { frames := 5, cells := 0, slots := 0, locals := 123 } s m args below meth c H_66 k_66 0 0 QQ (F0 m 66 l_66 []) := by
    intro  E_66 H_66 k_66 l_66 S_66 F_66  hl_66
    refine lv_aload_n hx hb dX9_flight_66 rfl (lv_at hl_66 0 rfl) ?_
    obtain ⟨v1, ev1, tv1⟩ : ∃ v : Int32, Int32.ofInt (1) = v ∧ v.toInt = 1 := ⟨_, rfl, by decide +kernel⟩
    refine lv_iconst hx hb dX9_flight_67 ev1 ?_
    refine tc_vi Z.1 Z.2.2.2.1 Z.2.2.2.2.1 Z.2.2.2.2.2 S_66.1 S_66.2 ha0 ta0 rfl rfl (k_X9_deny_vw l D cy S_66.2 ha0 ta0 v1) (cwV 1 hts gX9_flight_X9_deny rfl rfl rfl (by decide +kernel) ⟨Nat.le_of_ble_eq_true rfl, Nat.le_of_ble_eq_true rfl⟩) rfl hl_66.1 rfl (Nat.le_of_ble_eq_true rfl) dX9_flight_68 ⟨Nat.zero_le _, Nat.zero_le _⟩ (fun v5 E2 H3 k4 W2 I2 G2 p2 => ?_)
    obtain ⟨p2_0, p2_1, p2_2, p2_3⟩ := p2
    have S2 : Now D TB cy (va_A (va_pl L E) sz) s L τ E2 H3 k4 := ⟨W2, I2⟩
    have F2 : Fr L τ (inW [(1, 1), (20, 1), (21, 1), (22, 1), (23, 1), (24, 1), (25, 1), (26, 1), (27, 1), (4, 0), (0, 0), (1, 0), (20, 0), (21, 0), (22, 0), (23, 0), (24, 0), (25, 0), (26, 0), (27, 0)]) E E2 := F_66.trans (G2.mono (inW_mono (by decide)))
    have kz2_9 := fi_rng (k := 9) S2.2 ha0 ta0 rfl rfl
    rw [← hQ]
    exact en_z Z S2 F2 (zo v5 (by omega)) ⟨(by omega), (by omega), (by omega)⟩ dX9_flight_71
  refine lv_iload_n hx hb dX9_flight_0 rfl (lv_at hl 1 rfl) ?_
  obtain ⟨v6, ev6, tv6⟩ : ∃ v : Int32, Int32.ofInt (0) = v ∧ v.toInt = 0 := ⟨_, rfl, by decide +kernel⟩
  refine lv_iconst hx hb dX9_flight_1 ev6 ?_
  refine lv_aload_n hx hb dX9_flight_2 rfl (lv_at hl 0 rfl) ?_
  refine tr_getr Z.1 Z.2.2.2.1 S0.1 S0.2 ha0 ta0 rfl rfl (fun _ h => List.mem_cons_of_mem _ (List.mem_append_left _ (List.mem_append_left _ (List.mem_append_right _ h)))) 0 (by decide) rfl (hts _ (List.mem_of_getElem? (i := 1) rfl)) dX9_flight_3 (fun q7 eq7 hq7 tq7 => ?_)
  have tq7 : τ q7 = (1, 0) := tq7
  refine tr_geti Z.1 Z.2.2.2.1 S0.1 S0.2 hq7 tq7 rfl rfl (fun _ h => List.mem_cons_of_mem _ (List.mem_append_left _ (List.mem_append_right _ h))) 4 (by decide) rfl (hts _ (List.mem_of_getElem? (i := 2) rfl)) dX9_flight_6 (fun v8 ev8 lv8 uv8 => ?_)
  obtain ⟨v9, ev9, tv9⟩ : ∃ v : Int32, Int32.ofInt (1) = v ∧ v.toInt = 1 := ⟨_, rfl, by decide +kernel⟩
  refine lv_iconst hx hb dX9_flight_9 ev9 ?_
  refine lv_isub hx hb dX9_flight_10 ?_
  refine lv_topi (fun v10 ev10 => ?_)
  have tv10 := nu_sub ev10 (by omega) (by omega)
  refine tc_si Z.1 Z.2.2.2.1 Z.2.2.2.2.1 Z.2.2.2.2.2 S0.1 (k_X9_within l D cy S0.2 a1 v6 v10) (va_cwS 3 hts gX9_flight_X9_within rfl rfl rfl (by decide +kernel) ⟨Nat.le_of_ble_eq_true rfl, Nat.le_of_ble_eq_true rfl⟩) rfl hl.1 rfl (Nat.le_of_ble_eq_true rfl) dX9_flight_11 ⟨Nat.zero_le _, Nat.zero_le _⟩ (fun v14 E11 H12 k13 W11 I11 G11 p11 => ?_)
  obtain ⟨q11, p11_0, p11_1, p11_2⟩ := p11
  have q11 := q11.symm
  subst q11
  have S11 : Now D TB cy (va_A (va_pl L E) sz) s L τ E H12 k13 := ⟨W11, I11⟩
  refine lv_if_ne (tgt := 23) hx hb dX9_flight_14 (by decide) (fun c15 => ?_) (fun c15 => ?_)
  · skip
    have tc15 := nu_ne c15
    have uc15 : (0 : Int32).toInt = 0 := rfl
    refine lv_iload_n hx hb dX9_flight_23 rfl (lv_at hl 2 rfl) ?_
    obtain ⟨v16, ev16, tv16⟩ : ∃ v : Int32, Int32.ofInt (0) = v ∧ v.toInt = 0 := ⟨_, rfl, by decide +kernel⟩
    refine lv_iconst hx hb dX9_flight_24 ev16 ?_
    obtain ⟨v17, ev17, tv17⟩ : ∃ v : Int32, (Int8.ofInt (20)).toInt32 = v ∧ v.toInt = 20 := ⟨_, rfl, by decide +kernel⟩
    refine lv_bipush hx hb dX9_flight_25 ev17 ?_
    refine tc_si Z.1 Z.2.2.2.1 Z.2.2.2.2.1 Z.2.2.2.2.2 S11.1 (k_X9_within l D cy S11.2 a2 v16 v17) (va_cwS 3 hts gX9_flight_X9_within rfl rfl rfl (by decide +kernel) ⟨Nat.le_of_ble_eq_true rfl, Nat.le_of_ble_eq_true rfl⟩) rfl hl.1 rfl (Nat.le_of_ble_eq_true rfl) dX9_flight_27 ⟨Nat.zero_le _, Nat.zero_le _⟩ (fun v21 E18 H19 k20 W18 I18 G18 p18 => ?_)
    obtain ⟨q18, p18_0, p18_1, p18_2⟩ := p18
    have q18 := q18.symm
    subst q18
    have S18 : Now D TB cy (va_A (va_pl L E) sz) s L τ E H19 k20 := ⟨W18, I18⟩
    refine lv_if_eq (tgt := 66) hx hb dX9_flight_30 (by decide) (fun c22 => ?_) (fun c22 => ?_)
    · skip
      have tc22 := nu_eq c22
      have uc22 : (0 : Int32).toInt = 0 := rfl
      exact J66 E H19 k20 ls S18 F0_ (lv_sub hl [0] rfl)
    · skip
      have tc22 := nu_ne c22
      have uc22 : (0 : Int32).toInt = 0 := rfl
      refine lv_iload_n hx hb dX9_flight_33 rfl (lv_at hl 3 rfl) ?_
      obtain ⟨v23, ev23, tv23⟩ : ∃ v : Int32, Int32.ofInt (0) = v ∧ v.toInt = 0 := ⟨_, rfl, by decide +kernel⟩
      refine lv_iconst hx hb dX9_flight_34 ev23 ?_
      obtain ⟨v24, ev24, tv24⟩ : ∃ v : Int32, (Int16.ofInt (6000)).toInt32 = v ∧ v.toInt = 6000 := ⟨_, rfl, by decide +kernel⟩
      refine lv_sipush hx hb dX9_flight_35 ev24 ?_
      refine tc_si Z.1 Z.2.2.2.1 Z.2.2.2.2.1 Z.2.2.2.2.2 S18.1 (k_X9_within l D cy S18.2 a3 v23 v24) (va_cwS 3 hts gX9_flight_X9_within rfl rfl rfl (by decide +kernel) ⟨Nat.le_of_ble_eq_true rfl, Nat.le_of_ble_eq_true rfl⟩) rfl hl.1 rfl (Nat.le_of_ble_eq_true rfl) dX9_flight_38 ⟨Nat.zero_le _, Nat.zero_le _⟩ (fun v28 E25 H26 k27 W25 I25 G25 p25 => ?_)
      obtain ⟨q25, p25_0, p25_1, p25_2⟩ := p25
      have q25 := q25.symm
      subst q25
      have S25 : Now D TB cy (va_A (va_pl L E) sz) s L τ E H26 k27 := ⟨W25, I25⟩
      refine lv_if_eq (tgt := 66) hx hb dX9_flight_41 (by decide) (fun c29 => ?_) (fun c29 => ?_)
      · skip
        have tc29 := nu_eq c29
        have uc29 : (0 : Int32).toInt = 0 := rfl
        exact J66 E H26 k27 ls S25 F0_ (lv_sub hl [0] rfl)
      · skip
        have tc29 := nu_ne c29
        have uc29 : (0 : Int32).toInt = 0 := rfl
        refine lv_aload_n hx hb dX9_flight_44 rfl (lv_at hl 0 rfl) ?_
        refine tr_getr Z.1 Z.2.2.2.1 S25.1 S25.2 ha0 ta0 rfl rfl (fun _ h => List.mem_cons_of_mem _ (List.mem_append_left _ (List.mem_append_left _ (List.mem_append_right _ h)))) 0 (by decide) rfl (hts _ (List.mem_of_getElem? (i := 1) rfl)) dX9_flight_45 (fun q30 eq30 hq30 tq30 => ?_)
        have tq30 : τ q30 = (1, 0) := tq30
        have uq30 : q7 = q30 := S25.2.2.2.2 _ hq7 _ hq30 (tq7.trans tq30.symm) (by rw [tq7]; rfl)
        subst uq30
        refine tc_vi Z.1 Z.2.2.2.1 Z.2.2.2.2.1 Z.2.2.2.2.2 S25.1 S25.2 hq7 tq7 rfl rfl (k_X4_flightTreads_v0 l D cy S25.2 hq7 tq7) (cwV 0 hts gX9_flight_X4_flightTreads rfl rfl rfl (by decide +kernel) ⟨Nat.le_of_ble_eq_true rfl, Nat.le_of_ble_eq_true rfl⟩) rfl hl.1 rfl (Nat.le_of_ble_eq_true rfl) dX9_flight_48 ⟨Nat.zero_le _, Nat.zero_le _⟩ (fun v34 E31 H32 k33 W31 I31 G31 p31 => ?_)
        have q31 := p31
        have q31 := q31.symm
        subst q31
        have S31 : Now D TB cy (va_A (va_pl L E) sz) s L τ E H32 k33 := ⟨W31, I31⟩
        refine lv_aload_n hx hb dX9_flight_51 rfl (lv_at hl 0 rfl) ?_
        refine tr_getr Z.1 Z.2.2.2.1 S31.1 S31.2 ha0 ta0 rfl rfl (fun _ h => List.mem_cons_of_mem _ (List.mem_append_left _ (List.mem_append_left _ (List.mem_append_right _ h)))) 0 (by decide) rfl (hts _ (List.mem_of_getElem? (i := 1) rfl)) dX9_flight_52 (fun q35 eq35 hq35 tq35 => ?_)
        have tq35 : τ q35 = (1, 0) := tq35
        have uq35 : q7 = q35 := S31.2.2.2.2 _ hq7 _ hq35 (tq7.trans tq35.symm) (by rw [tq7]; rfl)
        subst uq35
        refine tr_getr Z.1 Z.2.2.2.1 S31.1 S31.2 hq7 tq7 rfl rfl (fun _ h => List.mem_cons_of_mem _ (List.mem_append_left _ (List.mem_append_right _ h))) 8 (by decide) rfl (hts _ (List.mem_of_getElem? (i := 3) rfl)) dX9_flight_55 (fun q36 eq36 hq36 tq36 => ?_)
        have tq36 : τ q36 = (20, 0) := tq36
        refine lv_iload_n hx hb dX9_flight_58 rfl (lv_at hl 1 rfl) ?_
        refine tr_iald Z.1 Z.2.2.2.1 S31.1 S31.2 hq36 tq36 rfl (by omega) (by omega) dX9_flight_59 (fun v37 ev37 lv37 uv37 => ?_)
        refine lv_isub hx hb dX9_flight_60 ?_
        refine lv_topi (fun v38 ev38 => ?_)
        refine lv_iload_n hx hb dX9_flight_61 rfl (lv_at hl 2 rfl) ?_
        refine lv_iadd hx hb dX9_flight_62 ?_
        refine lv_topi (fun v39 ev39 => ?_)
        refine lv_if_ne (tgt := 72) hx hb dX9_flight_63 (by decide) (fun c40 => ?_) (fun c40 => ?_)
        · skip
          have tc40 := nu_ne c40
          have uc40 : (0 : Int32).toInt = 0 := rfl
          refine lv_aload_n hx hb dX9_flight_72 rfl (lv_at hl 0 rfl) ?_
          refine tc_vv Z.1 Z.2.2.2.1 Z.2.2.2.2.1 Z.2.2.2.2.2 S31.1 S31.2 ha0 ta0 rfl rfl (k_X9_beginAct_vw l D cy S31.2 ha0 ta0) (cwV 0 hts gX9_flight_X9_beginAct rfl rfl rfl (by decide +kernel) ⟨Nat.le_of_ble_eq_true rfl, Nat.le_of_ble_eq_true rfl⟩) rfl hl.1 rfl (Nat.le_of_ble_eq_true rfl) dX9_flight_73 ⟨Nat.zero_le _, Nat.zero_le _⟩ (fun E41 H42 k43 W41 I41 G41 p41 => ?_)
          obtain ⟨p41_0, p41_1⟩ := p41
          have S41 : Now D TB cy (va_A (va_pl L E) sz) s L τ E41 H42 k43 := ⟨W41, I41⟩
          have F41 : Fr L τ (inW [(1, 1), (20, 1), (21, 1), (22, 1), (23, 1), (24, 1), (25, 1), (26, 1), (27, 1), (4, 0), (0, 0), (1, 0), (20, 0), (21, 0), (22, 0), (23, 0), (24, 0), (25, 0), (26, 0), (27, 0)]) E E41 := F0_.trans (G41.mono (inW_mono (by decide)))
          have kz41_9 := fi_rng (k := 9) S41.2 ha0 ta0 rfl rfl
          refine lv_aload_n hx hb dX9_flight_76 rfl (lv_at hl 0 rfl) ?_
          refine tr_getr Z.1 Z.2.2.2.1 S41.1 S41.2 ha0 ta0 rfl rfl (fun _ h => List.mem_cons_of_mem _ (List.mem_append_left _ (List.mem_append_left _ (List.mem_append_right _ h)))) 0 (by decide) rfl (hts _ (List.mem_of_getElem? (i := 1) rfl)) dX9_flight_77 (fun q45 eq45 hq45 tq45 => ?_)
          have tq45 : τ q45 = (1, 0) := tq45
          have uq45 : q7 = q45 := S41.2.2.2.2 _ hq7 _ hq45 (tq7.trans tq45.symm) (by rw [tq7]; rfl)
          subst uq45
          refine tr_getr Z.1 Z.2.2.2.1 S41.1 S41.2 hq7 tq7 rfl rfl (fun _ h => List.mem_cons_of_mem _ (List.mem_append_left _ (List.mem_append_right _ h))) 8 (by decide) rfl (hts _ (List.mem_of_getElem? (i := 3) rfl)) dX9_flight_80 (fun q46 eq46 hq46 tq46 => ?_)
          have tq46 : τ q46 = (20, 0) := tq46
          have uq46 : q36 = q46 := S41.2.2.2.2 _ hq36 _ hq46 (tq36.trans tq46.symm) (by rw [tq36]; rfl)
          subst uq46
          refine lv_iload_n hx hb dX9_flight_83 rfl (lv_at hl 1 rfl) ?_
          refine lv_iload_n hx hb dX9_flight_84 rfl (lv_at hl 2 rfl) ?_
          refine tr_iast Z.1 Z.2.2.2.1 S41.1 S41.2 hq36 tq36 rfl (by omega) (by omega) (by have := fb_rng a2; omega) (by have := fb_rng a2; omega) dX9_flight_85 (fun E47 H48 k49 W47 I47 P47 => ?_)
          have S47 : Now D TB cy (va_A (va_pl L E) sz) s L τ E47 H48 k49 := ⟨W47, I47⟩
          have F47 : Fr L τ (inW [(1, 1), (20, 1), (21, 1), (22, 1), (23, 1), (24, 1), (25, 1), (26, 1), (27, 1), (4, 0), (0, 0), (1, 0), (20, 0), (21, 0), (22, 0), (23, 0), (24, 0), (25, 0), (26, 0), (27, 0)]) E E47 := Fr.set F41 P47 tq36 rfl
          refine lv_aload_n hx hb dX9_flight_86 rfl (lv_at hl 0 rfl) ?_
          refine tr_getr Z.1 Z.2.2.2.1 S47.1 S47.2 ha0 ta0 rfl rfl (fun _ h => List.mem_cons_of_mem _ (List.mem_append_left _ (List.mem_append_left _ (List.mem_append_right _ h)))) 0 (by decide) rfl (hts _ (List.mem_of_getElem? (i := 1) rfl)) dX9_flight_87 (fun q50 eq50 hq50 tq50 => ?_)
          have tq50 : τ q50 = (1, 0) := tq50
          have uq50 : q7 = q50 := S47.2.2.2.2 _ hq7 _ hq50 (tq7.trans tq50.symm) (by rw [tq7]; rfl)
          subst uq50
          refine tr_getr Z.1 Z.2.2.2.1 S47.1 S47.2 hq7 tq7 rfl rfl (fun _ h => List.mem_cons_of_mem _ (List.mem_append_left _ (List.mem_append_right _ h))) 9 (by decide) rfl (hts _ (List.mem_of_getElem? (i := 4) rfl)) dX9_flight_90 (fun q51 eq51 hq51 tq51 => ?_)
          have tq51 : τ q51 = (21, 0) := tq51
          refine lv_iload_n hx hb dX9_flight_93 rfl (lv_at hl 1 rfl) ?_
          refine lv_iload_n hx hb dX9_flight_94 rfl (lv_at hl 3 rfl) ?_
          refine tr_iast Z.1 Z.2.2.2.1 S47.1 S47.2 hq51 tq51 rfl (by omega) (by omega) (by have := fb_rng a3; omega) (by have := fb_rng a3; omega) dX9_flight_95 (fun E52 H53 k54 W52 I52 P52 => ?_)
          have S52 : Now D TB cy (va_A (va_pl L E) sz) s L τ E52 H53 k54 := ⟨W52, I52⟩
          have F52 : Fr L τ (inW [(1, 1), (20, 1), (21, 1), (22, 1), (23, 1), (24, 1), (25, 1), (26, 1), (27, 1), (4, 0), (0, 0), (1, 0), (20, 0), (21, 0), (22, 0), (23, 0), (24, 0), (25, 0), (26, 0), (27, 0)]) E E52 := Fr.set F47 P52 tq51 rfl
          obtain ⟨v55, ev55, tv55⟩ : ∃ v : Int32, Int32.ofInt (1) = v ∧ v.toInt = 1 := ⟨_, rfl, by decide +kernel⟩
          refine lv_iconst hx hb dX9_flight_96 ev55 ?_
          rw [← hQ]
          exact en_z Z S52 F52 (zo v55 (by omega)) ⟨(by rw [((fi_set (k := 9) P52 (ne_ro ta0 tq51 (by decide))).trans ((fi_set (k := 9) P47 (ne_ro ta0 tq36 (by decide))).trans rfl))]; omega), (by omega), (by omega)⟩ dX9_flight_97
        · skip
          have tc40 := nu_eq c40
          have uc40 : (0 : Int32).toInt = 0 := rfl
          exact J66 E H32 k33 ls S31 F0_ (lv_sub hl [0] rfl)
  · skip
    have tc15 := nu_eq c15
    have uc15 : (0 : Int32).toInt = 0 := rfl
    refine lv_aload_n hx hb dX9_flight_17 rfl (lv_at hl 0 rfl) ?_
    obtain ⟨v56, ev56, tv56⟩ : ∃ v : Int32, Int32.ofInt (4) = v ∧ v.toInt = 4 := ⟨_, rfl, by decide +kernel⟩
    refine lv_iconst hx hb dX9_flight_18 ev56 ?_
    refine tc_vi Z.1 Z.2.2.2.1 Z.2.2.2.2.1 Z.2.2.2.2.2 S11.1 S11.2 ha0 ta0 rfl rfl (k_X9_deny_vw l D cy S11.2 ha0 ta0 v56) (cwV 1 hts gX9_flight_X9_deny rfl rfl rfl (by decide +kernel) ⟨Nat.le_of_ble_eq_true rfl, Nat.le_of_ble_eq_true rfl⟩) rfl hl.1 rfl (Nat.le_of_ble_eq_true rfl) dX9_flight_19 ⟨Nat.zero_le _, Nat.zero_le _⟩ (fun v60 E57 H58 k59 W57 I57 G57 p57 => ?_)
    obtain ⟨p57_0, p57_1, p57_2, p57_3⟩ := p57
    have S57 : Now D TB cy (va_A (va_pl L E) sz) s L τ E57 H58 k59 := ⟨W57, I57⟩
    have F57 : Fr L τ (inW [(1, 1), (20, 1), (21, 1), (22, 1), (23, 1), (24, 1), (25, 1), (26, 1), (27, 1), (4, 0), (0, 0), (1, 0), (20, 0), (21, 0), (22, 0), (23, 0), (24, 0), (25, 0), (26, 0), (27, 0)]) E E57 := F0_.trans (G57.mono (inW_mono (by decide)))
    have kz57_9 := fi_rng (k := 9) S57.2 ha0 ta0 rfl rfl
    rw [← hQ]
    exact en_z Z S57 F57 (zo v60 (by omega)) ⟨(by omega), (by omega), (by omega)⟩ dX9_flight_22

set_option maxHeartbeats 4000000 in
set_option maxRecDepth 100000 in
theorem k_X9_turn_vw (l : Launch) (D : va_G) (cy : Nat → ClassId) {L : List Nat} {τ : Nat → Ro} {E : Ec} (hI : Inv TB cy L τ E) {a0 : Nat} (ha0 : a0 ∈ L) (ta0 : τ a0 = (0, 0)) (a1 : Int32) (a2 : Int32) : CtI l yX9_turn wsX9_turn { frames := 5, cells := 0, slots := 0, locals := 123 } D TB cy L τ E [.ref a0, .int a1, .int a2] (inW [(1, 1), (20, 1), (21, 1), (22, 1), (23, 1), (24, 1), (25, 1), (26, 1), (27, 1), (4, 0), (0, 0), (1, 0), (20, 0), (21, 0), (22, 0), (23, 0), (24, 0), (25, 0), (26, 0), (27, 0)]) (fun r E' => ((fi E' a0 9).toInt ≠ 2) ∧ 0 ≤ r.toInt ∧ r.toInt ≤ 1) := by
  intro sz
  refine sta (cc := cX9_turn) (maxL := 3) hI (by decide) rfl (Nat.le_of_ble_eq_true rfl) (fun p e s m args below meth c ls hsz Z S0 hl => ?_)
  have hx := Z.1.1
  have hb := Z.1.2.1
  have hts := Z.1.2.2.2.2
  have F0_ : Fr L τ (inW [(1, 1), (20, 1), (21, 1), (22, 1), (23, 1), (24, 1), (25, 1), (26, 1), (27, 1), (4, 0), (0, 0), (1, 0), (20, 0), (21, 0), (22, 0), (23, 0), (24, 0), (25, 0), (26, 0), (27, 0)]) E E := Fr.refl
  have hl : lv_has ls 3 [(0, .ref a0), (1, .int a1), (2, .int a2)] := hl
  generalize hQ : MQ below _ args s 0 0 _ = QQ
  refine lv_iload_n hx hb dX9_turn_0 rfl (lv_at hl 1 rfl) ?_
  obtain ⟨v1, ev1, tv1⟩ : ∃ v : Int32, Int32.ofInt (0) = v ∧ v.toInt = 0 := ⟨_, rfl, by decide +kernel⟩
  refine lv_iconst hx hb dX9_turn_1 ev1 ?_
  refine lv_aload_n hx hb dX9_turn_2 rfl (lv_at hl 0 rfl) ?_
  refine tr_getr Z.1 Z.2.2.2.1 S0.1 S0.2 ha0 ta0 rfl rfl (fun _ h => List.mem_cons_of_mem _ (List.mem_append_left _ (List.mem_append_left _ (List.mem_append_right _ h)))) 0 (by decide) rfl (hts _ (List.mem_of_getElem? (i := 1) rfl)) dX9_turn_3 (fun q2 eq2 hq2 tq2 => ?_)
  have tq2 : τ q2 = (1, 0) := tq2
  refine tr_geti Z.1 Z.2.2.2.1 S0.1 S0.2 hq2 tq2 rfl rfl (fun _ h => List.mem_cons_of_mem _ (List.mem_append_left _ (List.mem_append_right _ h))) 4 (by decide) rfl (hts _ (List.mem_of_getElem? (i := 2) rfl)) dX9_turn_6 (fun v3 ev3 lv3 uv3 => ?_)
  obtain ⟨v4, ev4, tv4⟩ : ∃ v : Int32, Int32.ofInt (2) = v ∧ v.toInt = 2 := ⟨_, rfl, by decide +kernel⟩
  refine lv_iconst hx hb dX9_turn_9 ev4 ?_
  refine lv_isub hx hb dX9_turn_10 ?_
  refine lv_topi (fun v5 ev5 => ?_)
  have tv5 := nu_sub ev5 (by omega) (by omega)
  refine tc_si Z.1 Z.2.2.2.1 Z.2.2.2.2.1 Z.2.2.2.2.2 S0.1 (k_X9_within l D cy S0.2 a1 v1 v5) (va_cwS 3 hts gX9_turn_X9_within rfl rfl rfl (by decide +kernel) ⟨Nat.le_of_ble_eq_true rfl, Nat.le_of_ble_eq_true rfl⟩) rfl hl.1 rfl (Nat.le_of_ble_eq_true rfl) dX9_turn_11 ⟨Nat.zero_le _, Nat.zero_le _⟩ (fun v9 E6 H7 k8 W6 I6 G6 p6 => ?_)
  obtain ⟨q6, p6_0, p6_1, p6_2⟩ := p6
  have q6 := q6.symm
  subst q6
  have S6 : Now D TB cy (va_A (va_pl L E) sz) s L τ E H7 k8 := ⟨W6, I6⟩
  refine lv_if_ne (tgt := 23) hx hb dX9_turn_14 (by decide) (fun c10 => ?_) (fun c10 => ?_)
  · skip
    have tc10 := nu_ne c10
    have uc10 : (0 : Int32).toInt = 0 := rfl
    refine lv_iload_n hx hb dX9_turn_23 rfl (lv_at hl 2 rfl) ?_
    obtain ⟨v11, ev11, tv11⟩ : ∃ v : Int32, Int32.ofInt (0) = v ∧ v.toInt = 0 := ⟨_, rfl, by decide +kernel⟩
    refine lv_iconst hx hb dX9_turn_24 ev11 ?_
    obtain ⟨v12, ev12, tv12⟩ : ∃ v : Int32, Int32.ofInt (1) = v ∧ v.toInt = 1 := ⟨_, rfl, by decide +kernel⟩
    refine lv_iconst hx hb dX9_turn_25 ev12 ?_
    refine tc_si Z.1 Z.2.2.2.1 Z.2.2.2.2.1 Z.2.2.2.2.2 S6.1 (k_X9_within l D cy S6.2 a2 v11 v12) (va_cwS 3 hts gX9_turn_X9_within rfl rfl rfl (by decide +kernel) ⟨Nat.le_of_ble_eq_true rfl, Nat.le_of_ble_eq_true rfl⟩) rfl hl.1 rfl (Nat.le_of_ble_eq_true rfl) dX9_turn_26 ⟨Nat.zero_le _, Nat.zero_le _⟩ (fun v16 E13 H14 k15 W13 I13 G13 p13 => ?_)
    obtain ⟨q13, p13_0, p13_1, p13_2⟩ := p13
    have q13 := q13.symm
    subst q13
    have S13 : Now D TB cy (va_A (va_pl L E) sz) s L τ E H14 k15 := ⟨W13, I13⟩
    refine lv_if_ne (tgt := 38) hx hb dX9_turn_29 (by decide) (fun c17 => ?_) (fun c17 => ?_)
    · skip
      have tc17 := nu_ne c17
      have uc17 : (0 : Int32).toInt = 0 := rfl
      refine lv_aload_n hx hb dX9_turn_38 rfl (lv_at hl 0 rfl) ?_
      refine tc_vv Z.1 Z.2.2.2.1 Z.2.2.2.2.1 Z.2.2.2.2.2 S13.1 S13.2 ha0 ta0 rfl rfl (k_X9_beginAct_vw l D cy S13.2 ha0 ta0) (cwV 0 hts gX9_turn_X9_beginAct rfl rfl rfl (by decide +kernel) ⟨Nat.le_of_ble_eq_true rfl, Nat.le_of_ble_eq_true rfl⟩) rfl hl.1 rfl (Nat.le_of_ble_eq_true rfl) dX9_turn_39 ⟨Nat.zero_le _, Nat.zero_le _⟩ (fun E18 H19 k20 W18 I18 G18 p18 => ?_)
      obtain ⟨p18_0, p18_1⟩ := p18
      have S18 : Now D TB cy (va_A (va_pl L E) sz) s L τ E18 H19 k20 := ⟨W18, I18⟩
      have F18 : Fr L τ (inW [(1, 1), (20, 1), (21, 1), (22, 1), (23, 1), (24, 1), (25, 1), (26, 1), (27, 1), (4, 0), (0, 0), (1, 0), (20, 0), (21, 0), (22, 0), (23, 0), (24, 0), (25, 0), (26, 0), (27, 0)]) E E18 := F0_.trans (G18.mono (inW_mono (by decide)))
      have kz18_9 := fi_rng (k := 9) S18.2 ha0 ta0 rfl rfl
      refine lv_aload_n hx hb dX9_turn_42 rfl (lv_at hl 0 rfl) ?_
      refine tr_getr Z.1 Z.2.2.2.1 S18.1 S18.2 ha0 ta0 rfl rfl (fun _ h => List.mem_cons_of_mem _ (List.mem_append_left _ (List.mem_append_left _ (List.mem_append_right _ h)))) 0 (by decide) rfl (hts _ (List.mem_of_getElem? (i := 1) rfl)) dX9_turn_43 (fun q22 eq22 hq22 tq22 => ?_)
      have tq22 : τ q22 = (1, 0) := tq22
      have uq22 : q2 = q22 := S18.2.2.2.2 _ hq2 _ hq22 (tq2.trans tq22.symm) (by rw [tq2]; rfl)
      subst uq22
      refine tr_getr Z.1 Z.2.2.2.1 S18.1 S18.2 hq2 tq2 rfl rfl (fun _ h => List.mem_cons_of_mem _ (List.mem_append_left _ (List.mem_append_right _ h))) 10 (by decide) rfl (hts _ (List.mem_of_getElem? (i := 3) rfl)) dX9_turn_46 (fun q23 eq23 hq23 tq23 => ?_)
      have tq23 : τ q23 = (22, 0) := tq23
      refine lv_iload_n hx hb dX9_turn_49 rfl (lv_at hl 1 rfl) ?_
      refine lv_iload_n hx hb dX9_turn_50 rfl (lv_at hl 2 rfl) ?_
      refine tr_iast Z.1 Z.2.2.2.1 S18.1 S18.2 hq23 tq23 rfl (by omega) (by omega) (by have := fb_rng a2; omega) (by have := fb_rng a2; omega) dX9_turn_51 (fun E24 H25 k26 W24 I24 P24 => ?_)
      have S24 : Now D TB cy (va_A (va_pl L E) sz) s L τ E24 H25 k26 := ⟨W24, I24⟩
      have F24 : Fr L τ (inW [(1, 1), (20, 1), (21, 1), (22, 1), (23, 1), (24, 1), (25, 1), (26, 1), (27, 1), (4, 0), (0, 0), (1, 0), (20, 0), (21, 0), (22, 0), (23, 0), (24, 0), (25, 0), (26, 0), (27, 0)]) E E24 := Fr.set F18 P24 tq23 rfl
      obtain ⟨v27, ev27, tv27⟩ : ∃ v : Int32, Int32.ofInt (1) = v ∧ v.toInt = 1 := ⟨_, rfl, by decide +kernel⟩
      refine lv_iconst hx hb dX9_turn_52 ev27 ?_
      rw [← hQ]
      exact en_z Z S24 F24 (zo v27 (by omega)) ⟨(by rw [((fi_set (k := 9) P24 (ne_ro ta0 tq23 (by decide))).trans rfl)]; omega), (by omega), (by omega)⟩ dX9_turn_53
    · skip
      have tc17 := nu_eq c17
      have uc17 : (0 : Int32).toInt = 0 := rfl
      refine lv_aload_n hx hb dX9_turn_32 rfl (lv_at hl 0 rfl) ?_
      obtain ⟨v28, ev28, tv28⟩ : ∃ v : Int32, Int32.ofInt (1) = v ∧ v.toInt = 1 := ⟨_, rfl, by decide +kernel⟩
      refine lv_iconst hx hb dX9_turn_33 ev28 ?_
      refine tc_vi Z.1 Z.2.2.2.1 Z.2.2.2.2.1 Z.2.2.2.2.2 S13.1 S13.2 ha0 ta0 rfl rfl (k_X9_deny_vw l D cy S13.2 ha0 ta0 v28) (cwV 1 hts gX9_turn_X9_deny rfl rfl rfl (by decide +kernel) ⟨Nat.le_of_ble_eq_true rfl, Nat.le_of_ble_eq_true rfl⟩) rfl hl.1 rfl (Nat.le_of_ble_eq_true rfl) dX9_turn_34 ⟨Nat.zero_le _, Nat.zero_le _⟩ (fun v32 E29 H30 k31 W29 I29 G29 p29 => ?_)
      obtain ⟨p29_0, p29_1, p29_2, p29_3⟩ := p29
      have S29 : Now D TB cy (va_A (va_pl L E) sz) s L τ E29 H30 k31 := ⟨W29, I29⟩
      have F29 : Fr L τ (inW [(1, 1), (20, 1), (21, 1), (22, 1), (23, 1), (24, 1), (25, 1), (26, 1), (27, 1), (4, 0), (0, 0), (1, 0), (20, 0), (21, 0), (22, 0), (23, 0), (24, 0), (25, 0), (26, 0), (27, 0)]) E E29 := F0_.trans (G29.mono (inW_mono (by decide)))
      have kz29_9 := fi_rng (k := 9) S29.2 ha0 ta0 rfl rfl
      rw [← hQ]
      exact en_z Z S29 F29 (zo v32 (by omega)) ⟨(by omega), (by omega), (by omega)⟩ dX9_turn_37
  · skip
    have tc10 := nu_eq c10
    have uc10 : (0 : Int32).toInt = 0 := rfl
    refine lv_aload_n hx hb dX9_turn_17 rfl (lv_at hl 0 rfl) ?_
    obtain ⟨v33, ev33, tv33⟩ : ∃ v : Int32, Int32.ofInt (4) = v ∧ v.toInt = 4 := ⟨_, rfl, by decide +kernel⟩
    refine lv_iconst hx hb dX9_turn_18 ev33 ?_
    refine tc_vi Z.1 Z.2.2.2.1 Z.2.2.2.2.1 Z.2.2.2.2.2 S6.1 S6.2 ha0 ta0 rfl rfl (k_X9_deny_vw l D cy S6.2 ha0 ta0 v33) (cwV 1 hts gX9_turn_X9_deny rfl rfl rfl (by decide +kernel) ⟨Nat.le_of_ble_eq_true rfl, Nat.le_of_ble_eq_true rfl⟩) rfl hl.1 rfl (Nat.le_of_ble_eq_true rfl) dX9_turn_19 ⟨Nat.zero_le _, Nat.zero_le _⟩ (fun v37 E34 H35 k36 W34 I34 G34 p34 => ?_)
    obtain ⟨p34_0, p34_1, p34_2, p34_3⟩ := p34
    have S34 : Now D TB cy (va_A (va_pl L E) sz) s L τ E34 H35 k36 := ⟨W34, I34⟩
    have F34 : Fr L τ (inW [(1, 1), (20, 1), (21, 1), (22, 1), (23, 1), (24, 1), (25, 1), (26, 1), (27, 1), (4, 0), (0, 0), (1, 0), (20, 0), (21, 0), (22, 0), (23, 0), (24, 0), (25, 0), (26, 0), (27, 0)]) E E34 := F0_.trans (G34.mono (inW_mono (by decide)))
    have kz34_9 := fi_rng (k := 9) S34.2 ha0 ta0 rfl rfl
    rw [← hQ]
    exact en_z Z S34 F34 (zo v37 (by omega)) ⟨(by omega), (by omega), (by omega)⟩ dX9_turn_22

set_option maxHeartbeats 4000000 in
set_option maxRecDepth 100000 in
theorem k_X9_first_vw (l : Launch) (D : va_G) (cy : Nat → ClassId) {L : List Nat} {τ : Nat → Ro} {E : Ec} (hI : Inv TB cy L τ E) {a0 : Nat} (ha0 : a0 ∈ L) (ta0 : τ a0 = (0, 0)) (a1 : Int32) : CtI l yX9_first wsX9_first { frames := 5, cells := 0, slots := 0, locals := 123 } D TB cy L τ E [.ref a0, .int a1] (inW [(1, 1), (20, 1), (21, 1), (22, 1), (23, 1), (24, 1), (25, 1), (26, 1), (27, 1), (4, 0), (0, 0), (1, 0), (20, 0), (21, 0), (22, 0), (23, 0), (24, 0), (25, 0), (26, 0), (27, 0)]) (fun r E' => ((r.toInt = 1 ∧ 0 ≤ a1.toInt ∧ a1.toInt ≤ 1) ∨ (r.toInt = 0 ∧ ¬ (0 ≤ a1.toInt ∧ a1.toInt ≤ 1))) ∧ ((fi E' a0 9).toInt ≠ 2) ∧ 0 ≤ r.toInt ∧ r.toInt ≤ 1) := by
  intro sz
  refine sta (cc := cX9_first) (maxL := 2) hI (by decide) rfl (Nat.le_of_ble_eq_true rfl) (fun p e s m args below meth c ls hsz Z S0 hl => ?_)
  have hx := Z.1.1
  have hb := Z.1.2.1
  have hts := Z.1.2.2.2.2
  have F0_ : Fr L τ (inW [(1, 1), (20, 1), (21, 1), (22, 1), (23, 1), (24, 1), (25, 1), (26, 1), (27, 1), (4, 0), (0, 0), (1, 0), (20, 0), (21, 0), (22, 0), (23, 0), (24, 0), (25, 0), (26, 0), (27, 0)]) E E := Fr.refl
  have hl : lv_has ls 2 [(0, .ref a0), (1, .int a1)] := hl
  generalize hQ : MQ below _ args s 0 0 _ = QQ
  refine lv_iload_n hx hb dX9_first_0 rfl (lv_at hl 1 rfl) ?_
  obtain ⟨v1, ev1, tv1⟩ : ∃ v : Int32, Int32.ofInt (0) = v ∧ v.toInt = 0 := ⟨_, rfl, by decide +kernel⟩
  refine lv_iconst hx hb dX9_first_1 ev1 ?_
  obtain ⟨v2, ev2, tv2⟩ : ∃ v : Int32, Int32.ofInt (1) = v ∧ v.toInt = 1 := ⟨_, rfl, by decide +kernel⟩
  refine lv_iconst hx hb dX9_first_2 ev2 ?_
  refine tc_si Z.1 Z.2.2.2.1 Z.2.2.2.2.1 Z.2.2.2.2.2 S0.1 (k_X9_within l D cy S0.2 a1 v1 v2) (va_cwS 3 hts gX9_first_X9_within rfl rfl rfl (by decide +kernel) ⟨Nat.le_of_ble_eq_true rfl, Nat.le_of_ble_eq_true rfl⟩) rfl hl.1 rfl (Nat.le_of_ble_eq_true rfl) dX9_first_3 ⟨Nat.zero_le _, Nat.zero_le _⟩ (fun v6 E3 H4 k5 W3 I3 G3 p3 => ?_)
  obtain ⟨q3, p3_0, p3_1, p3_2⟩ := p3
  have q3 := q3.symm
  subst q3
  have S3 : Now D TB cy (va_A (va_pl L E) sz) s L τ E H4 k5 := ⟨W3, I3⟩
  refine lv_if_ne (tgt := 15) hx hb dX9_first_6 (by decide) (fun c7 => ?_) (fun c7 => ?_)
  · skip
    have tc7 := nu_ne c7
    have uc7 : (0 : Int32).toInt = 0 := rfl
    refine lv_aload_n hx hb dX9_first_15 rfl (lv_at hl 0 rfl) ?_
    refine tc_vv Z.1 Z.2.2.2.1 Z.2.2.2.2.1 Z.2.2.2.2.2 S3.1 S3.2 ha0 ta0 rfl rfl (k_X9_beginAct_vw l D cy S3.2 ha0 ta0) (cwV 0 hts gX9_first_X9_beginAct rfl rfl rfl (by decide +kernel) ⟨Nat.le_of_ble_eq_true rfl, Nat.le_of_ble_eq_true rfl⟩) rfl hl.1 rfl (Nat.le_of_ble_eq_true rfl) dX9_first_16 ⟨Nat.zero_le _, Nat.zero_le _⟩ (fun E8 H9 k10 W8 I8 G8 p8 => ?_)
    obtain ⟨p8_0, p8_1⟩ := p8
    have S8 : Now D TB cy (va_A (va_pl L E) sz) s L τ E8 H9 k10 := ⟨W8, I8⟩
    have F8 : Fr L τ (inW [(1, 1), (20, 1), (21, 1), (22, 1), (23, 1), (24, 1), (25, 1), (26, 1), (27, 1), (4, 0), (0, 0), (1, 0), (20, 0), (21, 0), (22, 0), (23, 0), (24, 0), (25, 0), (26, 0), (27, 0)]) E E8 := F0_.trans (G8.mono (inW_mono (by decide)))
    have kz8_9 := fi_rng (k := 9) S8.2 ha0 ta0 rfl rfl
    refine lv_aload_n hx hb dX9_first_19 rfl (lv_at hl 0 rfl) ?_
    refine tr_getr Z.1 Z.2.2.2.1 S8.1 S8.2 ha0 ta0 rfl rfl (fun _ h => List.mem_cons_of_mem _ (List.mem_append_left _ (List.mem_append_left _ (List.mem_append_right _ h)))) 0 (by decide) rfl (hts _ (List.mem_of_getElem? (i := 1) rfl)) dX9_first_20 (fun q12 eq12 hq12 tq12 => ?_)
    have tq12 : τ q12 = (1, 0) := tq12
    refine lv_iload_n hx hb dX9_first_23 rfl (lv_at hl 1 rfl) ?_
    refine tr_puti Z.1 Z.2.2.2.1 S8.1 S8.2 hq12 tq12 rfl rfl (fun _ h => List.mem_cons_of_mem _ (List.mem_append_left _ (List.mem_append_right _ h))) tyX4_ok nmX4 5 (by decide) rfl rfl rfl (hts _ (List.mem_of_getElem? (i := 2) rfl)) dX9_first_24 (by have := fb_rng a1; omega) (by have := fb_rng a1; omega) (fun E13 H14 k15 W13 I13 P13 => ?_)
    have S13 : Now D TB cy (va_A (va_pl L E) sz) s L τ E13 H14 k15 := ⟨W13, I13⟩
    have F13 : Fr L τ (inW [(1, 1), (20, 1), (21, 1), (22, 1), (23, 1), (24, 1), (25, 1), (26, 1), (27, 1), (4, 0), (0, 0), (1, 0), (20, 0), (21, 0), (22, 0), (23, 0), (24, 0), (25, 0), (26, 0), (27, 0)]) E E13 := Fr.put F8 P13 tq12 rfl
    obtain ⟨v16, ev16, tv16⟩ : ∃ v : Int32, Int32.ofInt (1) = v ∧ v.toInt = 1 := ⟨_, rfl, by decide +kernel⟩
    refine lv_iconst hx hb dX9_first_27 ev16 ?_
    rw [← hQ]
    exact en_z Z S13 F13 (zo v16 (by omega)) ⟨(by omega), (by rw [((fi_put (k := 9) P13 (Or.inl (ne_ro ta0 tq12 (by decide)))).trans rfl)]; omega), (by omega), (by omega)⟩ dX9_first_28
  · skip
    have tc7 := nu_eq c7
    have uc7 : (0 : Int32).toInt = 0 := rfl
    refine lv_aload_n hx hb dX9_first_9 rfl (lv_at hl 0 rfl) ?_
    obtain ⟨v17, ev17, tv17⟩ : ∃ v : Int32, Int32.ofInt (1) = v ∧ v.toInt = 1 := ⟨_, rfl, by decide +kernel⟩
    refine lv_iconst hx hb dX9_first_10 ev17 ?_
    refine tc_vi Z.1 Z.2.2.2.1 Z.2.2.2.2.1 Z.2.2.2.2.2 S3.1 S3.2 ha0 ta0 rfl rfl (k_X9_deny_vw l D cy S3.2 ha0 ta0 v17) (cwV 1 hts gX9_first_X9_deny rfl rfl rfl (by decide +kernel) ⟨Nat.le_of_ble_eq_true rfl, Nat.le_of_ble_eq_true rfl⟩) rfl hl.1 rfl (Nat.le_of_ble_eq_true rfl) dX9_first_11 ⟨Nat.zero_le _, Nat.zero_le _⟩ (fun v21 E18 H19 k20 W18 I18 G18 p18 => ?_)
    obtain ⟨p18_0, p18_1, p18_2, p18_3⟩ := p18
    have S18 : Now D TB cy (va_A (va_pl L E) sz) s L τ E18 H19 k20 := ⟨W18, I18⟩
    have F18 : Fr L τ (inW [(1, 1), (20, 1), (21, 1), (22, 1), (23, 1), (24, 1), (25, 1), (26, 1), (27, 1), (4, 0), (0, 0), (1, 0), (20, 0), (21, 0), (22, 0), (23, 0), (24, 0), (25, 0), (26, 0), (27, 0)]) E E18 := F0_.trans (G18.mono (inW_mono (by decide)))
    have kz18_9 := fi_rng (k := 9) S18.2 ha0 ta0 rfl rfl
    rw [← hQ]
    exact en_z Z S18 F18 (zo v21 (by omega)) ⟨(by omega), (by omega), (by omega), (by omega)⟩ dX9_first_14

set_option maxHeartbeats 4000000 in
set_option maxRecDepth 100000 in
theorem k_X9_beam_vw (l : Launch) (D : va_G) (cy : Nat → ClassId) {L : List Nat} {τ : Nat → Ro} {E : Ec} (hI : Inv TB cy L τ E) {a0 : Nat} (ha0 : a0 ∈ L) (ta0 : τ a0 = (0, 0)) (a1 : Int32) (a2 : Int32) (a3 : Int32) : CtI l yX9_beam wsX9_beam { frames := 5, cells := 0, slots := 0, locals := 123 } D TB cy L τ E [.ref a0, .int a1, .int a2, .int a3] (inW [(1, 1), (20, 1), (21, 1), (22, 1), (23, 1), (24, 1), (25, 1), (26, 1), (27, 1), (4, 0), (0, 0), (1, 0), (20, 0), (21, 0), (22, 0), (23, 0), (24, 0), (25, 0), (26, 0), (27, 0)]) (fun r E' => ((fi E' a0 9).toInt ≠ 2)) := by
  intro sz
  refine sta (cc := cX9_beam) (maxL := 4) hI (by decide) rfl (Nat.le_of_ble_eq_true rfl) (fun p e s m args below meth c ls hsz Z S0 hl => ?_)
  have hx := Z.1.1
  have hb := Z.1.2.1
  have hts := Z.1.2.2.2.2
  have F0_ : Fr L τ (inW [(1, 1), (20, 1), (21, 1), (22, 1), (23, 1), (24, 1), (25, 1), (26, 1), (27, 1), (4, 0), (0, 0), (1, 0), (20, 0), (21, 0), (22, 0), (23, 0), (24, 0), (25, 0), (26, 0), (27, 0)]) E E := Fr.refl
  have hl : lv_has ls 4 [(0, .ref a0), (1, .int a1), (2, .int a2), (3, .int a3)] := hl
  generalize hQ : MQ below _ args s 0 0 _ = QQ
  have J27 : ∀  (E_27 : Ec) (H_27 : Heap) (k_27 : List Loc) (l_27 : Array Slot), Now D TB cy (va_A (va_pl L E) sz) s L τ E_27 H_27 k_27 → Fr L τ (inW [(1, 1), (20, 1), (21, 1), (22, 1), (23, 1), (24, 1), (25, 1), (26, 1), (27, 1), (4, 0), (0, 0), (1, 0), (20, 0), (21, 0), (22, 0), (23, 0), (24, 0), (25, 0), (26, 0), (27, 0)]) E E_27 → lv_has l_27 4 [(0, .ref a0)] → W p l e { frames := 5, cells := 0, slots := 0, locals := 123 } s m args below meth c H_27 k_27 0 0 QQ (F0 m 27 l_27 []) := by
    intro  E_27 H_27 k_27 l_27 S_27 F_27  hl_27
    refine lv_aload_n hx hb dX9_beam_27 rfl (lv_at hl_27 0 rfl) ?_
    obtain ⟨v1, ev1, tv1⟩ : ∃ v : Int32, Int32.ofInt (1) = v ∧ v.toInt = 1 := ⟨_, rfl, by decide +kernel⟩
    refine lv_iconst hx hb dX9_beam_28 ev1 ?_
    refine tc_vi Z.1 Z.2.2.2.1 Z.2.2.2.2.1 Z.2.2.2.2.2 S_27.1 S_27.2 ha0 ta0 rfl rfl (k_X9_refuse_vw l D cy S_27.2 ha0 ta0 v1) (cwV 1 hts gX9_beam_X9_refuse rfl rfl rfl (by decide +kernel) ⟨Nat.le_of_ble_eq_true rfl, Nat.le_of_ble_eq_true rfl⟩) rfl hl_27.1 rfl (Nat.le_of_ble_eq_true rfl) dX9_beam_29 ⟨Nat.zero_le _, Nat.zero_le _⟩ (fun v5 E2 H3 k4 W2 I2 G2 p2 => ?_)
    obtain ⟨p2_0, p2_1, p2_2, p2_3⟩ := p2
    have S2 : Now D TB cy (va_A (va_pl L E) sz) s L τ E2 H3 k4 := ⟨W2, I2⟩
    have F2 : Fr L τ (inW [(1, 1), (20, 1), (21, 1), (22, 1), (23, 1), (24, 1), (25, 1), (26, 1), (27, 1), (4, 0), (0, 0), (1, 0), (20, 0), (21, 0), (22, 0), (23, 0), (24, 0), (25, 0), (26, 0), (27, 0)]) E E2 := F_27.trans (G2.mono (inW_mono (by decide)))
    have kz2_9 := fi_rng (k := 9) S2.2 ha0 ta0 rfl rfl
    rw [← hQ]
    exact en_i Z S2 F2 (by omega) dX9_beam_32
  refine lv_iload_n hx hb dX9_beam_0 rfl (lv_at hl 1 rfl) ?_
  obtain ⟨v6, ev6, tv6⟩ : ∃ v : Int32, Int32.ofInt (0) = v ∧ v.toInt = 0 := ⟨_, rfl, by decide +kernel⟩
  refine lv_iconst hx hb dX9_beam_1 ev6 ?_
  obtain ⟨v7, ev7, tv7⟩ : ∃ v : Int32, (Int16.ofInt (20000)).toInt32 = v ∧ v.toInt = 20000 := ⟨_, rfl, by decide +kernel⟩
  refine lv_sipush hx hb dX9_beam_2 ev7 ?_
  refine tc_si Z.1 Z.2.2.2.1 Z.2.2.2.2.1 Z.2.2.2.2.2 S0.1 (k_X9_within l D cy S0.2 a1 v6 v7) (va_cwS 3 hts gX9_beam_X9_within rfl rfl rfl (by decide +kernel) ⟨Nat.le_of_ble_eq_true rfl, Nat.le_of_ble_eq_true rfl⟩) rfl hl.1 rfl (Nat.le_of_ble_eq_true rfl) dX9_beam_5 ⟨Nat.zero_le _, Nat.zero_le _⟩ (fun v11 E8 H9 k10 W8 I8 G8 p8 => ?_)
  obtain ⟨q8, p8_0, p8_1, p8_2⟩ := p8
  have q8 := q8.symm
  subst q8
  have S8 : Now D TB cy (va_A (va_pl L E) sz) s L τ E H9 k10 := ⟨W8, I8⟩
  refine lv_if_eq (tgt := 27) hx hb dX9_beam_8 (by decide) (fun c12 => ?_) (fun c12 => ?_)
  · skip
    have tc12 := nu_eq c12
    have uc12 : (0 : Int32).toInt = 0 := rfl
    exact J27 E H9 k10 ls S8 F0_ (lv_sub hl [0] rfl)
  · skip
    have tc12 := nu_ne c12
    have uc12 : (0 : Int32).toInt = 0 := rfl
    refine lv_iload_n hx hb dX9_beam_11 rfl (lv_at hl 2 rfl) ?_
    refine lv_iload_n hx hb dX9_beam_12 rfl (lv_at hl 1 rfl) ?_
    refine lv_icmp_le (tgt := 27) hx hb dX9_beam_13 (by decide) (fun c13 => ?_) (fun c13 => ?_)
    · skip
      have tc13 := nu_le c13
      exact J27 E H9 k10 ls S8 F0_ (lv_sub hl [0] rfl)
    · skip
      have tc13 := nu_nle c13
      refine lv_iload_n hx hb dX9_beam_16 rfl (lv_at hl 3 rfl) ?_
      obtain ⟨v14, ev14, tv14⟩ : ∃ v : Int32, Int32.ofInt (0) = v ∧ v.toInt = 0 := ⟨_, rfl, by decide +kernel⟩
      refine lv_iconst hx hb dX9_beam_17 ev14 ?_
      obtain ⟨v15, ev15, tv15⟩ : ∃ v : Int32, (Int16.ofInt (9000)).toInt32 = v ∧ v.toInt = 9000 := ⟨_, rfl, by decide +kernel⟩
      refine lv_sipush hx hb dX9_beam_18 ev15 ?_
      refine tc_si Z.1 Z.2.2.2.1 Z.2.2.2.2.1 Z.2.2.2.2.2 S8.1 (k_X9_within l D cy S8.2 a3 v14 v15) (va_cwS 3 hts gX9_beam_X9_within rfl rfl rfl (by decide +kernel) ⟨Nat.le_of_ble_eq_true rfl, Nat.le_of_ble_eq_true rfl⟩) rfl hl.1 rfl (Nat.le_of_ble_eq_true rfl) dX9_beam_21 ⟨Nat.zero_le _, Nat.zero_le _⟩ (fun v19 E16 H17 k18 W16 I16 G16 p16 => ?_)
      obtain ⟨q16, p16_0, p16_1, p16_2⟩ := p16
      have q16 := q16.symm
      subst q16
      have S16 : Now D TB cy (va_A (va_pl L E) sz) s L τ E H17 k18 := ⟨W16, I16⟩
      refine lv_if_ne (tgt := 33) hx hb dX9_beam_24 (by decide) (fun c20 => ?_) (fun c20 => ?_)
      · skip
        have tc20 := nu_ne c20
        have uc20 : (0 : Int32).toInt = 0 := rfl
        refine lv_aload_n hx hb dX9_beam_33 rfl (lv_at hl 0 rfl) ?_
        refine tr_getr Z.1 Z.2.2.2.1 S16.1 S16.2 ha0 ta0 rfl rfl (fun _ h => List.mem_cons_of_mem _ (List.mem_append_left _ (List.mem_append_left _ (List.mem_append_right _ h)))) 0 (by decide) rfl (hts _ (List.mem_of_getElem? (i := 1) rfl)) dX9_beam_34 (fun q21 eq21 hq21 tq21 => ?_)
        have tq21 : τ q21 = (1, 0) := tq21
        refine tr_geti Z.1 Z.2.2.2.1 S16.1 S16.2 hq21 tq21 rfl rfl (fun _ h => List.mem_cons_of_mem _ (List.mem_append_left _ (List.mem_append_right _ h))) 6 (by decide) rfl (hts _ (List.mem_of_getElem? (i := 2) rfl)) dX9_beam_37 (fun v22 ev22 lv22 uv22 => ?_)
        obtain ⟨v23, ev23, tv23⟩ : ∃ v : Int32, (Int8.ofInt (8)).toInt32 = v ∧ v.toInt = 8 := ⟨_, rfl, by decide +kernel⟩
        refine lv_bipush hx hb dX9_beam_40 ev23 ?_
        refine lv_icmp_lt (tgt := 51) hx hb dX9_beam_42 (by decide) (fun c24 => ?_) (fun c24 => ?_)
        · skip
          have tc24 := nu_lt c24
          refine lv_aload_n hx hb dX9_beam_51 rfl (lv_at hl 0 rfl) ?_
          refine tc_vv Z.1 Z.2.2.2.1 Z.2.2.2.2.1 Z.2.2.2.2.2 S16.1 S16.2 ha0 ta0 rfl rfl (k_X9_beginAct_vw l D cy S16.2 ha0 ta0) (cwV 0 hts gX9_beam_X9_beginAct rfl rfl rfl (by decide +kernel) ⟨Nat.le_of_ble_eq_true rfl, Nat.le_of_ble_eq_true rfl⟩) rfl hl.1 rfl (Nat.le_of_ble_eq_true rfl) dX9_beam_52 ⟨Nat.zero_le _, Nat.zero_le _⟩ (fun E25 H26 k27 W25 I25 G25 p25 => ?_)
          obtain ⟨p25_0, p25_1⟩ := p25
          have S25 : Now D TB cy (va_A (va_pl L E) sz) s L τ E25 H26 k27 := ⟨W25, I25⟩
          have F25 : Fr L τ (inW [(1, 1), (20, 1), (21, 1), (22, 1), (23, 1), (24, 1), (25, 1), (26, 1), (27, 1), (4, 0), (0, 0), (1, 0), (20, 0), (21, 0), (22, 0), (23, 0), (24, 0), (25, 0), (26, 0), (27, 0)]) E E25 := F0_.trans (G25.mono (inW_mono (by decide)))
          have kz25_9 := fi_rng (k := 9) S25.2 ha0 ta0 rfl rfl
          refine lv_aload_n hx hb dX9_beam_55 rfl (lv_at hl 0 rfl) ?_
          refine tr_getr Z.1 Z.2.2.2.1 S25.1 S25.2 ha0 ta0 rfl rfl (fun _ h => List.mem_cons_of_mem _ (List.mem_append_left _ (List.mem_append_left _ (List.mem_append_right _ h)))) 0 (by decide) rfl (hts _ (List.mem_of_getElem? (i := 1) rfl)) dX9_beam_56 (fun q29 eq29 hq29 tq29 => ?_)
          have tq29 : τ q29 = (1, 0) := tq29
          have uq29 : q21 = q29 := S25.2.2.2.2 _ hq21 _ hq29 (tq21.trans tq29.symm) (by rw [tq21]; rfl)
          subst uq29
          refine tr_getr Z.1 Z.2.2.2.1 S25.1 S25.2 hq21 tq21 rfl rfl (fun _ h => List.mem_cons_of_mem _ (List.mem_append_left _ (List.mem_append_right _ h))) 11 (by decide) rfl (hts _ (List.mem_of_getElem? (i := 3) rfl)) dX9_beam_59 (fun q30 eq30 hq30 tq30 => ?_)
          have tq30 : τ q30 = (23, 0) := tq30
          refine lv_aload_n hx hb dX9_beam_62 rfl (lv_at hl 0 rfl) ?_
          refine tr_getr Z.1 Z.2.2.2.1 S25.1 S25.2 ha0 ta0 rfl rfl (fun _ h => List.mem_cons_of_mem _ (List.mem_append_left _ (List.mem_append_left _ (List.mem_append_right _ h)))) 0 (by decide) rfl (hts _ (List.mem_of_getElem? (i := 1) rfl)) dX9_beam_63 (fun q31 eq31 hq31 tq31 => ?_)
          have tq31 : τ q31 = (1, 0) := tq31
          have uq31 : q21 = q31 := S25.2.2.2.2 _ hq21 _ hq31 (tq21.trans tq31.symm) (by rw [tq21]; rfl)
          subst uq31
          refine tr_geti Z.1 Z.2.2.2.1 S25.1 S25.2 hq21 tq21 rfl rfl (fun _ h => List.mem_cons_of_mem _ (List.mem_append_left _ (List.mem_append_right _ h))) 6 (by decide) rfl (hts _ (List.mem_of_getElem? (i := 2) rfl)) dX9_beam_66 (fun v32 ev32 lv32 uv32 => ?_)
          have wv32 : v32 = v22 := ev32.symm.trans ((fi_fr (k := 6) G25 hq21 (by rw [tq21]; rfl)).trans ev22)
          have xv32 : v32.toInt = v22.toInt := by rw [wv32]
          refine lv_iload_n hx hb dX9_beam_69 rfl (lv_at hl 1 rfl) ?_
          refine tr_iast Z.1 Z.2.2.2.1 S25.1 S25.2 hq30 tq30 rfl (by omega) (by omega) (by have := fb_rng a1; omega) (by have := fb_rng a1; omega) dX9_beam_70 (fun E33 H34 k35 W33 I33 P33 => ?_)
          have S33 : Now D TB cy (va_A (va_pl L E) sz) s L τ E33 H34 k35 := ⟨W33, I33⟩
          have F33 : Fr L τ (inW [(1, 1), (20, 1), (21, 1), (22, 1), (23, 1), (24, 1), (25, 1), (26, 1), (27, 1), (4, 0), (0, 0), (1, 0), (20, 0), (21, 0), (22, 0), (23, 0), (24, 0), (25, 0), (26, 0), (27, 0)]) E E33 := Fr.set F25 P33 tq30 rfl
          refine lv_aload_n hx hb dX9_beam_71 rfl (lv_at hl 0 rfl) ?_
          refine tr_getr Z.1 Z.2.2.2.1 S33.1 S33.2 ha0 ta0 rfl rfl (fun _ h => List.mem_cons_of_mem _ (List.mem_append_left _ (List.mem_append_left _ (List.mem_append_right _ h)))) 0 (by decide) rfl (hts _ (List.mem_of_getElem? (i := 1) rfl)) dX9_beam_72 (fun q36 eq36 hq36 tq36 => ?_)
          have tq36 : τ q36 = (1, 0) := tq36
          have uq36 : q21 = q36 := S33.2.2.2.2 _ hq21 _ hq36 (tq21.trans tq36.symm) (by rw [tq21]; rfl)
          subst uq36
          refine tr_getr Z.1 Z.2.2.2.1 S33.1 S33.2 hq21 tq21 rfl rfl (fun _ h => List.mem_cons_of_mem _ (List.mem_append_left _ (List.mem_append_right _ h))) 12 (by decide) rfl (hts _ (List.mem_of_getElem? (i := 4) rfl)) dX9_beam_75 (fun q37 eq37 hq37 tq37 => ?_)
          have tq37 : τ q37 = (24, 0) := tq37
          refine lv_aload_n hx hb dX9_beam_78 rfl (lv_at hl 0 rfl) ?_
          refine tr_getr Z.1 Z.2.2.2.1 S33.1 S33.2 ha0 ta0 rfl rfl (fun _ h => List.mem_cons_of_mem _ (List.mem_append_left _ (List.mem_append_left _ (List.mem_append_right _ h)))) 0 (by decide) rfl (hts _ (List.mem_of_getElem? (i := 1) rfl)) dX9_beam_79 (fun q38 eq38 hq38 tq38 => ?_)
          have tq38 : τ q38 = (1, 0) := tq38
          have uq38 : q21 = q38 := S33.2.2.2.2 _ hq21 _ hq38 (tq21.trans tq38.symm) (by rw [tq21]; rfl)
          subst uq38
          refine tr_geti Z.1 Z.2.2.2.1 S33.1 S33.2 hq21 tq21 rfl rfl (fun _ h => List.mem_cons_of_mem _ (List.mem_append_left _ (List.mem_append_right _ h))) 6 (by decide) rfl (hts _ (List.mem_of_getElem? (i := 2) rfl)) dX9_beam_82 (fun v39 ev39 lv39 uv39 => ?_)
          have wv39 : v39 = v32 := ev39.symm.trans ((fi_set (k := 6) P33 (ne_ro tq21 tq30 (by decide))).trans ev32)
          have xv39 : v39.toInt = v32.toInt := by rw [wv39]
          refine lv_iload_n hx hb dX9_beam_85 rfl (lv_at hl 2 rfl) ?_
          refine tr_iast Z.1 Z.2.2.2.1 S33.1 S33.2 hq37 tq37 rfl (by omega) (by omega) (by have := fb_rng a2; omega) (by have := fb_rng a2; omega) dX9_beam_86 (fun E40 H41 k42 W40 I40 P40 => ?_)
          have S40 : Now D TB cy (va_A (va_pl L E) sz) s L τ E40 H41 k42 := ⟨W40, I40⟩
          have F40 : Fr L τ (inW [(1, 1), (20, 1), (21, 1), (22, 1), (23, 1), (24, 1), (25, 1), (26, 1), (27, 1), (4, 0), (0, 0), (1, 0), (20, 0), (21, 0), (22, 0), (23, 0), (24, 0), (25, 0), (26, 0), (27, 0)]) E E40 := Fr.set F33 P40 tq37 rfl
          refine lv_aload_n hx hb dX9_beam_87 rfl (lv_at hl 0 rfl) ?_
          refine tr_getr Z.1 Z.2.2.2.1 S40.1 S40.2 ha0 ta0 rfl rfl (fun _ h => List.mem_cons_of_mem _ (List.mem_append_left _ (List.mem_append_left _ (List.mem_append_right _ h)))) 0 (by decide) rfl (hts _ (List.mem_of_getElem? (i := 1) rfl)) dX9_beam_88 (fun q43 eq43 hq43 tq43 => ?_)
          have tq43 : τ q43 = (1, 0) := tq43
          have uq43 : q21 = q43 := S40.2.2.2.2 _ hq21 _ hq43 (tq21.trans tq43.symm) (by rw [tq21]; rfl)
          subst uq43
          refine tr_getr Z.1 Z.2.2.2.1 S40.1 S40.2 hq21 tq21 rfl rfl (fun _ h => List.mem_cons_of_mem _ (List.mem_append_left _ (List.mem_append_right _ h))) 13 (by decide) rfl (hts _ (List.mem_of_getElem? (i := 5) rfl)) dX9_beam_91 (fun q44 eq44 hq44 tq44 => ?_)
          have tq44 : τ q44 = (25, 0) := tq44
          refine lv_aload_n hx hb dX9_beam_94 rfl (lv_at hl 0 rfl) ?_
          refine tr_getr Z.1 Z.2.2.2.1 S40.1 S40.2 ha0 ta0 rfl rfl (fun _ h => List.mem_cons_of_mem _ (List.mem_append_left _ (List.mem_append_left _ (List.mem_append_right _ h)))) 0 (by decide) rfl (hts _ (List.mem_of_getElem? (i := 1) rfl)) dX9_beam_95 (fun q45 eq45 hq45 tq45 => ?_)
          have tq45 : τ q45 = (1, 0) := tq45
          have uq45 : q21 = q45 := S40.2.2.2.2 _ hq21 _ hq45 (tq21.trans tq45.symm) (by rw [tq21]; rfl)
          subst uq45
          refine tr_geti Z.1 Z.2.2.2.1 S40.1 S40.2 hq21 tq21 rfl rfl (fun _ h => List.mem_cons_of_mem _ (List.mem_append_left _ (List.mem_append_right _ h))) 6 (by decide) rfl (hts _ (List.mem_of_getElem? (i := 2) rfl)) dX9_beam_98 (fun v46 ev46 lv46 uv46 => ?_)
          have wv46 : v46 = v39 := ev46.symm.trans ((fi_set (k := 6) P40 (ne_ro tq21 tq37 (by decide))).trans ev39)
          have xv46 : v46.toInt = v39.toInt := by rw [wv46]
          refine lv_iload_n hx hb dX9_beam_101 rfl (lv_at hl 3 rfl) ?_
          refine tr_iast Z.1 Z.2.2.2.1 S40.1 S40.2 hq44 tq44 rfl (by omega) (by omega) (by have := fb_rng a3; omega) (by have := fb_rng a3; omega) dX9_beam_102 (fun E47 H48 k49 W47 I47 P47 => ?_)
          have S47 : Now D TB cy (va_A (va_pl L E) sz) s L τ E47 H48 k49 := ⟨W47, I47⟩
          have F47 : Fr L τ (inW [(1, 1), (20, 1), (21, 1), (22, 1), (23, 1), (24, 1), (25, 1), (26, 1), (27, 1), (4, 0), (0, 0), (1, 0), (20, 0), (21, 0), (22, 0), (23, 0), (24, 0), (25, 0), (26, 0), (27, 0)]) E E47 := Fr.set F40 P47 tq44 rfl
          refine lv_aload_n hx hb dX9_beam_103 rfl (lv_at hl 0 rfl) ?_
          refine tr_getr Z.1 Z.2.2.2.1 S47.1 S47.2 ha0 ta0 rfl rfl (fun _ h => List.mem_cons_of_mem _ (List.mem_append_left _ (List.mem_append_left _ (List.mem_append_right _ h)))) 0 (by decide) rfl (hts _ (List.mem_of_getElem? (i := 1) rfl)) dX9_beam_104 (fun q50 eq50 hq50 tq50 => ?_)
          have tq50 : τ q50 = (1, 0) := tq50
          have uq50 : q21 = q50 := S47.2.2.2.2 _ hq21 _ hq50 (tq21.trans tq50.symm) (by rw [tq21]; rfl)
          subst uq50
          refine lv_dup hx hb dX9_beam_107 rfl ?_
          refine tr_geti Z.1 Z.2.2.2.1 S47.1 S47.2 hq21 tq21 rfl rfl (fun _ h => List.mem_cons_of_mem _ (List.mem_append_left _ (List.mem_append_right _ h))) 6 (by decide) rfl (hts _ (List.mem_of_getElem? (i := 2) rfl)) dX9_beam_108 (fun v51 ev51 lv51 uv51 => ?_)
          have wv51 : v51 = v46 := ev51.symm.trans ((fi_set (k := 6) P47 (ne_ro tq21 tq44 (by decide))).trans ev46)
          have xv51 : v51.toInt = v46.toInt := by rw [wv51]
          obtain ⟨v52, ev52, tv52⟩ : ∃ v : Int32, Int32.ofInt (1) = v ∧ v.toInt = 1 := ⟨_, rfl, by decide +kernel⟩
          refine lv_iconst hx hb dX9_beam_111 ev52 ?_
          refine lv_iadd hx hb dX9_beam_112 ?_
          refine lv_topi (fun v53 ev53 => ?_)
          have tv53 := nu_add ev53 (by omega) (by omega)
          refine tr_puti Z.1 Z.2.2.2.1 S47.1 S47.2 hq21 tq21 rfl rfl (fun _ h => List.mem_cons_of_mem _ (List.mem_append_left _ (List.mem_append_right _ h))) tyX4_ok nmX4 6 (by decide) rfl rfl rfl (hts _ (List.mem_of_getElem? (i := 2) rfl)) dX9_beam_113 (by omega) (by omega) (fun E54 H55 k56 W54 I54 P54 => ?_)
          have S54 : Now D TB cy (va_A (va_pl L E) sz) s L τ E54 H55 k56 := ⟨W54, I54⟩
          have F54 : Fr L τ (inW [(1, 1), (20, 1), (21, 1), (22, 1), (23, 1), (24, 1), (25, 1), (26, 1), (27, 1), (4, 0), (0, 0), (1, 0), (20, 0), (21, 0), (22, 0), (23, 0), (24, 0), (25, 0), (26, 0), (27, 0)]) E E54 := Fr.put F47 P54 tq21 rfl
          refine lv_aload_n hx hb dX9_beam_116 rfl (lv_at hl 0 rfl) ?_
          refine tr_getr Z.1 Z.2.2.2.1 S54.1 S54.2 ha0 ta0 rfl rfl (fun _ h => List.mem_cons_of_mem _ (List.mem_append_left _ (List.mem_append_left _ (List.mem_append_right _ h)))) 0 (by decide) rfl (hts _ (List.mem_of_getElem? (i := 1) rfl)) dX9_beam_117 (fun q57 eq57 hq57 tq57 => ?_)
          have tq57 : τ q57 = (1, 0) := tq57
          have uq57 : q21 = q57 := S54.2.2.2.2 _ hq21 _ hq57 (tq21.trans tq57.symm) (by rw [tq21]; rfl)
          subst uq57
          refine tr_geti Z.1 Z.2.2.2.1 S54.1 S54.2 hq21 tq21 rfl rfl (fun _ h => List.mem_cons_of_mem _ (List.mem_append_left _ (List.mem_append_right _ h))) 6 (by decide) rfl (hts _ (List.mem_of_getElem? (i := 2) rfl)) dX9_beam_120 (fun v58 ev58 lv58 uv58 => ?_)
          have wv58 : v58 = v53 := ev58.symm.trans (fi_at P54)
          have xv58 : v58.toInt = v53.toInt := by rw [wv58]
          rw [← hQ]
          exact en_i Z S54 F54 (by rw [((fi_put (k := 9) P54 (Or.inl (ne_ro ta0 tq21 (by decide)))).trans ((fi_set (k := 9) P47 (ne_ro ta0 tq44 (by decide))).trans ((fi_set (k := 9) P40 (ne_ro ta0 tq37 (by decide))).trans ((fi_set (k := 9) P33 (ne_ro ta0 tq30 (by decide))).trans rfl))))]; omega) dX9_beam_123
        · skip
          have tc24 := nu_nlt c24
          refine lv_aload_n hx hb dX9_beam_45 rfl (lv_at hl 0 rfl) ?_
          obtain ⟨v59, ev59, tv59⟩ : ∃ v : Int32, Int32.ofInt (3) = v ∧ v.toInt = 3 := ⟨_, rfl, by decide +kernel⟩
          refine lv_iconst hx hb dX9_beam_46 ev59 ?_
          refine tc_vi Z.1 Z.2.2.2.1 Z.2.2.2.2.1 Z.2.2.2.2.2 S16.1 S16.2 ha0 ta0 rfl rfl (k_X9_refuse_vw l D cy S16.2 ha0 ta0 v59) (cwV 1 hts gX9_beam_X9_refuse rfl rfl rfl (by decide +kernel) ⟨Nat.le_of_ble_eq_true rfl, Nat.le_of_ble_eq_true rfl⟩) rfl hl.1 rfl (Nat.le_of_ble_eq_true rfl) dX9_beam_47 ⟨Nat.zero_le _, Nat.zero_le _⟩ (fun v63 E60 H61 k62 W60 I60 G60 p60 => ?_)
          obtain ⟨p60_0, p60_1, p60_2, p60_3⟩ := p60
          have S60 : Now D TB cy (va_A (va_pl L E) sz) s L τ E60 H61 k62 := ⟨W60, I60⟩
          have F60 : Fr L τ (inW [(1, 1), (20, 1), (21, 1), (22, 1), (23, 1), (24, 1), (25, 1), (26, 1), (27, 1), (4, 0), (0, 0), (1, 0), (20, 0), (21, 0), (22, 0), (23, 0), (24, 0), (25, 0), (26, 0), (27, 0)]) E E60 := F0_.trans (G60.mono (inW_mono (by decide)))
          have kz60_9 := fi_rng (k := 9) S60.2 ha0 ta0 rfl rfl
          rw [← hQ]
          exact en_i Z S60 F60 (by omega) dX9_beam_50
      · skip
        have tc20 := nu_eq c20
        have uc20 : (0 : Int32).toInt = 0 := rfl
        exact J27 E H17 k18 ls S16 F0_ (lv_sub hl [0] rfl)

set_option maxHeartbeats 4000000 in
set_option maxRecDepth 100000 in
theorem k_X9_repeal_vw (l : Launch) (D : va_G) (cy : Nat → ClassId) {L : List Nat} {τ : Nat → Ro} {E : Ec} (hI : Inv TB cy L τ E) {a0 : Nat} (ha0 : a0 ∈ L) (ta0 : τ a0 = (0, 0)) : CtI l yX9_repeal wsX9_repeal { frames := 5, cells := 0, slots := 0, locals := 123 } D TB cy L τ E [.ref a0] (inW [(1, 1), (20, 1), (21, 1), (22, 1), (23, 1), (24, 1), (25, 1), (26, 1), (27, 1), (4, 0), (0, 0), (1, 0), (20, 0), (21, 0), (22, 0), (23, 0), (24, 0), (25, 0), (26, 0), (27, 0)]) (fun r E' => ((fi E' a0 9).toInt ≠ 2) ∧ 0 ≤ r.toInt ∧ r.toInt ≤ 1) := by
  intro sz
  refine sta (cc := cX9_repeal) (maxL := 1) hI (by decide) rfl (Nat.le_of_ble_eq_true rfl) (fun p e s m args below meth c ls hsz Z S0 hl => ?_)
  have hx := Z.1.1
  have hb := Z.1.2.1
  have hts := Z.1.2.2.2.2
  have F0_ : Fr L τ (inW [(1, 1), (20, 1), (21, 1), (22, 1), (23, 1), (24, 1), (25, 1), (26, 1), (27, 1), (4, 0), (0, 0), (1, 0), (20, 0), (21, 0), (22, 0), (23, 0), (24, 0), (25, 0), (26, 0), (27, 0)]) E E := Fr.refl
  have hl : lv_has ls 1 [(0, .ref a0)] := hl
  generalize hQ : MQ below _ args s 0 0 _ = QQ
  refine lv_aload_n hx hb dX9_repeal_0 rfl (lv_at hl 0 rfl) ?_
  refine tr_getr Z.1 Z.2.2.2.1 S0.1 S0.2 ha0 ta0 rfl rfl (fun _ h => List.mem_cons_of_mem _ (List.mem_append_left _ (List.mem_append_left _ (List.mem_append_right _ h)))) 0 (by decide) rfl (hts _ (List.mem_of_getElem? (i := 1) rfl)) dX9_repeal_1 (fun q1 eq1 hq1 tq1 => ?_)
  have tq1 : τ q1 = (1, 0) := tq1
  refine tr_geti Z.1 Z.2.2.2.1 S0.1 S0.2 hq1 tq1 rfl rfl (fun _ h => List.mem_cons_of_mem _ (List.mem_append_left _ (List.mem_append_right _ h))) 7 (by decide) rfl (hts _ (List.mem_of_getElem? (i := 2) rfl)) dX9_repeal_4 (fun v2 ev2 lv2 uv2 => ?_)
  refine lv_if_gt (tgt := 16) hx hb dX9_repeal_7 (by decide) (fun c3 => ?_) (fun c3 => ?_)
  · skip
    have tc3 := nu_lt c3
    have uc3 : (0 : Int32).toInt = 0 := rfl
    refine lv_aload_n hx hb dX9_repeal_16 rfl (lv_at hl 0 rfl) ?_
    refine tc_vv Z.1 Z.2.2.2.1 Z.2.2.2.2.1 Z.2.2.2.2.2 S0.1 S0.2 ha0 ta0 rfl rfl (k_X9_beginAct_vw l D cy S0.2 ha0 ta0) (cwV 0 hts gX9_repeal_X9_beginAct rfl rfl rfl (by decide +kernel) ⟨Nat.le_of_ble_eq_true rfl, Nat.le_of_ble_eq_true rfl⟩) rfl hl.1 rfl (Nat.le_of_ble_eq_true rfl) dX9_repeal_17 ⟨Nat.zero_le _, Nat.zero_le _⟩ (fun E4 H5 k6 W4 I4 G4 p4 => ?_)
    obtain ⟨p4_0, p4_1⟩ := p4
    have S4 : Now D TB cy (va_A (va_pl L E) sz) s L τ E4 H5 k6 := ⟨W4, I4⟩
    have F4 : Fr L τ (inW [(1, 1), (20, 1), (21, 1), (22, 1), (23, 1), (24, 1), (25, 1), (26, 1), (27, 1), (4, 0), (0, 0), (1, 0), (20, 0), (21, 0), (22, 0), (23, 0), (24, 0), (25, 0), (26, 0), (27, 0)]) E E4 := F0_.trans (G4.mono (inW_mono (by decide)))
    have kz4_9 := fi_rng (k := 9) S4.2 ha0 ta0 rfl rfl
    refine lv_aload_n hx hb dX9_repeal_20 rfl (lv_at hl 0 rfl) ?_
    refine tr_getr Z.1 Z.2.2.2.1 S4.1 S4.2 ha0 ta0 rfl rfl (fun _ h => List.mem_cons_of_mem _ (List.mem_append_left _ (List.mem_append_left _ (List.mem_append_right _ h)))) 0 (by decide) rfl (hts _ (List.mem_of_getElem? (i := 1) rfl)) dX9_repeal_21 (fun q8 eq8 hq8 tq8 => ?_)
    have tq8 : τ q8 = (1, 0) := tq8
    have uq8 : q1 = q8 := S4.2.2.2.2 _ hq1 _ hq8 (tq1.trans tq8.symm) (by rw [tq1]; rfl)
    subst uq8
    refine lv_dup hx hb dX9_repeal_24 rfl ?_
    refine tr_geti Z.1 Z.2.2.2.1 S4.1 S4.2 hq1 tq1 rfl rfl (fun _ h => List.mem_cons_of_mem _ (List.mem_append_left _ (List.mem_append_right _ h))) 7 (by decide) rfl (hts _ (List.mem_of_getElem? (i := 2) rfl)) dX9_repeal_25 (fun v9 ev9 lv9 uv9 => ?_)
    have wv9 : v9 = v2 := ev9.symm.trans ((fi_fr (k := 7) G4 hq1 (by rw [tq1]; rfl)).trans ev2)
    have xv9 : v9.toInt = v2.toInt := by rw [wv9]
    obtain ⟨v10, ev10, tv10⟩ : ∃ v : Int32, Int32.ofInt (1) = v ∧ v.toInt = 1 := ⟨_, rfl, by decide +kernel⟩
    refine lv_iconst hx hb dX9_repeal_28 ev10 ?_
    refine lv_isub hx hb dX9_repeal_29 ?_
    refine lv_topi (fun v11 ev11 => ?_)
    have tv11 := nu_sub ev11 (by omega) (by omega)
    refine tr_puti Z.1 Z.2.2.2.1 S4.1 S4.2 hq1 tq1 rfl rfl (fun _ h => List.mem_cons_of_mem _ (List.mem_append_left _ (List.mem_append_right _ h))) tyX4_ok nmX4 7 (by decide) rfl rfl rfl (hts _ (List.mem_of_getElem? (i := 2) rfl)) dX9_repeal_30 (by omega) (by omega) (fun E12 H13 k14 W12 I12 P12 => ?_)
    have S12 : Now D TB cy (va_A (va_pl L E) sz) s L τ E12 H13 k14 := ⟨W12, I12⟩
    have F12 : Fr L τ (inW [(1, 1), (20, 1), (21, 1), (22, 1), (23, 1), (24, 1), (25, 1), (26, 1), (27, 1), (4, 0), (0, 0), (1, 0), (20, 0), (21, 0), (22, 0), (23, 0), (24, 0), (25, 0), (26, 0), (27, 0)]) E E12 := Fr.put F4 P12 tq1 rfl
    refine lv_aload_n hx hb dX9_repeal_33 rfl (lv_at hl 0 rfl) ?_
    refine tr_getr Z.1 Z.2.2.2.1 S12.1 S12.2 ha0 ta0 rfl rfl (fun _ h => List.mem_cons_of_mem _ (List.mem_append_left _ (List.mem_append_left _ (List.mem_append_right _ h)))) 0 (by decide) rfl (hts _ (List.mem_of_getElem? (i := 1) rfl)) dX9_repeal_34 (fun q15 eq15 hq15 tq15 => ?_)
    have tq15 : τ q15 = (1, 0) := tq15
    have uq15 : q1 = q15 := S12.2.2.2.2 _ hq1 _ hq15 (tq1.trans tq15.symm) (by rw [tq1]; rfl)
    subst uq15
    refine tr_getr Z.1 Z.2.2.2.1 S12.1 S12.2 hq1 tq1 rfl rfl (fun _ h => List.mem_cons_of_mem _ (List.mem_append_left _ (List.mem_append_right _ h))) 15 (by decide) rfl (hts _ (List.mem_of_getElem? (i := 3) rfl)) dX9_repeal_37 (fun q16 eq16 hq16 tq16 => ?_)
    have tq16 : τ q16 = (27, 0) := tq16
    refine lv_aload_n hx hb dX9_repeal_40 rfl (lv_at hl 0 rfl) ?_
    refine tr_getr Z.1 Z.2.2.2.1 S12.1 S12.2 ha0 ta0 rfl rfl (fun _ h => List.mem_cons_of_mem _ (List.mem_append_left _ (List.mem_append_left _ (List.mem_append_right _ h)))) 0 (by decide) rfl (hts _ (List.mem_of_getElem? (i := 1) rfl)) dX9_repeal_41 (fun q17 eq17 hq17 tq17 => ?_)
    have tq17 : τ q17 = (1, 0) := tq17
    have uq17 : q1 = q17 := S12.2.2.2.2 _ hq1 _ hq17 (tq1.trans tq17.symm) (by rw [tq1]; rfl)
    subst uq17
    refine tr_geti Z.1 Z.2.2.2.1 S12.1 S12.2 hq1 tq1 rfl rfl (fun _ h => List.mem_cons_of_mem _ (List.mem_append_left _ (List.mem_append_right _ h))) 7 (by decide) rfl (hts _ (List.mem_of_getElem? (i := 2) rfl)) dX9_repeal_44 (fun v18 ev18 lv18 uv18 => ?_)
    have wv18 : v18 = v11 := ev18.symm.trans (fi_at P12)
    have xv18 : v18.toInt = v11.toInt := by rw [wv18]
    refine lv_null hx hb dX9_repeal_47 ?_
    have hv19 : ∀ y : Nat, none = some y → y ∈ L ∧ (τ y).1 = 10 := (fun _ h => nomatch h)
    refine tr_aast (v := none) (ci := 1) Z.1 Z.2.2.2.1 S12.1 S12.2 hq16 tq16 rfl rfl rfl (law_ob hv19) (law_ok hv19) (by omega) (by omega) dX9_repeal_48 (fun E19 H20 k21 W19 I19 P19 => ?_)
    have S19 : Now D TB cy (va_A (va_pl L E) sz) s L τ E19 H20 k21 := ⟨W19, I19⟩
    have F19 : Fr L τ (inW [(1, 1), (20, 1), (21, 1), (22, 1), (23, 1), (24, 1), (25, 1), (26, 1), (27, 1), (4, 0), (0, 0), (1, 0), (20, 0), (21, 0), (22, 0), (23, 0), (24, 0), (25, 0), (26, 0), (27, 0)]) E E19 := Fr.seq F12 P19 tq16 rfl
    obtain ⟨v22, ev22, tv22⟩ : ∃ v : Int32, Int32.ofInt (1) = v ∧ v.toInt = 1 := ⟨_, rfl, by decide +kernel⟩
    refine lv_iconst hx hb dX9_repeal_49 ev22 ?_
    rw [← hQ]
    exact en_z Z S19 F19 (zo v22 (by omega)) ⟨(by rw [((fi_seq (k := 9) P19 (ne_ro ta0 tq16 (by decide))).trans ((fi_put (k := 9) P12 (Or.inl (ne_ro ta0 tq1 (by decide)))).trans rfl))]; omega), (by omega), (by omega)⟩ dX9_repeal_50
  · skip
    have tc3 := nu_nlt c3
    have uc3 : (0 : Int32).toInt = 0 := rfl
    refine lv_aload_n hx hb dX9_repeal_10 rfl (lv_at hl 0 rfl) ?_
    obtain ⟨v23, ev23, tv23⟩ : ∃ v : Int32, Int32.ofInt (4) = v ∧ v.toInt = 4 := ⟨_, rfl, by decide +kernel⟩
    refine lv_iconst hx hb dX9_repeal_11 ev23 ?_
    refine tc_vi Z.1 Z.2.2.2.1 Z.2.2.2.2.1 Z.2.2.2.2.2 S0.1 S0.2 ha0 ta0 rfl rfl (k_X9_deny_vw l D cy S0.2 ha0 ta0 v23) (cwV 1 hts gX9_repeal_X9_deny rfl rfl rfl (by decide +kernel) ⟨Nat.le_of_ble_eq_true rfl, Nat.le_of_ble_eq_true rfl⟩) rfl hl.1 rfl (Nat.le_of_ble_eq_true rfl) dX9_repeal_12 ⟨Nat.zero_le _, Nat.zero_le _⟩ (fun v27 E24 H25 k26 W24 I24 G24 p24 => ?_)
    obtain ⟨p24_0, p24_1, p24_2, p24_3⟩ := p24
    have S24 : Now D TB cy (va_A (va_pl L E) sz) s L τ E24 H25 k26 := ⟨W24, I24⟩
    have F24 : Fr L τ (inW [(1, 1), (20, 1), (21, 1), (22, 1), (23, 1), (24, 1), (25, 1), (26, 1), (27, 1), (4, 0), (0, 0), (1, 0), (20, 0), (21, 0), (22, 0), (23, 0), (24, 0), (25, 0), (26, 0), (27, 0)]) E E24 := F0_.trans (G24.mono (inW_mono (by decide)))
    have kz24_9 := fi_rng (k := 9) S24.2 ha0 ta0 rfl rfl
    rw [← hQ]
    exact en_z Z S24 F24 (zo v27 (by omega)) ⟨(by omega), (by omega), (by omega)⟩ dX9_repeal_15

set_option maxHeartbeats 4000000 in
set_option maxRecDepth 100000 in
theorem k_X9_price_vw (l : Launch) (D : va_G) (cy : Nat → ClassId) {L : List Nat} {τ : Nat → Ro} {E : Ec} (hI : Inv TB cy L τ E) {a0 : Nat} (ha0 : a0 ∈ L) (ta0 : τ a0 = (0, 0)) (a1 : Int32) (a2 : Int32) : CtI l yX9_price wsX9_price { frames := 5, cells := 0, slots := 0, locals := 123 } D TB cy L τ E [.ref a0, .int a1, .int a2] (inW [(1, 1), (20, 1), (21, 1), (22, 1), (23, 1), (24, 1), (25, 1), (26, 1), (27, 1), (4, 0), (0, 0), (1, 0), (20, 0), (21, 0), (22, 0), (23, 0), (24, 0), (25, 0), (26, 0), (27, 0)]) (fun r E' => ((r.toInt = 1 ∧ 0 ≤ a1.toInt ∧ a1.toInt ≤ 4 ∧ 0 ≤ a2.toInt ∧ a2.toInt ≤ 10000) ∨ (r.toInt = 0 ∧ ¬ (0 ≤ a1.toInt ∧ a1.toInt ≤ 4 ∧ 0 ≤ a2.toInt ∧ a2.toInt ≤ 10000))) ∧ ((fi E' a0 9).toInt ≠ 2) ∧ 0 ≤ r.toInt ∧ r.toInt ≤ 1) := by
  intro sz
  refine sta (cc := cX9_price) (maxL := 3) hI (by decide) rfl (Nat.le_of_ble_eq_true rfl) (fun p e s m args below meth c ls hsz Z S0 hl => ?_)
  have hx := Z.1.1
  have hb := Z.1.2.1
  have hts := Z.1.2.2.2.2
  have F0_ : Fr L τ (inW [(1, 1), (20, 1), (21, 1), (22, 1), (23, 1), (24, 1), (25, 1), (26, 1), (27, 1), (4, 0), (0, 0), (1, 0), (20, 0), (21, 0), (22, 0), (23, 0), (24, 0), (25, 0), (26, 0), (27, 0)]) E E := Fr.refl
  have hl : lv_has ls 3 [(0, .ref a0), (1, .int a1), (2, .int a2)] := hl
  generalize hQ : MQ below _ args s 0 0 _ = QQ
  have J20 : ∀  (E_20 : Ec) (H_20 : Heap) (k_20 : List Loc) (l_20 : Array Slot), Now D TB cy (va_A (va_pl L E) sz) s L τ E_20 H_20 k_20 → Fr L τ (inW [(1, 1), (20, 1), (21, 1), (22, 1), (23, 1), (24, 1), (25, 1), (26, 1), (27, 1), (4, 0), (0, 0), (1, 0), (20, 0), (21, 0), (22, 0), (23, 0), (24, 0), (25, 0), (26, 0), (27, 0)]) E E_20 → (¬ (0 ≤ a1.toInt ∧ a1.toInt ≤ 4 ∧ 0 ≤ a2.toInt ∧ a2.toInt ≤ 10000)) → lv_has l_20 3 [(0, .ref a0)] → W p l e { frames := 5, cells := 0, slots := 0, locals := 123 } s m args below meth c H_20 k_20 0 0 QQ (F0 m 20 l_20 []) := by
    intro  E_20 H_20 k_20 l_20 S_20 F_20 z1 hl_20
    refine lv_aload_n hx hb dX9_price_20 rfl (lv_at hl_20 0 rfl) ?_
    obtain ⟨v2, ev2, tv2⟩ : ∃ v : Int32, Int32.ofInt (1) = v ∧ v.toInt = 1 := ⟨_, rfl, by decide +kernel⟩
    refine lv_iconst hx hb dX9_price_21 ev2 ?_
    refine tc_vi Z.1 Z.2.2.2.1 Z.2.2.2.2.1 Z.2.2.2.2.2 S_20.1 S_20.2 ha0 ta0 rfl rfl (k_X9_deny_vw l D cy S_20.2 ha0 ta0 v2) (cwV 1 hts gX9_price_X9_deny rfl rfl rfl (by decide +kernel) ⟨Nat.le_of_ble_eq_true rfl, Nat.le_of_ble_eq_true rfl⟩) rfl hl_20.1 rfl (Nat.le_of_ble_eq_true rfl) dX9_price_22 ⟨Nat.zero_le _, Nat.zero_le _⟩ (fun v6 E3 H4 k5 W3 I3 G3 p3 => ?_)
    obtain ⟨p3_0, p3_1, p3_2, p3_3⟩ := p3
    have S3 : Now D TB cy (va_A (va_pl L E) sz) s L τ E3 H4 k5 := ⟨W3, I3⟩
    have F3 : Fr L τ (inW [(1, 1), (20, 1), (21, 1), (22, 1), (23, 1), (24, 1), (25, 1), (26, 1), (27, 1), (4, 0), (0, 0), (1, 0), (20, 0), (21, 0), (22, 0), (23, 0), (24, 0), (25, 0), (26, 0), (27, 0)]) E E3 := F_20.trans (G3.mono (inW_mono (by decide)))
    have kz3_9 := fi_rng (k := 9) S3.2 ha0 ta0 rfl rfl
    rw [← hQ]
    exact en_z Z S3 F3 (zo v6 (by omega)) ⟨(by omega), (by omega), (by omega), (by omega)⟩ dX9_price_25
  refine lv_iload_n hx hb dX9_price_0 rfl (lv_at hl 1 rfl) ?_
  obtain ⟨v7, ev7, tv7⟩ : ∃ v : Int32, Int32.ofInt (0) = v ∧ v.toInt = 0 := ⟨_, rfl, by decide +kernel⟩
  refine lv_iconst hx hb dX9_price_1 ev7 ?_
  obtain ⟨v8, ev8, tv8⟩ : ∃ v : Int32, Int32.ofInt (4) = v ∧ v.toInt = 4 := ⟨_, rfl, by decide +kernel⟩
  refine lv_iconst hx hb dX9_price_2 ev8 ?_
  refine tc_si Z.1 Z.2.2.2.1 Z.2.2.2.2.1 Z.2.2.2.2.2 S0.1 (k_X9_within l D cy S0.2 a1 v7 v8) (va_cwS 3 hts gX9_price_X9_within rfl rfl rfl (by decide +kernel) ⟨Nat.le_of_ble_eq_true rfl, Nat.le_of_ble_eq_true rfl⟩) rfl hl.1 rfl (Nat.le_of_ble_eq_true rfl) dX9_price_3 ⟨Nat.zero_le _, Nat.zero_le _⟩ (fun v12 E9 H10 k11 W9 I9 G9 p9 => ?_)
  obtain ⟨q9, p9_0, p9_1, p9_2⟩ := p9
  have q9 := q9.symm
  subst q9
  have S9 : Now D TB cy (va_A (va_pl L E) sz) s L τ E H10 k11 := ⟨W9, I9⟩
  refine lv_if_eq (tgt := 20) hx hb dX9_price_6 (by decide) (fun c13 => ?_) (fun c13 => ?_)
  · skip
    have tc13 := nu_eq c13
    have uc13 : (0 : Int32).toInt = 0 := rfl
    exact J20 E H10 k11 ls S9 F0_ (by have := fb_rng a1; have := fb_rng a2; omega) (lv_sub hl [0] rfl)
  · skip
    have tc13 := nu_ne c13
    have uc13 : (0 : Int32).toInt = 0 := rfl
    refine lv_iload_n hx hb dX9_price_9 rfl (lv_at hl 2 rfl) ?_
    obtain ⟨v14, ev14, tv14⟩ : ∃ v : Int32, Int32.ofInt (0) = v ∧ v.toInt = 0 := ⟨_, rfl, by decide +kernel⟩
    refine lv_iconst hx hb dX9_price_10 ev14 ?_
    obtain ⟨v15, ev15, tv15⟩ : ∃ v : Int32, (Int16.ofInt (10000)).toInt32 = v ∧ v.toInt = 10000 := ⟨_, rfl, by decide +kernel⟩
    refine lv_sipush hx hb dX9_price_11 ev15 ?_
    refine tc_si Z.1 Z.2.2.2.1 Z.2.2.2.2.1 Z.2.2.2.2.2 S9.1 (k_X9_within l D cy S9.2 a2 v14 v15) (va_cwS 3 hts gX9_price_X9_within rfl rfl rfl (by decide +kernel) ⟨Nat.le_of_ble_eq_true rfl, Nat.le_of_ble_eq_true rfl⟩) rfl hl.1 rfl (Nat.le_of_ble_eq_true rfl) dX9_price_14 ⟨Nat.zero_le _, Nat.zero_le _⟩ (fun v19 E16 H17 k18 W16 I16 G16 p16 => ?_)
    obtain ⟨q16, p16_0, p16_1, p16_2⟩ := p16
    have q16 := q16.symm
    subst q16
    have S16 : Now D TB cy (va_A (va_pl L E) sz) s L τ E H17 k18 := ⟨W16, I16⟩
    refine lv_if_ne (tgt := 26) hx hb dX9_price_17 (by decide) (fun c20 => ?_) (fun c20 => ?_)
    · skip
      have tc20 := nu_ne c20
      have uc20 : (0 : Int32).toInt = 0 := rfl
      refine lv_aload_n hx hb dX9_price_26 rfl (lv_at hl 0 rfl) ?_
      refine tc_vv Z.1 Z.2.2.2.1 Z.2.2.2.2.1 Z.2.2.2.2.2 S16.1 S16.2 ha0 ta0 rfl rfl (k_X9_beginAct_vw l D cy S16.2 ha0 ta0) (cwV 0 hts gX9_price_X9_beginAct rfl rfl rfl (by decide +kernel) ⟨Nat.le_of_ble_eq_true rfl, Nat.le_of_ble_eq_true rfl⟩) rfl hl.1 rfl (Nat.le_of_ble_eq_true rfl) dX9_price_27 ⟨Nat.zero_le _, Nat.zero_le _⟩ (fun E21 H22 k23 W21 I21 G21 p21 => ?_)
      obtain ⟨p21_0, p21_1⟩ := p21
      have S21 : Now D TB cy (va_A (va_pl L E) sz) s L τ E21 H22 k23 := ⟨W21, I21⟩
      have F21 : Fr L τ (inW [(1, 1), (20, 1), (21, 1), (22, 1), (23, 1), (24, 1), (25, 1), (26, 1), (27, 1), (4, 0), (0, 0), (1, 0), (20, 0), (21, 0), (22, 0), (23, 0), (24, 0), (25, 0), (26, 0), (27, 0)]) E E21 := F0_.trans (G21.mono (inW_mono (by decide)))
      have kz21_9 := fi_rng (k := 9) S21.2 ha0 ta0 rfl rfl
      refine lv_aload_n hx hb dX9_price_30 rfl (lv_at hl 0 rfl) ?_
      refine tr_getr Z.1 Z.2.2.2.1 S21.1 S21.2 ha0 ta0 rfl rfl (fun _ h => List.mem_cons_of_mem _ (List.mem_append_left _ (List.mem_append_left _ (List.mem_append_right _ h)))) 0 (by decide) rfl (hts _ (List.mem_of_getElem? (i := 1) rfl)) dX9_price_31 (fun q25 eq25 hq25 tq25 => ?_)
      have tq25 : τ q25 = (1, 0) := tq25
      refine tr_getr Z.1 Z.2.2.2.1 S21.1 S21.2 hq25 tq25 rfl rfl (fun _ h => List.mem_cons_of_mem _ (List.mem_append_left _ (List.mem_append_right _ h))) 14 (by decide) rfl (hts _ (List.mem_of_getElem? (i := 2) rfl)) dX9_price_34 (fun q26 eq26 hq26 tq26 => ?_)
      have tq26 : τ q26 = (26, 0) := tq26
      refine lv_iload_n hx hb dX9_price_37 rfl (lv_at hl 1 rfl) ?_
      refine lv_iload_n hx hb dX9_price_38 rfl (lv_at hl 2 rfl) ?_
      refine tr_iast Z.1 Z.2.2.2.1 S21.1 S21.2 hq26 tq26 rfl (by omega) (by omega) (by have := fb_rng a2; omega) (by have := fb_rng a2; omega) dX9_price_39 (fun E27 H28 k29 W27 I27 P27 => ?_)
      have S27 : Now D TB cy (va_A (va_pl L E) sz) s L τ E27 H28 k29 := ⟨W27, I27⟩
      have F27 : Fr L τ (inW [(1, 1), (20, 1), (21, 1), (22, 1), (23, 1), (24, 1), (25, 1), (26, 1), (27, 1), (4, 0), (0, 0), (1, 0), (20, 0), (21, 0), (22, 0), (23, 0), (24, 0), (25, 0), (26, 0), (27, 0)]) E E27 := Fr.set F21 P27 tq26 rfl
      obtain ⟨v30, ev30, tv30⟩ : ∃ v : Int32, Int32.ofInt (1) = v ∧ v.toInt = 1 := ⟨_, rfl, by decide +kernel⟩
      refine lv_iconst hx hb dX9_price_40 ev30 ?_
      rw [← hQ]
      exact en_z Z S27 F27 (zo v30 (by omega)) ⟨(by omega), (by rw [((fi_set (k := 9) P27 (ne_ro ta0 tq26 (by decide))).trans rfl)]; omega), (by omega), (by omega)⟩ dX9_price_41
    · skip
      have tc20 := nu_eq c20
      have uc20 : (0 : Int32).toInt = 0 := rfl
      exact J20 E H17 k18 ls S16 F0_ (by have := fb_rng a2; omega) (lv_sub hl [0] rfl)

set_option maxHeartbeats 4000000 in
set_option maxRecDepth 100000 in
theorem k_X9_take_vw (l : Launch) (D : va_G) (cy : Nat → ClassId) {L : List Nat} {τ : Nat → Ro} {E : Ec} (hI : Inv TB cy L τ E) {a0 : Nat} (ha0 : a0 ∈ L) (ta0 : τ a0 = (0, 0)) : CtI l yX9_take wsX9_take { frames := 5, cells := 0, slots := 0, locals := 123 } D TB cy L τ E [.ref a0] (inW [(1, 1), (20, 1), (21, 1), (22, 1), (23, 1), (24, 1), (25, 1), (26, 1), (27, 1), (4, 0), (0, 0), (1, 0), (20, 0), (21, 0), (22, 0), (23, 0), (24, 0), (25, 0), (26, 0), (27, 0)]) (fun r E' => ((fi E' a0 9).toInt ≠ 2) ∧ 0 ≤ r.toInt ∧ r.toInt ≤ 1) := by
  intro sz
  refine sta (cc := cX9_take) (maxL := 2) hI (by decide) rfl (Nat.le_of_ble_eq_true rfl) (fun p e s m args below meth c ls hsz Z S0 hl => ?_)
  have hx := Z.1.1
  have hb := Z.1.2.1
  have hts := Z.1.2.2.2.2
  have F0_ : Fr L τ (inW [(1, 1), (20, 1), (21, 1), (22, 1), (23, 1), (24, 1), (25, 1), (26, 1), (27, 1), (4, 0), (0, 0), (1, 0), (20, 0), (21, 0), (22, 0), (23, 0), (24, 0), (25, 0), (26, 0), (27, 0)]) E E := Fr.refl
  have hl : lv_has ls 2 [(0, .ref a0)] := hl
  generalize hQ : MQ below _ args s 0 0 _ = QQ
  have J39 : ∀ (n : Nat) (x1_39 : Int32) (E_39 : Ec) (H_39 : Heap) (k_39 : List Loc) (l_39 : Array Slot), Now D TB cy (va_A (va_pl L E) sz) s L τ E_39 H_39 k_39 → Fr L τ (inW [(1, 1), (20, 1), (21, 1), (22, 1), (23, 1), (24, 1), (25, 1), (26, 1), (27, 1), (4, 0), (0, 0), (1, 0), (20, 0), (21, 0), (22, 0), (23, 0), (24, 0), (25, 0), (26, 0), (27, 0)]) E E_39 → (0 ≤ x1_39.toInt) → (x1_39.toInt ≤ 3) → (-2147483648 ≤ (fi E_39 a0 9).toInt ∧ (fi E_39 a0 9).toInt ≤ 2147483647 ∧ (fi E_39 a0 9).toInt ≠ 2) → (3 - x1_39.toInt).toNat < n → lv_has l_39 2 [(0, .ref a0), (1, .int x1_39)] → W p l e { frames := 5, cells := 0, slots := 0, locals := 123 } s m args below meth c H_39 k_39 0 0 QQ (F0 m 39 l_39 []) := by
    intro n
    induction n with
    | zero => intro x1_39 E_39 H_39 k_39 l_39 S_39 F_39 z1 z2 z3 hm hl_39; exact absurd hm (Nat.not_lt_zero _)
    | succ n ih =>
      intro x1_39 E_39 H_39 k_39 l_39 S_39 F_39 z1 z2 z3 hm hl_39
      have ih_39 := ih
      refine lv_iload_n hx hb dX9_take_39 rfl (lv_at hl_39 1 rfl) ?_
      refine lv_aload_n hx hb dX9_take_40 rfl (lv_at hl_39 0 rfl) ?_
      refine tr_getr Z.1 Z.2.2.2.1 S_39.1 S_39.2 ha0 ta0 rfl rfl (fun _ h => List.mem_cons_of_mem _ (List.mem_append_left _ (List.mem_append_left _ (List.mem_append_left _ (List.mem_append_right _ h))))) 0 (by decide) rfl (hts _ (List.mem_of_getElem? (i := 4) rfl)) dX9_take_41 (fun q4 eq4 hq4 tq4 => ?_)
      have tq4 : τ q4 = (1, 0) := tq4
      refine tr_geti Z.1 Z.2.2.2.1 S_39.1 S_39.2 hq4 tq4 rfl rfl (fun _ h => List.mem_cons_of_mem _ (List.mem_append_left _ (List.mem_append_right _ h))) 4 (by decide) rfl (hts _ (List.mem_of_getElem? (i := 5) rfl)) dX9_take_44 (fun v5 ev5 lv5 uv5 => ?_)
      refine lv_icmp_ge (tgt := 74) hx hb dX9_take_47 (by decide) (fun c6 => ?_) (fun c6 => ?_)
      · skip
        have tc6 := nu_le c6
        obtain ⟨v7, ev7, tv7⟩ : ∃ v : Int32, Int32.ofInt (1) = v ∧ v.toInt = 1 := ⟨_, rfl, by decide +kernel⟩
        refine lv_iconst hx hb dX9_take_74 ev7 ?_
        rw [← hQ]
        exact en_z Z S_39 F_39 (zo v7 (by omega)) ⟨(by omega), (by omega), (by omega)⟩ dX9_take_75
      · skip
        have tc6 := nu_nle c6
        refine lv_aload_n hx hb dX9_take_50 rfl (lv_at hl_39 0 rfl) ?_
        refine tr_getr Z.1 Z.2.2.2.1 S_39.1 S_39.2 ha0 ta0 rfl rfl (fun _ h => List.mem_cons_of_mem _ (List.mem_append_left _ (List.mem_append_left _ (List.mem_append_left _ (List.mem_append_right _ h))))) 0 (by decide) rfl (hts _ (List.mem_of_getElem? (i := 4) rfl)) dX9_take_51 (fun q8 eq8 hq8 tq8 => ?_)
        have tq8 : τ q8 = (1, 0) := tq8
        have uq8 : q4 = q8 := S_39.2.2.2.2 _ hq4 _ hq8 (tq4.trans tq8.symm) (by rw [tq4]; rfl)
        subst uq8
        refine tr_getr Z.1 Z.2.2.2.1 S_39.1 S_39.2 hq4 tq4 rfl rfl (fun _ h => List.mem_cons_of_mem _ (List.mem_append_left _ (List.mem_append_right _ h))) 8 (by decide) rfl (hts _ (List.mem_of_getElem? (i := 6) rfl)) dX9_take_54 (fun q9 eq9 hq9 tq9 => ?_)
        have tq9 : τ q9 = (20, 0) := tq9
        refine lv_iload_n hx hb dX9_take_57 rfl (lv_at hl_39 1 rfl) ?_
        refine lv_aload_n hx hb dX9_take_58 rfl (lv_at hl_39 0 rfl) ?_
        refine tr_getr Z.1 Z.2.2.2.1 S_39.1 S_39.2 ha0 ta0 rfl rfl (fun _ h => List.mem_cons_of_mem _ (List.mem_append_left _ (List.mem_append_left _ (List.mem_append_left _ (List.mem_append_right _ h))))) 5 (by decide) rfl (hts _ (List.mem_of_getElem? (i := 1) rfl)) dX9_take_59 (fun q10 eq10 hq10 tq10 => ?_)
        have tq10 : τ q10 = (8, 0) := tq10
        refine tr_getr Z.1 Z.2.2.2.1 S_39.1 S_39.2 hq10 tq10 rfl rfl (fun _ h => List.mem_cons_of_mem _ (List.mem_append_left _ (List.mem_append_left _ (List.mem_append_right _ h)))) 4 (by decide) rfl (hts _ (List.mem_of_getElem? (i := 7) rfl)) dX9_take_62 (fun q11 eq11 hq11 tq11 => ?_)
        have tq11 : τ q11 = (38, 0) := tq11
        refine lv_iload_n hx hb dX9_take_65 rfl (lv_at hl_39 1 rfl) ?_
        refine tr_iald Z.1 Z.2.2.2.1 S_39.1 S_39.2 hq11 tq11 rfl (by omega) (by omega) dX9_take_66 (fun v12 ev12 lv12 uv12 => ?_)
        refine tr_iast Z.1 Z.2.2.2.1 S_39.1 S_39.2 hq9 tq9 rfl (by omega) (by omega) (by have := fb_rng v12; omega) (by have := fb_rng v12; omega) dX9_take_67 (fun E13 H14 k15 W13 I13 P13 => ?_)
        have S13 : Now D TB cy (va_A (va_pl L E) sz) s L τ E13 H14 k15 := ⟨W13, I13⟩
        have F13 : Fr L τ (inW [(1, 1), (20, 1), (21, 1), (22, 1), (23, 1), (24, 1), (25, 1), (26, 1), (27, 1), (4, 0), (0, 0), (1, 0), (20, 0), (21, 0), (22, 0), (23, 0), (24, 0), (25, 0), (26, 0), (27, 0)]) E E13 := Fr.set F_39 P13 tq9 rfl
        obtain ⟨v16, ev16⟩ : ∃ y : Int32, x1_39 + Int32.ofInt (1) = y := ⟨_, rfl⟩
        have tv16 : v16.toInt = x1_39.toInt + (1) := by rw [← ev16]; exact (fb_addI (by rw [show (Int32.ofInt (1)).toInt = 1 from by decide +kernel]; omega) (by rw [show (Int32.ofInt (1)).toInt = 1 from by decide +kernel]; omega)).trans (by rw [show (Int32.ofInt (1)).toInt = 1 from by decide +kernel])
        refine lv_iinc (v := v16) (lv' := [(1, .int v16), (0, .ref a0)]) hx hb dX9_take_68 hl_39 (k := 1) rfl ev16 (by decide) rfl (fun l17 hl18 => ?_)
        refine lv_goto (tgt := 39) hx hb dX9_take_71 (by decide) ?_
        exact ih_39 v16 E13 H14 k15 l17 S13 F13 (by omega) (by omega) (by rw [((fi_set (k := 9) P13 (ne_ro ta0 tq9 (by decide))).trans rfl)]; omega) (by omega) (lv_sub hl18 [1, 0] rfl)
  have J27 : ∀  (E_27 : Ec) (H_27 : Heap) (k_27 : List Loc) (l_27 : Array Slot), Now D TB cy (va_A (va_pl L E) sz) s L τ E_27 H_27 k_27 → Fr L τ (inW [(1, 1), (20, 1), (21, 1), (22, 1), (23, 1), (24, 1), (25, 1), (26, 1), (27, 1), (4, 0), (0, 0), (1, 0), (20, 0), (21, 0), (22, 0), (23, 0), (24, 0), (25, 0), (26, 0), (27, 0)]) E E_27 → lv_has l_27 2 [(0, .ref a0)] → W p l e { frames := 5, cells := 0, slots := 0, locals := 123 } s m args below meth c H_27 k_27 0 0 QQ (F0 m 27 l_27 []) := by
    intro  E_27 H_27 k_27 l_27 S_27 F_27  hl_27
    refine lv_aload_n hx hb dX9_take_27 rfl (lv_at hl_27 0 rfl) ?_
    obtain ⟨v19, ev19, tv19⟩ : ∃ v : Int32, Int32.ofInt (5) = v ∧ v.toInt = 5 := ⟨_, rfl, by decide +kernel⟩
    refine lv_iconst hx hb dX9_take_28 ev19 ?_
    refine tc_vi Z.1 Z.2.2.2.1 Z.2.2.2.2.1 Z.2.2.2.2.2 S_27.1 S_27.2 ha0 ta0 rfl rfl (k_X9_deny_vw l D cy S_27.2 ha0 ta0 v19) (cwV 1 hts gX9_take_X9_deny rfl rfl rfl (by decide +kernel) ⟨Nat.le_of_ble_eq_true rfl, Nat.le_of_ble_eq_true rfl⟩) rfl hl_27.1 rfl (Nat.le_of_ble_eq_true rfl) dX9_take_29 ⟨Nat.zero_le _, Nat.zero_le _⟩ (fun v23 E20 H21 k22 W20 I20 G20 p20 => ?_)
    obtain ⟨p20_0, p20_1, p20_2, p20_3⟩ := p20
    have S20 : Now D TB cy (va_A (va_pl L E) sz) s L τ E20 H21 k22 := ⟨W20, I20⟩
    have F20 : Fr L τ (inW [(1, 1), (20, 1), (21, 1), (22, 1), (23, 1), (24, 1), (25, 1), (26, 1), (27, 1), (4, 0), (0, 0), (1, 0), (20, 0), (21, 0), (22, 0), (23, 0), (24, 0), (25, 0), (26, 0), (27, 0)]) E E20 := F_27.trans (G20.mono (inW_mono (by decide)))
    have kz20_9 := fi_rng (k := 9) S20.2 ha0 ta0 rfl rfl
    rw [← hQ]
    exact en_z Z S20 F20 (zo v23 (by omega)) ⟨(by omega), (by omega), (by omega)⟩ dX9_take_32
  refine lv_aload_n hx hb dX9_take_0 rfl (lv_at hl 0 rfl) ?_
  refine tr_getr Z.1 Z.2.2.2.1 S0.1 S0.2 ha0 ta0 rfl rfl (fun _ h => List.mem_cons_of_mem _ (List.mem_append_left _ (List.mem_append_left _ (List.mem_append_left _ (List.mem_append_right _ h))))) 5 (by decide) rfl (hts _ (List.mem_of_getElem? (i := 1) rfl)) dX9_take_1 (fun q24 eq24 hq24 tq24 => ?_)
  have tq24 : τ q24 = (8, 0) := tq24
  refine tr_geti Z.1 Z.2.2.2.1 S0.1 S0.2 hq24 tq24 rfl rfl (fun _ h => List.mem_cons_of_mem _ (List.mem_append_left _ (List.mem_append_left _ (List.mem_append_right _ h)))) 8 (by decide) rfl (hts _ (List.mem_of_getElem? (i := 2) rfl)) dX9_take_4 (fun v25 ev25 lv25 uv25 => ?_)
  refine lv_if_le (tgt := 27) hx hb dX9_take_7 (by decide) (fun c26 => ?_) (fun c26 => ?_)
  · skip
    have tc26 := nu_le c26
    have uc26 : (0 : Int32).toInt = 0 := rfl
    exact J27 E s.heap [] ls S0 F0_ (lv_sub hl [0] rfl)
  · skip
    have tc26 := nu_nle c26
    have uc26 : (0 : Int32).toInt = 0 := rfl
    refine lv_aload_n hx hb dX9_take_10 rfl (lv_at hl 0 rfl) ?_
    refine tr_getr Z.1 Z.2.2.2.1 S0.1 S0.2 ha0 ta0 rfl rfl (fun _ h => List.mem_cons_of_mem _ (List.mem_append_left _ (List.mem_append_left _ (List.mem_append_left _ (List.mem_append_right _ h))))) 5 (by decide) rfl (hts _ (List.mem_of_getElem? (i := 1) rfl)) dX9_take_11 (fun q27 eq27 hq27 tq27 => ?_)
    have tq27 : τ q27 = (8, 0) := tq27
    have uq27 : q24 = q27 := S0.2.2.2.2 _ hq24 _ hq27 (tq24.trans tq27.symm) (by rw [tq24]; rfl)
    subst uq27
    refine tr_geti Z.1 Z.2.2.2.1 S0.1 S0.2 hq24 tq24 rfl rfl (fun _ h => List.mem_cons_of_mem _ (List.mem_append_left _ (List.mem_append_left _ (List.mem_append_right _ h)))) 6 (by decide) rfl (hts _ (List.mem_of_getElem? (i := 3) rfl)) dX9_take_14 (fun v28 ev28 lv28 uv28 => ?_)
    refine lv_aload_n hx hb dX9_take_17 rfl (lv_at hl 0 rfl) ?_
    refine tr_getr Z.1 Z.2.2.2.1 S0.1 S0.2 ha0 ta0 rfl rfl (fun _ h => List.mem_cons_of_mem _ (List.mem_append_left _ (List.mem_append_left _ (List.mem_append_left _ (List.mem_append_right _ h))))) 0 (by decide) rfl (hts _ (List.mem_of_getElem? (i := 4) rfl)) dX9_take_18 (fun q29 eq29 hq29 tq29 => ?_)
    have tq29 : τ q29 = (1, 0) := tq29
    refine tr_geti Z.1 Z.2.2.2.1 S0.1 S0.2 hq29 tq29 rfl rfl (fun _ h => List.mem_cons_of_mem _ (List.mem_append_left _ (List.mem_append_right _ h))) 4 (by decide) rfl (hts _ (List.mem_of_getElem? (i := 5) rfl)) dX9_take_21 (fun v30 ev30 lv30 uv30 => ?_)
    refine lv_icmp_eq (tgt := 33) hx hb dX9_take_24 (by decide) (fun c31 => ?_) (fun c31 => ?_)
    · skip
      have tc31 := nu_eq c31
      refine lv_aload_n hx hb dX9_take_33 rfl (lv_at hl 0 rfl) ?_
      refine tc_vv Z.1 Z.2.2.2.1 Z.2.2.2.2.1 Z.2.2.2.2.2 S0.1 S0.2 ha0 ta0 rfl rfl (k_X9_beginAct_vw l D cy S0.2 ha0 ta0) (cwV 0 hts gX9_take_X9_beginAct rfl rfl rfl (by decide +kernel) ⟨Nat.le_of_ble_eq_true rfl, Nat.le_of_ble_eq_true rfl⟩) rfl hl.1 rfl (Nat.le_of_ble_eq_true rfl) dX9_take_34 ⟨Nat.zero_le _, Nat.zero_le _⟩ (fun E32 H33 k34 W32 I32 G32 p32 => ?_)
      obtain ⟨p32_0, p32_1⟩ := p32
      have S32 : Now D TB cy (va_A (va_pl L E) sz) s L τ E32 H33 k34 := ⟨W32, I32⟩
      have F32 : Fr L τ (inW [(1, 1), (20, 1), (21, 1), (22, 1), (23, 1), (24, 1), (25, 1), (26, 1), (27, 1), (4, 0), (0, 0), (1, 0), (20, 0), (21, 0), (22, 0), (23, 0), (24, 0), (25, 0), (26, 0), (27, 0)]) E E32 := F0_.trans (G32.mono (inW_mono (by decide)))
      have kz32_9 := fi_rng (k := 9) S32.2 ha0 ta0 rfl rfl
      obtain ⟨v36, ev36, tv36⟩ : ∃ v : Int32, Int32.ofInt (0) = v ∧ v.toInt = 0 := ⟨_, rfl, by decide +kernel⟩
      refine lv_iconst hx hb dX9_take_37 ev36 ?_
      refine lv_istore_n (lv' := [(1, .int v36), (0, .ref a0)]) hx hb dX9_take_38 rfl hl (by decide) rfl (fun l37 hl38 => ?_)
      exact J39 _ v36 E32 H33 k34 l37 S32 F32 (by omega) (by omega) (by omega) (Nat.lt_succ_self _) (lv_sub hl38 [1, 0] rfl)
    · skip
      have tc31 := nu_ne c31
      exact J27 E s.heap [] ls S0 F0_ (lv_sub hl [0] rfl)

set_option maxHeartbeats 4000000 in
set_option maxRecDepth 100000 in
theorem k_X9_string_vw (l : Launch) (D : va_G) (cy : Nat → ClassId) {L : List Nat} {τ : Nat → Ro} {E : Ec} (hI : Inv TB cy L τ E) {a0 : Nat} (ha0 : a0 ∈ L) (ta0 : τ a0 = (0, 0)) (a1 : Int32) : CtI l yX9_string wsX9_string { frames := 5, cells := 0, slots := 0, locals := 114 } D TB cy L τ E [.ref a0, .int a1] (inW [(0, 0), (5, 0), (100, 0), (101, 0), (102, 0), (103, 0), (104, 0), (105, 0), (106, 0), (107, 0), (108, 0), (109, 0), (110, 0), (111, 0), (112, 0)]) (fun r E' => ((fi E' a0 9).toInt ≠ 2)) := by
  intro sz
  refine sta (cc := cX9_string) (maxL := 6) hI (by decide) rfl (Nat.le_of_ble_eq_true rfl) (fun p e s m args below meth c ls hsz Z S0 hl => ?_)
  have hx := Z.1.1
  have hb := Z.1.2.1
  have hts := Z.1.2.2.2.2
  have F0_ : Fr L τ (inW [(0, 0), (5, 0), (100, 0), (101, 0), (102, 0), (103, 0), (104, 0), (105, 0), (106, 0), (107, 0), (108, 0), (109, 0), (110, 0), (111, 0), (112, 0)]) E E := Fr.refl
  have hl : lv_has ls 6 [(0, .ref a0), (1, .int a1)] := hl
  generalize hQ : MQ below _ args s 0 0 _ = QQ
  refine lv_iload_n hx hb dX9_string_0 rfl (lv_at hl 1 rfl) ?_
  obtain ⟨v1, ev1, tv1⟩ : ∃ v : Int32, Int32.ofInt (0) = v ∧ v.toInt = 0 := ⟨_, rfl, by decide +kernel⟩
  refine lv_iconst hx hb dX9_string_1 ev1 ?_
  refine lv_aload_n hx hb dX9_string_2 rfl (lv_at hl 0 rfl) ?_
  refine tr_getr Z.1 Z.2.2.2.1 S0.1 S0.2 ha0 ta0 rfl rfl (fun _ h => List.mem_cons_of_mem _ (List.mem_append_left _ (List.mem_append_left _ (List.mem_append_right _ h)))) 0 (by decide) rfl (hts _ (List.mem_of_getElem? (i := 1) rfl)) dX9_string_3 (fun q2 eq2 hq2 tq2 => ?_)
  have tq2 : τ q2 = (1, 0) := tq2
  refine tr_geti Z.1 Z.2.2.2.1 S0.1 S0.2 hq2 tq2 rfl rfl (fun _ h => List.mem_cons_of_mem _ (List.mem_append_left _ (List.mem_append_right _ h))) 4 (by decide) rfl (hts _ (List.mem_of_getElem? (i := 2) rfl)) dX9_string_6 (fun v3 ev3 lv3 uv3 => ?_)
  obtain ⟨v4, ev4, tv4⟩ : ∃ v : Int32, Int32.ofInt (1) = v ∧ v.toInt = 1 := ⟨_, rfl, by decide +kernel⟩
  refine lv_iconst hx hb dX9_string_9 ev4 ?_
  refine lv_isub hx hb dX9_string_10 ?_
  refine lv_topi (fun v5 ev5 => ?_)
  have tv5 := nu_sub ev5 (by omega) (by omega)
  refine tc_si Z.1 Z.2.2.2.1 Z.2.2.2.2.1 Z.2.2.2.2.2 S0.1 (k_X9_within l D cy S0.2 a1 v1 v5) (va_cwS 3 hts gX9_string_X9_within rfl rfl rfl (by decide +kernel) ⟨Nat.le_of_ble_eq_true rfl, Nat.le_of_ble_eq_true rfl⟩) rfl hl.1 rfl (Nat.le_of_ble_eq_true rfl) dX9_string_11 ⟨Nat.zero_le _, Nat.zero_le _⟩ (fun v9 E6 H7 k8 W6 I6 G6 p6 => ?_)
  obtain ⟨q6, p6_0, p6_1, p6_2⟩ := p6
  have q6 := q6.symm
  subst q6
  have S6 : Now D TB cy (va_A (va_pl L E) sz) s L τ E H7 k8 := ⟨W6, I6⟩
  refine lv_if_ne (tgt := 23) hx hb dX9_string_14 (by decide) (fun c10 => ?_) (fun c10 => ?_)
  · skip
    have tc10 := nu_ne c10
    have uc10 : (0 : Int32).toInt = 0 := rfl
    refine lv_aload_n hx hb dX9_string_23 rfl (lv_at hl 0 rfl) ?_
    obtain ⟨v11, ev11, tv11⟩ : ∃ v : Int32, Int32.ofInt (0) = v ∧ v.toInt = 0 := ⟨_, rfl, by decide +kernel⟩
    refine lv_iconst hx hb dX9_string_24 ev11 ?_
    refine tr_puti Z.1 Z.2.2.2.1 S6.1 S6.2 ha0 ta0 rfl rfl (fun _ h => List.mem_cons_of_mem _ (List.mem_append_left _ (List.mem_append_left _ (List.mem_append_right _ h)))) tyX9_ok nmX9 9 (by decide) rfl rfl rfl (hts _ (List.mem_of_getElem? (i := 3) rfl)) dX9_string_25 (by have := fb_rng v11; omega) (by have := fb_rng v11; omega) (fun E12 H13 k14 W12 I12 P12 => ?_)
    have S12 : Now D TB cy (va_A (va_pl L E) sz) s L τ E12 H13 k14 := ⟨W12, I12⟩
    have F12 : Fr L τ (inW [(0, 0), (5, 0), (100, 0), (101, 0), (102, 0), (103, 0), (104, 0), (105, 0), (106, 0), (107, 0), (108, 0), (109, 0), (110, 0), (111, 0), (112, 0)]) E E12 := Fr.put F0_ P12 ta0 rfl
    refine lv_aload_n hx hb dX9_string_28 rfl (lv_at hl 0 rfl) ?_
    refine tr_getr Z.1 Z.2.2.2.1 S12.1 S12.2 ha0 ta0 rfl rfl (fun _ h => List.mem_cons_of_mem _ (List.mem_append_left _ (List.mem_append_left _ (List.mem_append_right _ h)))) 0 (by decide) rfl (hts _ (List.mem_of_getElem? (i := 1) rfl)) dX9_string_29 (fun q15 eq15 hq15 tq15 => ?_)
    have tq15 : τ q15 = (1, 0) := tq15
    have uq15 : q2 = q15 := S12.2.2.2.2 _ hq2 _ hq15 (tq2.trans tq15.symm) (by rw [tq2]; rfl)
    subst uq15
    refine tr_getr Z.1 Z.2.2.2.1 S12.1 S12.2 hq2 tq2 rfl rfl (fun _ h => List.mem_cons_of_mem _ (List.mem_append_left _ (List.mem_append_right _ h))) 9 (by decide) rfl (hts _ (List.mem_of_getElem? (i := 4) rfl)) dX9_string_32 (fun q16 eq16 hq16 tq16 => ?_)
    have tq16 : τ q16 = (21, 0) := tq16
    refine lv_iload_n hx hb dX9_string_35 rfl (lv_at hl 1 rfl) ?_
    refine tr_iald Z.1 Z.2.2.2.1 S12.1 S12.2 hq16 tq16 rfl (by omega) (by omega) dX9_string_36 (fun v17 ev17 lv17 uv17 => ?_)
    obtain ⟨w18, ew18⟩ : ∃ y : Int64, v17.toInt64 = y := ⟨_, rfl⟩
    refine lv_i2l hx hb dX9_string_37 ew18 ?_
    have tw18 : w18.toInt = v17.toInt := by rw [← ew18]; exact Int32.toInt_toInt64 v17
    refine lv_lstore_n (lv' := [(2, .long w18), (0, .ref a0), (1, .int a1)]) hx hb dX9_string_38 rfl hl (by decide) rfl (fun l19 hl20 => ?_)
    refine lv_aload_n hx hb dX9_string_39 rfl (lv_at hl20 1 rfl) ?_
    refine tc_vq Z.1 Z.2.2.2.1 Z.2.2.2.2.1 Z.2.2.2.2.2 S12.1 S12.2 ha0 ta0 rfl rfl (k_X9_laidRows_vw l D cy S12.2 ha0 ta0) (cwV 0 hts gX9_string_X9_laidRows rfl rfl rfl (by decide +kernel) ⟨Nat.le_of_ble_eq_true rfl, Nat.le_of_ble_eq_true rfl⟩) rfl hl20.1 rfl (Nat.le_of_ble_eq_true rfl) dX9_string_40 ⟨Nat.zero_le _, Nat.zero_le _⟩ (fun v24 E21 H22 k23 W21 I21 G21 p21 => ?_)
    obtain ⟨p21_0, p21_1⟩ := p21
    have S21 : Now D TB cy (va_A (va_pl L E) sz) s L τ E21 H22 k23 := ⟨W21, I21⟩
    have F21 : Fr L τ (inW [(0, 0), (5, 0), (100, 0), (101, 0), (102, 0), (103, 0), (104, 0), (105, 0), (106, 0), (107, 0), (108, 0), (109, 0), (110, 0), (111, 0), (112, 0)]) E E21 := F12.trans (G21.mono (inW_mono (by decide)))
    obtain ⟨q25, rfl, hq25, tq25⟩ := p21_0
    refine W.eq (g2 := F0 m 43 l19 [.ref q25]) rfl ?_
    refine lv_iload_n hx hb dX9_string_43 rfl (lv_at hl20 2 rfl) ?_
    refine tc_vi Z.1 Z.2.2.2.1 Z.2.2.2.2.1 Z.2.2.2.2.2 S21.1 S21.2 hq25 tq25 rfl rfl (k_X6_riseOf l D cy S21.2 hq25 tq25 a1) (cwV 1 hts gX9_string_X6_riseOf rfl rfl rfl (by decide +kernel) ⟨Nat.le_of_ble_eq_true rfl, Nat.le_of_ble_eq_true rfl⟩) rfl hl20.1 rfl (Nat.le_of_ble_eq_true rfl) dX9_string_44 ⟨Nat.zero_le _, Nat.zero_le _⟩ (fun v29 E26 H27 k28 W26 I26 G26 p26 => ?_)
    have q26 := p26
    have q26 := q26.symm
    subst q26
    have S26 : Now D TB cy (va_A (va_pl L E) sz) s L τ E21 H27 k28 := ⟨W26, I26⟩
    obtain ⟨w30, ew30⟩ : ∃ y : Int64, v29.toInt64 = y := ⟨_, rfl⟩
    refine lv_i2l hx hb dX9_string_47 ew30 ?_
    have tw30 : w30.toInt = v29.toInt := by rw [← ew30]; exact Int32.toInt_toInt64 v29
    refine lv_lstore (lv' := [(4, .long w30), (2, .long w18), (0, .ref a0), (1, .int a1)]) hx hb dX9_string_48 hl20 (by decide) rfl (fun l31 hl32 => ?_)
    refine lv_ldc2 (v := (100)) hx hb Z.1.2.2.2.1 (hts _ (List.mem_of_getElem? (i := 5) rfl)) dX9_string_50 ?_
    refine lv_topl (fun w33 ew33 => ?_)
    have tw33 : w33.toInt = 100 := by rw [ew33]; decide +kernel
    refine lv_lload_n hx hb dX9_string_53 rfl (lv_at hl32 1 rfl) ?_
    refine lv_lload_n hx hb dX9_string_54 rfl (lv_at hl32 1 rfl) ?_
    refine lv_lmul hx hb dX9_string_55 ?_
    refine lv_topl (fun w34 ew34 => ?_)
    refine lv_lload hx hb dX9_string_56 (lv_at hl32 0 rfl) ?_
    refine lv_lload hx hb dX9_string_58 (lv_at hl32 0 rfl) ?_
    refine lv_lmul hx hb dX9_string_60 ?_
    refine lv_topl (fun w35 ew35 => ?_)
    refine lv_ladd hx hb dX9_string_61 ?_
    refine lv_topl (fun w36 ew36 => ?_)
    refine lv_lmul hx hb dX9_string_62 ?_
    refine lv_topl (fun w37 ew37 => ?_)
    refine tc_si Z.1 Z.2.2.2.1 Z.2.2.2.2.1 Z.2.2.2.2.2 S26.1 (k_X9_rootOf l D cy S26.2 w37) (va_cwS 1 hts gX9_string_X9_rootOf rfl rfl rfl (by decide +kernel) ⟨Nat.le_of_ble_eq_true rfl, Nat.le_of_ble_eq_true rfl⟩) rfl hl32.1 rfl (Nat.le_of_ble_eq_true rfl) dX9_string_63 ⟨Nat.zero_le _, Nat.zero_le _⟩ (fun v41 E38 H39 k40 W38 I38 G38 p38 => ?_)
    have q38 := p38
    have q38 := q38.symm
    subst q38
    have S38 : Now D TB cy (va_A (va_pl L E) sz) s L τ E21 H39 k40 := ⟨W38, I38⟩
    rw [← hQ]
    exact en_i Z S38 F21 (by rw [((p21_1 9 (by decide)).trans (fi_at P12))]; omega) dX9_string_66
  · skip
    have tc10 := nu_eq c10
    have uc10 : (0 : Int32).toInt = 0 := rfl
    refine lv_aload_n hx hb dX9_string_17 rfl (lv_at hl 0 rfl) ?_
    obtain ⟨v42, ev42, tv42⟩ : ∃ v : Int32, Int32.ofInt (4) = v ∧ v.toInt = 4 := ⟨_, rfl, by decide +kernel⟩
    refine lv_iconst hx hb dX9_string_18 ev42 ?_
    refine tc_vi Z.1 Z.2.2.2.1 Z.2.2.2.2.1 Z.2.2.2.2.2 S6.1 S6.2 ha0 ta0 rfl rfl (k_X9_refuse_vw l D cy S6.2 ha0 ta0 v42) (cwV 1 hts gX9_string_X9_refuse rfl rfl rfl (by decide +kernel) ⟨Nat.le_of_ble_eq_true rfl, Nat.le_of_ble_eq_true rfl⟩) rfl hl.1 rfl (Nat.le_of_ble_eq_true rfl) dX9_string_19 ⟨Nat.zero_le _, Nat.zero_le _⟩ (fun v46 E43 H44 k45 W43 I43 G43 p43 => ?_)
    obtain ⟨p43_0, p43_1, p43_2, p43_3⟩ := p43
    have S43 : Now D TB cy (va_A (va_pl L E) sz) s L τ E43 H44 k45 := ⟨W43, I43⟩
    have F43 : Fr L τ (inW [(0, 0), (5, 0), (100, 0), (101, 0), (102, 0), (103, 0), (104, 0), (105, 0), (106, 0), (107, 0), (108, 0), (109, 0), (110, 0), (111, 0), (112, 0)]) E E43 := F0_.trans (G43.mono (inW_mono (by decide)))
    have kz43_9 := fi_rng (k := 9) S43.2 ha0 ta0 rfl rfl
    rw [← hQ]
    exact en_i Z S43 F43 (by omega) dX9_string_22

set_option maxHeartbeats 4000000 in
set_option maxRecDepth 100000 in
theorem k_X9_piece_vw (l : Launch) (D : va_G) (cy : Nat → ClassId) {L : List Nat} {τ : Nat → Ro} {E : Ec} (hI : Inv TB cy L τ E) {a0 : Nat} (ha0 : a0 ∈ L) (ta0 : τ a0 = (0, 0)) (a1 : Int32) : CtI l yX9_piece wsX9_piece { frames := 1, cells := 0, slots := 0, locals := 22 } D TB cy L τ E [.ref a0, .int a1] (inW [(0, 0), (9, 0), (39, 0)]) (fun r E' => ((fi E' a0 9).toInt ≠ 2)) := by
  intro sz
  refine sta (cc := cX9_piece) (maxL := 2) hI (by decide) rfl (Nat.le_of_ble_eq_true rfl) (fun p e s m args below meth c ls hsz Z S0 hl => ?_)
  have hx := Z.1.1
  have hb := Z.1.2.1
  have hts := Z.1.2.2.2.2
  have F0_ : Fr L τ (inW [(0, 0), (9, 0), (39, 0)]) E E := Fr.refl
  have hl : lv_has ls 2 [(0, .ref a0), (1, .int a1)] := hl
  generalize hQ : MQ below _ args s 0 0 _ = QQ
  refine lv_iload_n hx hb dX9_piece_0 rfl (lv_at hl 1 rfl) ?_
  obtain ⟨v1, ev1, tv1⟩ : ∃ v : Int32, Int32.ofInt (1) = v ∧ v.toInt = 1 := ⟨_, rfl, by decide +kernel⟩
  refine lv_iconst hx hb dX9_piece_1 ev1 ?_
  obtain ⟨v2, ev2, tv2⟩ : ∃ v : Int32, (Int16.ofInt (10000)).toInt32 = v ∧ v.toInt = 10000 := ⟨_, rfl, by decide +kernel⟩
  refine lv_sipush hx hb dX9_piece_2 ev2 ?_
  refine tc_si Z.1 Z.2.2.2.1 Z.2.2.2.2.1 Z.2.2.2.2.2 S0.1 (k_X9_within l D cy S0.2 a1 v1 v2) (va_cwS 3 hts gX9_piece_X9_within rfl rfl rfl (by decide +kernel) ⟨Nat.le_of_ble_eq_true rfl, Nat.le_of_ble_eq_true rfl⟩) rfl hl.1 rfl (Nat.le_of_ble_eq_true rfl) dX9_piece_5 ⟨Nat.zero_le _, Nat.zero_le _⟩ (fun v6 E3 H4 k5 W3 I3 G3 p3 => ?_)
  obtain ⟨q3, p3_0, p3_1, p3_2⟩ := p3
  have q3 := q3.symm
  subst q3
  have S3 : Now D TB cy (va_A (va_pl L E) sz) s L τ E H4 k5 := ⟨W3, I3⟩
  refine lv_if_ne (tgt := 17) hx hb dX9_piece_8 (by decide) (fun c7 => ?_) (fun c7 => ?_)
  · skip
    have tc7 := nu_ne c7
    have uc7 : (0 : Int32).toInt = 0 := rfl
    refine lv_aload_n hx hb dX9_piece_17 rfl (lv_at hl 0 rfl) ?_
    refine tr_getr Z.1 Z.2.2.2.1 S3.1 S3.2 ha0 ta0 rfl rfl (fun _ h => List.mem_cons_of_mem _ (List.mem_append_left _ (List.mem_append_right _ h))) 6 (by decide) rfl (hts _ (List.mem_of_getElem? (i := 1) rfl)) dX9_piece_18 (fun q8 eq8 hq8 tq8 => ?_)
    have tq8 : τ q8 = (9, 0) := tq8
    refine tr_geti Z.1 Z.2.2.2.1 S3.1 S3.2 hq8 tq8 rfl rfl (fun _ h => List.mem_cons_of_mem _ (List.mem_append_right _ h)) 2 (by decide) rfl (hts _ (List.mem_of_getElem? (i := 2) rfl)) dX9_piece_21 (fun v9 ev9 lv9 uv9 => ?_)
    obtain ⟨v10, ev10, tv10⟩ : ∃ v : Int32, (Int8.ofInt (12)).toInt32 = v ∧ v.toInt = 12 := ⟨_, rfl, by decide +kernel⟩
    refine lv_bipush hx hb dX9_piece_24 ev10 ?_
    refine lv_icmp_lt (tgt := 35) hx hb dX9_piece_26 (by decide) (fun c11 => ?_) (fun c11 => ?_)
    · skip
      have tc11 := nu_lt c11
      refine lv_aload_n hx hb dX9_piece_35 rfl (lv_at hl 0 rfl) ?_
      obtain ⟨v12, ev12, tv12⟩ : ∃ v : Int32, Int32.ofInt (0) = v ∧ v.toInt = 0 := ⟨_, rfl, by decide +kernel⟩
      refine lv_iconst hx hb dX9_piece_36 ev12 ?_
      refine tr_puti Z.1 Z.2.2.2.1 S3.1 S3.2 ha0 ta0 rfl rfl (fun _ h => List.mem_cons_of_mem _ (List.mem_append_left _ (List.mem_append_right _ h))) tyX9_ok nmX9 9 (by decide) rfl rfl rfl (hts _ (List.mem_of_getElem? (i := 3) rfl)) dX9_piece_37 (by have := fb_rng v12; omega) (by have := fb_rng v12; omega) (fun E13 H14 k15 W13 I13 P13 => ?_)
      have S13 : Now D TB cy (va_A (va_pl L E) sz) s L τ E13 H14 k15 := ⟨W13, I13⟩
      have F13 : Fr L τ (inW [(0, 0), (9, 0), (39, 0)]) E E13 := Fr.put F0_ P13 ta0 rfl
      refine lv_aload_n hx hb dX9_piece_40 rfl (lv_at hl 0 rfl) ?_
      refine tr_getr Z.1 Z.2.2.2.1 S13.1 S13.2 ha0 ta0 rfl rfl (fun _ h => List.mem_cons_of_mem _ (List.mem_append_left _ (List.mem_append_right _ h))) 6 (by decide) rfl (hts _ (List.mem_of_getElem? (i := 1) rfl)) dX9_piece_41 (fun q16 eq16 hq16 tq16 => ?_)
      have tq16 : τ q16 = (9, 0) := tq16
      have uq16 : q8 = q16 := S13.2.2.2.2 _ hq8 _ hq16 (tq8.trans tq16.symm) (by rw [tq8]; rfl)
      subst uq16
      refine tr_getr Z.1 Z.2.2.2.1 S13.1 S13.2 hq8 tq8 rfl rfl (fun _ h => List.mem_cons_of_mem _ (List.mem_append_right _ h)) 0 (by decide) rfl (hts _ (List.mem_of_getElem? (i := 4) rfl)) dX9_piece_44 (fun q17 eq17 hq17 tq17 => ?_)
      have tq17 : τ q17 = (39, 0) := tq17
      refine lv_aload_n hx hb dX9_piece_47 rfl (lv_at hl 0 rfl) ?_
      refine tr_getr Z.1 Z.2.2.2.1 S13.1 S13.2 ha0 ta0 rfl rfl (fun _ h => List.mem_cons_of_mem _ (List.mem_append_left _ (List.mem_append_right _ h))) 6 (by decide) rfl (hts _ (List.mem_of_getElem? (i := 1) rfl)) dX9_piece_48 (fun q18 eq18 hq18 tq18 => ?_)
      have tq18 : τ q18 = (9, 0) := tq18
      have uq18 : q8 = q18 := S13.2.2.2.2 _ hq8 _ hq18 (tq8.trans tq18.symm) (by rw [tq8]; rfl)
      subst uq18
      refine tr_geti Z.1 Z.2.2.2.1 S13.1 S13.2 hq8 tq8 rfl rfl (fun _ h => List.mem_cons_of_mem _ (List.mem_append_right _ h)) 2 (by decide) rfl (hts _ (List.mem_of_getElem? (i := 2) rfl)) dX9_piece_51 (fun v19 ev19 lv19 uv19 => ?_)
      have wv19 : v19 = v9 := ev19.symm.trans ((fi_put (k := 2) P13 (Or.inl (ne_ro tq8 ta0 (by decide)))).trans ev9)
      have xv19 : v19.toInt = v9.toInt := by rw [wv19]
      refine lv_iload_n hx hb dX9_piece_54 rfl (lv_at hl 1 rfl) ?_
      refine tr_iast Z.1 Z.2.2.2.1 S13.1 S13.2 hq17 tq17 rfl (by omega) (by omega) (by have := fb_rng a1; omega) (by have := fb_rng a1; omega) dX9_piece_55 (fun E20 H21 k22 W20 I20 P20 => ?_)
      have S20 : Now D TB cy (va_A (va_pl L E) sz) s L τ E20 H21 k22 := ⟨W20, I20⟩
      have F20 : Fr L τ (inW [(0, 0), (9, 0), (39, 0)]) E E20 := Fr.set F13 P20 tq17 rfl
      refine lv_aload_n hx hb dX9_piece_56 rfl (lv_at hl 0 rfl) ?_
      refine tr_getr Z.1 Z.2.2.2.1 S20.1 S20.2 ha0 ta0 rfl rfl (fun _ h => List.mem_cons_of_mem _ (List.mem_append_left _ (List.mem_append_right _ h))) 6 (by decide) rfl (hts _ (List.mem_of_getElem? (i := 1) rfl)) dX9_piece_57 (fun q23 eq23 hq23 tq23 => ?_)
      have tq23 : τ q23 = (9, 0) := tq23
      have uq23 : q8 = q23 := S20.2.2.2.2 _ hq8 _ hq23 (tq8.trans tq23.symm) (by rw [tq8]; rfl)
      subst uq23
      refine lv_dup hx hb dX9_piece_60 rfl ?_
      refine tr_geti Z.1 Z.2.2.2.1 S20.1 S20.2 hq8 tq8 rfl rfl (fun _ h => List.mem_cons_of_mem _ (List.mem_append_right _ h)) 2 (by decide) rfl (hts _ (List.mem_of_getElem? (i := 2) rfl)) dX9_piece_61 (fun v24 ev24 lv24 uv24 => ?_)
      have wv24 : v24 = v19 := ev24.symm.trans ((fi_set (k := 2) P20 (ne_ro tq8 tq17 (by decide))).trans ev19)
      have xv24 : v24.toInt = v19.toInt := by rw [wv24]
      obtain ⟨v25, ev25, tv25⟩ : ∃ v : Int32, Int32.ofInt (1) = v ∧ v.toInt = 1 := ⟨_, rfl, by decide +kernel⟩
      refine lv_iconst hx hb dX9_piece_64 ev25 ?_
      refine lv_iadd hx hb dX9_piece_65 ?_
      refine lv_topi (fun v26 ev26 => ?_)
      have tv26 := nu_add ev26 (by omega) (by omega)
      refine tr_puti Z.1 Z.2.2.2.1 S20.1 S20.2 hq8 tq8 rfl rfl (fun _ h => List.mem_cons_of_mem _ (List.mem_append_right _ h)) tyX0_ok nmX0 2 (by decide) rfl rfl rfl (hts _ (List.mem_of_getElem? (i := 2) rfl)) dX9_piece_66 (by omega) (by omega) (fun E27 H28 k29 W27 I27 P27 => ?_)
      have S27 : Now D TB cy (va_A (va_pl L E) sz) s L τ E27 H28 k29 := ⟨W27, I27⟩
      have F27 : Fr L τ (inW [(0, 0), (9, 0), (39, 0)]) E E27 := Fr.put F20 P27 tq8 rfl
      refine lv_aload_n hx hb dX9_piece_69 rfl (lv_at hl 0 rfl) ?_
      refine tr_getr Z.1 Z.2.2.2.1 S27.1 S27.2 ha0 ta0 rfl rfl (fun _ h => List.mem_cons_of_mem _ (List.mem_append_left _ (List.mem_append_right _ h))) 6 (by decide) rfl (hts _ (List.mem_of_getElem? (i := 1) rfl)) dX9_piece_70 (fun q30 eq30 hq30 tq30 => ?_)
      have tq30 : τ q30 = (9, 0) := tq30
      have uq30 : q8 = q30 := S27.2.2.2.2 _ hq8 _ hq30 (tq8.trans tq30.symm) (by rw [tq8]; rfl)
      subst uq30
      refine tr_geti Z.1 Z.2.2.2.1 S27.1 S27.2 hq8 tq8 rfl rfl (fun _ h => List.mem_cons_of_mem _ (List.mem_append_right _ h)) 2 (by decide) rfl (hts _ (List.mem_of_getElem? (i := 2) rfl)) dX9_piece_73 (fun v31 ev31 lv31 uv31 => ?_)
      have wv31 : v31 = v26 := ev31.symm.trans (fi_at P27)
      have xv31 : v31.toInt = v26.toInt := by rw [wv31]
      rw [← hQ]
      exact en_i Z S27 F27 (by rw [((fi_put (k := 9) P27 (Or.inl (ne_ro ta0 tq8 (by decide)))).trans ((fi_set (k := 9) P20 (ne_ro ta0 tq17 (by decide))).trans (fi_at P13)))]; omega) dX9_piece_76
    · skip
      have tc11 := nu_nlt c11
      refine lv_aload_n hx hb dX9_piece_29 rfl (lv_at hl 0 rfl) ?_
      obtain ⟨v32, ev32, tv32⟩ : ∃ v : Int32, Int32.ofInt (3) = v ∧ v.toInt = 3 := ⟨_, rfl, by decide +kernel⟩
      refine lv_iconst hx hb dX9_piece_30 ev32 ?_
      refine tc_vi Z.1 Z.2.2.2.1 Z.2.2.2.2.1 Z.2.2.2.2.2 S3.1 S3.2 ha0 ta0 rfl rfl (k_X9_refuse_vw l D cy S3.2 ha0 ta0 v32) (cwV 1 hts gX9_piece_X9_refuse rfl rfl rfl (by decide +kernel) ⟨Nat.le_of_ble_eq_true rfl, Nat.le_of_ble_eq_true rfl⟩) rfl hl.1 rfl (Nat.le_of_ble_eq_true rfl) dX9_piece_31 ⟨Nat.zero_le _, Nat.zero_le _⟩ (fun v36 E33 H34 k35 W33 I33 G33 p33 => ?_)
      obtain ⟨p33_0, p33_1, p33_2, p33_3⟩ := p33
      have S33 : Now D TB cy (va_A (va_pl L E) sz) s L τ E33 H34 k35 := ⟨W33, I33⟩
      have F33 : Fr L τ (inW [(0, 0), (9, 0), (39, 0)]) E E33 := F0_.trans (G33.mono (inW_mono (by decide)))
      have kz33_9 := fi_rng (k := 9) S33.2 ha0 ta0 rfl rfl
      rw [← hQ]
      exact en_i Z S33 F33 (by omega) dX9_piece_34
  · skip
    have tc7 := nu_eq c7
    have uc7 : (0 : Int32).toInt = 0 := rfl
    refine lv_aload_n hx hb dX9_piece_11 rfl (lv_at hl 0 rfl) ?_
    obtain ⟨v37, ev37, tv37⟩ : ∃ v : Int32, Int32.ofInt (1) = v ∧ v.toInt = 1 := ⟨_, rfl, by decide +kernel⟩
    refine lv_iconst hx hb dX9_piece_12 ev37 ?_
    refine tc_vi Z.1 Z.2.2.2.1 Z.2.2.2.2.1 Z.2.2.2.2.2 S3.1 S3.2 ha0 ta0 rfl rfl (k_X9_refuse_vw l D cy S3.2 ha0 ta0 v37) (cwV 1 hts gX9_piece_X9_refuse rfl rfl rfl (by decide +kernel) ⟨Nat.le_of_ble_eq_true rfl, Nat.le_of_ble_eq_true rfl⟩) rfl hl.1 rfl (Nat.le_of_ble_eq_true rfl) dX9_piece_13 ⟨Nat.zero_le _, Nat.zero_le _⟩ (fun v41 E38 H39 k40 W38 I38 G38 p38 => ?_)
    obtain ⟨p38_0, p38_1, p38_2, p38_3⟩ := p38
    have S38 : Now D TB cy (va_A (va_pl L E) sz) s L τ E38 H39 k40 := ⟨W38, I38⟩
    have F38 : Fr L τ (inW [(0, 0), (9, 0), (39, 0)]) E E38 := F0_.trans (G38.mono (inW_mono (by decide)))
    have kz38_9 := fi_rng (k := 9) S38.2 ha0 ta0 rfl rfl
    rw [← hQ]
    exact en_i Z S38 F38 (by omega) dX9_piece_16

set_option maxHeartbeats 4000000 in
set_option maxRecDepth 100000 in
theorem k_X9_boards_vw (l : Launch) (D : va_G) (cy : Nat → ClassId) {L : List Nat} {τ : Nat → Ro} {E : Ec} (hI : Inv TB cy L τ E) {a0 : Nat} (ha0 : a0 ∈ L) (ta0 : τ a0 = (0, 0)) (a1 : Int32) : CtI l yX9_boards wsX9_boards { frames := 2, cells := 0, slots := 0, locals := 48 } D TB cy L τ E [.ref a0, .int a1] (inW [(0, 0), (31, 0)]) (fun r E' => ((fi E' a0 9).toInt ≠ 2)) := by
  intro sz
  refine sta (cc := cX9_boards) (maxL := 2) hI (by decide) rfl (Nat.le_of_ble_eq_true rfl) (fun p e s m args below meth c ls hsz Z S0 hl => ?_)
  have hx := Z.1.1
  have hb := Z.1.2.1
  have hts := Z.1.2.2.2.2
  have F0_ : Fr L τ (inW [(0, 0), (31, 0)]) E E := Fr.refl
  have hl : lv_has ls 2 [(0, .ref a0), (1, .int a1)] := hl
  generalize hQ : MQ below _ args s 0 0 _ = QQ
  refine lv_iload_n hx hb dX9_boards_0 rfl (lv_at hl 1 rfl) ?_
  obtain ⟨v1, ev1, tv1⟩ : ∃ v : Int32, Int32.ofInt (1) = v ∧ v.toInt = 1 := ⟨_, rfl, by decide +kernel⟩
  refine lv_iconst hx hb dX9_boards_1 ev1 ?_
  obtain ⟨v2, ev2, tv2⟩ : ∃ v : Int32, (Int16.ofInt (10000)).toInt32 = v ∧ v.toInt = 10000 := ⟨_, rfl, by decide +kernel⟩
  refine lv_sipush hx hb dX9_boards_2 ev2 ?_
  refine tc_si Z.1 Z.2.2.2.1 Z.2.2.2.2.1 Z.2.2.2.2.2 S0.1 (k_X9_within l D cy S0.2 a1 v1 v2) (va_cwS 3 hts gX9_boards_X9_within rfl rfl rfl (by decide +kernel) ⟨Nat.le_of_ble_eq_true rfl, Nat.le_of_ble_eq_true rfl⟩) rfl hl.1 rfl (Nat.le_of_ble_eq_true rfl) dX9_boards_5 ⟨Nat.zero_le _, Nat.zero_le _⟩ (fun v6 E3 H4 k5 W3 I3 G3 p3 => ?_)
  obtain ⟨q3, p3_0, p3_1, p3_2⟩ := p3
  have q3 := q3.symm
  subst q3
  have S3 : Now D TB cy (va_A (va_pl L E) sz) s L τ E H4 k5 := ⟨W3, I3⟩
  refine lv_if_ne (tgt := 17) hx hb dX9_boards_8 (by decide) (fun c7 => ?_) (fun c7 => ?_)
  · skip
    have tc7 := nu_ne c7
    have uc7 : (0 : Int32).toInt = 0 := rfl
    refine lv_aload_n hx hb dX9_boards_17 rfl (lv_at hl 0 rfl) ?_
    obtain ⟨v8, ev8, tv8⟩ : ∃ v : Int32, Int32.ofInt (0) = v ∧ v.toInt = 0 := ⟨_, rfl, by decide +kernel⟩
    refine lv_iconst hx hb dX9_boards_18 ev8 ?_
    refine tr_puti Z.1 Z.2.2.2.1 S3.1 S3.2 ha0 ta0 rfl rfl (fun _ h => List.mem_cons_of_mem _ (List.mem_append_left _ (List.mem_append_right _ h))) tyX9_ok nmX9 9 (by decide) rfl rfl rfl (hts _ (List.mem_of_getElem? (i := 1) rfl)) dX9_boards_19 (by have := fb_rng v8; omega) (by have := fb_rng v8; omega) (fun E9 H10 k11 W9 I9 P9 => ?_)
    have S9 : Now D TB cy (va_A (va_pl L E) sz) s L τ E9 H10 k11 := ⟨W9, I9⟩
    have F9 : Fr L τ (inW [(0, 0), (31, 0)]) E E9 := Fr.put F0_ P9 ta0 rfl
    refine lv_aload_n hx hb dX9_boards_22 rfl (lv_at hl 0 rfl) ?_
    refine tr_getr Z.1 Z.2.2.2.1 S9.1 S9.2 ha0 ta0 rfl rfl (fun _ h => List.mem_cons_of_mem _ (List.mem_append_left _ (List.mem_append_right _ h))) 6 (by decide) rfl (hts _ (List.mem_of_getElem? (i := 2) rfl)) dX9_boards_23 (fun q12 eq12 hq12 tq12 => ?_)
    have tq12 : τ q12 = (9, 0) := tq12
    refine tc_vi Z.1 Z.2.2.2.1 Z.2.2.2.2.1 Z.2.2.2.2.2 S9.1 S9.2 hq12 tq12 rfl rfl (k_X0_longest l D cy S9.2 hq12 tq12) (cwV 0 hts gX9_boards_X0_longest rfl rfl rfl (by decide +kernel) ⟨Nat.le_of_ble_eq_true rfl, Nat.le_of_ble_eq_true rfl⟩) rfl hl.1 rfl (Nat.le_of_ble_eq_true rfl) dX9_boards_26 ⟨Nat.zero_le _, Nat.zero_le _⟩ (fun v16 E13 H14 k15 W13 I13 G13 p13 => ?_)
    have q13 := p13
    have q13 := q13.symm
    subst q13
    have S13 : Now D TB cy (va_A (va_pl L E) sz) s L τ E9 H14 k15 := ⟨W13, I13⟩
    refine lv_iload_n hx hb dX9_boards_29 rfl (lv_at hl 1 rfl) ?_
    refine lv_icmp_le (tgt := 38) hx hb dX9_boards_30 (by decide) (fun c17 => ?_) (fun c17 => ?_)
    · skip
      have tc17 := nu_le c17
      refine lv_aload_n hx hb dX9_boards_38 rfl (lv_at hl 0 rfl) ?_
      refine tr_getr Z.1 Z.2.2.2.1 S13.1 S13.2 ha0 ta0 rfl rfl (fun _ h => List.mem_cons_of_mem _ (List.mem_append_left _ (List.mem_append_right _ h))) 6 (by decide) rfl (hts _ (List.mem_of_getElem? (i := 2) rfl)) dX9_boards_39 (fun q18 eq18 hq18 tq18 => ?_)
      have tq18 : τ q18 = (9, 0) := tq18
      have uq18 : q12 = q18 := S13.2.2.2.2 _ hq12 _ hq18 (tq12.trans tq18.symm) (by rw [tq12]; rfl)
      subst uq18
      refine lv_iload_n hx hb dX9_boards_42 rfl (lv_at hl 1 rfl) ?_
      refine tc_vi Z.1 Z.2.2.2.1 Z.2.2.2.2.1 Z.2.2.2.2.2 S13.1 S13.2 hq12 tq12 rfl rfl (k_X0_fewest l D cy S13.2 hq12 tq12 a1) (cwV 1 hts gX9_boards_X0_fewest rfl rfl rfl (by decide +kernel) ⟨Nat.le_of_ble_eq_true rfl, Nat.le_of_ble_eq_true rfl⟩) rfl hl.1 rfl (Nat.le_of_ble_eq_true rfl) dX9_boards_43 ⟨Nat.zero_le _, Nat.zero_le _⟩ (fun v22 E19 H20 k21 W19 I19 G19 p19 => ?_)
      have S19 : Now D TB cy (va_A (va_pl L E) sz) s L τ E19 H20 k21 := ⟨W19, I19⟩
      have F19 : Fr L τ (inW [(0, 0), (31, 0)]) E E19 := F9.trans (G19.mono (inW_mono (by decide)))
      rw [← hQ]
      exact en_i Z S19 F19 (by rw [((fi_fr (k := 9) G19 ha0 (by rw [ta0]; rfl)).trans (fi_at P9))]; omega) dX9_boards_46
    · skip
      have tc17 := nu_nle c17
      obtain ⟨v23, ev23, tv23⟩ : ∃ v : Int32, (Int8.ofInt (-2)).toInt32 = v ∧ v.toInt = -2 := ⟨_, rfl, by decide +kernel⟩
      refine lv_bipush hx hb dX9_boards_33 ev23 ?_
      refine lv_goto (tgt := 46) hx hb dX9_boards_35 (by decide) ?_
      rw [← hQ]
      exact en_i Z S13 F9 (by rw [(fi_at P9)]; omega) dX9_boards_46
  · skip
    have tc7 := nu_eq c7
    have uc7 : (0 : Int32).toInt = 0 := rfl
    refine lv_aload_n hx hb dX9_boards_11 rfl (lv_at hl 0 rfl) ?_
    obtain ⟨v24, ev24, tv24⟩ : ∃ v : Int32, Int32.ofInt (1) = v ∧ v.toInt = 1 := ⟨_, rfl, by decide +kernel⟩
    refine lv_iconst hx hb dX9_boards_12 ev24 ?_
    refine tc_vi Z.1 Z.2.2.2.1 Z.2.2.2.2.1 Z.2.2.2.2.2 S3.1 S3.2 ha0 ta0 rfl rfl (k_X9_refuse_vw l D cy S3.2 ha0 ta0 v24) (cwV 1 hts gX9_boards_X9_refuse rfl rfl rfl (by decide +kernel) ⟨Nat.le_of_ble_eq_true rfl, Nat.le_of_ble_eq_true rfl⟩) rfl hl.1 rfl (Nat.le_of_ble_eq_true rfl) dX9_boards_13 ⟨Nat.zero_le _, Nat.zero_le _⟩ (fun v28 E25 H26 k27 W25 I25 G25 p25 => ?_)
    obtain ⟨p25_0, p25_1, p25_2, p25_3⟩ := p25
    have S25 : Now D TB cy (va_A (va_pl L E) sz) s L τ E25 H26 k27 := ⟨W25, I25⟩
    have F25 : Fr L τ (inW [(0, 0), (31, 0)]) E E25 := F0_.trans (G25.mono (inW_mono (by decide)))
    have kz25_9 := fi_rng (k := 9) S25.2 ha0 ta0 rfl rfl
    rw [← hQ]
    exact en_i Z S25 F25 (by omega) dX9_boards_16

set_option maxHeartbeats 4000000 in
set_option maxRecDepth 100000 in
theorem k_X9_alter_vw (l : Launch) (D : va_G) (cy : Nat → ClassId) {L : List Nat} {τ : Nat → Ro} {E : Ec} (hI : Inv TB cy L τ E) {a0 : Nat} (ha0 : a0 ∈ L) (ta0 : τ a0 = (0, 0)) (a1 : Int32) (a2 : Int32) : CtI l yX9_alter wsX9_alter { frames := 1, cells := 0, slots := 0, locals := 22 } D TB cy L τ E [.ref a0, .int a1, .int a2] (inW [(0, 0), (28, 0)]) (fun r E' => ((fi E' a0 9).toInt ≠ 2) ∧ 0 ≤ r.toInt ∧ r.toInt ≤ 1) := by
  intro sz
  refine sta (cc := cX9_alter) (maxL := 3) hI (by decide) rfl (Nat.le_of_ble_eq_true rfl) (fun p e s m args below meth c ls hsz Z S0 hl => ?_)
  have hx := Z.1.1
  have hb := Z.1.2.1
  have hts := Z.1.2.2.2.2
  have F0_ : Fr L τ (inW [(0, 0), (28, 0)]) E E := Fr.refl
  have hl : lv_has ls 3 [(0, .ref a0), (1, .int a1), (2, .int a2)] := hl
  generalize hQ : MQ below _ args s 0 0 _ = QQ
  refine lv_iload_n hx hb dX9_alter_0 rfl (lv_at hl 1 rfl) ?_
  obtain ⟨v1, ev1, tv1⟩ : ∃ v : Int32, Int32.ofInt (0) = v ∧ v.toInt = 0 := ⟨_, rfl, by decide +kernel⟩
  refine lv_iconst hx hb dX9_alter_1 ev1 ?_
  refine lv_aload_n hx hb dX9_alter_2 rfl (lv_at hl 0 rfl) ?_
  refine tr_geti Z.1 Z.2.2.2.1 S0.1 S0.2 ha0 ta0 rfl rfl (fun _ h => List.mem_cons_of_mem _ (List.mem_append_right _ h)) 8 (by decide) rfl (hts _ (List.mem_of_getElem? (i := 1) rfl)) dX9_alter_3 (fun v2 ev2 lv2 uv2 => ?_)
  obtain ⟨v3, ev3, tv3⟩ : ∃ v : Int32, Int32.ofInt (1) = v ∧ v.toInt = 1 := ⟨_, rfl, by decide +kernel⟩
  refine lv_iconst hx hb dX9_alter_6 ev3 ?_
  refine lv_isub hx hb dX9_alter_7 ?_
  refine lv_topi (fun v4 ev4 => ?_)
  have tv4 := nu_sub ev4 (by omega) (by omega)
  refine tc_si Z.1 Z.2.2.2.1 Z.2.2.2.2.1 Z.2.2.2.2.2 S0.1 (k_X9_within l D cy S0.2 a1 v1 v4) (va_cwS 3 hts gX9_alter_X9_within rfl rfl rfl (by decide +kernel) ⟨Nat.le_of_ble_eq_true rfl, Nat.le_of_ble_eq_true rfl⟩) rfl hl.1 rfl (Nat.le_of_ble_eq_true rfl) dX9_alter_8 ⟨Nat.zero_le _, Nat.zero_le _⟩ (fun v8 E5 H6 k7 W5 I5 G5 p5 => ?_)
  obtain ⟨q5, p5_0, p5_1, p5_2⟩ := p5
  have q5 := q5.symm
  subst q5
  have S5 : Now D TB cy (va_A (va_pl L E) sz) s L τ E H6 k7 := ⟨W5, I5⟩
  refine lv_if_ne (tgt := 20) hx hb dX9_alter_11 (by decide) (fun c9 => ?_) (fun c9 => ?_)
  · skip
    have tc9 := nu_ne c9
    have uc9 : (0 : Int32).toInt = 0 := rfl
    refine lv_aload_n hx hb dX9_alter_20 rfl (lv_at hl 0 rfl) ?_
    obtain ⟨v10, ev10, tv10⟩ : ∃ v : Int32, Int32.ofInt (0) = v ∧ v.toInt = 0 := ⟨_, rfl, by decide +kernel⟩
    refine lv_iconst hx hb dX9_alter_21 ev10 ?_
    refine tr_puti Z.1 Z.2.2.2.1 S5.1 S5.2 ha0 ta0 rfl rfl (fun _ h => List.mem_cons_of_mem _ (List.mem_append_right _ h)) tyX9_ok nmX9 9 (by decide) rfl rfl rfl (hts _ (List.mem_of_getElem? (i := 2) rfl)) dX9_alter_22 (by have := fb_rng v10; omega) (by have := fb_rng v10; omega) (fun E11 H12 k13 W11 I11 P11 => ?_)
    have S11 : Now D TB cy (va_A (va_pl L E) sz) s L τ E11 H12 k13 := ⟨W11, I11⟩
    have F11 : Fr L τ (inW [(0, 0), (28, 0)]) E E11 := Fr.put F0_ P11 ta0 rfl
    refine lv_aload_n hx hb dX9_alter_25 rfl (lv_at hl 0 rfl) ?_
    refine tr_getr Z.1 Z.2.2.2.1 S11.1 S11.2 ha0 ta0 rfl rfl (fun _ h => List.mem_cons_of_mem _ (List.mem_append_right _ h)) 7 (by decide) rfl (hts _ (List.mem_of_getElem? (i := 3) rfl)) dX9_alter_26 (fun q14 eq14 hq14 tq14 => ?_)
    have tq14 : τ q14 = (28, 0) := tq14
    refine lv_iload_n hx hb dX9_alter_29 rfl (lv_at hl 1 rfl) ?_
    refine lv_dup2_11 hx hb dX9_alter_30 rfl rfl ?_
    refine tr_iald Z.1 Z.2.2.2.1 S11.1 S11.2 hq14 tq14 rfl (by omega) (by omega) dX9_alter_31 (fun v15 ev15 lv15 uv15 => ?_)
    refine lv_iload_n hx hb dX9_alter_32 rfl (lv_at hl 2 rfl) ?_
    refine lv_ixor hx hb dX9_alter_33 ?_
    refine lv_topi (fun v16 ev16 => ?_)
    refine tr_iast Z.1 Z.2.2.2.1 S11.1 S11.2 hq14 tq14 rfl (by omega) (by omega) (by have := fb_rng v16; omega) (by have := fb_rng v16; omega) dX9_alter_34 (fun E17 H18 k19 W17 I17 P17 => ?_)
    have S17 : Now D TB cy (va_A (va_pl L E) sz) s L τ E17 H18 k19 := ⟨W17, I17⟩
    have F17 : Fr L τ (inW [(0, 0), (28, 0)]) E E17 := Fr.set F11 P17 tq14 rfl
    obtain ⟨v20, ev20, tv20⟩ : ∃ v : Int32, Int32.ofInt (1) = v ∧ v.toInt = 1 := ⟨_, rfl, by decide +kernel⟩
    refine lv_iconst hx hb dX9_alter_35 ev20 ?_
    rw [← hQ]
    exact en_z Z S17 F17 (zo v20 (by omega)) ⟨(by rw [((fi_set (k := 9) P17 (ne_ro ta0 tq14 (by decide))).trans (fi_at P11))]; omega), (by omega), (by omega)⟩ dX9_alter_36
  · skip
    have tc9 := nu_eq c9
    have uc9 : (0 : Int32).toInt = 0 := rfl
    refine lv_aload_n hx hb dX9_alter_14 rfl (lv_at hl 0 rfl) ?_
    obtain ⟨v21, ev21, tv21⟩ : ∃ v : Int32, Int32.ofInt (4) = v ∧ v.toInt = 4 := ⟨_, rfl, by decide +kernel⟩
    refine lv_iconst hx hb dX9_alter_15 ev21 ?_
    refine tc_vi Z.1 Z.2.2.2.1 Z.2.2.2.2.1 Z.2.2.2.2.2 S5.1 S5.2 ha0 ta0 rfl rfl (k_X9_deny_vw l D cy S5.2 ha0 ta0 v21) (cwV 1 hts gX9_alter_X9_deny rfl rfl rfl (by decide +kernel) ⟨Nat.le_of_ble_eq_true rfl, Nat.le_of_ble_eq_true rfl⟩) rfl hl.1 rfl (Nat.le_of_ble_eq_true rfl) dX9_alter_16 ⟨Nat.zero_le _, Nat.zero_le _⟩ (fun v25 E22 H23 k24 W22 I22 G22 p22 => ?_)
    obtain ⟨p22_0, p22_1, p22_2, p22_3⟩ := p22
    have S22 : Now D TB cy (va_A (va_pl L E) sz) s L τ E22 H23 k24 := ⟨W22, I22⟩
    have F22 : Fr L τ (inW [(0, 0), (28, 0)]) E E22 := F0_.trans (G22.mono (inW_mono (by decide)))
    have kz22_9 := fi_rng (k := 9) S22.2 ha0 ta0 rfl rfl
    rw [← hQ]
    exact en_z Z S22 F22 (zo v25 (by omega)) ⟨(by omega), (by omega), (by omega)⟩ dX9_alter_19

set_option maxHeartbeats 4000000 in
set_option maxRecDepth 100000 in
theorem k_X9_clear_vw (l : Launch) (D : va_G) (cy : Nat → ClassId) {L : List Nat} {τ : Nat → Ro} {E : Ec} (hI : Inv TB cy L τ E) {a0 : Nat} (ha0 : a0 ∈ L) (ta0 : τ a0 = (0, 0)) : CtI l yX9_clear wsX9_clear { frames := 4, cells := 0, slots := 0, locals := 103 } D TB cy L τ E [.ref a0] (inW [(1, 1), (20, 1), (21, 1), (22, 1), (23, 1), (24, 1), (25, 1), (26, 1), (27, 1), (4, 0), (0, 0), (1, 0), (20, 0), (21, 0), (22, 0), (23, 0), (24, 0), (25, 0), (26, 0), (27, 0)]) (fun r E' => (∀ k : Nat, k ∉ ([10] : List Nat) → fi E' a0 k = fi E a0 k)) := by
  intro sz
  refine sta (cc := cX9_clear) (maxL := 2) hI (by decide) rfl (Nat.le_of_ble_eq_true rfl) (fun p e s m args below meth c ls hsz Z S0 hl => ?_)
  have hx := Z.1.1
  have hb := Z.1.2.1
  have hts := Z.1.2.2.2.2
  have F0_ : Fr L τ (inW [(1, 1), (20, 1), (21, 1), (22, 1), (23, 1), (24, 1), (25, 1), (26, 1), (27, 1), (4, 0), (0, 0), (1, 0), (20, 0), (21, 0), (22, 0), (23, 0), (24, 0), (25, 0), (26, 0), (27, 0)]) E E := Fr.refl
  have hl : lv_has ls 2 [(0, .ref a0)] := hl
  generalize hQ : MQ below _ args s 0 0 _ = QQ
  refine lv_aload_n hx hb dX9_clear_0 rfl (lv_at hl 0 rfl) ?_
  refine tr_getr Z.1 Z.2.2.2.1 S0.1 S0.2 ha0 ta0 rfl rfl (fun _ h => List.mem_cons_of_mem _ (List.mem_append_left _ (List.mem_append_left _ (List.mem_append_right _ h)))) 0 (by decide) rfl (hts _ (List.mem_of_getElem? (i := 1) rfl)) dX9_clear_1 (fun q1 eq1 hq1 tq1 => ?_)
  have tq1 : τ q1 = (1, 0) := tq1
  refine tr_geti Z.1 Z.2.2.2.1 S0.1 S0.2 hq1 tq1 rfl rfl (fun _ h => List.mem_cons_of_mem _ (List.mem_append_left _ (List.mem_append_right _ h))) 6 (by decide) rfl (hts _ (List.mem_of_getElem? (i := 2) rfl)) dX9_clear_4 (fun v2 ev2 lv2 uv2 => ?_)
  refine lv_istore_n (lv' := [(1, .int v2), (0, .ref a0)]) hx hb dX9_clear_7 rfl hl (by decide) rfl (fun l3 hl4 => ?_)
  refine lv_iload_n hx hb dX9_clear_8 rfl (lv_at hl4 0 rfl) ?_
  refine lv_if_le (tgt := 24) hx hb dX9_clear_9 (by decide) (fun c5 => ?_) (fun c5 => ?_)
  · skip
    have tc5 := nu_le c5
    have uc5 : (0 : Int32).toInt = 0 := rfl
    refine lv_iload_n hx hb dX9_clear_24 rfl (lv_at hl4 0 rfl) ?_
    rw [← hQ]
    exact en_i Z S0 F0_ (fun k hk => ((fun k hk => rfl) k hk)) dX9_clear_25
  · skip
    have tc5 := nu_nle c5
    have uc5 : (0 : Int32).toInt = 0 := rfl
    refine lv_aload_n hx hb dX9_clear_12 rfl (lv_at hl4 1 rfl) ?_
    refine tc_vv Z.1 Z.2.2.2.1 Z.2.2.2.2.1 Z.2.2.2.2.2 S0.1 S0.2 ha0 ta0 rfl rfl (k_X9_keepAct_vw l D cy S0.2 ha0 ta0) (cwV 0 hts gX9_clear_X9_keepAct rfl rfl rfl (by decide +kernel) ⟨Nat.le_of_ble_eq_true rfl, Nat.le_of_ble_eq_true rfl⟩) rfl hl4.1 rfl (Nat.le_of_ble_eq_true rfl) dX9_clear_13 ⟨Nat.zero_le _, Nat.zero_le _⟩ (fun E6 H7 k8 W6 I6 G6 p6 => ?_)
    have p6_0 := p6
    have S6 : Now D TB cy (va_A (va_pl L E) sz) s L τ E6 H7 k8 := ⟨W6, I6⟩
    have F6 : Fr L τ (inW [(1, 1), (20, 1), (21, 1), (22, 1), (23, 1), (24, 1), (25, 1), (26, 1), (27, 1), (4, 0), (0, 0), (1, 0), (20, 0), (21, 0), (22, 0), (23, 0), (24, 0), (25, 0), (26, 0), (27, 0)]) E E6 := F0_.trans (G6.mono (inW_mono (by decide)))
    refine lv_aload_n hx hb dX9_clear_16 rfl (lv_at hl4 1 rfl) ?_
    refine tr_getr Z.1 Z.2.2.2.1 S6.1 S6.2 ha0 ta0 rfl rfl (fun _ h => List.mem_cons_of_mem _ (List.mem_append_left _ (List.mem_append_left _ (List.mem_append_right _ h)))) 0 (by decide) rfl (hts _ (List.mem_of_getElem? (i := 1) rfl)) dX9_clear_17 (fun q10 eq10 hq10 tq10 => ?_)
    have tq10 : τ q10 = (1, 0) := tq10
    have uq10 : q1 = q10 := S6.2.2.2.2 _ hq1 _ hq10 (tq1.trans tq10.symm) (by rw [tq1]; rfl)
    subst uq10
    obtain ⟨v11, ev11, tv11⟩ : ∃ v : Int32, Int32.ofInt (0) = v ∧ v.toInt = 0 := ⟨_, rfl, by decide +kernel⟩
    refine lv_iconst hx hb dX9_clear_20 ev11 ?_
    refine tr_puti Z.1 Z.2.2.2.1 S6.1 S6.2 hq1 tq1 rfl rfl (fun _ h => List.mem_cons_of_mem _ (List.mem_append_left _ (List.mem_append_right _ h))) tyX4_ok nmX4 6 (by decide) rfl rfl rfl (hts _ (List.mem_of_getElem? (i := 2) rfl)) dX9_clear_21 (by omega) (by omega) (fun E12 H13 k14 W12 I12 P12 => ?_)
    have S12 : Now D TB cy (va_A (va_pl L E) sz) s L τ E12 H13 k14 := ⟨W12, I12⟩
    have F12 : Fr L τ (inW [(1, 1), (20, 1), (21, 1), (22, 1), (23, 1), (24, 1), (25, 1), (26, 1), (27, 1), (4, 0), (0, 0), (1, 0), (20, 0), (21, 0), (22, 0), (23, 0), (24, 0), (25, 0), (26, 0), (27, 0)]) E E12 := Fr.put F6 P12 tq1 rfl
    refine lv_iload_n hx hb dX9_clear_24 rfl (lv_at hl4 0 rfl) ?_
    rw [← hQ]
    exact en_i Z S12 F12 (fun k hk => ((fi_put P12 (Or.inl (ne_ro ta0 tq1 (by decide)))).trans ((p6_0 k (fw_sub (by decide) hk)).trans ((fun k hk => rfl) k hk)))) dX9_clear_25

set_option maxHeartbeats 4000000 in
set_option maxRecDepth 100000 in
theorem k_X9_undo_vw (l : Launch) (D : va_G) (cy : Nat → ClassId) {L : List Nat} {τ : Nat → Ro} {E : Ec} (hI : Inv TB cy L τ E) {a0 : Nat} (ha0 : a0 ∈ L) (ta0 : τ a0 = (0, 0)) : CtI l yX9_undo wsX9_undo { frames := 3, cells := 0, slots := 0, locals := 83 } D TB cy L τ E [.ref a0] (inW [(0, 0), (4, 0), (1, 0), (20, 0), (21, 0), (22, 0), (23, 0), (24, 0), (25, 0), (26, 0), (27, 0)]) (fun r E' => 0 ≤ r.toInt ∧ r.toInt ≤ 1 ∧ (∀ k : Nat, k ∉ ([10] : List Nat) → fi E' a0 k = fi E a0 k)) := by
  intro sz
  refine sta (cc := cX9_undo) (maxL := 1) hI (by decide) rfl (Nat.le_of_ble_eq_true rfl) (fun p e s m args below meth c ls hsz Z S0 hl => ?_)
  have hx := Z.1.1
  have hb := Z.1.2.1
  have hts := Z.1.2.2.2.2
  have F0_ : Fr L τ (inW [(0, 0), (4, 0), (1, 0), (20, 0), (21, 0), (22, 0), (23, 0), (24, 0), (25, 0), (26, 0), (27, 0)]) E E := Fr.refl
  have hl : lv_has ls 1 [(0, .ref a0)] := hl
  generalize hQ : MQ below _ args s 0 0 _ = QQ
  refine lv_aload_n hx hb dX9_undo_0 rfl (lv_at hl 0 rfl) ?_
  refine tr_getr Z.1 Z.2.2.2.1 S0.1 S0.2 ha0 ta0 rfl rfl (fun _ h => List.mem_cons_of_mem _ (List.mem_append_left _ (List.mem_append_left _ (List.mem_append_right _ h)))) 1 (by decide) rfl (hts _ (List.mem_of_getElem? (i := 1) rfl)) dX9_undo_1 (fun q1 eq1 hq1 tq1 => ?_)
  have tq1 : τ q1 = (4, 0) := tq1
  refine lv_aload_n hx hb dX9_undo_4 rfl (lv_at hl 0 rfl) ?_
  refine tr_getr Z.1 Z.2.2.2.1 S0.1 S0.2 ha0 ta0 rfl rfl (fun _ h => List.mem_cons_of_mem _ (List.mem_append_left _ (List.mem_append_left _ (List.mem_append_right _ h)))) 0 (by decide) rfl (hts _ (List.mem_of_getElem? (i := 2) rfl)) dX9_undo_5 (fun q2 eq2 hq2 tq2 => ?_)
  have tq2 : τ q2 = (1, 0) := tq2
  refine tc_vi Z.1 Z.2.2.2.1 Z.2.2.2.2.1 Z.2.2.2.2.2 S0.1 S0.2 hq1 tq1 rfl rfl (k_X3_takeBack l D cy S0.2 hq1 tq1 hq2 tq2) (cwV 1 hts gX9_undo_X3_takeBack rfl rfl rfl (by decide +kernel) ⟨Nat.le_of_ble_eq_true rfl, Nat.le_of_ble_eq_true rfl⟩) rfl hl.1 rfl (Nat.le_of_ble_eq_true rfl) dX9_undo_8 ⟨Nat.zero_le _, Nat.zero_le _⟩ (fun v6 E3 H4 k5 W3 I3 G3 p3 => ?_)
  obtain ⟨p3_0, p3_1⟩ := p3
  have S3 : Now D TB cy (va_A (va_pl L E) sz) s L τ E3 H4 k5 := ⟨W3, I3⟩
  have F3 : Fr L τ (inW [(0, 0), (4, 0), (1, 0), (20, 0), (21, 0), (22, 0), (23, 0), (24, 0), (25, 0), (26, 0), (27, 0)]) E E3 := F0_.trans (G3.mono (inW_mono (by decide)))
  refine lv_if_ne (tgt := 16) hx hb dX9_undo_11 (by decide) (fun c7 => ?_) (fun c7 => ?_)
  · skip
    have tc7 := nu_ne c7
    have uc7 : (0 : Int32).toInt = 0 := rfl
    refine lv_aload_n hx hb dX9_undo_16 rfl (lv_at hl 0 rfl) ?_
    obtain ⟨v8, ev8, tv8⟩ : ∃ v : Int32, Int32.ofInt (1) = v ∧ v.toInt = 1 := ⟨_, rfl, by decide +kernel⟩
    refine lv_iconst hx hb dX9_undo_17 ev8 ?_
    refine tr_putz Z.1 Z.2.2.2.1 S3.1 S3.2 ha0 ta0 rfl rfl (fun _ h => List.mem_cons_of_mem _ (List.mem_append_left _ (List.mem_append_left _ (List.mem_append_right _ h)))) tyX9_ok nmX9 10 (by decide) rfl rfl rfl (hts _ (List.mem_of_getElem? (i := 3) rfl)) dX9_undo_18 (by omega) (by omega) (fun E9 H10 k11 W9 I9 P9 => ?_)
    have S9 : Now D TB cy (va_A (va_pl L E) sz) s L τ E9 H10 k11 := ⟨W9, I9⟩
    have F9 : Fr L τ (inW [(0, 0), (4, 0), (1, 0), (20, 0), (21, 0), (22, 0), (23, 0), (24, 0), (25, 0), (26, 0), (27, 0)]) E E9 := Fr.put F3 P9 ta0 rfl
    obtain ⟨v12, ev12, tv12⟩ : ∃ v : Int32, Int32.ofInt (1) = v ∧ v.toInt = 1 := ⟨_, rfl, by decide +kernel⟩
    refine lv_iconst hx hb dX9_undo_21 ev12 ?_
    rw [← hQ]
    exact en_i Z S9 F9 ⟨(by omega), (by omega), (fun k hk => ((fi_put P9 (Or.inr (fw_ne (by decide) hk))).trans ((fi_fr G3 ha0 (by rw [ta0]; rfl)).trans ((fun k hk => rfl) k hk))))⟩ dX9_undo_22
  · skip
    have tc7 := nu_eq c7
    have uc7 : (0 : Int32).toInt = 0 := rfl
    obtain ⟨v13, ev13, tv13⟩ : ∃ v : Int32, Int32.ofInt (0) = v ∧ v.toInt = 0 := ⟨_, rfl, by decide +kernel⟩
    refine lv_iconst hx hb dX9_undo_14 ev13 ?_
    rw [← hQ]
    exact en_i Z S3 F3 ⟨(by omega), (by omega), (fun k hk => ((fi_fr G3 ha0 (by rw [ta0]; rfl)).trans ((fun k hk => rfl) k hk)))⟩ dX9_undo_15

set_option maxHeartbeats 4000000 in
set_option maxRecDepth 100000 in
theorem k_X9_where_vw (l : Launch) (D : va_G) (cy : Nat → ClassId) {L : List Nat} {τ : Nat → Ro} {E : Ec} (hI : Inv TB cy L τ E) {a0 : Nat} (ha0 : a0 ∈ L) (ta0 : τ a0 = (0, 0)) {qr : Nat} (hqr : qr ∈ L) (tqr : τ qr = (7, 0)) : CtI l yX9_where wsX9_where { frames := 0, cells := 0, slots := 0, locals := 0 } D TB cy L τ E [.ref a0] (inW []) (fun r E' => E' = E ∧ (((fi E a0 9).toInt = 2 ∧ r.toInt = (fi E qr 5).toInt) ∨ ((fi E a0 9).toInt ≠ 2 ∧ r.toInt = -1))) := by
  intro sz
  refine sta (cc := cX9_where) (maxL := 1) hI (by decide) rfl (Nat.le_of_ble_eq_true rfl) (fun p e s m args below meth c ls hsz Z S0 hl => ?_)
  have hx := Z.1.1
  have hb := Z.1.2.1
  have hts := Z.1.2.2.2.2
  have F0_ : Fr L τ (inW []) E E := Fr.refl
  have hl : lv_has ls 1 [(0, .ref a0)] := hl
  generalize hQ : MQ below _ args s 0 0 _ = QQ
  have kz_a0_9 := fi_rng (k := 9) hI ha0 ta0 rfl rfl
  have kz_qr_5 := fi_rng (k := 5) hI hqr tqr rfl rfl
  refine lv_aload_n hx hb dX9_where_0 rfl (lv_at hl 0 rfl) ?_
  refine tr_geti Z.1 Z.2.2.2.1 S0.1 S0.2 ha0 ta0 rfl rfl (fun _ h => List.mem_cons_of_mem _ (List.mem_append_left _ (List.mem_append_right _ h))) 9 (by decide) rfl (hts _ (List.mem_of_getElem? (i := 1) rfl)) dX9_where_1 (fun v1 ev1 lv1 uv1 => ?_)
  have wv1 : v1 = (fi E a0 9) := ev1.symm.trans rfl
  have xv1 : v1.toInt = (fi E a0 9).toInt := by rw [wv1]
  obtain ⟨v2, ev2, tv2⟩ : ∃ v : Int32, Int32.ofInt (2) = v ∧ v.toInt = 2 := ⟨_, rfl, by decide +kernel⟩
  refine lv_iconst hx hb dX9_where_4 ev2 ?_
  refine lv_icmp_ne (tgt := 18) hx hb dX9_where_5 (by decide) (fun c3 => ?_) (fun c3 => ?_)
  · skip
    have tc3 := nu_ne c3
    obtain ⟨v4, ev4, tv4⟩ : ∃ v : Int32, Int32.ofInt (-1) = v ∧ v.toInt = -1 := ⟨_, rfl, by decide +kernel⟩
    refine lv_iconst hx hb dX9_where_18 ev4 ?_
    rw [← hQ]
    exact en_i Z S0 F0_ ⟨rfl, (by omega)⟩ dX9_where_19
  · skip
    have tc3 := nu_eq c3
    refine lv_aload_n hx hb dX9_where_8 rfl (lv_at hl 0 rfl) ?_
    refine tr_getr Z.1 Z.2.2.2.1 S0.1 S0.2 ha0 ta0 rfl rfl (fun _ h => List.mem_cons_of_mem _ (List.mem_append_left _ (List.mem_append_right _ h))) 4 (by decide) rfl (hts _ (List.mem_of_getElem? (i := 2) rfl)) dX9_where_9 (fun q5 eq5 hq5 tq5 => ?_)
    have tq5 : τ q5 = (7, 0) := tq5
    have uq5 : qr = q5 := S0.2.2.2.2 _ hqr _ hq5 (tqr.trans tq5.symm) (by rw [tqr]; rfl)
    subst uq5
    refine tr_geti Z.1 Z.2.2.2.1 S0.1 S0.2 hqr tqr rfl rfl (fun _ h => List.mem_cons_of_mem _ (List.mem_append_right _ h)) 5 (by decide) rfl (hts _ (List.mem_of_getElem? (i := 3) rfl)) dX9_where_12 (fun v6 ev6 lv6 uv6 => ?_)
    have wv6 : v6 = (fi E qr 5) := ev6.symm.trans rfl
    have xv6 : v6.toInt = (fi E qr 5).toInt := by rw [wv6]
    refine lv_goto (tgt := 19) hx hb dX9_where_15 (by decide) ?_
    rw [← hQ]
    exact en_i Z S0 F0_ ⟨rfl, (by omega)⟩ dX9_where_19

