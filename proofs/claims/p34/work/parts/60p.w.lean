set_option maxHeartbeats 4000000 in
set_option maxRecDepth 100000 in
theorem k_X9_broken_vw (l : Launch) (D : va_G) (cy : Nat → ClassId) {L : List Nat} {τ : Nat → Ro} {E : Ec} (hI : Inv TB cy L τ E) {a0 : Nat} (ha0 : a0 ∈ L) (ta0 : τ a0 = (0, 0)) (a1 : Int32) (a2 : Int32) : CtI l yX9_broken wsX9_broken { frames := 5, cells := 0, slots := 0, locals := 114 } D TB cy L τ E [.ref a0, .int a1, .int a2] (inW [(0, 0), (6, 0), (5, 0), (100, 0), (101, 0), (102, 0), (103, 0), (104, 0), (105, 0), (106, 0), (107, 0), (108, 0), (109, 0), (110, 0), (111, 0), (112, 0)]) (fun r E' => ((fi E' a0 9).toInt ≠ 2)) := by
  intro sz
  refine sta (cc := cX9_broken) (maxL := 4) hI (by decide) rfl (Nat.le_of_ble_eq_true rfl) (fun p e s m args below meth c ls hsz Z S0 hl => ?_)
  have hx := Z.1.1
  have hb := Z.1.2.1
  have hts := Z.1.2.2.2.2
  have F0_ : Fr L τ (inW [(0, 0), (6, 0), (5, 0), (100, 0), (101, 0), (102, 0), (103, 0), (104, 0), (105, 0), (106, 0), (107, 0), (108, 0), (109, 0), (110, 0), (111, 0), (112, 0)]) E E := Fr.refl
  have hl : lv_has ls 4 [(0, .ref a0), (1, .int a1), (2, .int a2)] := hl
  generalize hQ : MQ below _ args s 0 0 _ = QQ
  refine lv_aload_n hx hb dX9_broken_0 rfl (lv_at hl 0 rfl) ?_
  refine lv_iload_n hx hb dX9_broken_1 rfl (lv_at hl 1 rfl) ?_
  refine lv_iload_n hx hb dX9_broken_2 rfl (lv_at hl 2 rfl) ?_
  refine tc_vq Z.1 Z.2.2.2.1 Z.2.2.2.2.1 Z.2.2.2.2.2 S0.1 S0.2 ha0 ta0 rfl rfl (k_X9_askedLaw_vw l D cy S0.2 ha0 ta0 a1 a2) (cwV 2 hts gX9_broken_X9_askedLaw rfl rfl rfl (by decide +kernel) ⟨Nat.le_of_ble_eq_true rfl, Nat.le_of_ble_eq_true rfl⟩) rfl hl.1 rfl (Nat.le_of_ble_eq_true rfl) dX9_broken_3 ⟨Nat.zero_le _, Nat.zero_le _⟩ (fun v4 E1 H2 k3 W1 I1 G1 p1 => ?_)
  obtain ⟨p1_0, p1_1⟩ := p1
  have S1 : Now D TB cy (va_A (va_pl L E) sz) s L τ E1 H2 k3 := ⟨W1, I1⟩
  have F1 : Fr L τ (inW [(0, 0), (6, 0), (5, 0), (100, 0), (101, 0), (102, 0), (103, 0), (104, 0), (105, 0), (106, 0), (107, 0), (108, 0), (109, 0), (110, 0), (111, 0), (112, 0)]) E E1 := F0_.trans (G1.mono (inW_mono (by decide)))
  have kz1_9 := fi_rng (k := 9) S1.2 ha0 ta0 rfl rfl
  cases v4 with
  | none =>
    refine W.eq (g2 := F0 m 6 ls [.null]) rfl ?_
    refine lv_astore_nN (lv' := [(3, .null), (0, .ref a0), (1, .int a1), (2, .int a2)]) hx hb dX9_broken_6 rfl hl (by decide) rfl (fun l5 hl6 => ?_)
    refine lv_aload_nN hx hb dX9_broken_7 rfl (lv_at hl6 0 rfl) ?_
    refine lv_ifnonnullN hx hb dX9_broken_8 ?_
    obtain ⟨v7, ev7, tv7⟩ : ∃ v : Int32, Int32.ofInt (-1) = v ∧ v.toInt = -1 := ⟨_, rfl, by decide +kernel⟩
    refine lv_iconst hx hb dX9_broken_11 ev7 ?_
    rw [← hQ]
    exact en_i Z S1 F1 (by omega) dX9_broken_12
  | some q8 =>
    obtain ⟨hq8, gq8⟩ := p1_1 q8 rfl
    obtain ⟨nq8, tq8⟩ : ∃ n : Nat, τ q8 = (10, n) := ⟨(τ q8).2, by rw [← gq8]⟩
    refine W.eq (g2 := F0 m 6 ls [.ref q8]) rfl ?_
    refine lv_astore_n (lv' := [(3, .ref q8), (0, .ref a0), (1, .int a1), (2, .int a2)]) hx hb dX9_broken_6 rfl hl (by decide) rfl (fun l9 hl10 => ?_)
    refine lv_aload_n hx hb dX9_broken_7 rfl (lv_at hl10 0 rfl) ?_
    refine lv_ifnonnull (tgt := 13) hx hb dX9_broken_8 (by decide) ?_
    refine lv_aload_n hx hb dX9_broken_13 rfl (lv_at hl10 1 rfl) ?_
    refine tr_getr Z.1 Z.2.2.2.1 S1.1 S1.2 ha0 ta0 rfl rfl (fun _ h => List.mem_cons_of_mem _ (List.mem_append_left _ (List.mem_append_left _ (List.mem_append_left _ (List.mem_append_left _ (List.mem_append_right _ h)))))) 3 (by decide) rfl (hts _ (List.mem_of_getElem? (i := 1) rfl)) dX9_broken_14 (fun q11 eq11 hq11 tq11 => ?_)
    have tq11 : τ q11 = (6, 0) := tq11
    refine lv_aload_n hx hb dX9_broken_17 rfl (lv_at hl10 0 rfl) ?_
    refine lv_aload_n hx hb dX9_broken_18 rfl (lv_at hl10 1 rfl) ?_
    refine tc_vq Z.1 Z.2.2.2.1 Z.2.2.2.2.1 Z.2.2.2.2.2 S1.1 S1.2 ha0 ta0 rfl rfl (k_X9_laidRows_vw l D cy S1.2 ha0 ta0) (cwV 0 hts gX9_broken_X9_laidRows rfl rfl rfl (by decide +kernel) ⟨Nat.le_of_ble_eq_true rfl, Nat.le_of_ble_eq_true rfl⟩) rfl hl10.1 rfl (Nat.le_of_ble_eq_true rfl) dX9_broken_19 ⟨Nat.zero_le _, Nat.zero_le _⟩ (fun v15 E12 H13 k14 W12 I12 G12 p12 => ?_)
    obtain ⟨p12_0, p12_1⟩ := p12
    have S12 : Now D TB cy (va_A (va_pl L E) sz) s L τ E12 H13 k14 := ⟨W12, I12⟩
    have F12 : Fr L τ (inW [(0, 0), (6, 0), (5, 0), (100, 0), (101, 0), (102, 0), (103, 0), (104, 0), (105, 0), (106, 0), (107, 0), (108, 0), (109, 0), (110, 0), (111, 0), (112, 0)]) E E12 := F1.trans (G12.mono (inW_mono (by decide)))
    obtain ⟨q16, rfl, hq16, tq16⟩ := p12_0
    refine W.eq (g2 := F0 m 22 l9 [.ref q16, .ref q8, .ref q11]) rfl ?_
    refine tc_vv Z.1 Z.2.2.2.1 Z.2.2.2.2.1 Z.2.2.2.2.2 S12.1 S12.2 hq11 tq11 rfl rfl (k_X8_judge_v0 l D cy S12.2 hq11 tq11 hq8 tq8 hq16 tq16) (cwV 2 hts gX9_broken_X8_judge rfl rfl rfl (by decide +kernel) ⟨Nat.le_of_ble_eq_true rfl, Nat.le_of_ble_eq_true rfl⟩) rfl hl10.1 rfl (Nat.le_of_ble_eq_true rfl) dX9_broken_22 ⟨Nat.zero_le _, Nat.zero_le _⟩ (fun E17 H18 k19 W17 I17 G17 p17 => ?_)
    have S17 : Now D TB cy (va_A (va_pl L E) sz) s L τ E17 H18 k19 := ⟨W17, I17⟩
    have F17 : Fr L τ (inW [(0, 0), (6, 0), (5, 0), (100, 0), (101, 0), (102, 0), (103, 0), (104, 0), (105, 0), (106, 0), (107, 0), (108, 0), (109, 0), (110, 0), (111, 0), (112, 0)]) E E17 := F12.trans (G17.mono (inW_mono (by decide)))
    refine lv_iload_n hx hb dX9_broken_25 rfl (lv_at hl10 3 rfl) ?_
    rcases (show (a2.toInt < 0 ∨ 2 < a2.toInt) ∨ a2.toInt = 0 ∨ a2.toInt = 1 ∨ a2.toInt = 2 from by omega) with c21 | c21 | c21 | c21
    · skip
      refine lv_tableOut (tgt := 84) hx hb dX9_broken_26 c21 (by decide) ?_
      refine lv_aload_n hx hb dX9_broken_84 rfl (lv_at hl10 1 rfl) ?_
      refine tr_getr Z.1 Z.2.2.2.1 S17.1 S17.2 ha0 ta0 rfl rfl (fun _ h => List.mem_cons_of_mem _ (List.mem_append_left _ (List.mem_append_left _ (List.mem_append_left _ (List.mem_append_left _ (List.mem_append_right _ h)))))) 3 (by decide) rfl (hts _ (List.mem_of_getElem? (i := 1) rfl)) dX9_broken_85 (fun q22 eq22 hq22 tq22 => ?_)
      have tq22 : τ q22 = (6, 0) := tq22
      have uq22 : q11 = q22 := S17.2.2.2.2 _ hq11 _ hq22 (tq11.trans tq22.symm) (by rw [tq11]; rfl)
      subst uq22
      refine tr_geti Z.1 Z.2.2.2.1 S17.1 S17.2 hq11 tq11 rfl rfl (fun _ h => List.mem_cons_of_mem _ (List.mem_append_left _ (List.mem_append_left _ (List.mem_append_left _ (List.mem_append_right _ h))))) 3 (by decide) rfl (hts _ (List.mem_of_getElem? (i := 5) rfl)) dX9_broken_88 (fun v23 ev23 lv23 uv23 => ?_)
      rw [← hQ]
      exact en_i Z S17 F17 (by rw [((fi_fr (k := 9) G17 ha0 (by rw [ta0]; rfl)).trans ((p12_1 9 (by decide)).trans rfl))]; omega) dX9_broken_91
    · skip
      refine lv_tableIn (tgt := 52) (off := 26) hx hb dX9_broken_26 (by omega) (by omega) (by rw [show (a2.toInt - 0).toNat = 0 from by omega]; rfl) (by decide) ?_
      refine lv_aload_n hx hb dX9_broken_52 rfl (lv_at hl10 1 rfl) ?_
      refine tr_getr Z.1 Z.2.2.2.1 S17.1 S17.2 ha0 ta0 rfl rfl (fun _ h => List.mem_cons_of_mem _ (List.mem_append_left _ (List.mem_append_left _ (List.mem_append_left _ (List.mem_append_left _ (List.mem_append_right _ h)))))) 3 (by decide) rfl (hts _ (List.mem_of_getElem? (i := 1) rfl)) dX9_broken_53 (fun q24 eq24 hq24 tq24 => ?_)
      have tq24 : τ q24 = (6, 0) := tq24
      have uq24 : q11 = q24 := S17.2.2.2.2 _ hq11 _ hq24 (tq11.trans tq24.symm) (by rw [tq11]; rfl)
      subst uq24
      refine tr_geti Z.1 Z.2.2.2.1 S17.1 S17.2 hq11 tq11 rfl rfl (fun _ h => List.mem_cons_of_mem _ (List.mem_append_left _ (List.mem_append_left _ (List.mem_append_left _ (List.mem_append_right _ h))))) 0 (by decide) rfl (hts _ (List.mem_of_getElem? (i := 2) rfl)) dX9_broken_56 (fun v25 ev25 lv25 uv25 => ?_)
      refine lv_if_eq (tgt := 66) hx hb dX9_broken_59 (by decide) (fun c26 => ?_) (fun c26 => ?_)
      · skip
        have tc26 := nu_eq c26
        have uc26 : (0 : Int32).toInt = 0 := rfl
        obtain ⟨v27, ev27, tv27⟩ : ∃ v : Int32, Int32.ofInt (0) = v ∧ v.toInt = 0 := ⟨_, rfl, by decide +kernel⟩
        refine lv_iconst hx hb dX9_broken_66 ev27 ?_
        rw [← hQ]
        exact en_i Z S17 F17 (by rw [((fi_fr (k := 9) G17 ha0 (by rw [ta0]; rfl)).trans ((p12_1 9 (by decide)).trans rfl))]; omega) dX9_broken_67
      · skip
        have tc26 := nu_ne c26
        have uc26 : (0 : Int32).toInt = 0 := rfl
        obtain ⟨v28, ev28, tv28⟩ : ∃ v : Int32, Int32.ofInt (1) = v ∧ v.toInt = 1 := ⟨_, rfl, by decide +kernel⟩
        refine lv_iconst hx hb dX9_broken_62 ev28 ?_
        refine lv_goto (tgt := 67) hx hb dX9_broken_63 (by decide) ?_
        rw [← hQ]
        exact en_i Z S17 F17 (by rw [((fi_fr (k := 9) G17 ha0 (by rw [ta0]; rfl)).trans ((p12_1 9 (by decide)).trans rfl))]; omega) dX9_broken_67
    · skip
      refine lv_tableIn (tgt := 68) (off := 42) hx hb dX9_broken_26 (by omega) (by omega) (by rw [show (a2.toInt - 0).toNat = 1 from by omega]; rfl) (by decide) ?_
      refine lv_aload_n hx hb dX9_broken_68 rfl (lv_at hl10 1 rfl) ?_
      refine tr_getr Z.1 Z.2.2.2.1 S17.1 S17.2 ha0 ta0 rfl rfl (fun _ h => List.mem_cons_of_mem _ (List.mem_append_left _ (List.mem_append_left _ (List.mem_append_left _ (List.mem_append_left _ (List.mem_append_right _ h)))))) 3 (by decide) rfl (hts _ (List.mem_of_getElem? (i := 1) rfl)) dX9_broken_69 (fun q29 eq29 hq29 tq29 => ?_)
      have tq29 : τ q29 = (6, 0) := tq29
      have uq29 : q11 = q29 := S17.2.2.2.2 _ hq11 _ hq29 (tq11.trans tq29.symm) (by rw [tq11]; rfl)
      subst uq29
      refine tr_geti Z.1 Z.2.2.2.1 S17.1 S17.2 hq11 tq11 rfl rfl (fun _ h => List.mem_cons_of_mem _ (List.mem_append_left _ (List.mem_append_left _ (List.mem_append_left _ (List.mem_append_right _ h))))) 1 (by decide) rfl (hts _ (List.mem_of_getElem? (i := 3) rfl)) dX9_broken_72 (fun v30 ev30 lv30 uv30 => ?_)
      rw [← hQ]
      exact en_i Z S17 F17 (by rw [((fi_fr (k := 9) G17 ha0 (by rw [ta0]; rfl)).trans ((p12_1 9 (by decide)).trans rfl))]; omega) dX9_broken_75
    · skip
      refine lv_tableIn (tgt := 76) (off := 50) hx hb dX9_broken_26 (by omega) (by omega) (by rw [show (a2.toInt - 0).toNat = 2 from by omega]; rfl) (by decide) ?_
      refine lv_aload_n hx hb dX9_broken_76 rfl (lv_at hl10 1 rfl) ?_
      refine tr_getr Z.1 Z.2.2.2.1 S17.1 S17.2 ha0 ta0 rfl rfl (fun _ h => List.mem_cons_of_mem _ (List.mem_append_left _ (List.mem_append_left _ (List.mem_append_left _ (List.mem_append_left _ (List.mem_append_right _ h)))))) 3 (by decide) rfl (hts _ (List.mem_of_getElem? (i := 1) rfl)) dX9_broken_77 (fun q31 eq31 hq31 tq31 => ?_)
      have tq31 : τ q31 = (6, 0) := tq31
      have uq31 : q11 = q31 := S17.2.2.2.2 _ hq11 _ hq31 (tq11.trans tq31.symm) (by rw [tq11]; rfl)
      subst uq31
      refine tr_geti Z.1 Z.2.2.2.1 S17.1 S17.2 hq11 tq11 rfl rfl (fun _ h => List.mem_cons_of_mem _ (List.mem_append_left _ (List.mem_append_left _ (List.mem_append_left _ (List.mem_append_right _ h))))) 2 (by decide) rfl (hts _ (List.mem_of_getElem? (i := 4) rfl)) dX9_broken_80 (fun v32 ev32 lv32 uv32 => ?_)
      rw [← hQ]
      exact en_i Z S17 F17 (by rw [((fi_fr (k := 9) G17 ha0 (by rw [ta0]; rfl)).trans ((p12_1 9 (by decide)).trans rfl))]; omega) dX9_broken_83

set_option maxHeartbeats 4000000 in
set_option maxRecDepth 100000 in
theorem k_X9_about_vw (l : Launch) (D : va_G) (cy : Nat → ClassId) {L : List Nat} {τ : Nat → Ro} {E : Ec} (hI : Inv TB cy L τ E) {a0 : Nat} (ha0 : a0 ∈ L) (ta0 : τ a0 = (0, 0)) (a1 : Int32) (a2 : Int32) : CtI l yX9_about wsX9_about { frames := 3, cells := 0, slots := 0, locals := 66 } D TB cy L τ E [.ref a0, .int a1, .int a2] (inW [(0, 0)]) (fun r E' => ((fi E' a0 9).toInt ≠ 2)) := by
  intro sz
  refine sta (cc := cX9_about) (maxL := 4) hI (by decide) rfl (Nat.le_of_ble_eq_true rfl) (fun p e s m args below meth c ls hsz Z S0 hl => ?_)
  have hx := Z.1.1
  have hb := Z.1.2.1
  have hts := Z.1.2.2.2.2
  have F0_ : Fr L τ (inW [(0, 0)]) E E := Fr.refl
  have hl : lv_has ls 4 [(0, .ref a0), (1, .int a1), (2, .int a2)] := hl
  generalize hQ : MQ below _ args s 0 0 _ = QQ
  refine lv_aload_n hx hb dX9_about_0 rfl (lv_at hl 0 rfl) ?_
  refine lv_iload_n hx hb dX9_about_1 rfl (lv_at hl 1 rfl) ?_
  refine lv_iload_n hx hb dX9_about_2 rfl (lv_at hl 2 rfl) ?_
  refine tc_vq Z.1 Z.2.2.2.1 Z.2.2.2.2.1 Z.2.2.2.2.2 S0.1 S0.2 ha0 ta0 rfl rfl (k_X9_askedLaw_vw l D cy S0.2 ha0 ta0 a1 a2) (cwV 2 hts gX9_about_X9_askedLaw rfl rfl rfl (by decide +kernel) ⟨Nat.le_of_ble_eq_true rfl, Nat.le_of_ble_eq_true rfl⟩) rfl hl.1 rfl (Nat.le_of_ble_eq_true rfl) dX9_about_3 ⟨Nat.zero_le _, Nat.zero_le _⟩ (fun v4 E1 H2 k3 W1 I1 G1 p1 => ?_)
  obtain ⟨p1_0, p1_1⟩ := p1
  have S1 : Now D TB cy (va_A (va_pl L E) sz) s L τ E1 H2 k3 := ⟨W1, I1⟩
  have F1 : Fr L τ (inW [(0, 0)]) E E1 := F0_.trans (G1.mono (inW_mono (by decide)))
  have kz1_9 := fi_rng (k := 9) S1.2 ha0 ta0 rfl rfl
  cases v4 with
  | none =>
    refine W.eq (g2 := F0 m 6 ls [.null]) rfl ?_
    refine lv_astore_nN (lv' := [(3, .null), (0, .ref a0), (1, .int a1), (2, .int a2)]) hx hb dX9_about_6 rfl hl (by decide) rfl (fun l5 hl6 => ?_)
    refine lv_aload_nN hx hb dX9_about_7 rfl (lv_at hl6 0 rfl) ?_
    refine lv_ifnonnullN hx hb dX9_about_8 ?_
    obtain ⟨v7, ev7, tv7⟩ : ∃ v : Int32, Int32.ofInt (-1) = v ∧ v.toInt = -1 := ⟨_, rfl, by decide +kernel⟩
    refine lv_iconst hx hb dX9_about_11 ev7 ?_
    rw [← hQ]
    exact en_i Z S1 F1 (by omega) dX9_about_12
  | some q8 =>
    obtain ⟨hq8, gq8⟩ := p1_1 q8 rfl
    obtain ⟨nq8, tq8⟩ : ∃ n : Nat, τ q8 = (10, n) := ⟨(τ q8).2, by rw [← gq8]⟩
    refine W.eq (g2 := F0 m 6 ls [.ref q8]) rfl ?_
    refine lv_astore_n (lv' := [(3, .ref q8), (0, .ref a0), (1, .int a1), (2, .int a2)]) hx hb dX9_about_6 rfl hl (by decide) rfl (fun l9 hl10 => ?_)
    refine lv_aload_n hx hb dX9_about_7 rfl (lv_at hl10 0 rfl) ?_
    refine lv_ifnonnull (tgt := 13) hx hb dX9_about_8 (by decide) ?_
    refine lv_iload_n hx hb dX9_about_13 rfl (lv_at hl10 3 rfl) ?_
    rcases (show (a2.toInt < 0 ∨ 2 < a2.toInt) ∨ a2.toInt = 0 ∨ a2.toInt = 1 ∨ a2.toInt = 2 from by omega) with c11 | c11 | c11 | c11
    · skip
      refine lv_tableOut (tgt := 65) hx hb dX9_about_14 c11 (by decide) ?_
      refine lv_aload_n hx hb dX9_about_65 rfl (lv_at hl10 0 rfl) ?_
      refine tr_geti Z.1 Z.2.2.2.1 S1.1 S1.2 hq8 tq8 rfl rfl (fun _ h => List.mem_cons_of_mem _ (List.mem_append_left _ (List.mem_append_left _ (List.mem_append_right _ h)))) 1 (by decide) rfl (hts _ (List.mem_of_getElem? (i := 4) rfl)) dX9_about_66 (fun v12 ev12 lv12 uv12 => ?_)
      have lv12 : (((nq8) % 2 : Nat) : Int) ≤ v12.toInt := lv12
      have uv12 : v12.toInt ≤ (((nq8) % 2 : Nat) : Int) := uv12
      refine lv_if_eq (tgt := 76) hx hb dX9_about_69 (by decide) (fun c13 => ?_) (fun c13 => ?_)
      · skip
        have tc13 := nu_eq c13
        have uc13 : (0 : Int32).toInt = 0 := rfl
        obtain ⟨v14, ev14, tv14⟩ : ∃ v : Int32, Int32.ofInt (0) = v ∧ v.toInt = 0 := ⟨_, rfl, by decide +kernel⟩
        refine lv_iconst hx hb dX9_about_76 ev14 ?_
        rw [← hQ]
        exact en_i Z S1 F1 (by omega) dX9_about_77
      · skip
        have tc13 := nu_ne c13
        have uc13 : (0 : Int32).toInt = 0 := rfl
        obtain ⟨v15, ev15, tv15⟩ : ∃ v : Int32, Int32.ofInt (1) = v ∧ v.toInt = 1 := ⟨_, rfl, by decide +kernel⟩
        refine lv_iconst hx hb dX9_about_72 ev15 ?_
        refine lv_goto (tgt := 77) hx hb dX9_about_73 (by decide) ?_
        rw [← hQ]
        exact en_i Z S1 F1 (by omega) dX9_about_77
    · skip
      refine lv_tableIn (tgt := 40) (off := 26) hx hb dX9_about_14 (by omega) (by omega) (by rw [show (a2.toInt - 0).toNat = 0 from by omega]; rfl) (by decide) ?_
      refine lv_aload_n hx hb dX9_about_40 rfl (lv_at hl10 0 rfl) ?_
      refine tr_geti Z.1 Z.2.2.2.1 S1.1 S1.2 hq8 tq8 rfl rfl (fun _ h => List.mem_cons_of_mem _ (List.mem_append_left _ (List.mem_append_left _ (List.mem_append_right _ h)))) 0 (by decide) rfl (hts _ (List.mem_of_getElem? (i := 1) rfl)) dX9_about_41 (fun v16 ev16 lv16 uv16 => ?_)
      refine lv_if_eq (tgt := 51) hx hb dX9_about_44 (by decide) (fun c17 => ?_) (fun c17 => ?_)
      · skip
        have tc17 := nu_eq c17
        have uc17 : (0 : Int32).toInt = 0 := rfl
        obtain ⟨v18, ev18, tv18⟩ : ∃ v : Int32, Int32.ofInt (0) = v ∧ v.toInt = 0 := ⟨_, rfl, by decide +kernel⟩
        refine lv_iconst hx hb dX9_about_51 ev18 ?_
        rw [← hQ]
        exact en_i Z S1 F1 (by omega) dX9_about_52
      · skip
        have tc17 := nu_ne c17
        have uc17 : (0 : Int32).toInt = 0 := rfl
        obtain ⟨v19, ev19, tv19⟩ : ∃ v : Int32, Int32.ofInt (1) = v ∧ v.toInt = 1 := ⟨_, rfl, by decide +kernel⟩
        refine lv_iconst hx hb dX9_about_47 ev19 ?_
        refine lv_goto (tgt := 52) hx hb dX9_about_48 (by decide) ?_
        rw [← hQ]
        exact en_i Z S1 F1 (by omega) dX9_about_52
    · skip
      refine lv_tableIn (tgt := 53) (off := 39) hx hb dX9_about_14 (by omega) (by omega) (by rw [show (a2.toInt - 0).toNat = 1 from by omega]; rfl) (by decide) ?_
      refine lv_aload_n hx hb dX9_about_53 rfl (lv_at hl10 0 rfl) ?_
      refine tr_getr Z.1 Z.2.2.2.1 S1.1 S1.2 hq8 tq8 rfl rfl (fun _ h => List.mem_cons_of_mem _ (List.mem_append_left _ (List.mem_append_left _ (List.mem_append_right _ h)))) 2 (by decide) rfl (hts _ (List.mem_of_getElem? (i := 2) rfl)) dX9_about_54 (fun q20 eq20 hq20 tq20 => ?_)
      have tq20 : τ q20 = (120, nq8) := tq20
      refine tr_alen Z.1 Z.2.2.2.1 S1.1 S1.2 hq20 tq20 rfl (by show (_ : Nat) < _; omega) dX9_about_57 (fun v21 tv21 => ?_)
      have tv21 : v21.toInt = (((nq8) / 2 % 8 : Nat) : Int) := tv21
      rw [← hQ]
      exact en_i Z S1 F1 (by omega) dX9_about_58
    · skip
      refine lv_tableIn (tgt := 59) (off := 45) hx hb dX9_about_14 (by omega) (by omega) (by rw [show (a2.toInt - 0).toNat = 2 from by omega]; rfl) (by decide) ?_
      refine lv_aload_n hx hb dX9_about_59 rfl (lv_at hl10 0 rfl) ?_
      refine tr_getr Z.1 Z.2.2.2.1 S1.1 S1.2 hq8 tq8 rfl rfl (fun _ h => List.mem_cons_of_mem _ (List.mem_append_left _ (List.mem_append_left _ (List.mem_append_right _ h)))) 3 (by decide) rfl (hts _ (List.mem_of_getElem? (i := 3) rfl)) dX9_about_60 (fun q22 eq22 hq22 tq22 => ?_)
      have tq22 : τ q22 = (121, nq8) := tq22
      refine tr_alenw Z.1 Z.2.2.2.1 S1.1 S1.2 hq22 tq22 rfl dX9_about_63 (fun v23 => ?_)
      rw [← hQ]
      exact en_i Z S1 F1 (by omega) dX9_about_64

set_option maxHeartbeats 4000000 in
set_option maxRecDepth 100000 in
theorem k_X9_best_vw (l : Launch) (D : va_G) (cy : Nat → ClassId) {L : List Nat} {τ : Nat → Ro} {E : Ec} (hI : Inv TB cy L τ E) {a0 : Nat} (ha0 : a0 ∈ L) (ta0 : τ a0 = (0, 0)) (a1 : Int32) (a2 : Int32) : CtI l yX9_best wsX9_best { frames := 7, cells := 0, slots := 0, locals := 174 } D TB cy L τ E [.ref a0, .int a1, .int a2] (inW [(0, 0), (8, 0), (37, 0), (38, 0), (6, 1), (1, 2), (20, 2), (21, 2), (22, 2), (23, 2), (24, 2), (25, 2), (26, 2), (27, 2), (5, 1), (100, 1), (101, 1), (102, 1), (103, 1), (104, 1), (105, 1), (106, 1), (107, 1), (108, 1), (109, 1), (110, 1), (111, 1), (112, 1)]) (fun r E' => ((fi E' a0 9).toInt ≠ 2)) := by
  intro sz
  refine sta (cc := cX9_best) (maxL := 3) hI (by decide) rfl (Nat.le_of_ble_eq_true rfl) (fun p e s m args below meth c ls hsz Z S0 hl => ?_)
  have hx := Z.1.1
  have hb := Z.1.2.1
  have hts := Z.1.2.2.2.2
  have F0_ : Fr L τ (inW [(0, 0), (8, 0), (37, 0), (38, 0), (6, 1), (1, 2), (20, 2), (21, 2), (22, 2), (23, 2), (24, 2), (25, 2), (26, 2), (27, 2), (5, 1), (100, 1), (101, 1), (102, 1), (103, 1), (104, 1), (105, 1), (106, 1), (107, 1), (108, 1), (109, 1), (110, 1), (111, 1), (112, 1)]) E E := Fr.refl
  have hl : lv_has ls 3 [(0, .ref a0), (1, .int a1), (2, .int a2)] := hl
  generalize hQ : MQ below _ args s 0 0 _ = QQ
  have J16 : ∀  (E_16 : Ec) (H_16 : Heap) (k_16 : List Loc) (l_16 : Array Slot), Now D TB cy (va_A (va_pl L E) sz) s L τ E_16 H_16 k_16 → Fr L τ (inW [(0, 0), (8, 0), (37, 0), (38, 0), (6, 1), (1, 2), (20, 2), (21, 2), (22, 2), (23, 2), (24, 2), (25, 2), (26, 2), (27, 2), (5, 1), (100, 1), (101, 1), (102, 1), (103, 1), (104, 1), (105, 1), (106, 1), (107, 1), (108, 1), (109, 1), (110, 1), (111, 1), (112, 1)]) E E_16 → lv_has l_16 3 [(0, .ref a0)] → W p l e { frames := 7, cells := 0, slots := 0, locals := 174 } s m args below meth c H_16 k_16 0 0 QQ (F0 m 16 l_16 []) := by
    intro  E_16 H_16 k_16 l_16 S_16 F_16  hl_16
    refine lv_aload_n hx hb dX9_best_16 rfl (lv_at hl_16 0 rfl) ?_
    obtain ⟨v1, ev1, tv1⟩ : ∃ v : Int32, Int32.ofInt (1) = v ∧ v.toInt = 1 := ⟨_, rfl, by decide +kernel⟩
    refine lv_iconst hx hb dX9_best_17 ev1 ?_
    refine tc_vi Z.1 Z.2.2.2.1 Z.2.2.2.2.1 Z.2.2.2.2.2 S_16.1 S_16.2 ha0 ta0 rfl rfl (k_X9_refuse_vw l D cy S_16.2 ha0 ta0 v1) (cwV 1 hts gX9_best_X9_refuse rfl rfl rfl (by decide +kernel) ⟨Nat.le_of_ble_eq_true rfl, Nat.le_of_ble_eq_true rfl⟩) rfl hl_16.1 rfl (Nat.le_of_ble_eq_true rfl) dX9_best_18 ⟨Nat.zero_le _, Nat.zero_le _⟩ (fun v5 E2 H3 k4 W2 I2 G2 p2 => ?_)
    obtain ⟨p2_0, p2_1, p2_2, p2_3⟩ := p2
    have S2 : Now D TB cy (va_A (va_pl L E) sz) s L τ E2 H3 k4 := ⟨W2, I2⟩
    have F2 : Fr L τ (inW [(0, 0), (8, 0), (37, 0), (38, 0), (6, 1), (1, 2), (20, 2), (21, 2), (22, 2), (23, 2), (24, 2), (25, 2), (26, 2), (27, 2), (5, 1), (100, 1), (101, 1), (102, 1), (103, 1), (104, 1), (105, 1), (106, 1), (107, 1), (108, 1), (109, 1), (110, 1), (111, 1), (112, 1)]) E E2 := F_16.trans (G2.mono (inW_mono (by decide)))
    have kz2_9 := fi_rng (k := 9) S2.2 ha0 ta0 rfl rfl
    rw [← hQ]
    exact en_i Z S2 F2 (by omega) dX9_best_21
  refine lv_iload_n hx hb dX9_best_0 rfl (lv_at hl 1 rfl) ?_
  obtain ⟨v6, ev6, tv6⟩ : ∃ v : Int32, Int32.ofInt (2) = v ∧ v.toInt = 2 := ⟨_, rfl, by decide +kernel⟩
  refine lv_iconst hx hb dX9_best_1 ev6 ?_
  refine lv_icmp_lt (tgt := 16) hx hb dX9_best_2 (by decide) (fun c7 => ?_) (fun c7 => ?_)
  · skip
    have tc7 := nu_lt c7
    exact J16 E s.heap [] ls S0 F0_ (lv_sub hl [0] rfl)
  · skip
    have tc7 := nu_nlt c7
    refine lv_iload_n hx hb dX9_best_5 rfl (lv_at hl 2 rfl) ?_
    refine lv_iload_n hx hb dX9_best_6 rfl (lv_at hl 1 rfl) ?_
    refine lv_icmp_lt (tgt := 16) hx hb dX9_best_7 (by decide) (fun c8 => ?_) (fun c8 => ?_)
    · skip
      have tc8 := nu_lt c8
      exact J16 E s.heap [] ls S0 F0_ (lv_sub hl [0] rfl)
    · skip
      have tc8 := nu_nlt c8
      refine lv_iload_n hx hb dX9_best_10 rfl (lv_at hl 2 rfl) ?_
      obtain ⟨v9, ev9, tv9⟩ : ∃ v : Int32, (Int8.ofInt (67)).toInt32 = v ∧ v.toInt = 67 := ⟨_, rfl, by decide +kernel⟩
      refine lv_bipush hx hb dX9_best_11 ev9 ?_
      refine lv_icmp_le (tgt := 22) hx hb dX9_best_13 (by decide) (fun c10 => ?_) (fun c10 => ?_)
      · skip
        have tc10 := nu_le c10
        refine lv_aload_n hx hb dX9_best_22 rfl (lv_at hl 0 rfl) ?_
        obtain ⟨v11, ev11, tv11⟩ : ∃ v : Int32, Int32.ofInt (0) = v ∧ v.toInt = 0 := ⟨_, rfl, by decide +kernel⟩
        refine lv_iconst hx hb dX9_best_23 ev11 ?_
        refine tr_puti Z.1 Z.2.2.2.1 S0.1 S0.2 ha0 ta0 rfl rfl (fun _ h => List.mem_cons_of_mem _ (List.mem_append_left _ (List.mem_append_left _ (List.mem_append_left _ (List.mem_append_left _ (List.mem_append_left _ (List.mem_append_right _ h))))))) tyX9_ok nmX9 9 (by decide) rfl rfl rfl (hts _ (List.mem_of_getElem? (i := 1) rfl)) dX9_best_24 (by have := fb_rng v11; omega) (by have := fb_rng v11; omega) (fun E12 H13 k14 W12 I12 P12 => ?_)
        have S12 : Now D TB cy (va_A (va_pl L E) sz) s L τ E12 H13 k14 := ⟨W12, I12⟩
        have F12 : Fr L τ (inW [(0, 0), (8, 0), (37, 0), (38, 0), (6, 1), (1, 2), (20, 2), (21, 2), (22, 2), (23, 2), (24, 2), (25, 2), (26, 2), (27, 2), (5, 1), (100, 1), (101, 1), (102, 1), (103, 1), (104, 1), (105, 1), (106, 1), (107, 1), (108, 1), (109, 1), (110, 1), (111, 1), (112, 1)]) E E12 := Fr.put F0_ P12 ta0 rfl
        refine lv_aload_n hx hb dX9_best_27 rfl (lv_at hl 0 rfl) ?_
        refine tr_getr Z.1 Z.2.2.2.1 S12.1 S12.2 ha0 ta0 rfl rfl (fun _ h => List.mem_cons_of_mem _ (List.mem_append_left _ (List.mem_append_left _ (List.mem_append_left _ (List.mem_append_left _ (List.mem_append_left _ (List.mem_append_right _ h))))))) 5 (by decide) rfl (hts _ (List.mem_of_getElem? (i := 2) rfl)) dX9_best_28 (fun q15 eq15 hq15 tq15 => ?_)
        have tq15 : τ q15 = (8, 0) := tq15
        refine lv_aload_n hx hb dX9_best_31 rfl (lv_at hl 0 rfl) ?_
        refine tr_getr Z.1 Z.2.2.2.1 S12.1 S12.2 ha0 ta0 rfl rfl (fun _ h => List.mem_cons_of_mem _ (List.mem_append_left _ (List.mem_append_left _ (List.mem_append_left _ (List.mem_append_left _ (List.mem_append_left _ (List.mem_append_right _ h))))))) 0 (by decide) rfl (hts _ (List.mem_of_getElem? (i := 3) rfl)) dX9_best_32 (fun q16 eq16 hq16 tq16 => ?_)
        have tq16 : τ q16 = (1, 0) := tq16
        refine lv_iload_n hx hb dX9_best_35 rfl (lv_at hl 1 rfl) ?_
        refine lv_iload_n hx hb dX9_best_36 rfl (lv_at hl 2 rfl) ?_
        refine tc_vv Z.1 Z.2.2.2.1 Z.2.2.2.2.1 Z.2.2.2.2.2 S12.1 S12.2 hq15 tq15 rfl rfl (k_X7_seek l D cy S12.2 hq15 tq15 hq16 tq16 a1 (by omega) (by omega) a2 (by omega) (by omega)) (cwV 3 hts gX9_best_X7_seek rfl rfl rfl (by decide +kernel) ⟨Nat.le_of_ble_eq_true rfl, Nat.le_of_ble_eq_true rfl⟩) rfl hl.1 rfl (Nat.le_of_ble_eq_true rfl) dX9_best_37 ⟨Nat.zero_le _, Nat.zero_le _⟩ (fun E17 H18 k19 W17 I17 G17 p17 => ?_)
        have S17 : Now D TB cy (va_A (va_pl L E) sz) s L τ E17 H18 k19 := ⟨W17, I17⟩
        have F17 : Fr L τ (inW [(0, 0), (8, 0), (37, 0), (38, 0), (6, 1), (1, 2), (20, 2), (21, 2), (22, 2), (23, 2), (24, 2), (25, 2), (26, 2), (27, 2), (5, 1), (100, 1), (101, 1), (102, 1), (103, 1), (104, 1), (105, 1), (106, 1), (107, 1), (108, 1), (109, 1), (110, 1), (111, 1), (112, 1)]) E E17 := F12.trans (G17.mono (inW_mono (by decide)))
        refine lv_aload_n hx hb dX9_best_40 rfl (lv_at hl 0 rfl) ?_
        refine tr_getr Z.1 Z.2.2.2.1 S17.1 S17.2 ha0 ta0 rfl rfl (fun _ h => List.mem_cons_of_mem _ (List.mem_append_left _ (List.mem_append_left _ (List.mem_append_left _ (List.mem_append_left _ (List.mem_append_left _ (List.mem_append_right _ h))))))) 5 (by decide) rfl (hts _ (List.mem_of_getElem? (i := 2) rfl)) dX9_best_41 (fun q21 eq21 hq21 tq21 => ?_)
        have tq21 : τ q21 = (8, 0) := tq21
        have uq21 : q15 = q21 := S17.2.2.2.2 _ hq15 _ hq21 (tq15.trans tq21.symm) (by rw [tq15]; rfl)
        subst uq21
        refine tr_geti Z.1 Z.2.2.2.1 S17.1 S17.2 hq15 tq15 rfl rfl (fun _ h => List.mem_cons_of_mem _ (List.mem_append_left _ (List.mem_append_left _ (List.mem_append_left _ (List.mem_append_left _ (List.mem_append_right _ h)))))) 8 (by decide) rfl (hts _ (List.mem_of_getElem? (i := 4) rfl)) dX9_best_44 (fun v22 ev22 lv22 uv22 => ?_)
        refine lv_if_le (tgt := 60) hx hb dX9_best_47 (by decide) (fun c23 => ?_) (fun c23 => ?_)
        · skip
          have tc23 := nu_le c23
          have uc23 : (0 : Int32).toInt = 0 := rfl
          obtain ⟨v24, ev24, tv24⟩ : ∃ v : Int32, (Int8.ofInt (-2)).toInt32 = v ∧ v.toInt = -2 := ⟨_, rfl, by decide +kernel⟩
          refine lv_bipush hx hb dX9_best_60 ev24 ?_
          rw [← hQ]
          exact en_i Z S17 F17 (by rw [((fi_fr (k := 9) G17 ha0 (by rw [ta0]; rfl)).trans (fi_at P12))]; omega) dX9_best_62
        · skip
          have tc23 := nu_nle c23
          have uc23 : (0 : Int32).toInt = 0 := rfl
          refine lv_aload_n hx hb dX9_best_50 rfl (lv_at hl 0 rfl) ?_
          refine tr_getr Z.1 Z.2.2.2.1 S17.1 S17.2 ha0 ta0 rfl rfl (fun _ h => List.mem_cons_of_mem _ (List.mem_append_left _ (List.mem_append_left _ (List.mem_append_left _ (List.mem_append_left _ (List.mem_append_left _ (List.mem_append_right _ h))))))) 5 (by decide) rfl (hts _ (List.mem_of_getElem? (i := 2) rfl)) dX9_best_51 (fun q25 eq25 hq25 tq25 => ?_)
          have tq25 : τ q25 = (8, 0) := tq25
          have uq25 : q15 = q25 := S17.2.2.2.2 _ hq15 _ hq25 (tq15.trans tq25.symm) (by rw [tq15]; rfl)
          subst uq25
          refine tr_geti Z.1 Z.2.2.2.1 S17.1 S17.2 hq15 tq15 rfl rfl (fun _ h => List.mem_cons_of_mem _ (List.mem_append_left _ (List.mem_append_left _ (List.mem_append_left _ (List.mem_append_left _ (List.mem_append_right _ h)))))) 10 (by decide) rfl (hts _ (List.mem_of_getElem? (i := 5) rfl)) dX9_best_54 (fun v26 ev26 lv26 uv26 => ?_)
          refine lv_goto (tgt := 62) hx hb dX9_best_57 (by decide) ?_
          rw [← hQ]
          exact en_i Z S17 F17 (by rw [((fi_fr (k := 9) G17 ha0 (by rw [ta0]; rfl)).trans (fi_at P12))]; omega) dX9_best_62
      · skip
        have tc10 := nu_nle c10
        exact J16 E s.heap [] ls S0 F0_ (lv_sub hl [0] rfl)

set_option maxHeartbeats 4000000 in
set_option maxRecDepth 100000 in
theorem k_X9_check_vw (l : Launch) (D : va_G) (cy : Nat → ClassId) {L : List Nat} {τ : Nat → Ro} {E : Ec} (hI : Inv TB cy L τ E) {G : Sg} {a0 : Nat} (ha0 : a0 ∈ L) (ta0 : τ a0 = (0, 0)) : CtI1 G l yX9_check wsX9_check { frames := 5, cells := 0, slots := 0, locals := 114 } D TB cy L τ E [.ref a0] (inW [(0, 0), (5, 0), (100, 0), (101, 0), (102, 0), (103, 0), (104, 0), (105, 0), (106, 0), (107, 0), (108, 0), (109, 0), (110, 0), (111, 0), (112, 0)]) (fun r E' => ((fi E' a0 9).toInt ≠ 2)) := by
  intro sz
  refine sta1 (cc := cX9_check) (maxL := 2) hI (by decide) rfl (Nat.le_of_ble_eq_true rfl) (fun p e s m args below meth c ls hsz Z SZ S0 hl => ?_)
  have hx := Z.1.1
  have hb := Z.1.2.1
  have hts := Z.1.2.2.2.2
  have F0_ : Fr L τ (inW [(0, 0), (5, 0), (100, 0), (101, 0), (102, 0), (103, 0), (104, 0), (105, 0), (106, 0), (107, 0), (108, 0), (109, 0), (110, 0), (111, 0), (112, 0)]) E E := Fr.refl
  have hl : lv_has ls 2 [(0, .ref a0)] := hl
  generalize hQ : MQ below _ args s 0 0 _ = QQ
  have J39 : ∀ (n : Nat) (x1_39 : Int32) (E_39 : Ec) (H_39 : Heap) (k_39 : List Loc) (l_39 : Array Slot), Now D TB cy (va_A (va_pl L E) sz) s L τ E_39 H_39 k_39 → Fr L τ (inW [(0, 0), (5, 0), (100, 0), (101, 0), (102, 0), (103, 0), (104, 0), (105, 0), (106, 0), (107, 0), (108, 0), (109, 0), (110, 0), (111, 0), (112, 0)]) E E_39 → (0 ≤ x1_39.toInt) → (x1_39.toInt ≤ 264) → (-2147483648 ≤ (fi E_39 a0 9).toInt ∧ (fi E_39 a0 9).toInt ≤ 2147483647 ∧ (fi E_39 a0 9).toInt ≠ 2) → (264 - x1_39.toInt).toNat < n → lv_has l_39 2 [(0, .ref a0), (1, .int x1_39)] → W p l e { frames := 5, cells := 0, slots := 0, locals := 114 } s m args below meth c H_39 k_39 0 0 QQ (F0 m 39 l_39 []) := by
    intro n
    induction n with
    | zero => intro x1_39 E_39 H_39 k_39 l_39 S_39 F_39 z1 z2 z3 hm hl_39; exact absurd hm (Nat.not_lt_zero _)
    | succ n ih =>
      intro x1_39 E_39 H_39 k_39 l_39 S_39 F_39 z1 z2 z3 hm hl_39
      have ih_39 := ih
      refine lv_iload_n hx hb dX9_check_39 rfl (lv_at hl_39 1 rfl) ?_
      refine lv_aload_n hx hb dX9_check_40 rfl (lv_at hl_39 0 rfl) ?_
      refine tr_geti Z.1 Z.2.2.2.1 S_39.1 S_39.2 ha0 ta0 rfl rfl (fun _ h => List.mem_cons_of_mem _ (List.mem_append_left _ (List.mem_append_left _ (List.mem_append_right _ h)))) 8 (by decide) rfl (hts _ (List.mem_of_getElem? (i := 1) rfl)) dX9_check_41 (fun v4 ev4 lv4 uv4 => ?_)
      refine lv_icmp_ge (tgt := 69) hx hb dX9_check_44 (by decide) (fun c5 => ?_) (fun c5 => ?_)
      · skip
        have tc5 := nu_le c5
        obtain ⟨v6, ev6, tv6⟩ : ∃ v : Int32, (Int8.ofInt (-2)).toInt32 = v ∧ v.toInt = -2 := ⟨_, rfl, by decide +kernel⟩
        refine lv_bipush hx hb dX9_check_69 ev6 ?_
        rw [← hQ]
        exact en_i Z S_39 F_39 (by omega) dX9_check_71
      · skip
        have tc5 := nu_nle c5
        refine lv_aload_n hx hb dX9_check_47 rfl (lv_at hl_39 0 rfl) ?_
        refine tr_getr Z.1 Z.2.2.2.1 S_39.1 S_39.2 ha0 ta0 rfl rfl (fun _ h => List.mem_cons_of_mem _ (List.mem_append_left _ (List.mem_append_left _ (List.mem_append_right _ h)))) 7 (by decide) rfl (hts _ (List.mem_of_getElem? (i := 4) rfl)) dX9_check_48 (fun q7 eq7 hq7 tq7 => ?_)
        have tq7 : τ q7 = (28, 0) := tq7
        refine lv_iload_n hx hb dX9_check_51 rfl (lv_at hl_39 1 rfl) ?_
        refine tr_iald Z.1 Z.2.2.2.1 S_39.1 S_39.2 hq7 tq7 rfl (by omega) (by omega) dX9_check_52 (fun v8 ev8 lv8 uv8 => ?_)
        refine lv_aload_n hx hb dX9_check_53 rfl (lv_at hl_39 0 rfl) ?_
        refine lv_iload_n hx hb dX9_check_54 rfl (lv_at hl_39 1 rfl) ?_
        refine tc1_vi Z.1 Z.2.2.2.1 Z.2.2.2.2.1 Z.2.2.2.2.2 SZ S_39.1 S_39.2 ha0 ta0 rfl rfl (k_X9_sheetNumber l D cy S_39.2 ha0 ta0 x1_39 (by omega) (by omega)) (cwV 1 hts gX9_check_X9_sheetNumber rfl rfl rfl (by decide +kernel) ⟨Nat.le_of_ble_eq_true rfl, Nat.le_of_ble_eq_true rfl⟩) rfl hl_39.1 rfl (Nat.le_of_ble_eq_true rfl) dX9_check_55 ⟨Nat.zero_le _, Nat.zero_le _⟩ (fun v12 E9 H10 k11 W9 I9 G9 p9 => ?_)
        have q9 := p9
        have q9 := q9.symm
        subst q9
        have S9 : Now D TB cy (va_A (va_pl L E) sz) s L τ E_39 H10 k11 := ⟨W9, I9⟩
        refine lv_icmp_eq (tgt := 63) hx hb dX9_check_58 (by decide) (fun c13 => ?_) (fun c13 => ?_)
        · skip
          have tc13 := nu_eq c13
          obtain ⟨v14, ev14⟩ : ∃ y : Int32, x1_39 + Int32.ofInt (1) = y := ⟨_, rfl⟩
          have tv14 : v14.toInt = x1_39.toInt + (1) := by rw [← ev14]; exact (fb_addI (by rw [show (Int32.ofInt (1)).toInt = 1 from by decide +kernel]; omega) (by rw [show (Int32.ofInt (1)).toInt = 1 from by decide +kernel]; omega)).trans (by rw [show (Int32.ofInt (1)).toInt = 1 from by decide +kernel])
          refine lv_iinc (v := v14) (lv' := [(1, .int v14), (0, .ref a0)]) hx hb dX9_check_63 hl_39 (k := 1) rfl ev14 (by decide) rfl (fun l15 hl16 => ?_)
          refine lv_goto (tgt := 39) hx hb dX9_check_66 (by decide) ?_
          exact ih_39 v14 E_39 H10 k11 l15 S9 F_39 (by omega) (by omega) (by omega) (by omega) (lv_sub hl16 [1, 0] rfl)
        · skip
          have tc13 := nu_ne c13
          refine lv_iload_n hx hb dX9_check_61 rfl (lv_at hl_39 1 rfl) ?_
          rw [← hQ]
          exact en_i Z S9 F_39 (by omega) dX9_check_62
  refine lv_aload_n hx hb dX9_check_0 rfl (lv_at hl 0 rfl) ?_
  refine tr_geti Z.1 Z.2.2.2.1 S0.1 S0.2 ha0 ta0 rfl rfl (fun _ h => List.mem_cons_of_mem _ (List.mem_append_left _ (List.mem_append_left _ (List.mem_append_right _ h)))) 8 (by decide) rfl (hts _ (List.mem_of_getElem? (i := 1) rfl)) dX9_check_1 (fun v17 ev17 lv17 uv17 => ?_)
  refine lv_if_ne (tgt := 13) hx hb dX9_check_4 (by decide) (fun c18 => ?_) (fun c18 => ?_)
  · skip
    have tc18 := nu_ne c18
    have uc18 : (0 : Int32).toInt = 0 := rfl
    refine lv_aload_n hx hb dX9_check_13 rfl (lv_at hl 0 rfl) ?_
    obtain ⟨v19, ev19, tv19⟩ : ∃ v : Int32, Int32.ofInt (0) = v ∧ v.toInt = 0 := ⟨_, rfl, by decide +kernel⟩
    refine lv_iconst hx hb dX9_check_14 ev19 ?_
    refine tr_puti Z.1 Z.2.2.2.1 S0.1 S0.2 ha0 ta0 rfl rfl (fun _ h => List.mem_cons_of_mem _ (List.mem_append_left _ (List.mem_append_left _ (List.mem_append_right _ h)))) tyX9_ok nmX9 9 (by decide) rfl rfl rfl (hts _ (List.mem_of_getElem? (i := 2) rfl)) dX9_check_15 (by have := fb_rng v19; omega) (by have := fb_rng v19; omega) (fun E20 H21 k22 W20 I20 P20 => ?_)
    have S20 : Now D TB cy (va_A (va_pl L E) sz) s L τ E20 H21 k22 := ⟨W20, I20⟩
    have F20 : Fr L τ (inW [(0, 0), (5, 0), (100, 0), (101, 0), (102, 0), (103, 0), (104, 0), (105, 0), (106, 0), (107, 0), (108, 0), (109, 0), (110, 0), (111, 0), (112, 0)]) E E20 := Fr.put F0_ P20 ta0 rfl
    refine lv_aload_n hx hb dX9_check_18 rfl (lv_at hl 0 rfl) ?_
    refine tc_vq Z.1 Z.2.2.2.1 Z.2.2.2.2.1 Z.2.2.2.2.2 S20.1 S20.2 ha0 ta0 rfl rfl (k_X9_laidRows_vw l D cy S20.2 ha0 ta0) (cwV 0 hts gX9_check_X9_laidRows rfl rfl rfl (by decide +kernel) ⟨Nat.le_of_ble_eq_true rfl, Nat.le_of_ble_eq_true rfl⟩) rfl hl.1 rfl (Nat.le_of_ble_eq_true rfl) dX9_check_19 ⟨Nat.zero_le _, Nat.zero_le _⟩ (fun v26 E23 H24 k25 W23 I23 G23 p23 => ?_)
    obtain ⟨p23_0, p23_1⟩ := p23
    have S23 : Now D TB cy (va_A (va_pl L E) sz) s L τ E23 H24 k25 := ⟨W23, I23⟩
    have F23 : Fr L τ (inW [(0, 0), (5, 0), (100, 0), (101, 0), (102, 0), (103, 0), (104, 0), (105, 0), (106, 0), (107, 0), (108, 0), (109, 0), (110, 0), (111, 0), (112, 0)]) E E23 := F20.trans (G23.mono (inW_mono (by decide)))
    obtain ⟨q27, rfl, hq27, tq27⟩ := p23_0
    refine W.eq (g2 := F0 m 22 ls [.ref q27]) rfl ?_
    refine tr_geti Z.1 Z.2.2.2.1 S23.1 S23.2 hq27 tq27 rfl rfl (fun _ h => List.mem_cons_of_mem _ (List.mem_append_left _ (List.mem_append_right _ h))) 1 (by decide) rfl (hts _ (List.mem_of_getElem? (i := 3) rfl)) dX9_check_22 (fun v28 ev28 lv28 uv28 => ?_)
    obtain ⟨v29, ev29, tv29⟩ : ∃ v : Int32, Int32.ofInt (4) = v ∧ v.toInt = 4 := ⟨_, rfl, by decide +kernel⟩
    refine lv_iconst hx hb dX9_check_25 ev29 ?_
    refine lv_imul hx hb dX9_check_26 ?_
    refine lv_topi (fun v30 ev30 => ?_)
    have tv30 := nu_mulc (4) ev30 (by omega) (by omega) (by omega)
    refine lv_aload_n hx hb dX9_check_27 rfl (lv_at hl 0 rfl) ?_
    refine tr_geti Z.1 Z.2.2.2.1 S23.1 S23.2 ha0 ta0 rfl rfl (fun _ h => List.mem_cons_of_mem _ (List.mem_append_left _ (List.mem_append_left _ (List.mem_append_right _ h)))) 8 (by decide) rfl (hts _ (List.mem_of_getElem? (i := 1) rfl)) dX9_check_28 (fun v31 ev31 lv31 uv31 => ?_)
    have wv31 : v31 = v17 := ev31.symm.trans ((p23_1 8 (by decide)).trans ((fi_put (k := 8) P20 (Or.inr (by decide))).trans ev17))
    have xv31 : v31.toInt = v17.toInt := by rw [wv31]
    refine lv_icmp_eq (tgt := 37) hx hb dX9_check_31 (by decide) (fun c32 => ?_) (fun c32 => ?_)
    · skip
      have tc32 := nu_eq c32
      obtain ⟨v33, ev33, tv33⟩ : ∃ v : Int32, Int32.ofInt (0) = v ∧ v.toInt = 0 := ⟨_, rfl, by decide +kernel⟩
      refine lv_iconst hx hb dX9_check_37 ev33 ?_
      refine lv_istore_n (lv' := [(1, .int v33), (0, .ref a0)]) hx hb dX9_check_38 rfl hl (by decide) rfl (fun l34 hl35 => ?_)
      exact J39 _ v33 E23 H24 k25 l34 S23 F23 (by omega) (by omega) (by rw [((p23_1 9 (by decide)).trans (fi_at P20))]; omega) (Nat.lt_succ_self _) (lv_sub hl35 [1, 0] rfl)
    · skip
      have tc32 := nu_ne c32
      obtain ⟨v36, ev36, tv36⟩ : ∃ v : Int32, (Int8.ofInt (-3)).toInt32 = v ∧ v.toInt = -3 := ⟨_, rfl, by decide +kernel⟩
      refine lv_bipush hx hb dX9_check_34 ev36 ?_
      rw [← hQ]
      exact en_i Z S23 F23 (by rw [((p23_1 9 (by decide)).trans (fi_at P20))]; omega) dX9_check_36
  · skip
    have tc18 := nu_eq c18
    have uc18 : (0 : Int32).toInt = 0 := rfl
    refine lv_aload_n hx hb dX9_check_7 rfl (lv_at hl 0 rfl) ?_
    obtain ⟨v37, ev37, tv37⟩ : ∃ v : Int32, Int32.ofInt (5) = v ∧ v.toInt = 5 := ⟨_, rfl, by decide +kernel⟩
    refine lv_iconst hx hb dX9_check_8 ev37 ?_
    refine tc_vi Z.1 Z.2.2.2.1 Z.2.2.2.2.1 Z.2.2.2.2.2 S0.1 S0.2 ha0 ta0 rfl rfl (k_X9_refuse_vw l D cy S0.2 ha0 ta0 v37) (cwV 1 hts gX9_check_X9_refuse rfl rfl rfl (by decide +kernel) ⟨Nat.le_of_ble_eq_true rfl, Nat.le_of_ble_eq_true rfl⟩) rfl hl.1 rfl (Nat.le_of_ble_eq_true rfl) dX9_check_9 ⟨Nat.zero_le _, Nat.zero_le _⟩ (fun v41 E38 H39 k40 W38 I38 G38 p38 => ?_)
    obtain ⟨p38_0, p38_1, p38_2, p38_3⟩ := p38
    have S38 : Now D TB cy (va_A (va_pl L E) sz) s L τ E38 H39 k40 := ⟨W38, I38⟩
    have F38 : Fr L τ (inW [(0, 0), (5, 0), (100, 0), (101, 0), (102, 0), (103, 0), (104, 0), (105, 0), (106, 0), (107, 0), (108, 0), (109, 0), (110, 0), (111, 0), (112, 0)]) E E38 := F0_.trans (G38.mono (inW_mono (by decide)))
    have kz38_9 := fi_rng (k := 9) S38.2 ha0 ta0 rfl rfl
    rw [← hQ]
    exact en_i Z S38 F38 (by omega) dX9_check_12

set_option maxHeartbeats 4000000 in
set_option maxRecDepth 100000 in
theorem k_X9_size_vw (l : Launch) (D : va_G) (cy : Nat → ClassId) {L : List Nat} {τ : Nat → Ro} {E : Ec} (hI : Inv TB cy L τ E) {a0 : Nat} (ha0 : a0 ∈ L) (ta0 : τ a0 = (0, 0)) (a1 : Int32) : CtI l yX9_size wsX9_size { frames := 5, cells := 0, slots := 0, locals := 114 } D TB cy L τ E [.ref a0, .int a1] (inW [(0, 0), (5, 0), (100, 0), (101, 0), (102, 0), (103, 0), (104, 0), (105, 0), (106, 0), (107, 0), (108, 0), (109, 0), (110, 0), (111, 0), (112, 0)]) (fun r E' => (∀ k : Nat, k ∉ ([10] : List Nat) → fi E' a0 k = fi E a0 k)) := by
  intro sz
  refine sta (cc := cX9_size) (maxL := 2) hI (by decide) rfl (Nat.le_of_ble_eq_true rfl) (fun p e s m args below meth c ls hsz Z S0 hl => ?_)
  have hx := Z.1.1
  have hb := Z.1.2.1
  have hts := Z.1.2.2.2.2
  have F0_ : Fr L τ (inW [(0, 0), (5, 0), (100, 0), (101, 0), (102, 0), (103, 0), (104, 0), (105, 0), (106, 0), (107, 0), (108, 0), (109, 0), (110, 0), (111, 0), (112, 0)]) E E := Fr.refl
  have hl : lv_has ls 2 [(0, .ref a0), (1, .int a1)] := hl
  generalize hQ : MQ below _ args s 0 0 _ = QQ
  refine lv_iload_n hx hb dX9_size_0 rfl (lv_at hl 1 rfl) ?_
  rcases (show (a1.toInt < 0 ∨ 11 < a1.toInt) ∨ a1.toInt = 0 ∨ a1.toInt = 1 ∨ a1.toInt = 2 ∨ a1.toInt = 3 ∨ a1.toInt = 4 ∨ a1.toInt = 5 ∨ a1.toInt = 6 ∨ a1.toInt = 7 ∨ a1.toInt = 8 ∨ a1.toInt = 9 ∨ a1.toInt = 10 ∨ a1.toInt = 11 from by omega) with c1 | c1 | c1 | c1 | c1 | c1 | c1 | c1 | c1 | c1 | c1 | c1 | c1
  · skip
    refine lv_tableOut (tgt := 164) hx hb dX9_size_1 c1 (by decide) ?_
    obtain ⟨v2, ev2, tv2⟩ : ∃ v : Int32, Int32.ofInt (-1) = v ∧ v.toInt = -1 := ⟨_, rfl, by decide +kernel⟩
    refine lv_iconst hx hb dX9_size_164 ev2 ?_
    rw [← hQ]
    exact en_i Z S0 F0_ (fun k hk => ((fun k hk => rfl) k hk)) dX9_size_165
  · skip
    refine lv_tableIn (tgt := 64) (off := 63) hx hb dX9_size_1 (by omega) (by omega) (by rw [show (a1.toInt - 0).toNat = 0 from by omega]; rfl) (by decide) ?_
    refine lv_aload_n hx hb dX9_size_64 rfl (lv_at hl 0 rfl) ?_
    refine tr_getr Z.1 Z.2.2.2.1 S0.1 S0.2 ha0 ta0 rfl rfl (fun _ h => List.mem_cons_of_mem _ (List.mem_append_left _ (List.mem_append_left _ (List.mem_append_left _ (List.mem_append_left _ (List.mem_append_right _ h)))))) 0 (by decide) rfl (hts _ (List.mem_of_getElem? (i := 1) rfl)) dX9_size_65 (fun q3 eq3 hq3 tq3 => ?_)
    have tq3 : τ q3 = (1, 0) := tq3
    refine tr_geti Z.1 Z.2.2.2.1 S0.1 S0.2 hq3 tq3 rfl rfl (fun _ h => List.mem_cons_of_mem _ (List.mem_append_left _ (List.mem_append_left _ (List.mem_append_left _ (List.mem_append_right _ h))))) 0 (by decide) rfl (hts _ (List.mem_of_getElem? (i := 2) rfl)) dX9_size_68 (fun v4 ev4 lv4 uv4 => ?_)
    rw [← hQ]
    exact en_i Z S0 F0_ (fun k hk => ((fun k hk => rfl) k hk)) dX9_size_71
  · skip
    refine lv_tableIn (tgt := 72) (off := 71) hx hb dX9_size_1 (by omega) (by omega) (by rw [show (a1.toInt - 0).toNat = 1 from by omega]; rfl) (by decide) ?_
    refine lv_aload_n hx hb dX9_size_72 rfl (lv_at hl 0 rfl) ?_
    refine tr_getr Z.1 Z.2.2.2.1 S0.1 S0.2 ha0 ta0 rfl rfl (fun _ h => List.mem_cons_of_mem _ (List.mem_append_left _ (List.mem_append_left _ (List.mem_append_left _ (List.mem_append_left _ (List.mem_append_right _ h)))))) 0 (by decide) rfl (hts _ (List.mem_of_getElem? (i := 1) rfl)) dX9_size_73 (fun q5 eq5 hq5 tq5 => ?_)
    have tq5 : τ q5 = (1, 0) := tq5
    refine tr_geti Z.1 Z.2.2.2.1 S0.1 S0.2 hq5 tq5 rfl rfl (fun _ h => List.mem_cons_of_mem _ (List.mem_append_left _ (List.mem_append_left _ (List.mem_append_left _ (List.mem_append_right _ h))))) 1 (by decide) rfl (hts _ (List.mem_of_getElem? (i := 3) rfl)) dX9_size_76 (fun v6 ev6 lv6 uv6 => ?_)
    rw [← hQ]
    exact en_i Z S0 F0_ (fun k hk => ((fun k hk => rfl) k hk)) dX9_size_79
  · skip
    refine lv_tableIn (tgt := 80) (off := 79) hx hb dX9_size_1 (by omega) (by omega) (by rw [show (a1.toInt - 0).toNat = 2 from by omega]; rfl) (by decide) ?_
    refine lv_aload_n hx hb dX9_size_80 rfl (lv_at hl 0 rfl) ?_
    refine tr_getr Z.1 Z.2.2.2.1 S0.1 S0.2 ha0 ta0 rfl rfl (fun _ h => List.mem_cons_of_mem _ (List.mem_append_left _ (List.mem_append_left _ (List.mem_append_left _ (List.mem_append_left _ (List.mem_append_right _ h)))))) 0 (by decide) rfl (hts _ (List.mem_of_getElem? (i := 1) rfl)) dX9_size_81 (fun q7 eq7 hq7 tq7 => ?_)
    have tq7 : τ q7 = (1, 0) := tq7
    refine tr_geti Z.1 Z.2.2.2.1 S0.1 S0.2 hq7 tq7 rfl rfl (fun _ h => List.mem_cons_of_mem _ (List.mem_append_left _ (List.mem_append_left _ (List.mem_append_left _ (List.mem_append_right _ h))))) 2 (by decide) rfl (hts _ (List.mem_of_getElem? (i := 4) rfl)) dX9_size_84 (fun v8 ev8 lv8 uv8 => ?_)
    rw [← hQ]
    exact en_i Z S0 F0_ (fun k hk => ((fun k hk => rfl) k hk)) dX9_size_87
  · skip
    refine lv_tableIn (tgt := 88) (off := 87) hx hb dX9_size_1 (by omega) (by omega) (by rw [show (a1.toInt - 0).toNat = 3 from by omega]; rfl) (by decide) ?_
    refine lv_aload_n hx hb dX9_size_88 rfl (lv_at hl 0 rfl) ?_
    refine tr_getr Z.1 Z.2.2.2.1 S0.1 S0.2 ha0 ta0 rfl rfl (fun _ h => List.mem_cons_of_mem _ (List.mem_append_left _ (List.mem_append_left _ (List.mem_append_left _ (List.mem_append_left _ (List.mem_append_right _ h)))))) 0 (by decide) rfl (hts _ (List.mem_of_getElem? (i := 1) rfl)) dX9_size_89 (fun q9 eq9 hq9 tq9 => ?_)
    have tq9 : τ q9 = (1, 0) := tq9
    refine tr_geti Z.1 Z.2.2.2.1 S0.1 S0.2 hq9 tq9 rfl rfl (fun _ h => List.mem_cons_of_mem _ (List.mem_append_left _ (List.mem_append_left _ (List.mem_append_left _ (List.mem_append_right _ h))))) 3 (by decide) rfl (hts _ (List.mem_of_getElem? (i := 5) rfl)) dX9_size_92 (fun v10 ev10 lv10 uv10 => ?_)
    rw [← hQ]
    exact en_i Z S0 F0_ (fun k hk => ((fun k hk => rfl) k hk)) dX9_size_95
  · skip
    refine lv_tableIn (tgt := 96) (off := 95) hx hb dX9_size_1 (by omega) (by omega) (by rw [show (a1.toInt - 0).toNat = 4 from by omega]; rfl) (by decide) ?_
    refine lv_aload_n hx hb dX9_size_96 rfl (lv_at hl 0 rfl) ?_
    refine tr_getr Z.1 Z.2.2.2.1 S0.1 S0.2 ha0 ta0 rfl rfl (fun _ h => List.mem_cons_of_mem _ (List.mem_append_left _ (List.mem_append_left _ (List.mem_append_left _ (List.mem_append_left _ (List.mem_append_right _ h)))))) 0 (by decide) rfl (hts _ (List.mem_of_getElem? (i := 1) rfl)) dX9_size_97 (fun q11 eq11 hq11 tq11 => ?_)
    have tq11 : τ q11 = (1, 0) := tq11
    refine tr_geti Z.1 Z.2.2.2.1 S0.1 S0.2 hq11 tq11 rfl rfl (fun _ h => List.mem_cons_of_mem _ (List.mem_append_left _ (List.mem_append_left _ (List.mem_append_left _ (List.mem_append_right _ h))))) 4 (by decide) rfl (hts _ (List.mem_of_getElem? (i := 6) rfl)) dX9_size_100 (fun v12 ev12 lv12 uv12 => ?_)
    rw [← hQ]
    exact en_i Z S0 F0_ (fun k hk => ((fun k hk => rfl) k hk)) dX9_size_103
  · skip
    refine lv_tableIn (tgt := 104) (off := 103) hx hb dX9_size_1 (by omega) (by omega) (by rw [show (a1.toInt - 0).toNat = 5 from by omega]; rfl) (by decide) ?_
    refine lv_aload_n hx hb dX9_size_104 rfl (lv_at hl 0 rfl) ?_
    refine tc_vq Z.1 Z.2.2.2.1 Z.2.2.2.2.1 Z.2.2.2.2.2 S0.1 S0.2 ha0 ta0 rfl rfl (k_X9_laidRows_vw l D cy S0.2 ha0 ta0) (cwV 0 hts gX9_size_X9_laidRows rfl rfl rfl (by decide +kernel) ⟨Nat.le_of_ble_eq_true rfl, Nat.le_of_ble_eq_true rfl⟩) rfl hl.1 rfl (Nat.le_of_ble_eq_true rfl) dX9_size_105 ⟨Nat.zero_le _, Nat.zero_le _⟩ (fun v16 E13 H14 k15 W13 I13 G13 p13 => ?_)
    obtain ⟨p13_0, p13_1⟩ := p13
    have S13 : Now D TB cy (va_A (va_pl L E) sz) s L τ E13 H14 k15 := ⟨W13, I13⟩
    have F13 : Fr L τ (inW [(0, 0), (5, 0), (100, 0), (101, 0), (102, 0), (103, 0), (104, 0), (105, 0), (106, 0), (107, 0), (108, 0), (109, 0), (110, 0), (111, 0), (112, 0)]) E E13 := F0_.trans (G13.mono (inW_mono (by decide)))
    obtain ⟨q17, rfl, hq17, tq17⟩ := p13_0
    refine W.eq (g2 := F0 m 108 ls [.ref q17]) rfl ?_
    refine tr_geti Z.1 Z.2.2.2.1 S13.1 S13.2 hq17 tq17 rfl rfl (fun _ h => List.mem_cons_of_mem _ (List.mem_append_left _ (List.mem_append_left _ (List.mem_append_right _ h)))) 1 (by decide) rfl (hts _ (List.mem_of_getElem? (i := 7) rfl)) dX9_size_108 (fun v18 ev18 lv18 uv18 => ?_)
    rw [← hQ]
    exact en_i Z S13 F13 (fun k hk => ((p13_1 k (fw_sub (by decide) hk)).trans ((fun k hk => rfl) k hk))) dX9_size_111
  · skip
    refine lv_tableIn (tgt := 112) (off := 111) hx hb dX9_size_1 (by omega) (by omega) (by rw [show (a1.toInt - 0).toNat = 6 from by omega]; rfl) (by decide) ?_
    refine lv_aload_n hx hb dX9_size_112 rfl (lv_at hl 0 rfl) ?_
    refine tr_getr Z.1 Z.2.2.2.1 S0.1 S0.2 ha0 ta0 rfl rfl (fun _ h => List.mem_cons_of_mem _ (List.mem_append_left _ (List.mem_append_left _ (List.mem_append_left _ (List.mem_append_left _ (List.mem_append_right _ h)))))) 0 (by decide) rfl (hts _ (List.mem_of_getElem? (i := 1) rfl)) dX9_size_113 (fun q19 eq19 hq19 tq19 => ?_)
    have tq19 : τ q19 = (1, 0) := tq19
    refine tr_geti Z.1 Z.2.2.2.1 S0.1 S0.2 hq19 tq19 rfl rfl (fun _ h => List.mem_cons_of_mem _ (List.mem_append_left _ (List.mem_append_left _ (List.mem_append_left _ (List.mem_append_right _ h))))) 7 (by decide) rfl (hts _ (List.mem_of_getElem? (i := 8) rfl)) dX9_size_116 (fun v20 ev20 lv20 uv20 => ?_)
    rw [← hQ]
    exact en_i Z S0 F0_ (fun k hk => ((fun k hk => rfl) k hk)) dX9_size_119
  · skip
    refine lv_tableIn (tgt := 120) (off := 119) hx hb dX9_size_1 (by omega) (by omega) (by rw [show (a1.toInt - 0).toNat = 7 from by omega]; rfl) (by decide) ?_
    refine lv_aload_n hx hb dX9_size_120 rfl (lv_at hl 0 rfl) ?_
    refine tr_getr Z.1 Z.2.2.2.1 S0.1 S0.2 ha0 ta0 rfl rfl (fun _ h => List.mem_cons_of_mem _ (List.mem_append_left _ (List.mem_append_left _ (List.mem_append_left _ (List.mem_append_left _ (List.mem_append_right _ h)))))) 0 (by decide) rfl (hts _ (List.mem_of_getElem? (i := 1) rfl)) dX9_size_121 (fun q21 eq21 hq21 tq21 => ?_)
    have tq21 : τ q21 = (1, 0) := tq21
    refine tr_geti Z.1 Z.2.2.2.1 S0.1 S0.2 hq21 tq21 rfl rfl (fun _ h => List.mem_cons_of_mem _ (List.mem_append_left _ (List.mem_append_left _ (List.mem_append_left _ (List.mem_append_right _ h))))) 6 (by decide) rfl (hts _ (List.mem_of_getElem? (i := 9) rfl)) dX9_size_124 (fun v22 ev22 lv22 uv22 => ?_)
    rw [← hQ]
    exact en_i Z S0 F0_ (fun k hk => ((fun k hk => rfl) k hk)) dX9_size_127
  · skip
    refine lv_tableIn (tgt := 128) (off := 127) hx hb dX9_size_1 (by omega) (by omega) (by rw [show (a1.toInt - 0).toNat = 8 from by omega]; rfl) (by decide) ?_
    refine lv_aload_n hx hb dX9_size_128 rfl (lv_at hl 0 rfl) ?_
    refine tc_vq Z.1 Z.2.2.2.1 Z.2.2.2.2.1 Z.2.2.2.2.2 S0.1 S0.2 ha0 ta0 rfl rfl (k_X9_laidRows_vw l D cy S0.2 ha0 ta0) (cwV 0 hts gX9_size_X9_laidRows rfl rfl rfl (by decide +kernel) ⟨Nat.le_of_ble_eq_true rfl, Nat.le_of_ble_eq_true rfl⟩) rfl hl.1 rfl (Nat.le_of_ble_eq_true rfl) dX9_size_129 ⟨Nat.zero_le _, Nat.zero_le _⟩ (fun v26 E23 H24 k25 W23 I23 G23 p23 => ?_)
    obtain ⟨p23_0, p23_1⟩ := p23
    have S23 : Now D TB cy (va_A (va_pl L E) sz) s L τ E23 H24 k25 := ⟨W23, I23⟩
    have F23 : Fr L τ (inW [(0, 0), (5, 0), (100, 0), (101, 0), (102, 0), (103, 0), (104, 0), (105, 0), (106, 0), (107, 0), (108, 0), (109, 0), (110, 0), (111, 0), (112, 0)]) E E23 := F0_.trans (G23.mono (inW_mono (by decide)))
    obtain ⟨q27, rfl, hq27, tq27⟩ := p23_0
    refine W.eq (g2 := F0 m 132 ls [.ref q27]) rfl ?_
    refine lv_aload_n hx hb dX9_size_132 rfl (lv_at hl 0 rfl) ?_
    refine tr_getr Z.1 Z.2.2.2.1 S23.1 S23.2 ha0 ta0 rfl rfl (fun _ h => List.mem_cons_of_mem _ (List.mem_append_left _ (List.mem_append_left _ (List.mem_append_left _ (List.mem_append_left _ (List.mem_append_right _ h)))))) 0 (by decide) rfl (hts _ (List.mem_of_getElem? (i := 1) rfl)) dX9_size_133 (fun q28 eq28 hq28 tq28 => ?_)
    have tq28 : τ q28 = (1, 0) := tq28
    refine tc_vi Z.1 Z.2.2.2.1 Z.2.2.2.2.1 Z.2.2.2.2.2 S23.1 S23.2 hq27 tq27 rfl rfl (k_X6_cost_v0 l D cy S23.2 hq27 tq27 hq28 tq28) (cwV 1 hts gX9_size_X6_cost rfl rfl rfl (by decide +kernel) ⟨Nat.le_of_ble_eq_true rfl, Nat.le_of_ble_eq_true rfl⟩) rfl hl.1 rfl (Nat.le_of_ble_eq_true rfl) dX9_size_136 ⟨Nat.zero_le _, Nat.zero_le _⟩ (fun v32 E29 H30 k31 W29 I29 G29 p29 => ?_)
    have q29 := p29
    have q29 := q29.symm
    subst q29
    have S29 : Now D TB cy (va_A (va_pl L E) sz) s L τ E23 H30 k31 := ⟨W29, I29⟩
    rw [← hQ]
    exact en_i Z S29 F23 (fun k hk => ((p23_1 k (fw_sub (by decide) hk)).trans ((fun k hk => rfl) k hk))) dX9_size_139
  · skip
    refine lv_tableIn (tgt := 140) (off := 139) hx hb dX9_size_1 (by omega) (by omega) (by rw [show (a1.toInt - 0).toNat = 9 from by omega]; rfl) (by decide) ?_
    refine lv_aload_n hx hb dX9_size_140 rfl (lv_at hl 0 rfl) ?_
    refine tc_vq Z.1 Z.2.2.2.1 Z.2.2.2.2.1 Z.2.2.2.2.2 S0.1 S0.2 ha0 ta0 rfl rfl (k_X9_laidRows_vw l D cy S0.2 ha0 ta0) (cwV 0 hts gX9_size_X9_laidRows rfl rfl rfl (by decide +kernel) ⟨Nat.le_of_ble_eq_true rfl, Nat.le_of_ble_eq_true rfl⟩) rfl hl.1 rfl (Nat.le_of_ble_eq_true rfl) dX9_size_141 ⟨Nat.zero_le _, Nat.zero_le _⟩ (fun v36 E33 H34 k35 W33 I33 G33 p33 => ?_)
    obtain ⟨p33_0, p33_1⟩ := p33
    have S33 : Now D TB cy (va_A (va_pl L E) sz) s L τ E33 H34 k35 := ⟨W33, I33⟩
    have F33 : Fr L τ (inW [(0, 0), (5, 0), (100, 0), (101, 0), (102, 0), (103, 0), (104, 0), (105, 0), (106, 0), (107, 0), (108, 0), (109, 0), (110, 0), (111, 0), (112, 0)]) E E33 := F0_.trans (G33.mono (inW_mono (by decide)))
    obtain ⟨q37, rfl, hq37, tq37⟩ := p33_0
    refine W.eq (g2 := F0 m 144 ls [.ref q37]) rfl ?_
    refine tr_geti Z.1 Z.2.2.2.1 S33.1 S33.2 hq37 tq37 rfl rfl (fun _ h => List.mem_cons_of_mem _ (List.mem_append_left _ (List.mem_append_left _ (List.mem_append_right _ h)))) 4 (by decide) rfl (hts _ (List.mem_of_getElem? (i := 10) rfl)) dX9_size_144 (fun v38 ev38 lv38 uv38 => ?_)
    rw [← hQ]
    exact en_i Z S33 F33 (fun k hk => ((p33_1 k (fw_sub (by decide) hk)).trans ((fun k hk => rfl) k hk))) dX9_size_147
  · skip
    refine lv_tableIn (tgt := 148) (off := 147) hx hb dX9_size_1 (by omega) (by omega) (by rw [show (a1.toInt - 0).toNat = 10 from by omega]; rfl) (by decide) ?_
    refine lv_aload_n hx hb dX9_size_148 rfl (lv_at hl 0 rfl) ?_
    refine tr_getr Z.1 Z.2.2.2.1 S0.1 S0.2 ha0 ta0 rfl rfl (fun _ h => List.mem_cons_of_mem _ (List.mem_append_left _ (List.mem_append_left _ (List.mem_append_left _ (List.mem_append_left _ (List.mem_append_right _ h)))))) 1 (by decide) rfl (hts _ (List.mem_of_getElem? (i := 11) rfl)) dX9_size_149 (fun q39 eq39 hq39 tq39 => ?_)
    have tq39 : τ q39 = (4, 0) := tq39
    refine tr_geti Z.1 Z.2.2.2.1 S0.1 S0.2 hq39 tq39 rfl rfl (fun _ h => List.mem_cons_of_mem _ (List.mem_append_left _ (List.mem_append_right _ h))) 2 (by decide) rfl (hts _ (List.mem_of_getElem? (i := 12) rfl)) dX9_size_152 (fun v40 ev40 lv40 uv40 => ?_)
    rw [← hQ]
    exact en_i Z S0 F0_ (fun k hk => ((fun k hk => rfl) k hk)) dX9_size_155
  · skip
    refine lv_tableIn (tgt := 156) (off := 155) hx hb dX9_size_1 (by omega) (by omega) (by rw [show (a1.toInt - 0).toNat = 11 from by omega]; rfl) (by decide) ?_
    refine lv_aload_n hx hb dX9_size_156 rfl (lv_at hl 0 rfl) ?_
    refine tr_getr Z.1 Z.2.2.2.1 S0.1 S0.2 ha0 ta0 rfl rfl (fun _ h => List.mem_cons_of_mem _ (List.mem_append_left _ (List.mem_append_left _ (List.mem_append_left _ (List.mem_append_left _ (List.mem_append_right _ h)))))) 6 (by decide) rfl (hts _ (List.mem_of_getElem? (i := 13) rfl)) dX9_size_157 (fun q41 eq41 hq41 tq41 => ?_)
    have tq41 : τ q41 = (9, 0) := tq41
    refine tr_geti Z.1 Z.2.2.2.1 S0.1 S0.2 hq41 tq41 rfl rfl (fun _ h => List.mem_cons_of_mem _ (List.mem_append_right _ h)) 2 (by decide) rfl (hts _ (List.mem_of_getElem? (i := 14) rfl)) dX9_size_160 (fun v42 ev42 lv42 uv42 => ?_)
    rw [← hQ]
    exact en_i Z S0 F0_ (fun k hk => ((fun k hk => rfl) k hk)) dX9_size_163

set_option maxHeartbeats 4000000 in
set_option maxRecDepth 100000 in
theorem k_X9_tread_vw (l : Launch) (D : va_G) (cy : Nat → ClassId) {L : List Nat} {τ : Nat → Ro} {E : Ec} (hI : Inv TB cy L τ E) {a0 : Nat} (ha0 : a0 ∈ L) (ta0 : τ a0 = (0, 0)) (a1 : Int32) (a2 : Int32) : CtI l yX9_tread wsX9_tread { frames := 5, cells := 0, slots := 0, locals := 114 } D TB cy L τ E [.ref a0, .int a1, .int a2] (inW [(0, 0), (5, 0), (100, 0), (101, 0), (102, 0), (103, 0), (104, 0), (105, 0), (106, 0), (107, 0), (108, 0), (109, 0), (110, 0), (111, 0), (112, 0)]) (fun r E' => (∀ k : Nat, k ∉ ([10] : List Nat) → fi E' a0 k = fi E a0 k)) := by
  intro sz
  refine sta (cc := cX9_tread) (maxL := 4) hI (by decide) rfl (Nat.le_of_ble_eq_true rfl) (fun p e s m args below meth c ls hsz Z S0 hl => ?_)
  have hx := Z.1.1
  have hb := Z.1.2.1
  have hts := Z.1.2.2.2.2
  have F0_ : Fr L τ (inW [(0, 0), (5, 0), (100, 0), (101, 0), (102, 0), (103, 0), (104, 0), (105, 0), (106, 0), (107, 0), (108, 0), (109, 0), (110, 0), (111, 0), (112, 0)]) E E := Fr.refl
  have hl : lv_has ls 4 [(0, .ref a0), (1, .int a1), (2, .int a2)] := hl
  generalize hQ : MQ below _ args s 0 0 _ = QQ
  refine lv_aload_n hx hb dX9_tread_0 rfl (lv_at hl 0 rfl) ?_
  refine tc_vq Z.1 Z.2.2.2.1 Z.2.2.2.2.1 Z.2.2.2.2.2 S0.1 S0.2 ha0 ta0 rfl rfl (k_X9_laidRows_vw l D cy S0.2 ha0 ta0) (cwV 0 hts gX9_tread_X9_laidRows rfl rfl rfl (by decide +kernel) ⟨Nat.le_of_ble_eq_true rfl, Nat.le_of_ble_eq_true rfl⟩) rfl hl.1 rfl (Nat.le_of_ble_eq_true rfl) dX9_tread_1 ⟨Nat.zero_le _, Nat.zero_le _⟩ (fun v4 E1 H2 k3 W1 I1 G1 p1 => ?_)
  obtain ⟨p1_0, p1_1⟩ := p1
  have S1 : Now D TB cy (va_A (va_pl L E) sz) s L τ E1 H2 k3 := ⟨W1, I1⟩
  have F1 : Fr L τ (inW [(0, 0), (5, 0), (100, 0), (101, 0), (102, 0), (103, 0), (104, 0), (105, 0), (106, 0), (107, 0), (108, 0), (109, 0), (110, 0), (111, 0), (112, 0)]) E E1 := F0_.trans (G1.mono (inW_mono (by decide)))
  obtain ⟨q5, rfl, hq5, tq5⟩ := p1_0
  refine W.eq (g2 := F0 m 4 ls [.ref q5]) rfl ?_
  refine lv_astore_n (lv' := [(3, .ref q5), (0, .ref a0), (1, .int a1), (2, .int a2)]) hx hb dX9_tread_4 rfl hl (by decide) rfl (fun l6 hl7 => ?_)
  refine lv_iload_n hx hb dX9_tread_5 rfl (lv_at hl7 2 rfl) ?_
  obtain ⟨v8, ev8, tv8⟩ : ∃ v : Int32, Int32.ofInt (0) = v ∧ v.toInt = 0 := ⟨_, rfl, by decide +kernel⟩
  refine lv_iconst hx hb dX9_tread_6 ev8 ?_
  refine lv_aload_n hx hb dX9_tread_7 rfl (lv_at hl7 0 rfl) ?_
  refine tr_geti Z.1 Z.2.2.2.1 S1.1 S1.2 hq5 tq5 rfl rfl (fun _ h => List.mem_cons_of_mem _ (List.mem_append_left _ (List.mem_append_left _ (List.mem_append_right _ h)))) 1 (by decide) rfl (hts _ (List.mem_of_getElem? (i := 1) rfl)) dX9_tread_8 (fun v9 ev9 lv9 uv9 => ?_)
  obtain ⟨v10, ev10, tv10⟩ : ∃ v : Int32, Int32.ofInt (1) = v ∧ v.toInt = 1 := ⟨_, rfl, by decide +kernel⟩
  refine lv_iconst hx hb dX9_tread_11 ev10 ?_
  refine lv_isub hx hb dX9_tread_12 ?_
  refine lv_topi (fun v11 ev11 => ?_)
  have tv11 := nu_sub ev11 (by omega) (by omega)
  refine tc_si Z.1 Z.2.2.2.1 Z.2.2.2.2.1 Z.2.2.2.2.2 S1.1 (k_X9_within l D cy S1.2 a1 v8 v11) (va_cwS 3 hts gX9_tread_X9_within rfl rfl rfl (by decide +kernel) ⟨Nat.le_of_ble_eq_true rfl, Nat.le_of_ble_eq_true rfl⟩) rfl hl7.1 rfl (Nat.le_of_ble_eq_true rfl) dX9_tread_13 ⟨Nat.zero_le _, Nat.zero_le _⟩ (fun v15 E12 H13 k14 W12 I12 G12 p12 => ?_)
  obtain ⟨q12, p12_0, p12_1, p12_2⟩ := p12
  have q12 := q12.symm
  subst q12
  have S12 : Now D TB cy (va_A (va_pl L E) sz) s L τ E1 H13 k14 := ⟨W12, I12⟩
  refine lv_if_eq (tgt := 29) hx hb dX9_tread_16 (by decide) (fun c16 => ?_) (fun c16 => ?_)
  · skip
    have tc16 := nu_eq c16
    have uc16 : (0 : Int32).toInt = 0 := rfl
    obtain ⟨v17, ev17, tv17⟩ : ∃ v : Int32, (Int16.ofInt (-10000)).toInt32 = v ∧ v.toInt = -10000 := ⟨_, rfl, by decide +kernel⟩
    refine lv_sipush hx hb dX9_tread_29 ev17 ?_
    rw [← hQ]
    exact en_i Z S12 F1 (fun k hk => ((p1_1 k (fw_sub (by decide) hk)).trans ((fun k hk => rfl) k hk))) dX9_tread_32
  · skip
    have tc16 := nu_ne c16
    have uc16 : (0 : Int32).toInt = 0 := rfl
    refine lv_iload_n hx hb dX9_tread_19 rfl (lv_at hl7 3 rfl) ?_
    obtain ⟨v18, ev18, tv18⟩ : ∃ v : Int32, Int32.ofInt (0) = v ∧ v.toInt = 0 := ⟨_, rfl, by decide +kernel⟩
    refine lv_iconst hx hb dX9_tread_20 ev18 ?_
    obtain ⟨v19, ev19, tv19⟩ : ∃ v : Int32, (Int8.ofInt (8)).toInt32 = v ∧ v.toInt = 8 := ⟨_, rfl, by decide +kernel⟩
    refine lv_bipush hx hb dX9_tread_21 ev19 ?_
    refine tc_si Z.1 Z.2.2.2.1 Z.2.2.2.2.1 Z.2.2.2.2.2 S12.1 (k_X9_within l D cy S12.2 a2 v18 v19) (va_cwS 3 hts gX9_tread_X9_within rfl rfl rfl (by decide +kernel) ⟨Nat.le_of_ble_eq_true rfl, Nat.le_of_ble_eq_true rfl⟩) rfl hl7.1 rfl (Nat.le_of_ble_eq_true rfl) dX9_tread_23 ⟨Nat.zero_le _, Nat.zero_le _⟩ (fun v23 E20 H21 k22 W20 I20 G20 p20 => ?_)
    obtain ⟨q20, p20_0, p20_1, p20_2⟩ := p20
    have q20 := q20.symm
    subst q20
    have S20 : Now D TB cy (va_A (va_pl L E) sz) s L τ E1 H21 k22 := ⟨W20, I20⟩
    refine lv_if_ne (tgt := 33) hx hb dX9_tread_26 (by decide) (fun c24 => ?_) (fun c24 => ?_)
    · skip
      have tc24 := nu_ne c24
      have uc24 : (0 : Int32).toInt = 0 := rfl
      refine lv_aload_n hx hb dX9_tread_33 rfl (lv_at hl7 0 rfl) ?_
      refine tr_getr Z.1 Z.2.2.2.1 S20.1 S20.2 hq5 tq5 rfl rfl (fun _ h => List.mem_cons_of_mem _ (List.mem_append_left _ (List.mem_append_left _ (List.mem_append_right _ h)))) 0 (by decide) rfl (hts _ (List.mem_of_getElem? (i := 2) rfl)) dX9_tread_34 (fun q25 eq25 hq25 tq25 => ?_)
      have tq25 : τ q25 = (30, 0) := tq25
      refine lv_iload_n hx hb dX9_tread_37 rfl (lv_at hl7 3 rfl) ?_
      refine tr_aaldr (ra := 100 + ((a2.toNatClampNeg : Nat) : Int)) (rb := 0) Z.1 Z.2.2.2.1 S20.1 S20.2 hq25 tq25 rfl rfl rfl rfl (by omega) (by omega) dX9_tread_38 (fun q26 eq26 hq26 tq26 => ?_)
      have nq26 : a2.toNatClampNeg ≤ 12 := by show a2.toInt.toNat ≤ 12; omega
      have tq26 : τ q26 = (100 + a2.toNatClampNeg, 0) := tq26.trans (Prod.ext (by show (100 + ((a2.toNatClampNeg : Nat) : Int)).toNat = 100 + a2.toNatClampNeg; omega) rfl)
      refine lv_iload_n hx hb dX9_tread_39 rfl (lv_at hl7 2 rfl) ?_
      refine tr_ialdw Z.1 Z.2.2.2.1 S20.1 S20.2 hq26 tq26 (row_tab (by omega)) (by omega) (by omega) dX9_tread_40 (fun v27 ev27 => ?_)
      rw [← hQ]
      exact en_i Z S20 F1 (fun k hk => ((p1_1 k (fw_sub (by decide) hk)).trans ((fun k hk => rfl) k hk))) dX9_tread_41
    · skip
      have tc24 := nu_eq c24
      have uc24 : (0 : Int32).toInt = 0 := rfl
      obtain ⟨v28, ev28, tv28⟩ : ∃ v : Int32, (Int16.ofInt (-10000)).toInt32 = v ∧ v.toInt = -10000 := ⟨_, rfl, by decide +kernel⟩
      refine lv_sipush hx hb dX9_tread_29 ev28 ?_
      rw [← hQ]
      exact en_i Z S20 F1 (fun k hk => ((p1_1 k (fw_sub (by decide) hk)).trans ((fun k hk => rfl) k hk))) dX9_tread_32

set_option maxHeartbeats 4000000 in
set_option maxRecDepth 100000 in
theorem k_X9_riser_vw (l : Launch) (D : va_G) (cy : Nat → ClassId) {L : List Nat} {τ : Nat → Ro} {E : Ec} (hI : Inv TB cy L τ E) {a0 : Nat} (ha0 : a0 ∈ L) (ta0 : τ a0 = (0, 0)) (a1 : Int32) : CtI l yX9_riser wsX9_riser { frames := 5, cells := 0, slots := 0, locals := 114 } D TB cy L τ E [.ref a0, .int a1] (inW [(0, 0), (5, 0), (100, 0), (101, 0), (102, 0), (103, 0), (104, 0), (105, 0), (106, 0), (107, 0), (108, 0), (109, 0), (110, 0), (111, 0), (112, 0)]) (fun r E' => (∀ k : Nat, k ∉ ([10] : List Nat) → fi E' a0 k = fi E a0 k)) := by
  intro sz
  refine sta (cc := cX9_riser) (maxL := 3) hI (by decide) rfl (Nat.le_of_ble_eq_true rfl) (fun p e s m args below meth c ls hsz Z S0 hl => ?_)
  have hx := Z.1.1
  have hb := Z.1.2.1
  have hts := Z.1.2.2.2.2
  have F0_ : Fr L τ (inW [(0, 0), (5, 0), (100, 0), (101, 0), (102, 0), (103, 0), (104, 0), (105, 0), (106, 0), (107, 0), (108, 0), (109, 0), (110, 0), (111, 0), (112, 0)]) E E := Fr.refl
  have hl : lv_has ls 3 [(0, .ref a0), (1, .int a1)] := hl
  generalize hQ : MQ below _ args s 0 0 _ = QQ
  refine lv_aload_n hx hb dX9_riser_0 rfl (lv_at hl 0 rfl) ?_
  refine tc_vq Z.1 Z.2.2.2.1 Z.2.2.2.2.1 Z.2.2.2.2.2 S0.1 S0.2 ha0 ta0 rfl rfl (k_X9_laidRows_vw l D cy S0.2 ha0 ta0) (cwV 0 hts gX9_riser_X9_laidRows rfl rfl rfl (by decide +kernel) ⟨Nat.le_of_ble_eq_true rfl, Nat.le_of_ble_eq_true rfl⟩) rfl hl.1 rfl (Nat.le_of_ble_eq_true rfl) dX9_riser_1 ⟨Nat.zero_le _, Nat.zero_le _⟩ (fun v4 E1 H2 k3 W1 I1 G1 p1 => ?_)
  obtain ⟨p1_0, p1_1⟩ := p1
  have S1 : Now D TB cy (va_A (va_pl L E) sz) s L τ E1 H2 k3 := ⟨W1, I1⟩
  have F1 : Fr L τ (inW [(0, 0), (5, 0), (100, 0), (101, 0), (102, 0), (103, 0), (104, 0), (105, 0), (106, 0), (107, 0), (108, 0), (109, 0), (110, 0), (111, 0), (112, 0)]) E E1 := F0_.trans (G1.mono (inW_mono (by decide)))
  obtain ⟨q5, rfl, hq5, tq5⟩ := p1_0
  refine W.eq (g2 := F0 m 4 ls [.ref q5]) rfl ?_
  refine tr_geti Z.1 Z.2.2.2.1 S1.1 S1.2 hq5 tq5 rfl rfl (fun _ h => List.mem_cons_of_mem _ (List.mem_append_left _ (List.mem_append_left _ (List.mem_append_right _ h)))) 1 (by decide) rfl (hts _ (List.mem_of_getElem? (i := 1) rfl)) dX9_riser_4 (fun v6 ev6 lv6 uv6 => ?_)
  refine lv_istore_n (lv' := [(2, .int v6), (0, .ref a0), (1, .int a1)]) hx hb dX9_riser_7 rfl hl (by decide) rfl (fun l7 hl8 => ?_)
  refine lv_iload_n hx hb dX9_riser_8 rfl (lv_at hl8 2 rfl) ?_
  obtain ⟨v9, ev9, tv9⟩ : ∃ v : Int32, Int32.ofInt (0) = v ∧ v.toInt = 0 := ⟨_, rfl, by decide +kernel⟩
  refine lv_iconst hx hb dX9_riser_9 ev9 ?_
  refine lv_iload_n hx hb dX9_riser_10 rfl (lv_at hl8 0 rfl) ?_
  refine tc_si Z.1 Z.2.2.2.1 Z.2.2.2.2.1 Z.2.2.2.2.2 S1.1 (k_X9_within l D cy S1.2 a1 v9 v6) (va_cwS 3 hts gX9_riser_X9_within rfl rfl rfl (by decide +kernel) ⟨Nat.le_of_ble_eq_true rfl, Nat.le_of_ble_eq_true rfl⟩) rfl hl8.1 rfl (Nat.le_of_ble_eq_true rfl) dX9_riser_11 ⟨Nat.zero_le _, Nat.zero_le _⟩ (fun v13 E10 H11 k12 W10 I10 G10 p10 => ?_)
  obtain ⟨q10, p10_0, p10_1, p10_2⟩ := p10
  have q10 := q10.symm
  subst q10
  have S10 : Now D TB cy (va_A (va_pl L E) sz) s L τ E1 H11 k12 := ⟨W10, I10⟩
  refine lv_if_eq (tgt := 34) hx hb dX9_riser_14 (by decide) (fun c14 => ?_) (fun c14 => ?_)
  · skip
    have tc14 := nu_eq c14
    have uc14 : (0 : Int32).toInt = 0 := rfl
    obtain ⟨v15, ev15, tv15⟩ : ∃ v : Int32, Int32.ofInt (-1) = v ∧ v.toInt = -1 := ⟨_, rfl, by decide +kernel⟩
    refine lv_iconst hx hb dX9_riser_34 ev15 ?_
    rw [← hQ]
    exact en_i Z S10 F1 (fun k hk => ((p1_1 k (fw_sub (by decide) hk)).trans ((fun k hk => rfl) k hk))) dX9_riser_35
  · skip
    have tc14 := nu_ne c14
    have uc14 : (0 : Int32).toInt = 0 := rfl
    refine lv_aload_n hx hb dX9_riser_17 rfl (lv_at hl8 1 rfl) ?_
    refine tr_getr Z.1 Z.2.2.2.1 S10.1 S10.2 ha0 ta0 rfl rfl (fun _ h => List.mem_cons_of_mem _ (List.mem_append_left _ (List.mem_append_right _ h))) 0 (by decide) rfl (hts _ (List.mem_of_getElem? (i := 2) rfl)) dX9_riser_18 (fun q16 eq16 hq16 tq16 => ?_)
    have tq16 : τ q16 = (1, 0) := tq16
    refine tr_geti Z.1 Z.2.2.2.1 S10.1 S10.2 hq16 tq16 rfl rfl (fun _ h => List.mem_cons_of_mem _ (List.mem_append_right _ h)) 0 (by decide) rfl (hts _ (List.mem_of_getElem? (i := 3) rfl)) dX9_riser_21 (fun v17 ev17 lv17 uv17 => ?_)
    refine lv_iload_n hx hb dX9_riser_24 rfl (lv_at hl8 0 rfl) ?_
    obtain ⟨v18, ev18, tv18⟩ : ∃ v : Int32, Int32.ofInt (1) = v ∧ v.toInt = 1 := ⟨_, rfl, by decide +kernel⟩
    refine lv_iconst hx hb dX9_riser_25 ev18 ?_
    refine lv_iadd hx hb dX9_riser_26 ?_
    refine lv_topi (fun v19 ev19 => ?_)
    have tv19 := nu_add ev19 (by omega) (by omega)
    refine lv_iload_n hx hb dX9_riser_27 rfl (lv_at hl8 2 rfl) ?_
    refine tc_si Z.1 Z.2.2.2.1 Z.2.2.2.2.1 Z.2.2.2.2.2 S10.1 (k_X9_share l D cy S10.2 v17 v19 a1) (va_cwS 3 hts gX9_riser_X9_share rfl rfl rfl (by decide +kernel) ⟨Nat.le_of_ble_eq_true rfl, Nat.le_of_ble_eq_true rfl⟩) rfl hl8.1 rfl (Nat.le_of_ble_eq_true rfl) dX9_riser_28 ⟨Nat.zero_le _, Nat.zero_le _⟩ (fun v23 E20 H21 k22 W20 I20 G20 p20 => ?_)
    have q20 := p20
    have q20 := q20.symm
    subst q20
    have S20 : Now D TB cy (va_A (va_pl L E) sz) s L τ E1 H21 k22 := ⟨W20, I20⟩
    refine lv_goto (tgt := 35) hx hb dX9_riser_31 (by decide) ?_
    rw [← hQ]
    exact en_i Z S20 F1 (fun k hk => ((p1_1 k (fw_sub (by decide) hk)).trans ((fun k hk => rfl) k hk))) dX9_riser_35

set_option maxHeartbeats 4000000 in
set_option maxRecDepth 100000 in
theorem k_X9_may_vw (l : Launch) (D : va_G) (cy : Nat → ClassId) {L : List Nat} {τ : Nat → Ro} {E : Ec} (hI : Inv TB cy L τ E) {a0 : Nat} (ha0 : a0 ∈ L) (ta0 : τ a0 = (0, 0)) : CtI l yX9_may wsX9_may { frames := 5, cells := 0, slots := 0, locals := 121 } D TB cy L τ E [.ref a0] (inW [(0, 0), (6, 0), (5, 0), (100, 0), (101, 0), (102, 0), (103, 0), (104, 0), (105, 0), (106, 0), (107, 0), (108, 0), (109, 0), (110, 0), (111, 0), (112, 0)]) (fun r E' => (∀ k : Nat, k ∉ ([10] : List Nat) → fi E' a0 k = fi E a0 k)) := by
  intro sz
  refine sta (cc := cX9_may) (maxL := 1) hI (by decide) rfl (Nat.le_of_ble_eq_true rfl) (fun p e s m args below meth c ls hsz Z S0 hl => ?_)
  have hx := Z.1.1
  have hb := Z.1.2.1
  have hts := Z.1.2.2.2.2
  have F0_ : Fr L τ (inW [(0, 0), (6, 0), (5, 0), (100, 0), (101, 0), (102, 0), (103, 0), (104, 0), (105, 0), (106, 0), (107, 0), (108, 0), (109, 0), (110, 0), (111, 0), (112, 0)]) E E := Fr.refl
  have hl : lv_has ls 1 [(0, .ref a0)] := hl
  generalize hQ : MQ below _ args s 0 0 _ = QQ
  refine lv_aload_n hx hb dX9_may_0 rfl (lv_at hl 0 rfl) ?_
  refine tr_getr Z.1 Z.2.2.2.1 S0.1 S0.2 ha0 ta0 rfl rfl (fun _ h => List.mem_cons_of_mem _ (List.mem_append_left _ (List.mem_append_left _ (List.mem_append_left _ (List.mem_append_left _ (List.mem_append_right _ h)))))) 3 (by decide) rfl (hts _ (List.mem_of_getElem? (i := 1) rfl)) dX9_may_1 (fun q1 eq1 hq1 tq1 => ?_)
  have tq1 : τ q1 = (6, 0) := tq1
  refine lv_aload_n hx hb dX9_may_4 rfl (lv_at hl 0 rfl) ?_
  refine tr_getr Z.1 Z.2.2.2.1 S0.1 S0.2 ha0 ta0 rfl rfl (fun _ h => List.mem_cons_of_mem _ (List.mem_append_left _ (List.mem_append_left _ (List.mem_append_left _ (List.mem_append_left _ (List.mem_append_right _ h)))))) 0 (by decide) rfl (hts _ (List.mem_of_getElem? (i := 2) rfl)) dX9_may_5 (fun q2 eq2 hq2 tq2 => ?_)
  have tq2 : τ q2 = (1, 0) := tq2
  refine lv_aload_n hx hb dX9_may_8 rfl (lv_at hl 0 rfl) ?_
  refine tc_vq Z.1 Z.2.2.2.1 Z.2.2.2.2.1 Z.2.2.2.2.2 S0.1 S0.2 ha0 ta0 rfl rfl (k_X9_laidRows_vw l D cy S0.2 ha0 ta0) (cwV 0 hts gX9_may_X9_laidRows rfl rfl rfl (by decide +kernel) ⟨Nat.le_of_ble_eq_true rfl, Nat.le_of_ble_eq_true rfl⟩) rfl hl.1 rfl (Nat.le_of_ble_eq_true rfl) dX9_may_9 ⟨Nat.zero_le _, Nat.zero_le _⟩ (fun v6 E3 H4 k5 W3 I3 G3 p3 => ?_)
  obtain ⟨p3_0, p3_1⟩ := p3
  have S3 : Now D TB cy (va_A (va_pl L E) sz) s L τ E3 H4 k5 := ⟨W3, I3⟩
  have F3 : Fr L τ (inW [(0, 0), (6, 0), (5, 0), (100, 0), (101, 0), (102, 0), (103, 0), (104, 0), (105, 0), (106, 0), (107, 0), (108, 0), (109, 0), (110, 0), (111, 0), (112, 0)]) E E3 := F0_.trans (G3.mono (inW_mono (by decide)))
  obtain ⟨q7, rfl, hq7, tq7⟩ := p3_0
  refine W.eq (g2 := F0 m 12 ls [.ref q7, .ref q2, .ref q1]) rfl ?_
  refine tc_vi Z.1 Z.2.2.2.1 Z.2.2.2.2.1 Z.2.2.2.2.2 S3.1 S3.2 hq1 tq1 rfl rfl (k_X8_firstBroken_v0 l D cy S3.2 hq1 tq1 hq2 tq2 hq7 tq7) (cwV 2 hts gX9_may_X8_firstBroken rfl rfl rfl (by decide +kernel) ⟨Nat.le_of_ble_eq_true rfl, Nat.le_of_ble_eq_true rfl⟩) rfl hl.1 rfl (Nat.le_of_ble_eq_true rfl) dX9_may_12 ⟨Nat.zero_le _, Nat.zero_le _⟩ (fun v11 E8 H9 k10 W8 I8 G8 p8 => ?_)
  have S8 : Now D TB cy (va_A (va_pl L E) sz) s L τ E8 H9 k10 := ⟨W8, I8⟩
  have F8 : Fr L τ (inW [(0, 0), (6, 0), (5, 0), (100, 0), (101, 0), (102, 0), (103, 0), (104, 0), (105, 0), (106, 0), (107, 0), (108, 0), (109, 0), (110, 0), (111, 0), (112, 0)]) E E8 := F3.trans (G8.mono (inW_mono (by decide)))
  rw [← hQ]
  exact en_i Z S8 F8 (fun k hk => ((fi_fr G8 ha0 (by rw [ta0]; rfl)).trans ((p3_1 k (fw_sub (by decide) hk)).trans ((fun k hk => rfl) k hk)))) dX9_may_15

set_option maxHeartbeats 4000000 in
set_option maxRecDepth 100000 in
theorem k_X9_tell_vw (l : Launch) (D : va_G) (cy : Nat → ClassId) {L : List Nat} {τ : Nat → Ro} {E : Ec} (hI : Inv TB cy L τ E) {G : Sg} {a0 : Nat} (ha0 : a0 ∈ L) (ta0 : τ a0 = (0, 0)) : CtI1 G l yX9_tell wsX9_tell { frames := 5, cells := 0, slots := 0, locals := 114 } D TB cy L τ E [.ref a0] (inW [(0, 0), (28, 0), (5, 0), (100, 0), (101, 0), (102, 0), (103, 0), (104, 0), (105, 0), (106, 0), (107, 0), (108, 0), (109, 0), (110, 0), (111, 0), (112, 0)]) (fun r E' => (∀ k : Nat, k ∉ ([8, 10] : List Nat) → fi E' a0 k = fi E a0 k)) := by
  intro sz
  refine sta1 (cc := cX9_tell) (maxL := 2) hI (by decide) rfl (Nat.le_of_ble_eq_true rfl) (fun p e s m args below meth c ls hsz Z SZ S0 hl => ?_)
  have hx := Z.1.1
  have hb := Z.1.2.1
  have hts := Z.1.2.2.2.2
  have F0_ : Fr L τ (inW [(0, 0), (28, 0), (5, 0), (100, 0), (101, 0), (102, 0), (103, 0), (104, 0), (105, 0), (106, 0), (107, 0), (108, 0), (109, 0), (110, 0), (111, 0), (112, 0)]) E E := Fr.refl
  have hl : lv_has ls 2 [(0, .ref a0)] := hl
  generalize hQ : MQ below _ args s 0 0 _ = QQ
  have J15 : ∀ (n : Nat) (x1_15 : Int32) (E_15 : Ec) (H_15 : Heap) (k_15 : List Loc) (l_15 : Array Slot), Now D TB cy (va_A (va_pl L E) sz) s L τ E_15 H_15 k_15 → Fr L τ (inW [(0, 0), (28, 0), (5, 0), (100, 0), (101, 0), (102, 0), (103, 0), (104, 0), (105, 0), (106, 0), (107, 0), (108, 0), (109, 0), (110, 0), (111, 0), (112, 0)]) E E_15 → (0 ≤ x1_15.toInt) → (x1_15.toInt ≤ 264) → (∀ k : Nat, k ∉ ([8, 10] : List Nat) → fi E_15 a0 k = fi E a0 k) → (264 - x1_15.toInt).toNat < n → lv_has l_15 2 [(0, .ref a0), (1, .int x1_15)] → W p l e { frames := 5, cells := 0, slots := 0, locals := 114 } s m args below meth c H_15 k_15 0 0 QQ (F0 m 15 l_15 []) := by
    intro n
    induction n with
    | zero => intro x1_15 E_15 H_15 k_15 l_15 S_15 F_15 z1 z2 z3 hm hl_15; exact absurd hm (Nat.not_lt_zero _)
    | succ n ih =>
      intro x1_15 E_15 H_15 k_15 l_15 S_15 F_15 z1 z2 z3 hm hl_15
      have ih_15 := ih
      refine lv_iload_n hx hb dX9_tell_15 rfl (lv_at hl_15 1 rfl) ?_
      refine lv_aload_n hx hb dX9_tell_16 rfl (lv_at hl_15 0 rfl) ?_
      refine tr_geti Z.1 Z.2.2.2.1 S_15.1 S_15.2 ha0 ta0 rfl rfl (fun _ h => List.mem_cons_of_mem _ (List.mem_append_left _ (List.mem_append_right _ h))) 8 (by decide) rfl (hts _ (List.mem_of_getElem? (i := 2) rfl)) dX9_tell_17 (fun v4 ev4 lv4 uv4 => ?_)
      refine lv_icmp_ge (tgt := 40) hx hb dX9_tell_20 (by decide) (fun c5 => ?_) (fun c5 => ?_)
      · skip
        have tc5 := nu_le c5
        refine lv_aload_n hx hb dX9_tell_40 rfl (lv_at hl_15 0 rfl) ?_
        refine tr_geti Z.1 Z.2.2.2.1 S_15.1 S_15.2 ha0 ta0 rfl rfl (fun _ h => List.mem_cons_of_mem _ (List.mem_append_left _ (List.mem_append_right _ h))) 8 (by decide) rfl (hts _ (List.mem_of_getElem? (i := 2) rfl)) dX9_tell_41 (fun v6 ev6 lv6 uv6 => ?_)
        have wv6 : v6 = v4 := ev6.symm.trans ev4
        have xv6 : v6.toInt = v4.toInt := by rw [wv6]
        rw [← hQ]
        exact en_i Z S_15 F_15 (fun k hk => (z3 k hk)) dX9_tell_44
      · skip
        have tc5 := nu_nle c5
        refine lv_aload_n hx hb dX9_tell_23 rfl (lv_at hl_15 0 rfl) ?_
        refine tr_getr Z.1 Z.2.2.2.1 S_15.1 S_15.2 ha0 ta0 rfl rfl (fun _ h => List.mem_cons_of_mem _ (List.mem_append_left _ (List.mem_append_right _ h))) 7 (by decide) rfl (hts _ (List.mem_of_getElem? (i := 3) rfl)) dX9_tell_24 (fun q7 eq7 hq7 tq7 => ?_)
        have tq7 : τ q7 = (28, 0) := tq7
        refine lv_iload_n hx hb dX9_tell_27 rfl (lv_at hl_15 1 rfl) ?_
        refine lv_aload_n hx hb dX9_tell_28 rfl (lv_at hl_15 0 rfl) ?_
        refine lv_iload_n hx hb dX9_tell_29 rfl (lv_at hl_15 1 rfl) ?_
        refine tc1_vi Z.1 Z.2.2.2.1 Z.2.2.2.2.1 Z.2.2.2.2.2 SZ S_15.1 S_15.2 ha0 ta0 rfl rfl (k_X9_sheetNumber l D cy S_15.2 ha0 ta0 x1_15 (by omega) (by omega)) (cwV 1 hts gX9_tell_X9_sheetNumber rfl rfl rfl (by decide +kernel) ⟨Nat.le_of_ble_eq_true rfl, Nat.le_of_ble_eq_true rfl⟩) rfl hl_15.1 rfl (Nat.le_of_ble_eq_true rfl) dX9_tell_30 ⟨Nat.zero_le _, Nat.zero_le _⟩ (fun v11 E8 H9 k10 W8 I8 G8 p8 => ?_)
        have q8 := p8
        have q8 := q8.symm
        subst q8
        have S8 : Now D TB cy (va_A (va_pl L E) sz) s L τ E_15 H9 k10 := ⟨W8, I8⟩
        refine tr_iast Z.1 Z.2.2.2.1 S8.1 S8.2 hq7 tq7 rfl (by omega) (by omega) (by have := fb_rng v11; omega) (by have := fb_rng v11; omega) dX9_tell_33 (fun E12 H13 k14 W12 I12 P12 => ?_)
        have S12 : Now D TB cy (va_A (va_pl L E) sz) s L τ E12 H13 k14 := ⟨W12, I12⟩
        have F12 : Fr L τ (inW [(0, 0), (28, 0), (5, 0), (100, 0), (101, 0), (102, 0), (103, 0), (104, 0), (105, 0), (106, 0), (107, 0), (108, 0), (109, 0), (110, 0), (111, 0), (112, 0)]) E E12 := Fr.set F_15 P12 tq7 rfl
        obtain ⟨v15, ev15⟩ : ∃ y : Int32, x1_15 + Int32.ofInt (1) = y := ⟨_, rfl⟩
        have tv15 : v15.toInt = x1_15.toInt + (1) := by rw [← ev15]; exact (fb_addI (by rw [show (Int32.ofInt (1)).toInt = 1 from by decide +kernel]; omega) (by rw [show (Int32.ofInt (1)).toInt = 1 from by decide +kernel]; omega)).trans (by rw [show (Int32.ofInt (1)).toInt = 1 from by decide +kernel])
        refine lv_iinc (v := v15) (lv' := [(1, .int v15), (0, .ref a0)]) hx hb dX9_tell_34 hl_15 (k := 1) rfl ev15 (by decide) rfl (fun l16 hl17 => ?_)
        refine lv_goto (tgt := 15) hx hb dX9_tell_37 (by decide) ?_
        exact ih_15 v15 E12 H13 k14 l16 S12 F12 (by omega) (by omega) (fun k hk => ((fi_set P12 (ne_ro ta0 tq7 (by decide))).trans (z3 k hk))) (by omega) (lv_sub hl17 [1, 0] rfl)
  refine lv_aload_n hx hb dX9_tell_0 rfl (lv_at hl 0 rfl) ?_
  refine lv_aload_n hx hb dX9_tell_1 rfl (lv_at hl 0 rfl) ?_
  refine tc_vq Z.1 Z.2.2.2.1 Z.2.2.2.2.1 Z.2.2.2.2.2 S0.1 S0.2 ha0 ta0 rfl rfl (k_X9_laidRows_vw l D cy S0.2 ha0 ta0) (cwV 0 hts gX9_tell_X9_laidRows rfl rfl rfl (by decide +kernel) ⟨Nat.le_of_ble_eq_true rfl, Nat.le_of_ble_eq_true rfl⟩) rfl hl.1 rfl (Nat.le_of_ble_eq_true rfl) dX9_tell_2 ⟨Nat.zero_le _, Nat.zero_le _⟩ (fun v21 E18 H19 k20 W18 I18 G18 p18 => ?_)
  obtain ⟨p18_0, p18_1⟩ := p18
  have S18 : Now D TB cy (va_A (va_pl L E) sz) s L τ E18 H19 k20 := ⟨W18, I18⟩
  have F18 : Fr L τ (inW [(0, 0), (28, 0), (5, 0), (100, 0), (101, 0), (102, 0), (103, 0), (104, 0), (105, 0), (106, 0), (107, 0), (108, 0), (109, 0), (110, 0), (111, 0), (112, 0)]) E E18 := F0_.trans (G18.mono (inW_mono (by decide)))
  obtain ⟨q22, rfl, hq22, tq22⟩ := p18_0
  refine W.eq (g2 := F0 m 5 ls [.ref q22, .ref a0]) rfl ?_
  refine tr_geti Z.1 Z.2.2.2.1 S18.1 S18.2 hq22 tq22 rfl rfl (fun _ h => List.mem_cons_of_mem _ (List.mem_append_left _ (List.mem_append_left _ (List.mem_append_right _ h)))) 1 (by decide) rfl (hts _ (List.mem_of_getElem? (i := 1) rfl)) dX9_tell_5 (fun v23 ev23 lv23 uv23 => ?_)
  obtain ⟨v24, ev24, tv24⟩ : ∃ v : Int32, Int32.ofInt (4) = v ∧ v.toInt = 4 := ⟨_, rfl, by decide +kernel⟩
  refine lv_iconst hx hb dX9_tell_8 ev24 ?_
  refine lv_imul hx hb dX9_tell_9 ?_
  refine lv_topi (fun v25 ev25 => ?_)
  have tv25 := nu_mulc (4) ev25 (by omega) (by omega) (by omega)
  refine tr_puti Z.1 Z.2.2.2.1 S18.1 S18.2 ha0 ta0 rfl rfl (fun _ h => List.mem_cons_of_mem _ (List.mem_append_left _ (List.mem_append_right _ h))) tyX9_ok nmX9 8 (by decide) rfl rfl rfl (hts _ (List.mem_of_getElem? (i := 2) rfl)) dX9_tell_10 (by omega) (by omega) (fun E26 H27 k28 W26 I26 P26 => ?_)
  have S26 : Now D TB cy (va_A (va_pl L E) sz) s L τ E26 H27 k28 := ⟨W26, I26⟩
  have F26 : Fr L τ (inW [(0, 0), (28, 0), (5, 0), (100, 0), (101, 0), (102, 0), (103, 0), (104, 0), (105, 0), (106, 0), (107, 0), (108, 0), (109, 0), (110, 0), (111, 0), (112, 0)]) E E26 := Fr.put F18 P26 ta0 rfl
  obtain ⟨v29, ev29, tv29⟩ : ∃ v : Int32, Int32.ofInt (0) = v ∧ v.toInt = 0 := ⟨_, rfl, by decide +kernel⟩
  refine lv_iconst hx hb dX9_tell_13 ev29 ?_
  refine lv_istore_n (lv' := [(1, .int v29), (0, .ref a0)]) hx hb dX9_tell_14 rfl hl (by decide) rfl (fun l30 hl31 => ?_)
  exact J15 _ v29 E26 H27 k28 l30 S26 F26 (by omega) (by omega) (fun k hk => ((fi_put P26 (Or.inr (fw_ne (by decide) hk))).trans ((p18_1 k (fw_sub (by decide) hk)).trans ((fun k hk => rfl) k hk)))) (Nat.lt_succ_self _) (lv_sub hl31 [1, 0] rfl)

set_option maxHeartbeats 4000000 in
set_option maxRecDepth 100000 in
theorem k_X9_law_vw (l : Launch) (D : va_G) (cy : Nat → ClassId) {L : List Nat} {τ : Nat → Ro} {E : Ec} (hI : Inv TB cy L τ E) {G : Sg} {a0 : Nat} (ha0 : a0 ∈ L) (ta0 : τ a0 = (0, 0)) (a1 : Int32) {qr : Nat} (hqr : qr ∈ L) (tqr : τ qr = (7, 0)) {qt : Nat} (hqt : qt ∈ L) (tqt : τ qt = (32, 0)) (hraw : ∀ b ∈ L, τ b ≠ (210, 0)) : CtL1i G l yX9_law wsX9_law { frames := 11, cells := 5, slots := 262, locals := 248 } D cy L τ E [.ref a0, .int a1] a0 (inW [(1, 1), (20, 1), (21, 1), (22, 1), (23, 1), (24, 1), (25, 1), (26, 1), (27, 1), (4, 0), (0, 0), (1, 0), (20, 0), (21, 0), (22, 0), (23, 0), (24, 0), (25, 0), (26, 0), (27, 0), (7, 0), (34, 0), (35, 0), (36, 0), (33, 0)]) 5 262 (fun (v : Int32) (L' : List Nat) (τ' : Nat → Ro) (E' : Ec) => τ' a0 = (0, 0) ∧ (-1 ≤ v.toInt ∧ v.toInt ≤ 7) ∧ ((0 ≤ a1.toInt ∧ a1.toInt ≤ (fi E qr 1).toInt ∧ (fi E' qr 1).toInt = 0 ∧ DidF (fi E' qr 4).toInt (fi E' qr 5).toInt (readI (mkB (fun i => (ai E qt i).toInt) a1.toInt.toNat) a1.toInt.toNat) ∧ (((fi E' qr 4).toInt ≠ 0 ∧ (fi E' a0 9).toInt = 2) ∨ ((fi E' qr 4).toInt = 0 ∧ (fi E' a0 9).toInt ≠ 2))) ∨ (¬ (0 ≤ a1.toInt ∧ a1.toInt ≤ (fi E qr 1).toInt) ∧ (fi E' qr 1).toInt = (fi E qr 1).toInt ∧ fi E' qr 4 = fi E qr 4 ∧ (∀ i : Nat, ai E' qt i = ai E qt i) ∧ (fi E' a0 9).toInt ≠ 2))) := by
  generalize hP : (fun (v : Int32) (L' : List Nat) (τ' : Nat → Ro) (E' : Ec) => τ' a0 = (0, 0) ∧ (-1 ≤ v.toInt ∧ v.toInt ≤ 7) ∧ ((0 ≤ a1.toInt ∧ a1.toInt ≤ (fi E qr 1).toInt ∧ (fi E' qr 1).toInt = 0 ∧ DidF (fi E' qr 4).toInt (fi E' qr 5).toInt (readI (mkB (fun i => (ai E qt i).toInt) a1.toInt.toNat) a1.toInt.toNat) ∧ (((fi E' qr 4).toInt ≠ 0 ∧ (fi E' a0 9).toInt = 2) ∨ ((fi E' qr 4).toInt = 0 ∧ (fi E' a0 9).toInt ≠ 2))) ∨ (¬ (0 ≤ a1.toInt ∧ a1.toInt ≤ (fi E qr 1).toInt) ∧ (fi E' qr 1).toInt = (fi E qr 1).toInt ∧ fi E' qr 4 = fi E qr 4 ∧ (∀ i : Nat, ai E' qt i = ai E qt i) ∧ (fi E' a0 9).toInt ≠ 2))) = P
  intro sz
  refine staL (cc := cX9_law) (maxL := 3) hI (by decide) rfl (Nat.le_of_ble_eq_true rfl) (fun p e s m args below meth c ls hsz hnm Z SZ S0 hl => ?_)
  have hx := Z.1.1
  have hb := Z.1.2.1
  have hts := Z.1.2.2.2.2
  have F0_ : Fr L τ (inW [(1, 1), (20, 1), (21, 1), (22, 1), (23, 1), (24, 1), (25, 1), (26, 1), (27, 1), (4, 0), (0, 0), (1, 0), (20, 0), (21, 0), (22, 0), (23, 0), (24, 0), (25, 0), (26, 0), (27, 0), (7, 0), (34, 0), (35, 0), (36, 0), (33, 0)]) E E := Fr.refl
  have hl : lv_has ls 3 [(0, .ref a0), (1, .int a1)] := hl
  generalize hQ : MQ below _ args s 5 262 _ = QQ
  have kz_qr_1 := fi_rng (k := 1) hI hqr tqr rfl rfl
  refine lv_iload_n hx hb dX9_law_0 rfl (lv_at hl 1 rfl) ?_
  obtain ⟨v1, ev1, tv1⟩ : ∃ v : Int32, Int32.ofInt (0) = v ∧ v.toInt = 0 := ⟨_, rfl, by decide +kernel⟩
  refine lv_iconst hx hb dX9_law_1 ev1 ?_
  refine lv_aload_n hx hb dX9_law_2 rfl (lv_at hl 0 rfl) ?_
  refine tr_getr Z.1 Z.2.2.2.1 S0.1 S0.2 ha0 ta0 rfl rfl (fun _ h => List.mem_cons_of_mem _ (List.mem_append_left _ (List.mem_append_left _ (List.mem_append_left _ (List.mem_append_left _ (List.mem_append_right _ h)))))) 4 (by decide) rfl (hts _ (List.mem_of_getElem? (i := 1) rfl)) dX9_law_3 (fun q2 eq2 hq2 tq2 => ?_)
  have tq2 : τ q2 = (7, 0) := tq2
  have uq2 : qr = q2 := S0.2.2.2.2 _ hqr _ hq2 (tqr.trans tq2.symm) (by rw [tqr]; rfl)
  subst uq2
  refine tr_geti Z.1 Z.2.2.2.1 S0.1 S0.2 hqr tqr rfl rfl (fun _ h => List.mem_cons_of_mem _ (List.mem_append_left _ (List.mem_append_left _ (List.mem_append_left _ (List.mem_append_right _ h))))) 1 (by decide) rfl (hts _ (List.mem_of_getElem? (i := 2) rfl)) dX9_law_6 (fun v3 ev3 lv3 uv3 => ?_)
  have wv3 : v3 = (fi E qr 1) := ev3.symm.trans rfl
  have xv3 : v3.toInt = (fi E qr 1).toInt := by rw [wv3]
  refine tc_si Z.1 Z.2.2.2.1 Z.2.2.2.2.1 Z.2.2.2.2.2 S0.1 (k_X9_within l D cy S0.2 a1 v1 v3) (va_cwS 3 hts gX9_law_X9_within rfl rfl rfl (by decide +kernel) ⟨Nat.le_of_ble_eq_true rfl, Nat.le_of_ble_eq_true rfl⟩) rfl hl.1 rfl (Nat.le_of_ble_eq_true rfl) dX9_law_9 ⟨Nat.zero_le _, Nat.zero_le _⟩ (fun v7 E4 H5 k6 W4 I4 G4 p4 => ?_)
  obtain ⟨q4, p4_0, p4_1, p4_2⟩ := p4
  have q4 := q4.symm
  subst q4
  have S4 : Now D TB cy (va_A (va_pl L E) sz) s L τ E H5 k6 := ⟨W4, I4⟩
  refine lv_if_ne (tgt := 21) hx hb dX9_law_12 (by decide) (fun c8 => ?_) (fun c8 => ?_)
  · skip
    have tc8 := nu_ne c8
    have uc8 : (0 : Int32).toInt = 0 := rfl
    refine lv_aload_n hx hb dX9_law_21 rfl (lv_at hl 0 rfl) ?_
    refine tr_getr Z.1 Z.2.2.2.1 S4.1 S4.2 ha0 ta0 rfl rfl (fun _ h => List.mem_cons_of_mem _ (List.mem_append_left _ (List.mem_append_left _ (List.mem_append_left _ (List.mem_append_left _ (List.mem_append_right _ h)))))) 4 (by decide) rfl (hts _ (List.mem_of_getElem? (i := 1) rfl)) dX9_law_22 (fun q9 eq9 hq9 tq9 => ?_)
    have tq9 : τ q9 = (7, 0) := tq9
    have uq9 : qr = q9 := S4.2.2.2.2 _ hqr _ hq9 (tqr.trans tq9.symm) (by rw [tqr]; rfl)
    subst uq9
    refine lv_iload_n hx hb dX9_law_25 rfl (lv_at hl 1 rfl) ?_
    obtain ⟨qe, hqe, tqe⟩ := ref_of (k := 10) S4.2 hqr tqr rfl rfl
    have tqe : τ qe = (33, 0) := tqe
    obtain ⟨qs, hqs, tqs⟩ := ref_of (k := 13) S4.2 hqr tqr rfl rfl
    have tqs : τ qs = (36, 0) := tqs
    refine tc_Lq Z.1 Z.2.2.2.1 Z.2.2.2.2.1 Z.2.2.2.2.2 SZ S4 hqr tqr rfl rfl (k_X5_read_vr l D cy S4.2 hqr tqr a1 (by omega) hqe tqe hqs tqs hqt tqt hraw (by omega)) (cwV 1 hts gX9_law_X5_read rfl rfl rfl (by decide +kernel) ⟨Nat.le_of_ble_eq_true rfl, Nat.le_of_ble_eq_true rfl⟩) rfl hl.1 rfl (Nat.le_of_ble_eq_true rfl) dX9_law_26 ⟨Nat.le_of_ble_eq_true rfl, Nat.le_of_ble_eq_true rfl⟩ (fun v1 L τ E H1 k1 S1 G1 p1 => ?_)
    obtain ⟨p1a, p1b, p1c, p1d, p1e⟩ := p1
    have GG := fun (E9 : Ec) (h : Fr L τ (inW [(1, 1), (20, 1), (21, 1), (22, 1), (23, 1), (24, 1), (25, 1), (26, 1), (27, 1), (4, 0), (0, 0), (1, 0), (20, 0), (21, 0), (22, 0), (23, 0), (24, 0), (25, 0), (26, 0), (27, 0)]) E E9) => GL.cont (y := a0) F0_ G1 p1a tqr rfl (inW_mono (by decide)) (h.mono (inW_mono (by decide)))
    have ta0 : τ a0 = (0, 0) := (G1.2.1 a0 ha0 (ne_ro ta0 tqr (by decide))).trans ta0
    have ha0 : a0 ∈ L := G1.1 _ ha0
    have hqr : qr ∈ L := G1.1 _ hqr
    have F0_ : Fr L τ (inW [(1, 1), (20, 1), (21, 1), (22, 1), (23, 1), (24, 1), (25, 1), (26, 1), (27, 1), (4, 0), (0, 0), (1, 0), (20, 0), (21, 0), (22, 0), (23, 0), (24, 0), (25, 0), (26, 0), (27, 0)]) E E := Fr.refl
    cases v1 with
    | none =>
      refine W.eq (g2 := F0 m 29 ls [.null]) rfl ?_
      refine lv_astore_nN (lv' := [(2, .null), (0, .ref a0), (1, .int a1)]) hx hb dX9_law_29 rfl hl (by decide) rfl (fun l10 hl11 => ?_)
      refine lv_aload_nN hx hb dX9_law_30 rfl (lv_at hl11 0 rfl) ?_
      refine lv_ifnonnullN hx hb dX9_law_31 ?_
      refine lv_aload_n hx hb dX9_law_34 rfl (lv_at hl11 1 rfl) ?_
      obtain ⟨v12, ev12, tv12⟩ : ∃ v : Int32, Int32.ofInt (2) = v ∧ v.toInt = 2 := ⟨_, rfl, by decide +kernel⟩
      refine lv_iconst hx hb dX9_law_35 ev12 ?_
      refine tc_vi Z.1 Z.2.2.2.1 Z.2.2.2.2.1 Z.2.2.2.2.2 S1.1 S1.2 ha0 ta0 rfl rfl (k_X9_refuse_vw l D cy S1.2 ha0 ta0 v12) (cwV 1 hts gX9_law_X9_refuse rfl rfl rfl (by decide +kernel) ⟨Nat.le_of_ble_eq_true rfl, Nat.le_of_ble_eq_true rfl⟩) rfl hl11.1 rfl (Nat.le_of_ble_eq_true rfl) dX9_law_36 ⟨Nat.le_of_ble_eq_true rfl, Nat.le_of_ble_eq_true rfl⟩ (fun v16 E13 H14 k15 W13 I13 G13 p13 => ?_)
      obtain ⟨p13_0, p13_1, p13_2, p13_3⟩ := p13
      have S13 : Now D TB cy _ s L τ E13 H14 k15 := ⟨W13, I13⟩
      have F13 : Fr L τ (inW [(1, 1), (20, 1), (21, 1), (22, 1), (23, 1), (24, 1), (25, 1), (26, 1), (27, 1), (4, 0), (0, 0), (1, 0), (20, 0), (21, 0), (22, 0), (23, 0), (24, 0), (25, 0), (26, 0), (27, 0)]) E E13 := F0_.trans (G13.mono (inW_mono (by decide)))
      have kz13_9 := fi_rng (k := 9) S13.2 ha0 ta0 rfl rfl
      rw [← hQ]
      exact en_iL (v := v16) (post := P) Z S13 (GG _ F13) (by rw [← hP]; exact ⟨ta0, ⟨by omega, by omega⟩, Or.inl ⟨by omega, by omega, by rw [fi_cell (k := 1) (F13 qr hqr (by rw [p1a]; rfl))]; exact p1b, (by rw [fi_cell (k := 4) (F13 qr hqr (by rw [p1a]; rfl)), fi_cell (k := 5) (F13 qr hqr (by rw [p1a]; rfl))]; exact p1d), Or.inl ⟨by rw [fi_cell (k := 4) (F13 qr hqr (by rw [p1a]; rfl))]; rcases p1e with q | q; exact q.2; exact absurd rfl q.1, by omega⟩⟩⟩) dX9_law_39
    | some q17 =>
      obtain ⟨hq17, gq17⟩ := p1c q17 rfl
      obtain ⟨nq17, tq17⟩ : ∃ n : Nat, τ q17 = (10, n) := ⟨(τ q17).2, by rw [← gq17]⟩
      refine W.eq (g2 := F0 m 29 ls [.ref q17]) rfl ?_
      refine lv_astore_n (lv' := [(2, .ref q17), (0, .ref a0), (1, .int a1)]) hx hb dX9_law_29 rfl hl (by decide) rfl (fun l18 hl19 => ?_)
      refine lv_aload_n hx hb dX9_law_30 rfl (lv_at hl19 0 rfl) ?_
      refine lv_ifnonnull (tgt := 40) hx hb dX9_law_31 (by decide) ?_
      refine lv_aload_n hx hb dX9_law_40 rfl (lv_at hl19 1 rfl) ?_
      refine tr_getr Z.1 Z.2.2.2.1 S1.1 S1.2 ha0 ta0 rfl rfl (fun _ h => List.mem_cons_of_mem _ (List.mem_append_left _ (List.mem_append_left _ (List.mem_append_left _ (List.mem_append_left _ (List.mem_append_right _ h)))))) 0 (by decide) rfl (hts _ (List.mem_of_getElem? (i := 3) rfl)) dX9_law_41 (fun q20 eq20 hq20 tq20 => ?_)
      have tq20 : τ q20 = (1, 0) := tq20
      refine tr_geti Z.1 Z.2.2.2.1 S1.1 S1.2 hq20 tq20 rfl rfl (fun _ h => List.mem_cons_of_mem _ (List.mem_append_left _ (List.mem_append_left _ (List.mem_append_right _ h)))) 7 (by decide) rfl (hts _ (List.mem_of_getElem? (i := 4) rfl)) dX9_law_44 (fun v21 ev21 lv21 uv21 => ?_)
      obtain ⟨v22, ev22, tv22⟩ : ∃ v : Int32, (Int8.ofInt (8)).toInt32 = v ∧ v.toInt = 8 := ⟨_, rfl, by decide +kernel⟩
      refine lv_bipush hx hb dX9_law_47 ev22 ?_
      refine lv_icmp_lt (tgt := 58) hx hb dX9_law_49 (by decide) (fun c23 => ?_) (fun c23 => ?_)
      · skip
        have tc23 := nu_lt c23
        refine lv_aload_n hx hb dX9_law_58 rfl (lv_at hl19 1 rfl) ?_
        refine tc_vv Z.1 Z.2.2.2.1 Z.2.2.2.2.1 Z.2.2.2.2.2 S1.1 S1.2 ha0 ta0 rfl rfl (k_X9_beginAct_vw l D cy S1.2 ha0 ta0) (cwV 0 hts gX9_law_X9_beginAct rfl rfl rfl (by decide +kernel) ⟨Nat.le_of_ble_eq_true rfl, Nat.le_of_ble_eq_true rfl⟩) rfl hl19.1 rfl (Nat.le_of_ble_eq_true rfl) dX9_law_59 ⟨Nat.le_of_ble_eq_true rfl, Nat.le_of_ble_eq_true rfl⟩ (fun E24 H25 k26 W24 I24 G24 p24 => ?_)
        obtain ⟨p24_0, p24_1⟩ := p24
        have S24 : Now D TB cy _ s L τ E24 H25 k26 := ⟨W24, I24⟩
        have F24 : Fr L τ (inW [(1, 1), (20, 1), (21, 1), (22, 1), (23, 1), (24, 1), (25, 1), (26, 1), (27, 1), (4, 0), (0, 0), (1, 0), (20, 0), (21, 0), (22, 0), (23, 0), (24, 0), (25, 0), (26, 0), (27, 0)]) E E24 := F0_.trans (G24.mono (inW_mono (by decide)))
        have kz24_9 := fi_rng (k := 9) S24.2 ha0 ta0 rfl rfl
        refine lv_aload_n hx hb dX9_law_62 rfl (lv_at hl19 1 rfl) ?_
        refine tr_getr Z.1 Z.2.2.2.1 S24.1 S24.2 ha0 ta0 rfl rfl (fun _ h => List.mem_cons_of_mem _ (List.mem_append_left _ (List.mem_append_left _ (List.mem_append_left _ (List.mem_append_left _ (List.mem_append_right _ h)))))) 0 (by decide) rfl (hts _ (List.mem_of_getElem? (i := 3) rfl)) dX9_law_63 (fun q28 eq28 hq28 tq28 => ?_)
        have tq28 : τ q28 = (1, 0) := tq28
        have uq28 : q20 = q28 := S24.2.2.2.2 _ hq20 _ hq28 (tq20.trans tq28.symm) (by rw [tq20]; rfl)
        subst uq28
        refine tr_getr Z.1 Z.2.2.2.1 S24.1 S24.2 hq20 tq20 rfl rfl (fun _ h => List.mem_cons_of_mem _ (List.mem_append_left _ (List.mem_append_left _ (List.mem_append_right _ h)))) 15 (by decide) rfl (hts _ (List.mem_of_getElem? (i := 5) rfl)) dX9_law_66 (fun q29 eq29 hq29 tq29 => ?_)
        have tq29 : τ q29 = (27, 0) := tq29
        refine lv_aload_n hx hb dX9_law_69 rfl (lv_at hl19 1 rfl) ?_
        refine tr_getr Z.1 Z.2.2.2.1 S24.1 S24.2 ha0 ta0 rfl rfl (fun _ h => List.mem_cons_of_mem _ (List.mem_append_left _ (List.mem_append_left _ (List.mem_append_left _ (List.mem_append_left _ (List.mem_append_right _ h)))))) 0 (by decide) rfl (hts _ (List.mem_of_getElem? (i := 3) rfl)) dX9_law_70 (fun q30 eq30 hq30 tq30 => ?_)
        have tq30 : τ q30 = (1, 0) := tq30
        have uq30 : q20 = q30 := S24.2.2.2.2 _ hq20 _ hq30 (tq20.trans tq30.symm) (by rw [tq20]; rfl)
        subst uq30
        refine tr_geti Z.1 Z.2.2.2.1 S24.1 S24.2 hq20 tq20 rfl rfl (fun _ h => List.mem_cons_of_mem _ (List.mem_append_left _ (List.mem_append_left _ (List.mem_append_right _ h)))) 7 (by decide) rfl (hts _ (List.mem_of_getElem? (i := 4) rfl)) dX9_law_73 (fun v31 ev31 lv31 uv31 => ?_)
        have wv31 : v31 = v21 := ev31.symm.trans ((fi_fr (k := 7) G24 hq20 (by rw [tq20]; rfl)).trans ev21)
        have xv31 : v31.toInt = v21.toInt := by rw [wv31]
        refine lv_aload_n hx hb dX9_law_76 rfl (lv_at hl19 0 rfl) ?_
        have hv32 : ∀ y : Nat, (some q17) = some y → y ∈ L ∧ (τ y).1 = 10 := (fun y h => by cases h; exact ⟨hq17, by rw [tq17]⟩)
        refine tr_aast (v := (some q17)) (ci := 1) Z.1 Z.2.2.2.1 S24.1 S24.2 hq29 tq29 rfl rfl rfl (law_ob hv32) (law_ok hv32) (by omega) (by omega) dX9_law_77 (fun E32 H33 k34 W32 I32 P32 => ?_)
        have S32 : Now D TB cy _ s L τ E32 H33 k34 := ⟨W32, I32⟩
        have F32 : Fr L τ (inW [(1, 1), (20, 1), (21, 1), (22, 1), (23, 1), (24, 1), (25, 1), (26, 1), (27, 1), (4, 0), (0, 0), (1, 0), (20, 0), (21, 0), (22, 0), (23, 0), (24, 0), (25, 0), (26, 0), (27, 0)]) E E32 := Fr.seq F24 P32 tq29 rfl
        refine lv_aload_n hx hb dX9_law_78 rfl (lv_at hl19 1 rfl) ?_
        refine tr_getr Z.1 Z.2.2.2.1 S32.1 S32.2 ha0 ta0 rfl rfl (fun _ h => List.mem_cons_of_mem _ (List.mem_append_left _ (List.mem_append_left _ (List.mem_append_left _ (List.mem_append_left _ (List.mem_append_right _ h)))))) 0 (by decide) rfl (hts _ (List.mem_of_getElem? (i := 3) rfl)) dX9_law_79 (fun q35 eq35 hq35 tq35 => ?_)
        have tq35 : τ q35 = (1, 0) := tq35
        have uq35 : q20 = q35 := S32.2.2.2.2 _ hq20 _ hq35 (tq20.trans tq35.symm) (by rw [tq20]; rfl)
        subst uq35
        refine lv_dup hx hb dX9_law_82 rfl ?_
        refine tr_geti Z.1 Z.2.2.2.1 S32.1 S32.2 hq20 tq20 rfl rfl (fun _ h => List.mem_cons_of_mem _ (List.mem_append_left _ (List.mem_append_left _ (List.mem_append_right _ h)))) 7 (by decide) rfl (hts _ (List.mem_of_getElem? (i := 4) rfl)) dX9_law_83 (fun v36 ev36 lv36 uv36 => ?_)
        have wv36 : v36 = v31 := ev36.symm.trans ((fi_seq (k := 7) P32 (ne_ro tq20 tq29 (by decide))).trans ev31)
        have xv36 : v36.toInt = v31.toInt := by rw [wv36]
        obtain ⟨v37, ev37, tv37⟩ : ∃ v : Int32, Int32.ofInt (1) = v ∧ v.toInt = 1 := ⟨_, rfl, by decide +kernel⟩
        refine lv_iconst hx hb dX9_law_86 ev37 ?_
        refine lv_iadd hx hb dX9_law_87 ?_
        refine lv_topi (fun v38 ev38 => ?_)
        have tv38 := nu_add ev38 (by omega) (by omega)
        refine tr_puti Z.1 Z.2.2.2.1 S32.1 S32.2 hq20 tq20 rfl rfl (fun _ h => List.mem_cons_of_mem _ (List.mem_append_left _ (List.mem_append_left _ (List.mem_append_right _ h)))) tyX4_ok nmX4 7 (by decide) rfl rfl rfl (hts _ (List.mem_of_getElem? (i := 4) rfl)) dX9_law_88 (by omega) (by omega) (fun E39 H40 k41 W39 I39 P39 => ?_)
        have S39 : Now D TB cy _ s L τ E39 H40 k41 := ⟨W39, I39⟩
        have F39 : Fr L τ (inW [(1, 1), (20, 1), (21, 1), (22, 1), (23, 1), (24, 1), (25, 1), (26, 1), (27, 1), (4, 0), (0, 0), (1, 0), (20, 0), (21, 0), (22, 0), (23, 0), (24, 0), (25, 0), (26, 0), (27, 0)]) E E39 := Fr.put F32 P39 tq20 rfl
        refine lv_aload_n hx hb dX9_law_91 rfl (lv_at hl19 1 rfl) ?_
        refine tr_getr Z.1 Z.2.2.2.1 S39.1 S39.2 ha0 ta0 rfl rfl (fun _ h => List.mem_cons_of_mem _ (List.mem_append_left _ (List.mem_append_left _ (List.mem_append_left _ (List.mem_append_left _ (List.mem_append_right _ h)))))) 0 (by decide) rfl (hts _ (List.mem_of_getElem? (i := 3) rfl)) dX9_law_92 (fun q42 eq42 hq42 tq42 => ?_)
        have tq42 : τ q42 = (1, 0) := tq42
        have uq42 : q20 = q42 := S39.2.2.2.2 _ hq20 _ hq42 (tq20.trans tq42.symm) (by rw [tq20]; rfl)
        subst uq42
        refine tr_geti Z.1 Z.2.2.2.1 S39.1 S39.2 hq20 tq20 rfl rfl (fun _ h => List.mem_cons_of_mem _ (List.mem_append_left _ (List.mem_append_left _ (List.mem_append_right _ h)))) 7 (by decide) rfl (hts _ (List.mem_of_getElem? (i := 4) rfl)) dX9_law_95 (fun v43 ev43 lv43 uv43 => ?_)
        have wv43 : v43 = v38 := ev43.symm.trans (fi_at P39)
        have xv43 : v43.toInt = v38.toInt := by rw [wv43]
        obtain ⟨v44, ev44, tv44⟩ : ∃ v : Int32, Int32.ofInt (1) = v ∧ v.toInt = 1 := ⟨_, rfl, by decide +kernel⟩
        refine lv_iconst hx hb dX9_law_98 ev44 ?_
        refine lv_isub hx hb dX9_law_99 ?_
        refine lv_topi (fun v45 ev45 => ?_)
        have tv45 := nu_sub ev45 (by omega) (by omega)
        rw [← hQ]
        exact en_iL (v := v45) (post := P) Z S39 (GG _ F39) (by rw [← hP]; exact ⟨ta0, ⟨by omega, by omega⟩, Or.inl ⟨by omega, by omega, by rw [fi_cell (k := 1) (F39 qr hqr (by rw [p1a]; rfl))]; exact p1b, (by rw [fi_cell (k := 4) (F39 qr hqr (by rw [p1a]; rfl)), fi_cell (k := 5) (F39 qr hqr (by rw [p1a]; rfl))]; exact p1d), Or.inr ⟨by rw [fi_cell (k := 4) (F39 qr hqr (by rw [p1a]; rfl))]; rcases p1e with q | q; exact nomatch q.1; exact q.2, by rw [((fi_put (k := 9) P39 (Or.inl (ne_ro ta0 tq20 (by decide)))).trans ((fi_seq (k := 9) P32 (ne_ro ta0 tq29 (by decide))).trans rfl))]; omega⟩⟩⟩) dX9_law_100
      · skip
        have tc23 := nu_nlt c23
        refine lv_aload_n hx hb dX9_law_52 rfl (lv_at hl19 1 rfl) ?_
        obtain ⟨v46, ev46, tv46⟩ : ∃ v : Int32, Int32.ofInt (3) = v ∧ v.toInt = 3 := ⟨_, rfl, by decide +kernel⟩
        refine lv_iconst hx hb dX9_law_53 ev46 ?_
        refine tc_vi Z.1 Z.2.2.2.1 Z.2.2.2.2.1 Z.2.2.2.2.2 S1.1 S1.2 ha0 ta0 rfl rfl (k_X9_refuse_vw l D cy S1.2 ha0 ta0 v46) (cwV 1 hts gX9_law_X9_refuse rfl rfl rfl (by decide +kernel) ⟨Nat.le_of_ble_eq_true rfl, Nat.le_of_ble_eq_true rfl⟩) rfl hl19.1 rfl (Nat.le_of_ble_eq_true rfl) dX9_law_54 ⟨Nat.le_of_ble_eq_true rfl, Nat.le_of_ble_eq_true rfl⟩ (fun v50 E47 H48 k49 W47 I47 G47 p47 => ?_)
        obtain ⟨p47_0, p47_1, p47_2, p47_3⟩ := p47
        have S47 : Now D TB cy _ s L τ E47 H48 k49 := ⟨W47, I47⟩
        have F47 : Fr L τ (inW [(1, 1), (20, 1), (21, 1), (22, 1), (23, 1), (24, 1), (25, 1), (26, 1), (27, 1), (4, 0), (0, 0), (1, 0), (20, 0), (21, 0), (22, 0), (23, 0), (24, 0), (25, 0), (26, 0), (27, 0)]) E E47 := F0_.trans (G47.mono (inW_mono (by decide)))
        have kz47_9 := fi_rng (k := 9) S47.2 ha0 ta0 rfl rfl
        rw [← hQ]
        exact en_iL (v := v50) (post := P) Z S47 (GG _ F47) (by rw [← hP]; exact ⟨ta0, ⟨by omega, by omega⟩, Or.inl ⟨by omega, by omega, by rw [fi_cell (k := 1) (F47 qr hqr (by rw [p1a]; rfl))]; exact p1b, (by rw [fi_cell (k := 4) (F47 qr hqr (by rw [p1a]; rfl)), fi_cell (k := 5) (F47 qr hqr (by rw [p1a]; rfl))]; exact p1d), Or.inr ⟨by rw [fi_cell (k := 4) (F47 qr hqr (by rw [p1a]; rfl))]; rcases p1e with q | q; exact nomatch q.1; exact q.2, by omega⟩⟩⟩) dX9_law_57
  · skip
    have tc8 := nu_eq c8
    have uc8 : (0 : Int32).toInt = 0 := rfl
    refine lv_aload_n hx hb dX9_law_15 rfl (lv_at hl 0 rfl) ?_
    obtain ⟨v51, ev51, tv51⟩ : ∃ v : Int32, Int32.ofInt (1) = v ∧ v.toInt = 1 := ⟨_, rfl, by decide +kernel⟩
    refine lv_iconst hx hb dX9_law_16 ev51 ?_
    refine tc_vi Z.1 Z.2.2.2.1 Z.2.2.2.2.1 Z.2.2.2.2.2 S4.1 S4.2 ha0 ta0 rfl rfl (k_X9_refuse_vw l D cy S4.2 ha0 ta0 v51) (cwV 1 hts gX9_law_X9_refuse rfl rfl rfl (by decide +kernel) ⟨Nat.le_of_ble_eq_true rfl, Nat.le_of_ble_eq_true rfl⟩) rfl hl.1 rfl (Nat.le_of_ble_eq_true rfl) dX9_law_17 ⟨Nat.zero_le _, Nat.zero_le _⟩ (fun v55 E52 H53 k54 W52 I52 G52 p52 => ?_)
    obtain ⟨p52_0, p52_1, p52_2, p52_3⟩ := p52
    have S52 : Now D TB cy _ s L τ E52 H53 k54 := ⟨W52, I52⟩
    have F52 : Fr L τ (inW [(1, 1), (20, 1), (21, 1), (22, 1), (23, 1), (24, 1), (25, 1), (26, 1), (27, 1), (4, 0), (0, 0), (1, 0), (20, 0), (21, 0), (22, 0), (23, 0), (24, 0), (25, 0), (26, 0), (27, 0), (7, 0), (34, 0), (35, 0), (36, 0), (33, 0)]) E E52 := F0_.trans (G52.mono (inW_mono (by decide)))
    have kz52_9 := fi_rng (k := 9) S52.2 ha0 ta0 rfl rfl
    rw [← hQ]
    refine W.widen (k := 5) (n := 262) (Nat.le_of_ble_eq_true rfl) (Nat.le_of_ble_eq_true rfl) ?_
    exact en_iL (v := v55) (post := P) Z S52 (GL.fr F52) (by rw [← hP]; exact ⟨ta0, ⟨by omega, by omega⟩, Or.inr ⟨by omega, by have hh := congrArg Int32.toInt (((fi_fr (k := 1) G52 hqr (by rw [tqr]; rfl)).trans ev3)); omega, (fi_fr (k := 4) G52 hqr (by rw [tqr]; rfl)), (fun i => (ai_fr G52 hqt (by rw [tqt]; rfl))), by omega⟩⟩) dX9_law_20

