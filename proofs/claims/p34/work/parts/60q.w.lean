set_option maxHeartbeats 4000000 in
set_option maxRecDepth 100000 in
theorem k_X10_no_vw (l : Launch) (D : va_G) (cy : Nat → ClassId) {L : List Nat} {τ : Nat → Ro} {E : Ec} (hI : Inv TB cy L τ E) {a0 : Nat} (ha0 : a0 ∈ L) (ta0 : τ a0 = (11, 0)) (a1 : Int32) : CtI l yX10_no wsX10_no { frames := 0, cells := 0, slots := 0, locals := 0 } D TB cy L τ E [.ref a0, .int a1] (inW [(11, 0)]) (fun r E' => ((fi E' a0 3).toInt = a1.toInt) ∧ -1 ≤ r.toInt ∧ r.toInt ≤ -1 ∧ (∀ k : Nat, k ∉ ([3, 6] : List Nat) → fi E' a0 k = fi E a0 k)) := by
  intro sz
  refine sta (cc := cX10_no) (maxL := 2) hI (by decide) rfl (Nat.le_of_ble_eq_true rfl) (fun p e s m args below meth c ls hsz Z S0 hl => ?_)
  have hx := Z.1.1
  have hb := Z.1.2.1
  have hts := Z.1.2.2.2.2
  have F0_ : Fr L τ (inW [(11, 0)]) E E := Fr.refl
  have hl : lv_has ls 2 [(0, .ref a0), (1, .int a1)] := hl
  generalize hQ : MQ below _ args s 0 0 _ = QQ
  refine lv_aload_n hx hb dX10_no_0 rfl (lv_at hl 0 rfl) ?_
  refine lv_iload_n hx hb dX10_no_1 rfl (lv_at hl 1 rfl) ?_
  refine tr_puti Z.1 Z.2.2.2.1 S0.1 S0.2 ha0 ta0 rfl rfl (fun _ h => List.mem_cons_of_mem _ (List.mem_append_right _ h)) tyX10_ok nmX10 3 (by decide) rfl rfl rfl (hts _ (List.mem_of_getElem? (i := 1) rfl)) dX10_no_2 (by have := fb_rng a1; omega) (by have := fb_rng a1; omega) (fun E1 H2 k3 W1 I1 P1 => ?_)
  have S1 : Now D TB cy (va_A (va_pl L E) sz) s L τ E1 H2 k3 := ⟨W1, I1⟩
  have F1 : Fr L τ (inW [(11, 0)]) E E1 := Fr.put F0_ P1 ta0 rfl
  refine lv_aload_n hx hb dX10_no_5 rfl (lv_at hl 0 rfl) ?_
  obtain ⟨v4, ev4, tv4⟩ : ∃ v : Int32, Int32.ofInt (-1) = v ∧ v.toInt = -1 := ⟨_, rfl, by decide +kernel⟩
  refine lv_iconst hx hb dX10_no_6 ev4 ?_
  refine tr_puti Z.1 Z.2.2.2.1 S1.1 S1.2 ha0 ta0 rfl rfl (fun _ h => List.mem_cons_of_mem _ (List.mem_append_right _ h)) tyX10_ok nmX10 6 (by decide) rfl rfl rfl (hts _ (List.mem_of_getElem? (i := 2) rfl)) dX10_no_7 (by have := fb_rng v4; omega) (by have := fb_rng v4; omega) (fun E5 H6 k7 W5 I5 P5 => ?_)
  have S5 : Now D TB cy (va_A (va_pl L E) sz) s L τ E5 H6 k7 := ⟨W5, I5⟩
  have F5 : Fr L τ (inW [(11, 0)]) E E5 := Fr.put F1 P5 ta0 rfl
  obtain ⟨v8, ev8, tv8⟩ : ∃ v : Int32, Int32.ofInt (-1) = v ∧ v.toInt = -1 := ⟨_, rfl, by decide +kernel⟩
  refine lv_iconst hx hb dX10_no_10 ev8 ?_
  rw [← hQ]
  exact en_i Z S5 F5 ⟨(by rw [((fi_put (k := 3) P5 (Or.inr (by decide))).trans (fi_at P1))]; first | done | omega), (by omega), (by omega), (fun k hk => ((fi_put P5 (Or.inr (fw_ne (by decide) hk))).trans ((fi_put P1 (Or.inr (fw_ne (by decide) hk))).trans ((fun k hk => rfl) k hk))))⟩ dX10_no_11

set_option maxHeartbeats 4000000 in
set_option maxRecDepth 100000 in
theorem k_X10_not_vw (l : Launch) (D : va_G) (cy : Nat → ClassId) {L : List Nat} {τ : Nat → Ro} {E : Ec} (hI : Inv TB cy L τ E) {a0 : Nat} (ha0 : a0 ∈ L) (ta0 : τ a0 = (11, 0)) (a1 : Int32) : CtI l yX10_not wsX10_not { frames := 0, cells := 0, slots := 0, locals := 0 } D TB cy L τ E [.ref a0, .int a1] (inW [(11, 0)]) (fun r E' => ((fi E' a0 3).toInt = a1.toInt) ∧ 0 ≤ r.toInt ∧ r.toInt ≤ 0 ∧ (∀ k : Nat, k ∉ ([3, 6] : List Nat) → fi E' a0 k = fi E a0 k)) := by
  intro sz
  refine sta (cc := cX10_not) (maxL := 2) hI (by decide) rfl (Nat.le_of_ble_eq_true rfl) (fun p e s m args below meth c ls hsz Z S0 hl => ?_)
  have hx := Z.1.1
  have hb := Z.1.2.1
  have hts := Z.1.2.2.2.2
  have F0_ : Fr L τ (inW [(11, 0)]) E E := Fr.refl
  have hl : lv_has ls 2 [(0, .ref a0), (1, .int a1)] := hl
  generalize hQ : MQ below _ args s 0 0 _ = QQ
  refine lv_aload_n hx hb dX10_not_0 rfl (lv_at hl 0 rfl) ?_
  refine lv_iload_n hx hb dX10_not_1 rfl (lv_at hl 1 rfl) ?_
  refine tr_puti Z.1 Z.2.2.2.1 S0.1 S0.2 ha0 ta0 rfl rfl (fun _ h => List.mem_cons_of_mem _ (List.mem_append_right _ h)) tyX10_ok nmX10 3 (by decide) rfl rfl rfl (hts _ (List.mem_of_getElem? (i := 1) rfl)) dX10_not_2 (by have := fb_rng a1; omega) (by have := fb_rng a1; omega) (fun E1 H2 k3 W1 I1 P1 => ?_)
  have S1 : Now D TB cy (va_A (va_pl L E) sz) s L τ E1 H2 k3 := ⟨W1, I1⟩
  have F1 : Fr L τ (inW [(11, 0)]) E E1 := Fr.put F0_ P1 ta0 rfl
  refine lv_aload_n hx hb dX10_not_5 rfl (lv_at hl 0 rfl) ?_
  obtain ⟨v4, ev4, tv4⟩ : ∃ v : Int32, Int32.ofInt (-1) = v ∧ v.toInt = -1 := ⟨_, rfl, by decide +kernel⟩
  refine lv_iconst hx hb dX10_not_6 ev4 ?_
  refine tr_puti Z.1 Z.2.2.2.1 S1.1 S1.2 ha0 ta0 rfl rfl (fun _ h => List.mem_cons_of_mem _ (List.mem_append_right _ h)) tyX10_ok nmX10 6 (by decide) rfl rfl rfl (hts _ (List.mem_of_getElem? (i := 2) rfl)) dX10_not_7 (by have := fb_rng v4; omega) (by have := fb_rng v4; omega) (fun E5 H6 k7 W5 I5 P5 => ?_)
  have S5 : Now D TB cy (va_A (va_pl L E) sz) s L τ E5 H6 k7 := ⟨W5, I5⟩
  have F5 : Fr L τ (inW [(11, 0)]) E E5 := Fr.put F1 P5 ta0 rfl
  obtain ⟨v8, ev8, tv8⟩ : ∃ v : Int32, Int32.ofInt (0) = v ∧ v.toInt = 0 := ⟨_, rfl, by decide +kernel⟩
  refine lv_iconst hx hb dX10_not_10 ev8 ?_
  rw [← hQ]
  exact en_z Z S5 F5 (zo v8 (by omega)) ⟨(by rw [((fi_put (k := 3) P5 (Or.inr (by decide))).trans (fi_at P1))]; first | done | omega), (by omega), (by omega), (fun k hk => ((fi_put P5 (Or.inr (fw_ne (by decide) hk))).trans ((fi_put P1 (Or.inr (fw_ne (by decide) hk))).trans ((fun k hk => rfl) k hk))))⟩ dX10_not_11

set_option maxHeartbeats 4000000 in
set_option maxRecDepth 100000 in
theorem k_X10_good_vw (l : Launch) (D : va_G) (cy : Nat → ClassId) {L : List Nat} {τ : Nat → Ro} {E : Ec} (hI : Inv TB cy L τ E) {a0 : Nat} (ha0 : a0 ∈ L) (ta0 : τ a0 = (11, 0)) : CtV l yX10_good wsX10_good { frames := 0, cells := 0, slots := 0, locals := 0 } D TB cy L τ E [.ref a0] (inW [(11, 0)]) (fun E' => ((fi E' a0 3).toInt = 0) ∧ (∀ k : Nat, k ∉ ([3, 6] : List Nat) → fi E' a0 k = fi E a0 k)) := by
  intro sz
  refine sta (cc := cX10_good) (maxL := 1) hI (by decide) rfl (Nat.le_of_ble_eq_true rfl) (fun p e s m args below meth c ls hsz Z S0 hl => ?_)
  have hx := Z.1.1
  have hb := Z.1.2.1
  have hts := Z.1.2.2.2.2
  have F0_ : Fr L τ (inW [(11, 0)]) E E := Fr.refl
  have hl : lv_has ls 1 [(0, .ref a0)] := hl
  generalize hQ : MQ below _ args s 0 0 _ = QQ
  refine lv_aload_n hx hb dX10_good_0 rfl (lv_at hl 0 rfl) ?_
  obtain ⟨v1, ev1, tv1⟩ : ∃ v : Int32, Int32.ofInt (0) = v ∧ v.toInt = 0 := ⟨_, rfl, by decide +kernel⟩
  refine lv_iconst hx hb dX10_good_1 ev1 ?_
  refine tr_puti Z.1 Z.2.2.2.1 S0.1 S0.2 ha0 ta0 rfl rfl (fun _ h => List.mem_cons_of_mem _ (List.mem_append_right _ h)) tyX10_ok nmX10 3 (by decide) rfl rfl rfl (hts _ (List.mem_of_getElem? (i := 1) rfl)) dX10_good_2 (by have := fb_rng v1; omega) (by have := fb_rng v1; omega) (fun E2 H3 k4 W2 I2 P2 => ?_)
  have S2 : Now D TB cy (va_A (va_pl L E) sz) s L τ E2 H3 k4 := ⟨W2, I2⟩
  have F2 : Fr L τ (inW [(11, 0)]) E E2 := Fr.put F0_ P2 ta0 rfl
  refine lv_aload_n hx hb dX10_good_5 rfl (lv_at hl 0 rfl) ?_
  obtain ⟨v5, ev5, tv5⟩ : ∃ v : Int32, Int32.ofInt (-1) = v ∧ v.toInt = -1 := ⟨_, rfl, by decide +kernel⟩
  refine lv_iconst hx hb dX10_good_6 ev5 ?_
  refine tr_puti Z.1 Z.2.2.2.1 S2.1 S2.2 ha0 ta0 rfl rfl (fun _ h => List.mem_cons_of_mem _ (List.mem_append_right _ h)) tyX10_ok nmX10 6 (by decide) rfl rfl rfl (hts _ (List.mem_of_getElem? (i := 2) rfl)) dX10_good_7 (by have := fb_rng v5; omega) (by have := fb_rng v5; omega) (fun E6 H7 k8 W6 I6 P6 => ?_)
  have S6 : Now D TB cy (va_A (va_pl L E) sz) s L τ E6 H7 k8 := ⟨W6, I6⟩
  have F6 : Fr L τ (inW [(11, 0)]) E E6 := Fr.put F2 P6 ta0 rfl
  rw [← hQ]
  exact en_v Z S6 F6 ⟨(by rw [((fi_put (k := 3) P6 (Or.inr (by decide))).trans (fi_at P2))]; first | done | omega), (fun k hk => ((fi_put P6 (Or.inr (fw_ne (by decide) hk))).trans ((fi_put P2 (Or.inr (fw_ne (by decide) hk))).trans ((fun k hk => rfl) k hk))))⟩ dX10_good_10

set_option maxHeartbeats 4000000 in
set_option maxRecDepth 100000 in
theorem k_X10_act_vw (l : Launch) (D : va_G) (cy : Nat → ClassId) {L : List Nat} {τ : Nat → Ro} {E : Ec} (hI : Inv TB cy L τ E) {a0 : Nat} (ha0 : a0 ∈ L) (ta0 : τ a0 = (11, 0)) (hC : Chain L τ E) : CtV l yX10_act wsX10_act { frames := 1, cells := 0, slots := 0, locals := 20 } D TB cy L τ E [.ref a0] (inW [(11, 0), (61, 0)]) (fun E' => (∀ q ∈ L, τ q = (60, 0) → ∀ p ∈ L, τ p = (61, 0) → ∀ T : Nat → Int32, Link (ai E q) T → ChW E' a0 p T) ∧ ((fi E' a0 3).toInt = 0) ∧ (∀ k : Nat, k ∉ ([2, 3, 6] : List Nat) → fi E' a0 k = fi E a0 k)) := by
  intro sz
  refine sta (cc := cX10_act) (maxL := 2) hI (by decide) rfl (Nat.le_of_ble_eq_true rfl) (fun p e s m args below meth c ls hsz Z S0 hl => ?_)
  have hx := Z.1.1
  have hb := Z.1.2.1
  have hts := Z.1.2.2.2.2
  have F0_ : Fr L τ (inW [(11, 0), (61, 0)]) E E := Fr.refl
  have hl : lv_has ls 2 [(0, .ref a0)] := hl
  generalize hQ : MQ below _ args s 0 0 _ = QQ
  obtain ⟨qn, hqn, tqn⟩ := ref_of (k := 0) hI ha0 ta0 rfl rfl
  have tqn : τ qn = (60, 0) := tqn
  obtain ⟨qp, hqp, tqp⟩ := ref_of (k := 1) hI ha0 ta0 rfl rfl
  have tqp : τ qp = (61, 0) := tqp
  have J52 : ∀ (n : Nat) (x1_52 : Int32) (E_52 : Ec) (H_52 : Heap) (k_52 : List Loc) (l_52 : Array Slot), Now D TB cy (va_A (va_pl L E) sz) s L τ E_52 H_52 k_52 → Fr L τ (inW [(11, 0), (61, 0)]) E E_52 → (0 ≤ x1_52.toInt) → (x1_52.toInt ≤ 53) → (ChW E_52 a0 qp (ai E qn)) → (∀ j : Nat, (j : Int) < x1_52.toInt → ai E_52 qp (53 * (fi E_52 a0 2).toInt.toNat + j) = ai E qn j) → (∀ k : Nat, k ∉ ([2, 3, 6] : List Nat) → fi E_52 a0 k = fi E a0 k) → (0 ≤ (fi E_52 a0 2).toInt ∧ (fi E_52 a0 2).toInt ≤ 39) → (53 - x1_52.toInt).toNat < n → lv_has l_52 2 [(0, .ref a0), (1, .int x1_52)] → W p l e { frames := 1, cells := 0, slots := 0, locals := 20 } s m args below meth c H_52 k_52 0 0 QQ (F0 m 52 l_52 []) := by
    intro n
    induction n with
    | zero => intro x1_52 E_52 H_52 k_52 l_52 S_52 F_52 z1 z2 z3 z4 z5 z6 hm hl_52; exact absurd hm (Nat.not_lt_zero _)
    | succ n ih =>
      intro x1_52 E_52 H_52 k_52 l_52 S_52 F_52 z1 z2 z3 z4 z5 z6 hm hl_52
      have ih_52 := ih
      refine lv_iload_n hx hb dX10_act_52 rfl (lv_at hl_52 1 rfl) ?_
      obtain ⟨v7, ev7, tv7⟩ : ∃ v : Int32, (Int8.ofInt (53)).toInt32 = v ∧ v.toInt = 53 := ⟨_, rfl, by decide +kernel⟩
      refine lv_bipush hx hb dX10_act_53 ev7 ?_
      refine lv_icmp_ge (tgt := 84) hx hb dX10_act_55 (by decide) (fun c8 => ?_) (fun c8 => ?_)
      · skip
        have tc8 := nu_le c8
        refine lv_aload_n hx hb dX10_act_84 rfl (lv_at hl_52 0 rfl) ?_
        refine lv_dup hx hb dX10_act_85 rfl ?_
        refine tr_geti Z.1 Z.2.2.2.1 S_52.1 S_52.2 ha0 ta0 rfl rfl (fun _ h => List.mem_cons_of_mem _ (List.mem_append_right _ h)) 2 (by decide) rfl (hts _ (List.mem_of_getElem? (i := 1) rfl)) dX10_act_86 (fun v9 ev9 lv9 uv9 => ?_)
        have wv9 : v9 = (fi E_52 a0 2) := ev9.symm.trans rfl
        have xv9 : v9.toInt = (fi E_52 a0 2).toInt := by rw [wv9]
        obtain ⟨v10, ev10, tv10⟩ : ∃ v : Int32, Int32.ofInt (1) = v ∧ v.toInt = 1 := ⟨_, rfl, by decide +kernel⟩
        refine lv_iconst hx hb dX10_act_89 ev10 ?_
        refine lv_iadd hx hb dX10_act_90 ?_
        refine lv_topi (fun v11 ev11 => ?_)
        have tv11 := nu_add ev11 (by omega) (by omega)
        refine tr_puti Z.1 Z.2.2.2.1 S_52.1 S_52.2 ha0 ta0 rfl rfl (fun _ h => List.mem_cons_of_mem _ (List.mem_append_right _ h)) tyX10_ok nmX10 2 (by decide) rfl rfl rfl (hts _ (List.mem_of_getElem? (i := 1) rfl)) dX10_act_91 (by omega) (by omega) (fun E12 H13 k14 W12 I12 P12 => ?_)
        have S12 : Now D TB cy (va_A (va_pl L E) sz) s L τ E12 H13 k14 := ⟨W12, I12⟩
        have F12 : Fr L τ (inW [(11, 0), (61, 0)]) E E12 := Fr.put F_52 P12 ta0 rfl
        refine lv_aload_n hx hb dX10_act_94 rfl (lv_at hl_52 0 rfl) ?_
        refine tc_vv Z.1 Z.2.2.2.1 Z.2.2.2.2.1 Z.2.2.2.2.2 S12.1 S12.2 ha0 ta0 rfl rfl (k_X10_good_vw l D cy S12.2 ha0 ta0) (cwV 0 hts gX10_act_X10_good rfl rfl rfl (by decide +kernel) ⟨Nat.le_of_ble_eq_true rfl, Nat.le_of_ble_eq_true rfl⟩) rfl hl_52.1 rfl (Nat.le_of_ble_eq_true rfl) dX10_act_95 ⟨Nat.zero_le _, Nat.zero_le _⟩ (fun E15 H16 k17 W15 I15 G15 p15 => ?_)
        obtain ⟨p15_0, p15_1⟩ := p15
        have S15 : Now D TB cy (va_A (va_pl L E) sz) s L τ E15 H16 k17 := ⟨W15, I15⟩
        have F15 : Fr L τ (inW [(11, 0), (61, 0)]) E E15 := F12.trans (G15.mono (inW_mono (by decide)))
        have kz15_3 := fi_rng (k := 3) S15.2 ha0 ta0 rfl rfl
        rw [← hQ]
        exact en_v Z S15 F15 ⟨(act_post S15.2 hqn tqn hqp tqp (ChW.push z3 (fun j hj => z4 j (by omega)) ((G15 qp hqp (by rw [tqp]; rfl)).trans (P12.1 qp (ne_ro tqp ta0 (by decide)))) (by rw [((p15_1 2 (by decide)).trans (fi_at P12)), ev9]; omega))), (by omega), (fun k hk => ((p15_1 k (fw_sub (by decide) hk)).trans ((fi_put P12 (Or.inr (fw_ne (by decide) hk))).trans (z5 k hk))))⟩ dX10_act_98
      · skip
        have tc8 := nu_nle c8
        refine lv_aload_n hx hb dX10_act_58 rfl (lv_at hl_52 0 rfl) ?_
        refine tr_getr Z.1 Z.2.2.2.1 S_52.1 S_52.2 ha0 ta0 rfl rfl (fun _ h => List.mem_cons_of_mem _ (List.mem_append_right _ h)) 1 (by decide) rfl (hts _ (List.mem_of_getElem? (i := 2) rfl)) dX10_act_59 (fun q19 eq19 hq19 tq19 => ?_)
        have tq19 : τ q19 = (61, 0) := tq19
        have uq19 : qp = q19 := S_52.2.2.2.2 _ hqp _ hq19 (tqp.trans tq19.symm) (by rw [tqp]; rfl)
        subst uq19
        obtain ⟨v20, ev20, tv20⟩ : ∃ v : Int32, (Int8.ofInt (53)).toInt32 = v ∧ v.toInt = 53 := ⟨_, rfl, by decide +kernel⟩
        refine lv_bipush hx hb dX10_act_62 ev20 ?_
        refine lv_aload_n hx hb dX10_act_64 rfl (lv_at hl_52 0 rfl) ?_
        refine tr_geti Z.1 Z.2.2.2.1 S_52.1 S_52.2 ha0 ta0 rfl rfl (fun _ h => List.mem_cons_of_mem _ (List.mem_append_right _ h)) 2 (by decide) rfl (hts _ (List.mem_of_getElem? (i := 1) rfl)) dX10_act_65 (fun v21 ev21 lv21 uv21 => ?_)
        have wv21 : v21 = (fi E_52 a0 2) := ev21.symm.trans rfl
        have xv21 : v21.toInt = (fi E_52 a0 2).toInt := by rw [wv21]
        refine lv_imul hx hb dX10_act_68 ?_
        refine lv_topi (fun v22 ev22 => ?_)
        have tv22 := nu_mulc' (53) ev22 (by omega) (by omega) (by omega)
        refine lv_iload_n hx hb dX10_act_69 rfl (lv_at hl_52 1 rfl) ?_
        refine lv_iadd hx hb dX10_act_70 ?_
        refine lv_topi (fun v23 ev23 => ?_)
        have tv23 := nu_add ev23 (by omega) (by omega)
        refine lv_aload_n hx hb dX10_act_71 rfl (lv_at hl_52 0 rfl) ?_
        refine tr_getr Z.1 Z.2.2.2.1 S_52.1 S_52.2 ha0 ta0 rfl rfl (fun _ h => List.mem_cons_of_mem _ (List.mem_append_right _ h)) 0 (by decide) rfl (hts _ (List.mem_of_getElem? (i := 3) rfl)) dX10_act_72 (fun q24 eq24 hq24 tq24 => ?_)
        have tq24 : τ q24 = (60, 0) := tq24
        have uq24 : qn = q24 := S_52.2.2.2.2 _ hqn _ hq24 (tqn.trans tq24.symm) (by rw [tqn]; rfl)
        subst uq24
        refine lv_iload_n hx hb dX10_act_75 rfl (lv_at hl_52 1 rfl) ?_
        refine tr_ialdx Z.1 Z.2.2.2.1 S_52.1 S_52.2 hqn tqn rfl (by omega) (by omega) dX10_act_76 (fun v25 ev25 lv25 uv25 => ?_)
        have b26 : (pastB v23.toNatClampNeg).1 ≤ v25.toInt ∧ v25.toInt ≤ (pastB v23.toNatClampNeg).2 := by rw [pn_eq (i := v23) (k := x1_52) (by omega) (by omega) (by omega)]; exact ⟨lv25, uv25⟩
        refine tr_iastx Z.1 Z.2.2.2.1 S_52.1 S_52.2 hqp tqp rfl (by omega) (by omega) b26.1 b26.2 dX10_act_77 (fun E26 H27 k28 W26 I26 P26 => ?_)
        have S26 : Now D TB cy (va_A (va_pl L E) sz) s L τ E26 H27 k28 := ⟨W26, I26⟩
        have F26 : Fr L τ (inW [(11, 0), (61, 0)]) E E26 := Fr.set F_52 P26 tqp rfl
        obtain ⟨v29, ev29⟩ : ∃ y : Int32, x1_52 + Int32.ofInt (1) = y := ⟨_, rfl⟩
        have tv29 : v29.toInt = x1_52.toInt + (1) := by rw [← ev29]; exact (fb_addI (by rw [show (Int32.ofInt (1)).toInt = 1 from by decide +kernel]; omega) (by rw [show (Int32.ofInt (1)).toInt = 1 from by decide +kernel]; omega)).trans (by rw [show (Int32.ofInt (1)).toInt = 1 from by decide +kernel])
        refine lv_iinc (v := v29) (lv' := [(1, .int v29), (0, .ref a0)]) hx hb dX10_act_78 hl_52 (k := 1) rfl ev29 (by decide) rfl (fun l30 hl31 => ?_)
        refine lv_goto (tgt := 52) hx hb dX10_act_81 (by decide) ?_
        exact ih_52 v29 E26 H27 k28 l30 S26 F26 (by omega) (by omega) (cp_step z3 z4 (F_52 qn hqn (by rw [tqn]; rfl)) ev21 (by omega) (by omega) (by omega) ev25 P26 (ne_ro ta0 tqp (by decide)) (by omega)).1 (cp_step z3 z4 (F_52 qn hqn (by rw [tqn]; rfl)) ev21 (by omega) (by omega) (by omega) ev25 P26 (ne_ro ta0 tqp (by decide)) (by omega)).2 (fun k hk => ((fi_set P26 (ne_ro ta0 tqp (by decide))).trans (z5 k hk))) (by rw [((fi_set (k := 2) P26 (ne_ro ta0 tqp (by decide))).trans ev21)]; omega) (by omega) (lv_sub hl31 [1, 0] rfl)
  have J50 : ∀  (E_50 : Ec) (H_50 : Heap) (k_50 : List Loc) (l_50 : Array Slot), Now D TB cy (va_A (va_pl L E) sz) s L τ E_50 H_50 k_50 → Fr L τ (inW [(11, 0), (61, 0)]) E E_50 → (ChW E_50 a0 qp (ai E qn)) → (∀ k : Nat, k ∉ ([2, 3, 6] : List Nat) → fi E_50 a0 k = fi E a0 k) → (0 ≤ (fi E_50 a0 2).toInt ∧ (fi E_50 a0 2).toInt ≤ 39) → lv_has l_50 2 [(0, .ref a0)] → W p l e { frames := 1, cells := 0, slots := 0, locals := 20 } s m args below meth c H_50 k_50 0 0 QQ (F0 m 50 l_50 []) := by
    intro  E_50 H_50 k_50 l_50 S_50 F_50 z32 z33 z34 hl_50
    obtain ⟨v35, ev35, tv35⟩ : ∃ v : Int32, Int32.ofInt (0) = v ∧ v.toInt = 0 := ⟨_, rfl, by decide +kernel⟩
    refine lv_iconst hx hb dX10_act_50 ev35 ?_
    refine lv_istore_n (lv' := [(1, .int v35), (0, .ref a0)]) hx hb dX10_act_51 rfl hl_50 (by decide) rfl (fun l36 hl37 => ?_)
    exact J52 _ v35 E_50 H_50 k_50 l36 S_50 F_50 (by omega) (by omega) z32 (fun j h => absurd h (by omega)) (fun k hk => (z33 k hk)) (by omega) (Nat.lt_succ_self _) (lv_sub hl37 [1, 0] rfl)
  have J12 : ∀ (n : Nat) (x1_12 : Int32) (E_12 : Ec) (H_12 : Heap) (k_12 : List Loc) (l_12 : Array Slot), Now D TB cy (va_A (va_pl L E) sz) s L τ E_12 H_12 k_12 → Fr L τ (inW [(11, 0), (61, 0)]) E E_12 → (53 ≤ x1_12.toInt) → (x1_12.toInt ≤ 2120) → (∀ j : Nat, j < 2120 → ai E_12 qp j = if (j : Int) + 53 < x1_12.toInt then ai E qp (j + 53) else ai E qp j) → ((fi E a0 2).toInt = 40) → (∀ k : Nat, k ∉ ([2, 3, 6] : List Nat) → fi E_12 a0 k = fi E a0 k) → (40 ≤ (fi E_12 a0 2).toInt ∧ (fi E_12 a0 2).toInt ≤ 40) → (2120 - x1_12.toInt).toNat < n → lv_has l_12 2 [(0, .ref a0), (1, .int x1_12)] → W p l e { frames := 1, cells := 0, slots := 0, locals := 20 } s m args below meth c H_12 k_12 0 0 QQ (F0 m 12 l_12 []) := by
    intro n
    induction n with
    | zero => intro x1_12 E_12 H_12 k_12 l_12 S_12 F_12 z38 z39 z40 z41 z42 z43 hm hl_12; exact absurd hm (Nat.not_lt_zero _)
    | succ n ih =>
      intro x1_12 E_12 H_12 k_12 l_12 S_12 F_12 z38 z39 z40 z41 z42 z43 hm hl_12
      have ih_12 := ih
      refine lv_iload_n hx hb dX10_act_12 rfl (lv_at hl_12 1 rfl) ?_
      obtain ⟨v44, ev44, tv44⟩ : ∃ v : Int32, (Int16.ofInt (2120)).toInt32 = v ∧ v.toInt = 2120 := ⟨_, rfl, by decide +kernel⟩
      refine lv_sipush hx hb dX10_act_13 ev44 ?_
      refine lv_icmp_ge (tgt := 40) hx hb dX10_act_16 (by decide) (fun c45 => ?_) (fun c45 => ?_)
      · skip
        have tc45 := nu_le c45
        refine lv_aload_n hx hb dX10_act_40 rfl (lv_at hl_12 0 rfl) ?_
        refine lv_dup hx hb dX10_act_41 rfl ?_
        refine tr_geti Z.1 Z.2.2.2.1 S_12.1 S_12.2 ha0 ta0 rfl rfl (fun _ h => List.mem_cons_of_mem _ (List.mem_append_right _ h)) 2 (by decide) rfl (hts _ (List.mem_of_getElem? (i := 1) rfl)) dX10_act_42 (fun v46 ev46 lv46 uv46 => ?_)
        have wv46 : v46 = (fi E_12 a0 2) := ev46.symm.trans rfl
        have xv46 : v46.toInt = (fi E_12 a0 2).toInt := by rw [wv46]
        obtain ⟨v47, ev47, tv47⟩ : ∃ v : Int32, Int32.ofInt (1) = v ∧ v.toInt = 1 := ⟨_, rfl, by decide +kernel⟩
        refine lv_iconst hx hb dX10_act_45 ev47 ?_
        refine lv_isub hx hb dX10_act_46 ?_
        refine lv_topi (fun v48 ev48 => ?_)
        have tv48 := nu_sub ev48 (by omega) (by omega)
        refine tr_puti Z.1 Z.2.2.2.1 S_12.1 S_12.2 ha0 ta0 rfl rfl (fun _ h => List.mem_cons_of_mem _ (List.mem_append_right _ h)) tyX10_ok nmX10 2 (by decide) rfl rfl rfl (hts _ (List.mem_of_getElem? (i := 1) rfl)) dX10_act_47 (by omega) (by omega) (fun E49 H50 k51 W49 I49 P49 => ?_)
        have S49 : Now D TB cy (va_A (va_pl L E) sz) s L τ E49 H50 k51 := ⟨W49, I49⟩
        have F49 : Fr L τ (inW [(11, 0), (61, 0)]) E E49 := Fr.put F_12 P49 ta0 rfl
        exact J50 E49 H50 k51 l_12 S49 F49 (ChW.shift (hC a0 ha0 ta0 qn hqn tqn qp hqp tqp) (by omega) (by rw [(fi_at P49)]; omega) (fun j hj => (ai_put P49 (ne_ro tqp ta0 (by decide))).trans ((z40 j (by omega)).trans (by rw [if_pos (by omega)])))) (fun k hk => ((fi_put P49 (Or.inr (fw_ne (by decide) hk))).trans (z42 k hk))) (by rw [(fi_at P49)]; omega) (lv_sub hl_12 [0] rfl)
      · skip
        have tc45 := nu_nle c45
        refine lv_aload_n hx hb dX10_act_19 rfl (lv_at hl_12 0 rfl) ?_
        refine tr_getr Z.1 Z.2.2.2.1 S_12.1 S_12.2 ha0 ta0 rfl rfl (fun _ h => List.mem_cons_of_mem _ (List.mem_append_right _ h)) 1 (by decide) rfl (hts _ (List.mem_of_getElem? (i := 2) rfl)) dX10_act_20 (fun q52 eq52 hq52 tq52 => ?_)
        have tq52 : τ q52 = (61, 0) := tq52
        have uq52 : qp = q52 := S_12.2.2.2.2 _ hqp _ hq52 (tqp.trans tq52.symm) (by rw [tqp]; rfl)
        subst uq52
        refine lv_iload_n hx hb dX10_act_23 rfl (lv_at hl_12 1 rfl) ?_
        obtain ⟨v53, ev53, tv53⟩ : ∃ v : Int32, (Int8.ofInt (53)).toInt32 = v ∧ v.toInt = 53 := ⟨_, rfl, by decide +kernel⟩
        refine lv_bipush hx hb dX10_act_24 ev53 ?_
        refine lv_isub hx hb dX10_act_26 ?_
        refine lv_topi (fun v54 ev54 => ?_)
        have tv54 := nu_sub ev54 (by omega) (by omega)
        refine lv_aload_n hx hb dX10_act_27 rfl (lv_at hl_12 0 rfl) ?_
        refine tr_getr Z.1 Z.2.2.2.1 S_12.1 S_12.2 ha0 ta0 rfl rfl (fun _ h => List.mem_cons_of_mem _ (List.mem_append_right _ h)) 1 (by decide) rfl (hts _ (List.mem_of_getElem? (i := 2) rfl)) dX10_act_28 (fun q55 eq55 hq55 tq55 => ?_)
        have tq55 : τ q55 = (61, 0) := tq55
        have uq55 : qp = q55 := S_12.2.2.2.2 _ hqp _ hq55 (tqp.trans tq55.symm) (by rw [tqp]; rfl)
        subst uq55
        refine lv_iload_n hx hb dX10_act_31 rfl (lv_at hl_12 1 rfl) ?_
        refine tr_ialdx Z.1 Z.2.2.2.1 S_12.1 S_12.2 hqp tqp rfl (by omega) (by omega) dX10_act_32 (fun v56 ev56 lv56 uv56 => ?_)
        have b57 : (pastB v54.toNatClampNeg).1 ≤ v56.toInt ∧ v56.toInt ≤ (pastB v54.toNatClampNeg).2 := by rw [pb_eq (i := v54) (j := x1_12) (by omega) (by omega) (by omega)]; exact ⟨lv56, uv56⟩
        refine tr_iastx Z.1 Z.2.2.2.1 S_12.1 S_12.2 hqp tqp rfl (by omega) (by omega) b57.1 b57.2 dX10_act_33 (fun E57 H58 k59 W57 I57 P57 => ?_)
        have S57 : Now D TB cy (va_A (va_pl L E) sz) s L τ E57 H58 k59 := ⟨W57, I57⟩
        have F57 : Fr L τ (inW [(11, 0), (61, 0)]) E E57 := Fr.set F_12 P57 tqp rfl
        obtain ⟨v60, ev60⟩ : ∃ y : Int32, x1_12 + Int32.ofInt (1) = y := ⟨_, rfl⟩
        have tv60 : v60.toInt = x1_12.toInt + (1) := by rw [← ev60]; exact (fb_addI (by rw [show (Int32.ofInt (1)).toInt = 1 from by decide +kernel]; omega) (by rw [show (Int32.ofInt (1)).toInt = 1 from by decide +kernel]; omega)).trans (by rw [show (Int32.ofInt (1)).toInt = 1 from by decide +kernel])
        refine lv_iinc (v := v60) (lv' := [(1, .int v60), (0, .ref a0)]) hx hb dX10_act_34 hl_12 (k := 1) rfl ev60 (by decide) rfl (fun l61 hl62 => ?_)
        refine lv_goto (tgt := 12) hx hb dX10_act_37 (by decide) ?_
        exact ih_12 v60 E57 H58 k59 l61 S57 F57 (by omega) (by omega) (sh_step z40 P57 ev56 (by omega) (by omega) (by omega) (by omega)) z41 (fun k hk => ((fi_set P57 (ne_ro ta0 tqp (by decide))).trans (z42 k hk))) (by rw [((fi_set (k := 2) P57 (ne_ro ta0 tqp (by decide))).trans rfl)]; omega) (by omega) (lv_sub hl62 [1, 0] rfl)
  refine lv_aload_n hx hb dX10_act_0 rfl (lv_at hl 0 rfl) ?_
  refine tr_geti Z.1 Z.2.2.2.1 S0.1 S0.2 ha0 ta0 rfl rfl (fun _ h => List.mem_cons_of_mem _ (List.mem_append_right _ h)) 2 (by decide) rfl (hts _ (List.mem_of_getElem? (i := 1) rfl)) dX10_act_1 (fun v63 ev63 lv63 uv63 => ?_)
  obtain ⟨v64, ev64, tv64⟩ : ∃ v : Int32, (Int8.ofInt (40)).toInt32 = v ∧ v.toInt = 40 := ⟨_, rfl, by decide +kernel⟩
  refine lv_bipush hx hb dX10_act_4 ev64 ?_
  refine lv_icmp_ne (tgt := 50) hx hb dX10_act_6 (by decide) (fun c65 => ?_) (fun c65 => ?_)
  · skip
    have tc65 := nu_ne c65
    exact J50 E s.heap [] ls S0 F0_ (hC a0 ha0 ta0 qn hqn tqn qp hqp tqp) (fun k hk => ((fun k hk => rfl) k hk)) (by rw [ev63]; omega) (lv_sub hl [0] rfl)
  · skip
    have tc65 := nu_eq c65
    obtain ⟨v66, ev66, tv66⟩ : ∃ v : Int32, (Int8.ofInt (53)).toInt32 = v ∧ v.toInt = 53 := ⟨_, rfl, by decide +kernel⟩
    refine lv_bipush hx hb dX10_act_9 ev66 ?_
    refine lv_istore_n (lv' := [(1, .int v66), (0, .ref a0)]) hx hb dX10_act_11 rfl hl (by decide) rfl (fun l67 hl68 => ?_)
    exact J12 _ v66 E s.heap [] l67 S0 F0_ (by omega) (by omega) (fun j _ => by rw [if_neg (by omega)]) (by rw [ev63]; omega) (fun k hk => ((fun k hk => rfl) k hk)) (by rw [ev63]; omega) (Nat.lt_succ_self _) (lv_sub hl68 [1, 0] rfl)

set_option maxHeartbeats 4000000 in
set_option maxRecDepth 100000 in
theorem k_X10_measures_vw (l : Launch) (D : va_G) (cy : Nat → ClassId) {L : List Nat} {τ : Nat → Ro} {E : Ec} (hI : Inv TB cy L τ E) {a0 : Nat} (ha0 : a0 ∈ L) (ta0 : τ a0 = (11, 0)) (a1 : Int32) (a2 : Int32) (a3 : Int32) (a4 : Int32) (hC : Chain L τ E) : CtI l yX10_measures wsX10_measures { frames := 2, cells := 0, slots := 0, locals := 41 } D TB cy L τ E [.ref a0, .int a1, .int a2, .int a3, .int a4] (inW [(11, 0), (60, 0), (61, 0)]) (fun r E' => ((r.toInt = 1 ∧ 500 ≤ a1.toInt ∧ a1.toInt ≤ 6000 ∧ 500 ≤ a2.toInt ∧ a2.toInt ≤ 1500 ∧ 200 ≤ a3.toInt ∧ a3.toInt ≤ 500 ∧ 20 ≤ a4.toInt ∧ a4.toInt ≤ 150) ∨ (r.toInt = 0 ∧ ¬ (500 ≤ a1.toInt ∧ a1.toInt ≤ 6000 ∧ 500 ≤ a2.toInt ∧ a2.toInt ≤ 1500 ∧ 200 ≤ a3.toInt ∧ a3.toInt ≤ 500 ∧ 20 ≤ a4.toInt ∧ a4.toInt ≤ 150))) ∧ ((fi E' a0 3).toInt ≠ 2) ∧ 0 ≤ r.toInt ∧ r.toInt ≤ 1 ∧ (∀ k : Nat, k ∉ ([2, 3, 4, 6] : List Nat) → fi E' a0 k = fi E a0 k) ∧ Chain L τ E') := by
  intro sz
  refine sta (cc := cX10_measures) (maxL := 5) hI (by decide) rfl (Nat.le_of_ble_eq_true rfl) (fun p e s m args below meth c ls hsz Z S0 hl => ?_)
  have hx := Z.1.1
  have hb := Z.1.2.1
  have hts := Z.1.2.2.2.2
  have F0_ : Fr L τ (inW [(11, 0), (60, 0), (61, 0)]) E E := Fr.refl
  have hl : lv_has ls 5 [(0, .ref a0), (1, .int a1), (2, .int a2), (3, .int a3), (4, .int a4)] := hl
  generalize hQ : MQ below _ args s 0 0 _ = QQ
  obtain ⟨qn, hqn, tqn⟩ := ref_of (k := 0) hI ha0 ta0 rfl rfl
  have tqn : τ qn = (60, 0) := tqn
  obtain ⟨qp, hqp, tqp⟩ := ref_of (k := 1) hI ha0 ta0 rfl rfl
  have tqp : τ qp = (61, 0) := tqp
  have J61 : ∀  (E_61 : Ec) (H_61 : Heap) (k_61 : List Loc) (l_61 : Array Slot), Now D TB cy (va_A (va_pl L E) sz) s L τ E_61 H_61 k_61 → Fr L τ (inW [(11, 0), (60, 0), (61, 0)]) E E_61 → (¬ (500 ≤ a1.toInt ∧ a1.toInt ≤ 6000 ∧ 500 ≤ a2.toInt ∧ a2.toInt ≤ 1500 ∧ 200 ≤ a3.toInt ∧ a3.toInt ≤ 500 ∧ 20 ≤ a4.toInt ∧ a4.toInt ≤ 150)) → (Chain L τ E_61) → (∀ k : Nat, k ∉ ([2, 3, 4, 6] : List Nat) → fi E_61 a0 k = fi E a0 k) → lv_has l_61 5 [(0, .ref a0)] → W p l e { frames := 2, cells := 0, slots := 0, locals := 41 } s m args below meth c H_61 k_61 0 0 QQ (F0 m 61 l_61 []) := by
    intro  E_61 H_61 k_61 l_61 S_61 F_61 z1 z2 z3 hl_61
    refine lv_aload_n hx hb dX10_measures_61 rfl (lv_at hl_61 0 rfl) ?_
    obtain ⟨v4, ev4, tv4⟩ : ∃ v : Int32, Int32.ofInt (1) = v ∧ v.toInt = 1 := ⟨_, rfl, by decide +kernel⟩
    refine lv_iconst hx hb dX10_measures_62 ev4 ?_
    refine tc_vi Z.1 Z.2.2.2.1 Z.2.2.2.2.1 Z.2.2.2.2.2 S_61.1 S_61.2 ha0 ta0 rfl rfl (k_X10_not_vw l D cy S_61.2 ha0 ta0 v4) (cwV 1 hts gX10_measures_X10_not rfl rfl rfl (by decide +kernel) ⟨Nat.le_of_ble_eq_true rfl, Nat.le_of_ble_eq_true rfl⟩) rfl hl_61.1 rfl (Nat.le_of_ble_eq_true rfl) dX10_measures_63 ⟨Nat.zero_le _, Nat.zero_le _⟩ (fun v8 E5 H6 k7 W5 I5 G5 p5 => ?_)
    obtain ⟨p5_0, p5_1, p5_2, p5_3⟩ := p5
    have S5 : Now D TB cy (va_A (va_pl L E) sz) s L τ E5 H6 k7 := ⟨W5, I5⟩
    have F5 : Fr L τ (inW [(11, 0), (60, 0), (61, 0)]) E E5 := F_61.trans (G5.mono (inW_mono (by decide)))
    have kz5_3 := fi_rng (k := 3) S5.2 ha0 ta0 rfl rfl
    rw [← hQ]
    exact en_z Z S5 F5 (zo v8 (by omega)) ⟨(by omega), (by omega), (by omega), (by omega), (fun k hk => ((p5_3 k (fw_sub (by decide) hk)).trans (z3 k hk))), (Chain.same z2 S5.2 ha0 ta0 hqn tqn hqp tqp (G5 qn hqn (by rw [tqn]; rfl)) (G5 qp hqp (by rw [tqp]; rfl)) (p5_3 2 (by decide)))⟩ dX10_measures_66
  refine lv_aload_n hx hb dX10_measures_0 rfl (lv_at hl 0 rfl) ?_
  obtain ⟨v9, ev9, tv9⟩ : ∃ v : Int32, Int32.ofInt (0) = v ∧ v.toInt = 0 := ⟨_, rfl, by decide +kernel⟩
  refine lv_iconst hx hb dX10_measures_1 ev9 ?_
  refine tr_puti Z.1 Z.2.2.2.1 S0.1 S0.2 ha0 ta0 rfl rfl (fun _ h => List.mem_cons_of_mem _ (List.mem_append_right _ h)) tyX10_ok nmX10 4 (by decide) rfl rfl rfl (hts _ (List.mem_of_getElem? (i := 1) rfl)) dX10_measures_2 (by omega) (by omega) (fun E10 H11 k12 W10 I10 P10 => ?_)
  have S10 : Now D TB cy (va_A (va_pl L E) sz) s L τ E10 H11 k12 := ⟨W10, I10⟩
  have F10 : Fr L τ (inW [(11, 0), (60, 0), (61, 0)]) E E10 := Fr.put F0_ P10 ta0 rfl
  refine lv_aload_n hx hb dX10_measures_5 rfl (lv_at hl 0 rfl) ?_
  refine lv_iload_n hx hb dX10_measures_6 rfl (lv_at hl 1 rfl) ?_
  obtain ⟨v13, ev13, tv13⟩ : ∃ v : Int32, (Int16.ofInt (500)).toInt32 = v ∧ v.toInt = 500 := ⟨_, rfl, by decide +kernel⟩
  refine lv_sipush hx hb dX10_measures_7 ev13 ?_
  obtain ⟨v14, ev14, tv14⟩ : ∃ v : Int32, (Int16.ofInt (6000)).toInt32 = v ∧ v.toInt = 6000 := ⟨_, rfl, by decide +kernel⟩
  refine lv_sipush hx hb dX10_measures_10 ev14 ?_
  refine tc_vi Z.1 Z.2.2.2.1 Z.2.2.2.2.1 Z.2.2.2.2.2 S10.1 S10.2 ha0 ta0 rfl rfl (k_X10_in l D cy S10.2 ha0 ta0 a1 v13 v14) (cwV 3 hts gX10_measures_X10_in rfl rfl rfl (by decide +kernel) ⟨Nat.le_of_ble_eq_true rfl, Nat.le_of_ble_eq_true rfl⟩) rfl hl.1 rfl (Nat.le_of_ble_eq_true rfl) dX10_measures_13 ⟨Nat.zero_le _, Nat.zero_le _⟩ (fun v18 E15 H16 k17 W15 I15 G15 p15 => ?_)
  obtain ⟨q15, p15_0, p15_1, p15_2⟩ := p15
  have q15 := q15.symm
  subst q15
  have S15 : Now D TB cy (va_A (va_pl L E) sz) s L τ E10 H16 k17 := ⟨W15, I15⟩
  refine lv_if_eq (tgt := 61) hx hb dX10_measures_16 (by decide) (fun c19 => ?_) (fun c19 => ?_)
  · skip
    have tc19 := nu_eq c19
    have uc19 : (0 : Int32).toInt = 0 := rfl
    exact J61 E10 H16 k17 ls S15 F10 (by have := fb_rng a1; have := fb_rng a2; have := fb_rng a3; have := fb_rng a4; omega) (Chain.same hC S15.2 ha0 ta0 hqn tqn hqp tqp (P10.1 qn (ne_ro tqn ta0 (by decide))) (P10.1 qp (ne_ro tqp ta0 (by decide))) (fi_put (k := 2) P10 (Or.inr (by decide)))) (fun k hk => ((fi_put P10 (Or.inr (fw_ne (by decide) hk))).trans ((fun k hk => rfl) k hk))) (lv_sub hl [0] rfl)
  · skip
    have tc19 := nu_ne c19
    have uc19 : (0 : Int32).toInt = 0 := rfl
    refine lv_aload_n hx hb dX10_measures_19 rfl (lv_at hl 0 rfl) ?_
    refine lv_iload_n hx hb dX10_measures_20 rfl (lv_at hl 2 rfl) ?_
    obtain ⟨v20, ev20, tv20⟩ : ∃ v : Int32, (Int16.ofInt (500)).toInt32 = v ∧ v.toInt = 500 := ⟨_, rfl, by decide +kernel⟩
    refine lv_sipush hx hb dX10_measures_21 ev20 ?_
    obtain ⟨v21, ev21, tv21⟩ : ∃ v : Int32, (Int16.ofInt (1500)).toInt32 = v ∧ v.toInt = 1500 := ⟨_, rfl, by decide +kernel⟩
    refine lv_sipush hx hb dX10_measures_24 ev21 ?_
    refine tc_vi Z.1 Z.2.2.2.1 Z.2.2.2.2.1 Z.2.2.2.2.2 S15.1 S15.2 ha0 ta0 rfl rfl (k_X10_in l D cy S15.2 ha0 ta0 a2 v20 v21) (cwV 3 hts gX10_measures_X10_in rfl rfl rfl (by decide +kernel) ⟨Nat.le_of_ble_eq_true rfl, Nat.le_of_ble_eq_true rfl⟩) rfl hl.1 rfl (Nat.le_of_ble_eq_true rfl) dX10_measures_27 ⟨Nat.zero_le _, Nat.zero_le _⟩ (fun v25 E22 H23 k24 W22 I22 G22 p22 => ?_)
    obtain ⟨q22, p22_0, p22_1, p22_2⟩ := p22
    have q22 := q22.symm
    subst q22
    have S22 : Now D TB cy (va_A (va_pl L E) sz) s L τ E10 H23 k24 := ⟨W22, I22⟩
    refine lv_if_eq (tgt := 61) hx hb dX10_measures_30 (by decide) (fun c26 => ?_) (fun c26 => ?_)
    · skip
      have tc26 := nu_eq c26
      have uc26 : (0 : Int32).toInt = 0 := rfl
      exact J61 E10 H23 k24 ls S22 F10 (by have := fb_rng a2; have := fb_rng a3; have := fb_rng a4; omega) (Chain.same hC S22.2 ha0 ta0 hqn tqn hqp tqp (P10.1 qn (ne_ro tqn ta0 (by decide))) (P10.1 qp (ne_ro tqp ta0 (by decide))) (fi_put (k := 2) P10 (Or.inr (by decide)))) (fun k hk => ((fi_put P10 (Or.inr (fw_ne (by decide) hk))).trans ((fun k hk => rfl) k hk))) (lv_sub hl [0] rfl)
    · skip
      have tc26 := nu_ne c26
      have uc26 : (0 : Int32).toInt = 0 := rfl
      refine lv_aload_n hx hb dX10_measures_33 rfl (lv_at hl 0 rfl) ?_
      refine lv_iload_n hx hb dX10_measures_34 rfl (lv_at hl 3 rfl) ?_
      obtain ⟨v27, ev27, tv27⟩ : ∃ v : Int32, (Int16.ofInt (200)).toInt32 = v ∧ v.toInt = 200 := ⟨_, rfl, by decide +kernel⟩
      refine lv_sipush hx hb dX10_measures_35 ev27 ?_
      obtain ⟨v28, ev28, tv28⟩ : ∃ v : Int32, (Int16.ofInt (500)).toInt32 = v ∧ v.toInt = 500 := ⟨_, rfl, by decide +kernel⟩
      refine lv_sipush hx hb dX10_measures_38 ev28 ?_
      refine tc_vi Z.1 Z.2.2.2.1 Z.2.2.2.2.1 Z.2.2.2.2.2 S22.1 S22.2 ha0 ta0 rfl rfl (k_X10_in l D cy S22.2 ha0 ta0 a3 v27 v28) (cwV 3 hts gX10_measures_X10_in rfl rfl rfl (by decide +kernel) ⟨Nat.le_of_ble_eq_true rfl, Nat.le_of_ble_eq_true rfl⟩) rfl hl.1 rfl (Nat.le_of_ble_eq_true rfl) dX10_measures_41 ⟨Nat.zero_le _, Nat.zero_le _⟩ (fun v32 E29 H30 k31 W29 I29 G29 p29 => ?_)
      obtain ⟨q29, p29_0, p29_1, p29_2⟩ := p29
      have q29 := q29.symm
      subst q29
      have S29 : Now D TB cy (va_A (va_pl L E) sz) s L τ E10 H30 k31 := ⟨W29, I29⟩
      refine lv_if_eq (tgt := 61) hx hb dX10_measures_44 (by decide) (fun c33 => ?_) (fun c33 => ?_)
      · skip
        have tc33 := nu_eq c33
        have uc33 : (0 : Int32).toInt = 0 := rfl
        exact J61 E10 H30 k31 ls S29 F10 (by have := fb_rng a3; have := fb_rng a4; omega) (Chain.same hC S29.2 ha0 ta0 hqn tqn hqp tqp (P10.1 qn (ne_ro tqn ta0 (by decide))) (P10.1 qp (ne_ro tqp ta0 (by decide))) (fi_put (k := 2) P10 (Or.inr (by decide)))) (fun k hk => ((fi_put P10 (Or.inr (fw_ne (by decide) hk))).trans ((fun k hk => rfl) k hk))) (lv_sub hl [0] rfl)
      · skip
        have tc33 := nu_ne c33
        have uc33 : (0 : Int32).toInt = 0 := rfl
        refine lv_aload_n hx hb dX10_measures_47 rfl (lv_at hl 0 rfl) ?_
        refine lv_iload hx hb dX10_measures_48 (lv_at hl 4 rfl) ?_
        obtain ⟨v34, ev34, tv34⟩ : ∃ v : Int32, (Int8.ofInt (20)).toInt32 = v ∧ v.toInt = 20 := ⟨_, rfl, by decide +kernel⟩
        refine lv_bipush hx hb dX10_measures_50 ev34 ?_
        obtain ⟨v35, ev35, tv35⟩ : ∃ v : Int32, (Int16.ofInt (150)).toInt32 = v ∧ v.toInt = 150 := ⟨_, rfl, by decide +kernel⟩
        refine lv_sipush hx hb dX10_measures_52 ev35 ?_
        refine tc_vi Z.1 Z.2.2.2.1 Z.2.2.2.2.1 Z.2.2.2.2.2 S29.1 S29.2 ha0 ta0 rfl rfl (k_X10_in l D cy S29.2 ha0 ta0 a4 v34 v35) (cwV 3 hts gX10_measures_X10_in rfl rfl rfl (by decide +kernel) ⟨Nat.le_of_ble_eq_true rfl, Nat.le_of_ble_eq_true rfl⟩) rfl hl.1 rfl (Nat.le_of_ble_eq_true rfl) dX10_measures_55 ⟨Nat.zero_le _, Nat.zero_le _⟩ (fun v39 E36 H37 k38 W36 I36 G36 p36 => ?_)
        obtain ⟨q36, p36_0, p36_1, p36_2⟩ := p36
        have q36 := q36.symm
        subst q36
        have S36 : Now D TB cy (va_A (va_pl L E) sz) s L τ E10 H37 k38 := ⟨W36, I36⟩
        refine lv_if_ne (tgt := 67) hx hb dX10_measures_58 (by decide) (fun c40 => ?_) (fun c40 => ?_)
        · skip
          have tc40 := nu_ne c40
          have uc40 : (0 : Int32).toInt = 0 := rfl
          refine lv_aload_n hx hb dX10_measures_67 rfl (lv_at hl 0 rfl) ?_
          refine tc_vv Z.1 Z.2.2.2.1 Z.2.2.2.2.1 Z.2.2.2.2.2 S36.1 S36.2 ha0 ta0 rfl rfl (k_X10_act_vw l D cy S36.2 ha0 ta0 (Chain.same hC S36.2 ha0 ta0 hqn tqn hqp tqp (P10.1 qn (ne_ro tqn ta0 (by decide))) (P10.1 qp (ne_ro tqp ta0 (by decide))) (fi_put (k := 2) P10 (Or.inr (by decide))))) (cwV 0 hts gX10_measures_X10_act rfl rfl rfl (by decide +kernel) ⟨Nat.le_of_ble_eq_true rfl, Nat.le_of_ble_eq_true rfl⟩) rfl hl.1 rfl (Nat.le_of_ble_eq_true rfl) dX10_measures_68 ⟨Nat.zero_le _, Nat.zero_le _⟩ (fun E41 H42 k43 W41 I41 G41 p41 => ?_)
          obtain ⟨p41_0, p41_1, p41_2⟩ := p41
          have S41 : Now D TB cy (va_A (va_pl L E) sz) s L τ E41 H42 k43 := ⟨W41, I41⟩
          have F41 : Fr L τ (inW [(11, 0), (60, 0), (61, 0)]) E E41 := F10.trans (G41.mono (inW_mono (by decide)))
          have C45 : ∀ T : Nat → Int32, Link (ai E qn) T → ChW E41 a0 qp T := fun T hT => p41_0 qn hqn tqn qp hqp tqp T (by rw [ai_cell (P10.1 qn (ne_ro tqn ta0 (by decide)))]; exact hT)
          have B46 : ∀ j : Nat, 44 ≤ j → j ≤ 52 → ai E41 qn j = ai E qn j := fun j _ _ => ((ai_fr G41 hqn (by rw [tqn]; rfl)).trans (ai_put P10 (ne_ro tqn ta0 (by decide))))
          have kz41_3 := fi_rng (k := 3) S41.2 ha0 ta0 rfl rfl
          refine lv_aload_n hx hb dX10_measures_71 rfl (lv_at hl 0 rfl) ?_
          refine tr_getr Z.1 Z.2.2.2.1 S41.1 S41.2 ha0 ta0 rfl rfl (fun _ h => List.mem_cons_of_mem _ (List.mem_append_right _ h)) 0 (by decide) rfl (hts _ (List.mem_of_getElem? (i := 2) rfl)) dX10_measures_72 (fun q47 eq47 hq47 tq47 => ?_)
          have tq47 : τ q47 = (60, 0) := tq47
          have uq47 : qn = q47 := S41.2.2.2.2 _ hqn _ hq47 (tqn.trans tq47.symm) (by rw [tqn]; rfl)
          subst uq47
          obtain ⟨v48, ev48, tv48⟩ : ∃ v : Int32, Int32.ofInt (0) = v ∧ v.toInt = 0 := ⟨_, rfl, by decide +kernel⟩
          refine lv_iconst hx hb dX10_measures_75 ev48 ?_
          refine lv_iload_n hx hb dX10_measures_76 rfl (lv_at hl 1 rfl) ?_
          have b49 : nowB v48.toNatClampNeg = (-2147483648, 2147483647) := nb_o (by show v48.toInt.toNat < 4 ∨ (8 ≤ v48.toInt.toNat ∧ v48.toInt.toNat ≤ 18) ∨ (20 ≤ v48.toInt.toNat ∧ v48.toInt.toNat ≤ 43); omega)
          have b49 : (nowB v48.toNatClampNeg).1 ≤ a1.toInt ∧ a1.toInt ≤ (nowB v48.toNatClampNeg).2 := by rw [b49]; have := fb_rng a1; show -2147483648 ≤ a1.toInt ∧ a1.toInt ≤ 2147483647; omega
          refine tr_iastx Z.1 Z.2.2.2.1 S41.1 S41.2 hqn tqn rfl (by omega) (by omega) b49.1 b49.2 dX10_measures_77 (fun E49 H50 k51 W49 I49 P49 => ?_)
          have S49 : Now D TB cy (va_A (va_pl L E) sz) s L τ E49 H50 k51 := ⟨W49, I49⟩
          have F49 : Fr L τ (inW [(11, 0), (60, 0), (61, 0)]) E E49 := Fr.set F41 P49 tqn rfl
          refine lv_aload_n hx hb dX10_measures_78 rfl (lv_at hl 0 rfl) ?_
          refine tr_getr Z.1 Z.2.2.2.1 S49.1 S49.2 ha0 ta0 rfl rfl (fun _ h => List.mem_cons_of_mem _ (List.mem_append_right _ h)) 0 (by decide) rfl (hts _ (List.mem_of_getElem? (i := 2) rfl)) dX10_measures_79 (fun q52 eq52 hq52 tq52 => ?_)
          have tq52 : τ q52 = (60, 0) := tq52
          have uq52 : qn = q52 := S49.2.2.2.2 _ hqn _ hq52 (tqn.trans tq52.symm) (by rw [tqn]; rfl)
          subst uq52
          obtain ⟨v53, ev53, tv53⟩ : ∃ v : Int32, Int32.ofInt (1) = v ∧ v.toInt = 1 := ⟨_, rfl, by decide +kernel⟩
          refine lv_iconst hx hb dX10_measures_82 ev53 ?_
          refine lv_iload_n hx hb dX10_measures_83 rfl (lv_at hl 2 rfl) ?_
          have b54 : nowB v53.toNatClampNeg = (-2147483648, 2147483647) := nb_o (by show v53.toInt.toNat < 4 ∨ (8 ≤ v53.toInt.toNat ∧ v53.toInt.toNat ≤ 18) ∨ (20 ≤ v53.toInt.toNat ∧ v53.toInt.toNat ≤ 43); omega)
          have b54 : (nowB v53.toNatClampNeg).1 ≤ a2.toInt ∧ a2.toInt ≤ (nowB v53.toNatClampNeg).2 := by rw [b54]; have := fb_rng a2; show -2147483648 ≤ a2.toInt ∧ a2.toInt ≤ 2147483647; omega
          refine tr_iastx Z.1 Z.2.2.2.1 S49.1 S49.2 hqn tqn rfl (by omega) (by omega) b54.1 b54.2 dX10_measures_84 (fun E54 H55 k56 W54 I54 P54 => ?_)
          have S54 : Now D TB cy (va_A (va_pl L E) sz) s L τ E54 H55 k56 := ⟨W54, I54⟩
          have F54 : Fr L τ (inW [(11, 0), (60, 0), (61, 0)]) E E54 := Fr.set F49 P54 tqn rfl
          refine lv_aload_n hx hb dX10_measures_85 rfl (lv_at hl 0 rfl) ?_
          refine tr_getr Z.1 Z.2.2.2.1 S54.1 S54.2 ha0 ta0 rfl rfl (fun _ h => List.mem_cons_of_mem _ (List.mem_append_right _ h)) 0 (by decide) rfl (hts _ (List.mem_of_getElem? (i := 2) rfl)) dX10_measures_86 (fun q57 eq57 hq57 tq57 => ?_)
          have tq57 : τ q57 = (60, 0) := tq57
          have uq57 : qn = q57 := S54.2.2.2.2 _ hqn _ hq57 (tqn.trans tq57.symm) (by rw [tqn]; rfl)
          subst uq57
          obtain ⟨v58, ev58, tv58⟩ : ∃ v : Int32, Int32.ofInt (2) = v ∧ v.toInt = 2 := ⟨_, rfl, by decide +kernel⟩
          refine lv_iconst hx hb dX10_measures_89 ev58 ?_
          refine lv_iload_n hx hb dX10_measures_90 rfl (lv_at hl 3 rfl) ?_
          have b59 : nowB v58.toNatClampNeg = (-2147483648, 2147483647) := nb_o (by show v58.toInt.toNat < 4 ∨ (8 ≤ v58.toInt.toNat ∧ v58.toInt.toNat ≤ 18) ∨ (20 ≤ v58.toInt.toNat ∧ v58.toInt.toNat ≤ 43); omega)
          have b59 : (nowB v58.toNatClampNeg).1 ≤ a3.toInt ∧ a3.toInt ≤ (nowB v58.toNatClampNeg).2 := by rw [b59]; have := fb_rng a3; show -2147483648 ≤ a3.toInt ∧ a3.toInt ≤ 2147483647; omega
          refine tr_iastx Z.1 Z.2.2.2.1 S54.1 S54.2 hqn tqn rfl (by omega) (by omega) b59.1 b59.2 dX10_measures_91 (fun E59 H60 k61 W59 I59 P59 => ?_)
          have S59 : Now D TB cy (va_A (va_pl L E) sz) s L τ E59 H60 k61 := ⟨W59, I59⟩
          have F59 : Fr L τ (inW [(11, 0), (60, 0), (61, 0)]) E E59 := Fr.set F54 P59 tqn rfl
          refine lv_aload_n hx hb dX10_measures_92 rfl (lv_at hl 0 rfl) ?_
          refine tr_getr Z.1 Z.2.2.2.1 S59.1 S59.2 ha0 ta0 rfl rfl (fun _ h => List.mem_cons_of_mem _ (List.mem_append_right _ h)) 0 (by decide) rfl (hts _ (List.mem_of_getElem? (i := 2) rfl)) dX10_measures_93 (fun q62 eq62 hq62 tq62 => ?_)
          have tq62 : τ q62 = (60, 0) := tq62
          have uq62 : qn = q62 := S59.2.2.2.2 _ hqn _ hq62 (tqn.trans tq62.symm) (by rw [tqn]; rfl)
          subst uq62
          obtain ⟨v63, ev63, tv63⟩ : ∃ v : Int32, Int32.ofInt (3) = v ∧ v.toInt = 3 := ⟨_, rfl, by decide +kernel⟩
          refine lv_iconst hx hb dX10_measures_96 ev63 ?_
          refine lv_iload hx hb dX10_measures_97 (lv_at hl 4 rfl) ?_
          have b64 : nowB v63.toNatClampNeg = (-2147483648, 2147483647) := nb_o (by show v63.toInt.toNat < 4 ∨ (8 ≤ v63.toInt.toNat ∧ v63.toInt.toNat ≤ 18) ∨ (20 ≤ v63.toInt.toNat ∧ v63.toInt.toNat ≤ 43); omega)
          have b64 : (nowB v63.toNatClampNeg).1 ≤ a4.toInt ∧ a4.toInt ≤ (nowB v63.toNatClampNeg).2 := by rw [b64]; have := fb_rng a4; show -2147483648 ≤ a4.toInt ∧ a4.toInt ≤ 2147483647; omega
          refine tr_iastx Z.1 Z.2.2.2.1 S59.1 S59.2 hqn tqn rfl (by omega) (by omega) b64.1 b64.2 dX10_measures_99 (fun E64 H65 k66 W64 I64 P64 => ?_)
          have S64 : Now D TB cy (va_A (va_pl L E) sz) s L τ E64 H65 k66 := ⟨W64, I64⟩
          have F64 : Fr L τ (inW [(11, 0), (60, 0), (61, 0)]) E E64 := Fr.set F59 P64 tqn rfl
          obtain ⟨v67, ev67, tv67⟩ : ∃ v : Int32, Int32.ofInt (1) = v ∧ v.toInt = 1 := ⟨_, rfl, by decide +kernel⟩
          refine lv_iconst hx hb dX10_measures_100 ev67 ?_
          rw [← hQ]
          exact en_z Z S64 F64 (zo v67 (by omega)) ⟨(by omega), (by rw [((fi_set (k := 3) P64 (ne_ro ta0 tqn (by decide))).trans ((fi_set (k := 3) P59 (ne_ro ta0 tqn (by decide))).trans ((fi_set (k := 3) P54 (ne_ro ta0 tqn (by decide))).trans ((fi_set (k := 3) P49 (ne_ro ta0 tqn (by decide))).trans rfl))))]; omega), (by omega), (by omega), (fun k hk => ((fi_set P64 (ne_ro ta0 tqn (by decide))).trans ((fi_set P59 (ne_ro ta0 tqn (by decide))).trans ((fi_set P54 (ne_ro ta0 tqn (by decide))).trans ((fi_set P49 (ne_ro ta0 tqn (by decide))).trans ((p41_2 k (fw_sub (by decide) hk)).trans ((fi_put P10 (Or.inr (fw_ne (by decide) hk))).trans ((fun k hk => rfl) k hk)))))))), (Chain.post C45 S64.2 ha0 ta0 hqn tqn hqp tqp ((P64.1 qp (ne_ro tqp tqn (by decide))).trans ((P59.1 qp (ne_ro tqp tqn (by decide))).trans ((P54.1 qp (ne_ro tqp tqn (by decide))).trans (P49.1 qp (ne_ro tqp tqn (by decide)))))) ((fi_set (k := 2) P64 (ne_ro ta0 tqn (by decide))).trans ((fi_set (k := 2) P59 (ne_ro ta0 tqn (by decide))).trans ((fi_set (k := 2) P54 (ne_ro ta0 tqn (by decide))).trans (fi_set (k := 2) P49 (ne_ro ta0 tqn (by decide)))))) (Link.ag (fun j h1 h2 => ((ai_setk P64 (by show j ≠ v63.toInt.toNat; omega)).trans ((ai_setk P59 (by show j ≠ v58.toInt.toNat; omega)).trans ((ai_setk P54 (by show j ≠ v53.toInt.toNat; omega)).trans ((ai_setk P49 (by show j ≠ v48.toInt.toNat; omega)).trans (B46 j h1 h2))))))))⟩ dX10_measures_101
        · skip
          have tc40 := nu_eq c40
          have uc40 : (0 : Int32).toInt = 0 := rfl
          exact J61 E10 H37 k38 ls S36 F10 (by have := fb_rng a4; omega) (Chain.same hC S36.2 ha0 ta0 hqn tqn hqp tqp (P10.1 qn (ne_ro tqn ta0 (by decide))) (P10.1 qp (ne_ro tqp ta0 (by decide))) (fi_put (k := 2) P10 (Or.inr (by decide)))) (fun k hk => ((fi_put P10 (Or.inr (fw_ne (by decide) hk))).trans ((fun k hk => rfl) k hk))) (lv_sub hl [0] rfl)

set_option maxHeartbeats 4000000 in
set_option maxRecDepth 100000 in
theorem k_X10_path_vw (l : Launch) (D : va_G) (cy : Nat → ClassId) {L : List Nat} {τ : Nat → Ro} {E : Ec} (hI : Inv TB cy L τ E) {a0 : Nat} (ha0 : a0 ∈ L) (ta0 : τ a0 = (11, 0)) (a1 : Int32) (hC : Chain L τ E) : CtI l yX10_path wsX10_path { frames := 2, cells := 0, slots := 0, locals := 41 } D TB cy L τ E [.ref a0, .int a1] (inW [(11, 0), (60, 0), (61, 0)]) (fun r E' => ((r.toInt = 1 ∧ 1 ≤ a1.toInt ∧ a1.toInt ≤ 3) ∨ (r.toInt = 0 ∧ ¬ (1 ≤ a1.toInt ∧ a1.toInt ≤ 3))) ∧ ((fi E' a0 3).toInt ≠ 2) ∧ 0 ≤ r.toInt ∧ r.toInt ≤ 1 ∧ (∀ k : Nat, k ∉ ([2, 3, 4, 6] : List Nat) → fi E' a0 k = fi E a0 k) ∧ Chain L τ E') := by
  intro sz
  refine sta (cc := cX10_path) (maxL := 3) hI (by decide) rfl (Nat.le_of_ble_eq_true rfl) (fun p e s m args below meth c ls hsz Z S0 hl => ?_)
  have hx := Z.1.1
  have hb := Z.1.2.1
  have hts := Z.1.2.2.2.2
  have F0_ : Fr L τ (inW [(11, 0), (60, 0), (61, 0)]) E E := Fr.refl
  have hl : lv_has ls 3 [(0, .ref a0), (1, .int a1)] := hl
  generalize hQ : MQ below _ args s 0 0 _ = QQ
  obtain ⟨qn, hqn, tqn⟩ := ref_of (k := 0) hI ha0 ta0 rfl rfl
  have tqn : τ qn = (60, 0) := tqn
  obtain ⟨qp, hqp, tqp⟩ := ref_of (k := 1) hI ha0 ta0 rfl rfl
  have tqp : τ qp = (61, 0) := tqp
  have J34 : ∀ (n : Nat) (x2_34 : Int32) (E_34 : Ec) (H_34 : Heap) (k_34 : List Loc) (l_34 : Array Slot), Now D TB cy (va_A (va_pl L E) sz) s L τ E_34 H_34 k_34 → Fr L τ (inW [(11, 0), (60, 0), (61, 0)]) E E_34 → (1 ≤ a1.toInt) → (a1.toInt ≤ 3) → (0 ≤ x2_34.toInt) → (x2_34.toInt ≤ 3) → (1 ≤ a1.toInt ∧ a1.toInt ≤ 3) → (∀ T : Nat → Int32, Link (ai E qn) T → ChW E_34 a0 qp T) → (∀ j : Nat, 44 ≤ j → j ≤ 52 → ai E_34 qn j = ai E qn j) → (∀ k : Nat, k ∉ ([2, 3, 4, 6] : List Nat) → fi E_34 a0 k = fi E a0 k) → (-2147483648 ≤ (fi E_34 a0 3).toInt ∧ (fi E_34 a0 3).toInt ≤ 2147483647 ∧ (fi E_34 a0 3).toInt ≠ 2) → (3 - x2_34.toInt).toNat < n → lv_has l_34 3 [(0, .ref a0), (1, .int a1), (2, .int x2_34)] → W p l e { frames := 2, cells := 0, slots := 0, locals := 41 } s m args below meth c H_34 k_34 0 0 QQ (F0 m 34 l_34 []) := by
    intro n
    induction n with
    | zero => intro x2_34 E_34 H_34 k_34 l_34 S_34 F_34 z1 z2 z3 z4 z5 z6 z7 z8 z9 hm hl_34; exact absurd hm (Nat.not_lt_zero _)
    | succ n ih =>
      intro x2_34 E_34 H_34 k_34 l_34 S_34 F_34 z1 z2 z3 z4 z5 z6 z7 z8 z9 hm hl_34
      have ih_34 := ih
      have J77 : ∀ (y1_77 : Int32) (y2_77 : Int32) (E_77 : Ec) (H_77 : Heap) (k_77 : List Loc) (l_77 : Array Slot), Now D TB cy (va_A (va_pl L E) sz) s L τ E_77 H_77 k_77 → Fr L τ (inW [(11, 0), (60, 0), (61, 0)]) E E_77 → (1 ≤ a1.toInt) → (a1.toInt ≤ 3) → (0 ≤ x2_34.toInt) → (x2_34.toInt ≤ 2) → (8 ≤ y1_77.toInt) → (y1_77.toInt ≤ 10) → (0 ≤ y2_77.toInt) → (y2_77.toInt ≤ 1000) → (1 ≤ a1.toInt ∧ a1.toInt ≤ 3) → (∀ T : Nat → Int32, Link (ai E qn) T → ChW E_77 a0 qp T) → (∀ j : Nat, 44 ≤ j → j ≤ 52 → ai E_77 qn j = ai E qn j) → (∀ k : Nat, k ∉ ([2, 3, 4, 6] : List Nat) → fi E_77 a0 k = fi E a0 k) → (-2147483648 ≤ (fi E_77 a0 3).toInt ∧ (fi E_77 a0 3).toInt ≤ 2147483647 ∧ (fi E_77 a0 3).toInt ≠ 2) → lv_has l_77 3 [(0, .ref a0), (1, .int a1), (2, .int x2_34)] → W p l e { frames := 2, cells := 0, slots := 0, locals := 41 } s m args below meth c H_77 k_77 0 0 QQ (F0 m 77 l_77 [.int y2_77, .int y1_77, .ref qn]) := by
        intro y1_77 y2_77 E_77 H_77 k_77 l_77 S_77 F_77 z10 z11 z12 z13 z14 z15 z16 z17 z18 z19 z20 z21 z22 hl_77
        have b23 : nowB y1_77.toNatClampNeg = (-2147483648, 2147483647) := nb_o (by show y1_77.toInt.toNat < 4 ∨ (8 ≤ y1_77.toInt.toNat ∧ y1_77.toInt.toNat ≤ 18) ∨ (20 ≤ y1_77.toInt.toNat ∧ y1_77.toInt.toNat ≤ 43); omega)
        have b23 : (nowB y1_77.toNatClampNeg).1 ≤ y2_77.toInt ∧ y2_77.toInt ≤ (nowB y1_77.toNatClampNeg).2 := by rw [b23]; have := fb_rng y2_77; show -2147483648 ≤ y2_77.toInt ∧ y2_77.toInt ≤ 2147483647; omega
        refine tr_iastx Z.1 Z.2.2.2.1 S_77.1 S_77.2 hqn tqn rfl (by omega) (by omega) b23.1 b23.2 dX10_path_77 (fun E23 H24 k25 W23 I23 P23 => ?_)
        have S23 : Now D TB cy (va_A (va_pl L E) sz) s L τ E23 H24 k25 := ⟨W23, I23⟩
        have F23 : Fr L τ (inW [(11, 0), (60, 0), (61, 0)]) E E23 := Fr.set F_77 P23 tqn rfl
        obtain ⟨v26, ev26⟩ : ∃ y : Int32, x2_34 + Int32.ofInt (1) = y := ⟨_, rfl⟩
        have tv26 : v26.toInt = x2_34.toInt + (1) := by rw [← ev26]; exact (fb_addI (by rw [show (Int32.ofInt (1)).toInt = 1 from by decide +kernel]; omega) (by rw [show (Int32.ofInt (1)).toInt = 1 from by decide +kernel]; omega)).trans (by rw [show (Int32.ofInt (1)).toInt = 1 from by decide +kernel])
        refine lv_iinc (v := v26) (lv' := [(2, .int v26), (0, .ref a0), (1, .int a1)]) hx hb dX10_path_78 hl_77 (k := 2) rfl ev26 (by decide) rfl (fun l27 hl28 => ?_)
        refine lv_goto (tgt := 34) hx hb dX10_path_81 (by decide) ?_
        exact ih_34 v26 E23 H24 k25 l27 S23 F23 (by omega) (by omega) (by omega) (by omega) (by omega) (fun T hT => (z19 T hT).keep (P23.1 qp (ne_ro tqp tqn (by decide))) (fi_set (k := 2) P23 (ne_ro ta0 tqn (by decide)))) (fun j h1 h2 => ((ai_setk P23 (by show j ≠ y1_77.toInt.toNat; omega)).trans (z20 j h1 h2))) (fun k hk => ((fi_set P23 (ne_ro ta0 tqn (by decide))).trans (z21 k hk))) (by rw [((fi_set (k := 3) P23 (ne_ro ta0 tqn (by decide))).trans rfl)]; omega) (by omega) (lv_sub hl28 [1, 2, 0] rfl)
      have J56 : ∀ (y1_56 : Int32) (y2_56 : Int32) (E_56 : Ec) (H_56 : Heap) (k_56 : List Loc) (l_56 : Array Slot), Now D TB cy (va_A (va_pl L E) sz) s L τ E_56 H_56 k_56 → Fr L τ (inW [(11, 0), (60, 0), (61, 0)]) E E_56 → (1 ≤ a1.toInt) → (a1.toInt ≤ 3) → (0 ≤ x2_34.toInt) → (x2_34.toInt ≤ 2) → (5 ≤ y1_56.toInt) → (y1_56.toInt ≤ 7) → (0 ≤ y2_56.toInt) → (y2_56.toInt ≤ 4) → (1 ≤ a1.toInt ∧ a1.toInt ≤ 3) → (∀ T : Nat → Int32, Link (ai E qn) T → ChW E_56 a0 qp T) → (∀ j : Nat, 44 ≤ j → j ≤ 52 → ai E_56 qn j = ai E qn j) → (∀ k : Nat, k ∉ ([2, 3, 4, 6] : List Nat) → fi E_56 a0 k = fi E a0 k) → (-2147483648 ≤ (fi E_56 a0 3).toInt ∧ (fi E_56 a0 3).toInt ≤ 2147483647 ∧ (fi E_56 a0 3).toInt ≠ 2) → lv_has l_56 3 [(0, .ref a0), (1, .int a1), (2, .int x2_34)] → W p l e { frames := 2, cells := 0, slots := 0, locals := 41 } s m args below meth c H_56 k_56 0 0 QQ (F0 m 56 l_56 [.int y2_56, .int y1_56, .ref qn]) := by
        intro y1_56 y2_56 E_56 H_56 k_56 l_56 S_56 F_56 z29 z30 z31 z32 z33 z34 z35 z36 z37 z38 z39 z40 z41 hl_56
        have b42 : nowB y1_56.toNatClampNeg = (0, 20) := nb_5 (by show 5 ≤ y1_56.toInt.toNat ∧ y1_56.toInt.toNat ≤ 7; omega)
        have b42 : (nowB y1_56.toNatClampNeg).1 ≤ y2_56.toInt ∧ y2_56.toInt ≤ (nowB y1_56.toNatClampNeg).2 := by rw [b42]; have := fb_rng y2_56; show 0 ≤ y2_56.toInt ∧ y2_56.toInt ≤ 20; omega
        refine tr_iastx Z.1 Z.2.2.2.1 S_56.1 S_56.2 hqn tqn rfl (by omega) (by omega) b42.1 b42.2 dX10_path_56 (fun E42 H43 k44 W42 I42 P42 => ?_)
        have S42 : Now D TB cy (va_A (va_pl L E) sz) s L τ E42 H43 k44 := ⟨W42, I42⟩
        have F42 : Fr L τ (inW [(11, 0), (60, 0), (61, 0)]) E E42 := Fr.set F_56 P42 tqn rfl
        refine lv_aload_n hx hb dX10_path_57 rfl (lv_at hl_56 0 rfl) ?_
        refine tr_getr Z.1 Z.2.2.2.1 S42.1 S42.2 ha0 ta0 rfl rfl (fun _ h => List.mem_cons_of_mem _ (List.mem_append_right _ h)) 0 (by decide) rfl (hts _ (List.mem_of_getElem? (i := 2) rfl)) dX10_path_58 (fun q45 eq45 hq45 tq45 => ?_)
        have tq45 : τ q45 = (60, 0) := tq45
        have uq45 : qn = q45 := S42.2.2.2.2 _ hqn _ hq45 (tqn.trans tq45.symm) (by rw [tqn]; rfl)
        subst uq45
        obtain ⟨v46, ev46, tv46⟩ : ∃ v : Int32, (Int8.ofInt (8)).toInt32 = v ∧ v.toInt = 8 := ⟨_, rfl, by decide +kernel⟩
        refine lv_bipush hx hb dX10_path_61 ev46 ?_
        refine lv_iload_n hx hb dX10_path_63 rfl (lv_at hl_56 2 rfl) ?_
        refine lv_iadd hx hb dX10_path_64 ?_
        refine lv_topi (fun v47 ev47 => ?_)
        have tv47 := nu_add ev47 (by omega) (by omega)
        refine lv_iload_n hx hb dX10_path_65 rfl (lv_at hl_56 2 rfl) ?_
        refine lv_iload_n hx hb dX10_path_66 rfl (lv_at hl_56 1 rfl) ?_
        refine lv_icmp_ge (tgt := 76) hx hb dX10_path_67 (by decide) (fun c48 => ?_) (fun c48 => ?_)
        · skip
          have tc48 := nu_le c48
          obtain ⟨v49, ev49, tv49⟩ : ∃ v : Int32, Int32.ofInt (0) = v ∧ v.toInt = 0 := ⟨_, rfl, by decide +kernel⟩
          refine lv_iconst hx hb dX10_path_76 ev49 ?_
          exact J77 v47 v49 E42 H43 k44 l_56 S42 F42 (by omega) (by omega) (by omega) (by omega) (by omega) (by omega) (by omega) (by omega) (by omega) (fun T hT => (z38 T hT).keep (P42.1 qp (ne_ro tqp tqn (by decide))) (fi_set (k := 2) P42 (ne_ro ta0 tqn (by decide)))) (fun j h1 h2 => ((ai_setk P42 (by show j ≠ y1_56.toInt.toNat; omega)).trans (z39 j h1 h2))) (fun k hk => ((fi_set P42 (ne_ro ta0 tqn (by decide))).trans (z40 k hk))) (by rw [((fi_set (k := 3) P42 (ne_ro ta0 tqn (by decide))).trans rfl)]; omega) (lv_sub hl_56 [0, 1, 2] rfl)
        · skip
          have tc48 := nu_nle c48
          obtain ⟨v50, ev50, tv50⟩ : ∃ v : Int32, (Int16.ofInt (1000)).toInt32 = v ∧ v.toInt = 1000 := ⟨_, rfl, by decide +kernel⟩
          refine lv_sipush hx hb dX10_path_70 ev50 ?_
          refine lv_goto (tgt := 77) hx hb dX10_path_73 (by decide) ?_
          exact J77 v47 v50 E42 H43 k44 l_56 S42 F42 (by omega) (by omega) (by omega) (by omega) (by omega) (by omega) (by omega) (by omega) (by omega) (fun T hT => (z38 T hT).keep (P42.1 qp (ne_ro tqp tqn (by decide))) (fi_set (k := 2) P42 (ne_ro ta0 tqn (by decide)))) (fun j h1 h2 => ((ai_setk P42 (by show j ≠ y1_56.toInt.toNat; omega)).trans (z39 j h1 h2))) (fun k hk => ((fi_set P42 (ne_ro ta0 tqn (by decide))).trans (z40 k hk))) (by rw [((fi_set (k := 3) P42 (ne_ro ta0 tqn (by decide))).trans rfl)]; omega) (lv_sub hl_56 [0, 1, 2] rfl)
      refine lv_iload_n hx hb dX10_path_34 rfl (lv_at hl_34 2 rfl) ?_
      obtain ⟨v51, ev51, tv51⟩ : ∃ v : Int32, Int32.ofInt (3) = v ∧ v.toInt = 3 := ⟨_, rfl, by decide +kernel⟩
      refine lv_iconst hx hb dX10_path_35 ev51 ?_
      refine lv_icmp_ge (tgt := 84) hx hb dX10_path_36 (by decide) (fun c52 => ?_) (fun c52 => ?_)
      · skip
        have tc52 := nu_le c52
        refine lv_aload_n hx hb dX10_path_84 rfl (lv_at hl_34 0 rfl) ?_
        refine tr_getr Z.1 Z.2.2.2.1 S_34.1 S_34.2 ha0 ta0 rfl rfl (fun _ h => List.mem_cons_of_mem _ (List.mem_append_right _ h)) 0 (by decide) rfl (hts _ (List.mem_of_getElem? (i := 2) rfl)) dX10_path_85 (fun q53 eq53 hq53 tq53 => ?_)
        have tq53 : τ q53 = (60, 0) := tq53
        have uq53 : qn = q53 := S_34.2.2.2.2 _ hqn _ hq53 (tqn.trans tq53.symm) (by rw [tqn]; rfl)
        subst uq53
        obtain ⟨v54, ev54, tv54⟩ : ∃ v : Int32, (Int8.ofInt (11)).toInt32 = v ∧ v.toInt = 11 := ⟨_, rfl, by decide +kernel⟩
        refine lv_bipush hx hb dX10_path_88 ev54 ?_
        obtain ⟨v55, ev55, tv55⟩ : ∃ v : Int32, Int32.ofInt (0) = v ∧ v.toInt = 0 := ⟨_, rfl, by decide +kernel⟩
        refine lv_iconst hx hb dX10_path_90 ev55 ?_
        have b56 : nowB v54.toNatClampNeg = (-2147483648, 2147483647) := nb_o (by show v54.toInt.toNat < 4 ∨ (8 ≤ v54.toInt.toNat ∧ v54.toInt.toNat ≤ 18) ∨ (20 ≤ v54.toInt.toNat ∧ v54.toInt.toNat ≤ 43); omega)
        have b56 : (nowB v54.toNatClampNeg).1 ≤ v55.toInt ∧ v55.toInt ≤ (nowB v54.toNatClampNeg).2 := by rw [b56]; have := fb_rng v55; show -2147483648 ≤ v55.toInt ∧ v55.toInt ≤ 2147483647; omega
        refine tr_iastx Z.1 Z.2.2.2.1 S_34.1 S_34.2 hqn tqn rfl (by omega) (by omega) b56.1 b56.2 dX10_path_91 (fun E56 H57 k58 W56 I56 P56 => ?_)
        have S56 : Now D TB cy (va_A (va_pl L E) sz) s L τ E56 H57 k58 := ⟨W56, I56⟩
        have F56 : Fr L τ (inW [(11, 0), (60, 0), (61, 0)]) E E56 := Fr.set F_34 P56 tqn rfl
        refine lv_aload_n hx hb dX10_path_92 rfl (lv_at hl_34 0 rfl) ?_
        refine tr_getr Z.1 Z.2.2.2.1 S56.1 S56.2 ha0 ta0 rfl rfl (fun _ h => List.mem_cons_of_mem _ (List.mem_append_right _ h)) 0 (by decide) rfl (hts _ (List.mem_of_getElem? (i := 2) rfl)) dX10_path_93 (fun q59 eq59 hq59 tq59 => ?_)
        have tq59 : τ q59 = (60, 0) := tq59
        have uq59 : qn = q59 := S56.2.2.2.2 _ hqn _ hq59 (tqn.trans tq59.symm) (by rw [tqn]; rfl)
        subst uq59
        obtain ⟨v60, ev60, tv60⟩ : ∃ v : Int32, (Int8.ofInt (12)).toInt32 = v ∧ v.toInt = 12 := ⟨_, rfl, by decide +kernel⟩
        refine lv_bipush hx hb dX10_path_96 ev60 ?_
        obtain ⟨v61, ev61, tv61⟩ : ∃ v : Int32, Int32.ofInt (0) = v ∧ v.toInt = 0 := ⟨_, rfl, by decide +kernel⟩
        refine lv_iconst hx hb dX10_path_98 ev61 ?_
        have b62 : nowB v60.toNatClampNeg = (-2147483648, 2147483647) := nb_o (by show v60.toInt.toNat < 4 ∨ (8 ≤ v60.toInt.toNat ∧ v60.toInt.toNat ≤ 18) ∨ (20 ≤ v60.toInt.toNat ∧ v60.toInt.toNat ≤ 43); omega)
        have b62 : (nowB v60.toNatClampNeg).1 ≤ v61.toInt ∧ v61.toInt ≤ (nowB v60.toNatClampNeg).2 := by rw [b62]; have := fb_rng v61; show -2147483648 ≤ v61.toInt ∧ v61.toInt ≤ 2147483647; omega
        refine tr_iastx Z.1 Z.2.2.2.1 S56.1 S56.2 hqn tqn rfl (by omega) (by omega) b62.1 b62.2 dX10_path_99 (fun E62 H63 k64 W62 I62 P62 => ?_)
        have S62 : Now D TB cy (va_A (va_pl L E) sz) s L τ E62 H63 k64 := ⟨W62, I62⟩
        have F62 : Fr L τ (inW [(11, 0), (60, 0), (61, 0)]) E E62 := Fr.set F56 P62 tqn rfl
        obtain ⟨v65, ev65, tv65⟩ : ∃ v : Int32, Int32.ofInt (1) = v ∧ v.toInt = 1 := ⟨_, rfl, by decide +kernel⟩
        refine lv_iconst hx hb dX10_path_100 ev65 ?_
        rw [← hQ]
        exact en_z Z S62 F62 (zo v65 (by omega)) ⟨(by omega), (by rw [((fi_set (k := 3) P62 (ne_ro ta0 tqn (by decide))).trans ((fi_set (k := 3) P56 (ne_ro ta0 tqn (by decide))).trans rfl))]; omega), (by omega), (by omega), (fun k hk => ((fi_set P62 (ne_ro ta0 tqn (by decide))).trans ((fi_set P56 (ne_ro ta0 tqn (by decide))).trans (z8 k hk)))), (Chain.post z6 S62.2 ha0 ta0 hqn tqn hqp tqp ((P62.1 qp (ne_ro tqp tqn (by decide))).trans (P56.1 qp (ne_ro tqp tqn (by decide)))) ((fi_set (k := 2) P62 (ne_ro ta0 tqn (by decide))).trans (fi_set (k := 2) P56 (ne_ro ta0 tqn (by decide)))) (Link.ag (fun j h1 h2 => ((ai_setk P62 (by show j ≠ v60.toInt.toNat; omega)).trans ((ai_setk P56 (by show j ≠ v54.toInt.toNat; omega)).trans (z7 j h1 h2))))))⟩ dX10_path_101
      · skip
        have tc52 := nu_nle c52
        refine lv_aload_n hx hb dX10_path_39 rfl (lv_at hl_34 0 rfl) ?_
        refine tr_getr Z.1 Z.2.2.2.1 S_34.1 S_34.2 ha0 ta0 rfl rfl (fun _ h => List.mem_cons_of_mem _ (List.mem_append_right _ h)) 0 (by decide) rfl (hts _ (List.mem_of_getElem? (i := 2) rfl)) dX10_path_40 (fun q66 eq66 hq66 tq66 => ?_)
        have tq66 : τ q66 = (60, 0) := tq66
        have uq66 : qn = q66 := S_34.2.2.2.2 _ hqn _ hq66 (tqn.trans tq66.symm) (by rw [tqn]; rfl)
        subst uq66
        obtain ⟨v67, ev67, tv67⟩ : ∃ v : Int32, Int32.ofInt (5) = v ∧ v.toInt = 5 := ⟨_, rfl, by decide +kernel⟩
        refine lv_iconst hx hb dX10_path_43 ev67 ?_
        refine lv_iload_n hx hb dX10_path_44 rfl (lv_at hl_34 2 rfl) ?_
        refine lv_iadd hx hb dX10_path_45 ?_
        refine lv_topi (fun v68 ev68 => ?_)
        have tv68 := nu_add ev68 (by omega) (by omega)
        refine lv_iload_n hx hb dX10_path_46 rfl (lv_at hl_34 2 rfl) ?_
        refine lv_iload_n hx hb dX10_path_47 rfl (lv_at hl_34 1 rfl) ?_
        refine lv_icmp_ge (tgt := 55) hx hb dX10_path_48 (by decide) (fun c69 => ?_) (fun c69 => ?_)
        · skip
          have tc69 := nu_le c69
          obtain ⟨v70, ev70, tv70⟩ : ∃ v : Int32, Int32.ofInt (0) = v ∧ v.toInt = 0 := ⟨_, rfl, by decide +kernel⟩
          refine lv_iconst hx hb dX10_path_55 ev70 ?_
          exact J56 v68 v70 E_34 H_34 k_34 l_34 S_34 F_34 (by omega) (by omega) (by omega) (by omega) (by omega) (by omega) (by omega) (by omega) (by omega) z6 (fun j h1 h2 => (z7 j h1 h2)) (fun k hk => (z8 k hk)) (by omega) (lv_sub hl_34 [0, 1, 2] rfl)
        · skip
          have tc69 := nu_nle c69
          obtain ⟨v71, ev71, tv71⟩ : ∃ v : Int32, Int32.ofInt (4) = v ∧ v.toInt = 4 := ⟨_, rfl, by decide +kernel⟩
          refine lv_iconst hx hb dX10_path_51 ev71 ?_
          refine lv_goto (tgt := 56) hx hb dX10_path_52 (by decide) ?_
          exact J56 v68 v71 E_34 H_34 k_34 l_34 S_34 F_34 (by omega) (by omega) (by omega) (by omega) (by omega) (by omega) (by omega) (by omega) (by omega) z6 (fun j h1 h2 => (z7 j h1 h2)) (fun k hk => (z8 k hk)) (by omega) (lv_sub hl_34 [0, 1, 2] rfl)
  refine lv_aload_n hx hb dX10_path_0 rfl (lv_at hl 0 rfl) ?_
  obtain ⟨v72, ev72, tv72⟩ : ∃ v : Int32, Int32.ofInt (0) = v ∧ v.toInt = 0 := ⟨_, rfl, by decide +kernel⟩
  refine lv_iconst hx hb dX10_path_1 ev72 ?_
  refine tr_puti Z.1 Z.2.2.2.1 S0.1 S0.2 ha0 ta0 rfl rfl (fun _ h => List.mem_cons_of_mem _ (List.mem_append_right _ h)) tyX10_ok nmX10 4 (by decide) rfl rfl rfl (hts _ (List.mem_of_getElem? (i := 1) rfl)) dX10_path_2 (by omega) (by omega) (fun E73 H74 k75 W73 I73 P73 => ?_)
  have S73 : Now D TB cy (va_A (va_pl L E) sz) s L τ E73 H74 k75 := ⟨W73, I73⟩
  have F73 : Fr L τ (inW [(11, 0), (60, 0), (61, 0)]) E E73 := Fr.put F0_ P73 ta0 rfl
  refine lv_aload_n hx hb dX10_path_5 rfl (lv_at hl 0 rfl) ?_
  refine lv_iload_n hx hb dX10_path_6 rfl (lv_at hl 1 rfl) ?_
  obtain ⟨v76, ev76, tv76⟩ : ∃ v : Int32, Int32.ofInt (1) = v ∧ v.toInt = 1 := ⟨_, rfl, by decide +kernel⟩
  refine lv_iconst hx hb dX10_path_7 ev76 ?_
  obtain ⟨v77, ev77, tv77⟩ : ∃ v : Int32, Int32.ofInt (3) = v ∧ v.toInt = 3 := ⟨_, rfl, by decide +kernel⟩
  refine lv_iconst hx hb dX10_path_8 ev77 ?_
  refine tc_vi Z.1 Z.2.2.2.1 Z.2.2.2.2.1 Z.2.2.2.2.2 S73.1 S73.2 ha0 ta0 rfl rfl (k_X10_in l D cy S73.2 ha0 ta0 a1 v76 v77) (cwV 3 hts gX10_path_X10_in rfl rfl rfl (by decide +kernel) ⟨Nat.le_of_ble_eq_true rfl, Nat.le_of_ble_eq_true rfl⟩) rfl hl.1 rfl (Nat.le_of_ble_eq_true rfl) dX10_path_9 ⟨Nat.zero_le _, Nat.zero_le _⟩ (fun v81 E78 H79 k80 W78 I78 G78 p78 => ?_)
  obtain ⟨q78, p78_0, p78_1, p78_2⟩ := p78
  have q78 := q78.symm
  subst q78
  have S78 : Now D TB cy (va_A (va_pl L E) sz) s L τ E73 H79 k80 := ⟨W78, I78⟩
  refine lv_if_ne (tgt := 21) hx hb dX10_path_12 (by decide) (fun c82 => ?_) (fun c82 => ?_)
  · skip
    have tc82 := nu_ne c82
    have uc82 : (0 : Int32).toInt = 0 := rfl
    refine lv_aload_n hx hb dX10_path_21 rfl (lv_at hl 0 rfl) ?_
    refine tc_vv Z.1 Z.2.2.2.1 Z.2.2.2.2.1 Z.2.2.2.2.2 S78.1 S78.2 ha0 ta0 rfl rfl (k_X10_act_vw l D cy S78.2 ha0 ta0 (Chain.same hC S78.2 ha0 ta0 hqn tqn hqp tqp (P73.1 qn (ne_ro tqn ta0 (by decide))) (P73.1 qp (ne_ro tqp ta0 (by decide))) (fi_put (k := 2) P73 (Or.inr (by decide))))) (cwV 0 hts gX10_path_X10_act rfl rfl rfl (by decide +kernel) ⟨Nat.le_of_ble_eq_true rfl, Nat.le_of_ble_eq_true rfl⟩) rfl hl.1 rfl (Nat.le_of_ble_eq_true rfl) dX10_path_22 ⟨Nat.zero_le _, Nat.zero_le _⟩ (fun E83 H84 k85 W83 I83 G83 p83 => ?_)
    obtain ⟨p83_0, p83_1, p83_2⟩ := p83
    have S83 : Now D TB cy (va_A (va_pl L E) sz) s L τ E83 H84 k85 := ⟨W83, I83⟩
    have F83 : Fr L τ (inW [(11, 0), (60, 0), (61, 0)]) E E83 := F73.trans (G83.mono (inW_mono (by decide)))
    have C87 : ∀ T : Nat → Int32, Link (ai E qn) T → ChW E83 a0 qp T := fun T hT => p83_0 qn hqn tqn qp hqp tqp T (by rw [ai_cell (P73.1 qn (ne_ro tqn ta0 (by decide)))]; exact hT)
    have B88 : ∀ j : Nat, 44 ≤ j → j ≤ 52 → ai E83 qn j = ai E qn j := fun j _ _ => ((ai_fr G83 hqn (by rw [tqn]; rfl)).trans (ai_put P73 (ne_ro tqn ta0 (by decide))))
    have kz83_3 := fi_rng (k := 3) S83.2 ha0 ta0 rfl rfl
    refine lv_aload_n hx hb dX10_path_25 rfl (lv_at hl 0 rfl) ?_
    refine tr_getr Z.1 Z.2.2.2.1 S83.1 S83.2 ha0 ta0 rfl rfl (fun _ h => List.mem_cons_of_mem _ (List.mem_append_right _ h)) 0 (by decide) rfl (hts _ (List.mem_of_getElem? (i := 2) rfl)) dX10_path_26 (fun q89 eq89 hq89 tq89 => ?_)
    have tq89 : τ q89 = (60, 0) := tq89
    have uq89 : qn = q89 := S83.2.2.2.2 _ hqn _ hq89 (tqn.trans tq89.symm) (by rw [tqn]; rfl)
    subst uq89
    obtain ⟨v90, ev90, tv90⟩ : ∃ v : Int32, Int32.ofInt (4) = v ∧ v.toInt = 4 := ⟨_, rfl, by decide +kernel⟩
    refine lv_iconst hx hb dX10_path_29 ev90 ?_
    refine lv_iload_n hx hb dX10_path_30 rfl (lv_at hl 1 rfl) ?_
    have b91 : nowB v90.toNatClampNeg = (0, 3) := nb_4 (by show v90.toInt.toNat = 4; omega)
    have b91 : (nowB v90.toNatClampNeg).1 ≤ a1.toInt ∧ a1.toInt ≤ (nowB v90.toNatClampNeg).2 := by rw [b91]; have := fb_rng a1; show 0 ≤ a1.toInt ∧ a1.toInt ≤ 3; omega
    refine tr_iastx Z.1 Z.2.2.2.1 S83.1 S83.2 hqn tqn rfl (by omega) (by omega) b91.1 b91.2 dX10_path_31 (fun E91 H92 k93 W91 I91 P91 => ?_)
    have S91 : Now D TB cy (va_A (va_pl L E) sz) s L τ E91 H92 k93 := ⟨W91, I91⟩
    have F91 : Fr L τ (inW [(11, 0), (60, 0), (61, 0)]) E E91 := Fr.set F83 P91 tqn rfl
    obtain ⟨v94, ev94, tv94⟩ : ∃ v : Int32, Int32.ofInt (0) = v ∧ v.toInt = 0 := ⟨_, rfl, by decide +kernel⟩
    refine lv_iconst hx hb dX10_path_32 ev94 ?_
    refine lv_istore_n (lv' := [(2, .int v94), (0, .ref a0), (1, .int a1)]) hx hb dX10_path_33 rfl hl (by decide) rfl (fun l95 hl96 => ?_)
    exact J34 _ v94 E91 H92 k93 l95 S91 F91 (by omega) (by omega) (by omega) (by omega) (by omega) (fun T hT => (C87 T hT).keep (P91.1 qp (ne_ro tqp tqn (by decide))) (fi_set (k := 2) P91 (ne_ro ta0 tqn (by decide)))) (fun j h1 h2 => ((ai_setk P91 (by show j ≠ v90.toInt.toNat; omega)).trans (B88 j h1 h2))) (fun k hk => ((fi_set P91 (ne_ro ta0 tqn (by decide))).trans ((p83_2 k (fw_sub (by decide) hk)).trans ((fi_put P73 (Or.inr (fw_ne (by decide) hk))).trans ((fun k hk => rfl) k hk))))) (by rw [((fi_set (k := 3) P91 (ne_ro ta0 tqn (by decide))).trans rfl)]; omega) (Nat.lt_succ_self _) (lv_sub hl96 [1, 2, 0] rfl)
  · skip
    have tc82 := nu_eq c82
    have uc82 : (0 : Int32).toInt = 0 := rfl
    refine lv_aload_n hx hb dX10_path_15 rfl (lv_at hl 0 rfl) ?_
    obtain ⟨v97, ev97, tv97⟩ : ∃ v : Int32, Int32.ofInt (1) = v ∧ v.toInt = 1 := ⟨_, rfl, by decide +kernel⟩
    refine lv_iconst hx hb dX10_path_16 ev97 ?_
    refine tc_vi Z.1 Z.2.2.2.1 Z.2.2.2.2.1 Z.2.2.2.2.2 S78.1 S78.2 ha0 ta0 rfl rfl (k_X10_not_vw l D cy S78.2 ha0 ta0 v97) (cwV 1 hts gX10_path_X10_not rfl rfl rfl (by decide +kernel) ⟨Nat.le_of_ble_eq_true rfl, Nat.le_of_ble_eq_true rfl⟩) rfl hl.1 rfl (Nat.le_of_ble_eq_true rfl) dX10_path_17 ⟨Nat.zero_le _, Nat.zero_le _⟩ (fun v101 E98 H99 k100 W98 I98 G98 p98 => ?_)
    obtain ⟨p98_0, p98_1, p98_2, p98_3⟩ := p98
    have S98 : Now D TB cy (va_A (va_pl L E) sz) s L τ E98 H99 k100 := ⟨W98, I98⟩
    have F98 : Fr L τ (inW [(11, 0), (60, 0), (61, 0)]) E E98 := F73.trans (G98.mono (inW_mono (by decide)))
    have kz98_3 := fi_rng (k := 3) S98.2 ha0 ta0 rfl rfl
    rw [← hQ]
    exact en_z Z S98 F98 (zo v101 (by omega)) ⟨(by omega), (by omega), (by omega), (by omega), (fun k hk => ((p98_3 k (fw_sub (by decide) hk)).trans ((fi_put P73 (Or.inr (fw_ne (by decide) hk))).trans ((fun k hk => rfl) k hk)))), (Chain.same hC S98.2 ha0 ta0 hqn tqn hqp tqp ((G98 qn hqn (by rw [tqn]; rfl)).trans (P73.1 qn (ne_ro tqn ta0 (by decide)))) ((G98 qp hqp (by rw [tqp]; rfl)).trans (P73.1 qp (ne_ro tqp ta0 (by decide)))) ((p98_3 2 (by decide)).trans (fi_put (k := 2) P73 (Or.inr (by decide)))))⟩ dX10_path_20

set_option maxHeartbeats 4000000 in
set_option maxRecDepth 100000 in
theorem k_X10_flight_vw (l : Launch) (D : va_G) (cy : Nat → ClassId) {L : List Nat} {τ : Nat → Ro} {E : Ec} (hI : Inv TB cy L τ E) {a0 : Nat} (ha0 : a0 ∈ L) (ta0 : τ a0 = (11, 0)) (a1 : Int32) (a2 : Int32) (a3 : Int32) (hC : Chain L τ E) : CtI l yX10_flight wsX10_flight { frames := 2, cells := 0, slots := 0, locals := 41 } D TB cy L τ E [.ref a0, .int a1, .int a2, .int a3] (inW [(11, 0), (60, 0), (61, 0)]) (fun r E' => ((fi E' a0 3).toInt ≠ 2) ∧ 0 ≤ r.toInt ∧ r.toInt ≤ 1 ∧ (∀ k : Nat, k ∉ ([2, 3, 4, 6] : List Nat) → fi E' a0 k = fi E a0 k) ∧ Chain L τ E') := by
  intro sz
  refine sta (cc := cX10_flight) (maxL := 6) hI (by decide) rfl (Nat.le_of_ble_eq_true rfl) (fun p e s m args below meth c ls hsz Z S0 hl => ?_)
  have hx := Z.1.1
  have hb := Z.1.2.1
  have hts := Z.1.2.2.2.2
  have F0_ : Fr L τ (inW [(11, 0), (60, 0), (61, 0)]) E E := Fr.refl
  have hl : lv_has ls 6 [(0, .ref a0), (1, .int a1), (2, .int a2), (3, .int a3)] := hl
  generalize hQ : MQ below _ args s 0 0 _ = QQ
  obtain ⟨qn, hqn, tqn⟩ := ref_of (k := 0) hI ha0 ta0 rfl rfl
  have tqn : τ qn = (60, 0) := tqn
  obtain ⟨qp, hqp, tqp⟩ := ref_of (k := 1) hI ha0 ta0 rfl rfl
  have tqp : τ qp = (61, 0) := tqp
  have J103 : ∀  (E_103 : Ec) (H_103 : Heap) (k_103 : List Loc) (l_103 : Array Slot), Now D TB cy (va_A (va_pl L E) sz) s L τ E_103 H_103 k_103 → Fr L τ (inW [(11, 0), (60, 0), (61, 0)]) E E_103 → (Chain L τ E_103) → (∀ k : Nat, k ∉ ([2, 3, 4, 6] : List Nat) → fi E_103 a0 k = fi E a0 k) → lv_has l_103 6 [(0, .ref a0)] → W p l e { frames := 2, cells := 0, slots := 0, locals := 41 } s m args below meth c H_103 k_103 0 0 QQ (F0 m 103 l_103 []) := by
    intro  E_103 H_103 k_103 l_103 S_103 F_103 z1 z2 hl_103
    refine lv_aload_n hx hb dX10_flight_103 rfl (lv_at hl_103 0 rfl) ?_
    obtain ⟨v3, ev3, tv3⟩ : ∃ v : Int32, Int32.ofInt (1) = v ∧ v.toInt = 1 := ⟨_, rfl, by decide +kernel⟩
    refine lv_iconst hx hb dX10_flight_104 ev3 ?_
    refine tc_vi Z.1 Z.2.2.2.1 Z.2.2.2.2.1 Z.2.2.2.2.2 S_103.1 S_103.2 ha0 ta0 rfl rfl (k_X10_not_vw l D cy S_103.2 ha0 ta0 v3) (cwV 1 hts gX10_flight_X10_not rfl rfl rfl (by decide +kernel) ⟨Nat.le_of_ble_eq_true rfl, Nat.le_of_ble_eq_true rfl⟩) rfl hl_103.1 rfl (Nat.le_of_ble_eq_true rfl) dX10_flight_105 ⟨Nat.zero_le _, Nat.zero_le _⟩ (fun v7 E4 H5 k6 W4 I4 G4 p4 => ?_)
    obtain ⟨p4_0, p4_1, p4_2, p4_3⟩ := p4
    have S4 : Now D TB cy (va_A (va_pl L E) sz) s L τ E4 H5 k6 := ⟨W4, I4⟩
    have F4 : Fr L τ (inW [(11, 0), (60, 0), (61, 0)]) E E4 := F_103.trans (G4.mono (inW_mono (by decide)))
    have kz4_3 := fi_rng (k := 3) S4.2 ha0 ta0 rfl rfl
    rw [← hQ]
    exact en_z Z S4 F4 (zo v7 (by omega)) ⟨(by omega), (by omega), (by omega), (fun k hk => ((p4_3 k (fw_sub (by decide) hk)).trans (z2 k hk))), (Chain.same z1 S4.2 ha0 ta0 hqn tqn hqp tqp (G4 qn hqn (by rw [tqn]; rfl)) (G4 qp hqp (by rw [tqp]; rfl)) (p4_3 2 (by decide)))⟩ dX10_flight_108
  have J34 : ∀ (n : Nat) (x4_34 : Int32) (x5_34 : Int32) (E_34 : Ec) (H_34 : Heap) (k_34 : List Loc) (l_34 : Array Slot), Now D TB cy (va_A (va_pl L E) sz) s L τ E_34 H_34 k_34 → Fr L τ (inW [(11, 0), (60, 0), (61, 0)]) E E_34 → (0 ≤ a1.toInt) → (a1.toInt ≤ 2) → (0 ≤ x5_34.toInt) → (x5_34.toInt ≤ 3) → (Chain L τ E_34) → (∀ k : Nat, k ∉ ([2, 3, 4, 6] : List Nat) → fi E_34 a0 k = fi E a0 k) → (3 - x5_34.toInt).toNat < n → lv_has l_34 6 [(0, .ref a0), (1, .int a1), (2, .int a2), (3, .int a3), (4, .int x4_34), (5, .int x5_34)] → W p l e { frames := 2, cells := 0, slots := 0, locals := 41 } s m args below meth c H_34 k_34 0 0 QQ (F0 m 34 l_34 []) := by
    intro n
    induction n with
    | zero => intro x4_34 x5_34 E_34 H_34 k_34 l_34 S_34 F_34 z8 z9 z10 z11 z12 z13 hm hl_34; exact absurd hm (Nat.not_lt_zero _)
    | succ n ih =>
      intro x4_34 x5_34 E_34 H_34 k_34 l_34 S_34 F_34 z8 z9 z10 z11 z12 z13 hm hl_34
      have ih_34 := ih
      have J66 : ∀ (y0_66 : Int32) (y1_66 : Int32) (E_66 : Ec) (H_66 : Heap) (k_66 : List Loc) (l_66 : Array Slot), Now D TB cy (va_A (va_pl L E) sz) s L τ E_66 H_66 k_66 → Fr L τ (inW [(11, 0), (60, 0), (61, 0)]) E E_66 → (0 ≤ a1.toInt) → (a1.toInt ≤ 2) → (0 ≤ x5_34.toInt) → (x5_34.toInt ≤ 2) → (0 ≤ y1_66.toInt) → (y1_66.toInt ≤ 20) → (Chain L τ E_66) → (∀ k : Nat, k ∉ ([2, 3, 4, 6] : List Nat) → fi E_66 a0 k = fi E a0 k) → lv_has l_66 6 [(0, .ref a0), (1, .int a1), (2, .int a2), (3, .int a3), (5, .int x5_34)] → W p l e { frames := 2, cells := 0, slots := 0, locals := 41 } s m args below meth c H_66 k_66 0 0 QQ (F0 m 66 l_66 [.int y1_66, .int y0_66]) := by
        intro y0_66 y1_66 E_66 H_66 k_66 l_66 S_66 F_66 z14 z15 z16 z17 z18 z19 z20 z21 hl_66
        refine lv_iadd hx hb dX10_flight_66 ?_
        refine lv_topi (fun v22 ev22 => ?_)
        refine lv_istore (lv' := [(4, .int v22), (0, .ref a0), (1, .int a1), (2, .int a2), (3, .int a3), (5, .int x5_34)]) hx hb dX10_flight_67 hl_66 (by decide) rfl (fun l23 hl24 => ?_)
        obtain ⟨v25, ev25⟩ : ∃ y : Int32, x5_34 + Int32.ofInt (1) = y := ⟨_, rfl⟩
        have tv25 : v25.toInt = x5_34.toInt + (1) := by rw [← ev25]; exact (fb_addI (by rw [show (Int32.ofInt (1)).toInt = 1 from by decide +kernel]; omega) (by rw [show (Int32.ofInt (1)).toInt = 1 from by decide +kernel]; omega)).trans (by rw [show (Int32.ofInt (1)).toInt = 1 from by decide +kernel])
        refine lv_iinc (v := v25) (lv' := [(5, .int v25), (4, .int v22), (0, .ref a0), (1, .int a1), (2, .int a2), (3, .int a3)]) hx hb dX10_flight_69 hl24 (k := 5) rfl ev25 (by decide) rfl (fun l26 hl27 => ?_)
        refine lv_goto (tgt := 34) hx hb dX10_flight_72 (by decide) ?_
        exact ih_34 v22 v25 E_66 H_66 k_66 l26 S_66 F_66 (by have := fb_rng v22; have := fb_rng a2; have := fb_rng a3; omega) (by have := fb_rng v22; have := fb_rng a2; have := fb_rng a3; omega) (by have := fb_rng v22; have := fb_rng a2; have := fb_rng a3; omega) (by have := fb_rng v22; have := fb_rng a2; have := fb_rng a3; omega) z20 (fun k hk => (z21 k hk)) (by omega) (lv_sub hl27 [2, 3, 4, 5, 1, 0] rfl)
      refine lv_iload hx hb dX10_flight_34 (lv_at hl_34 5 rfl) ?_
      refine lv_aload_n hx hb dX10_flight_36 rfl (lv_at hl_34 0 rfl) ?_
      refine tr_getr Z.1 Z.2.2.2.1 S_34.1 S_34.2 ha0 ta0 rfl rfl (fun _ h => List.mem_cons_of_mem _ (List.mem_append_right _ h)) 0 (by decide) rfl (hts _ (List.mem_of_getElem? (i := 2) rfl)) dX10_flight_37 (fun q28 eq28 hq28 tq28 => ?_)
      have tq28 : τ q28 = (60, 0) := tq28
      have uq28 : qn = q28 := S_34.2.2.2.2 _ hqn _ hq28 (tqn.trans tq28.symm) (by rw [tqn]; rfl)
      subst uq28
      obtain ⟨v29, ev29, tv29⟩ : ∃ v : Int32, Int32.ofInt (4) = v ∧ v.toInt = 4 := ⟨_, rfl, by decide +kernel⟩
      refine lv_iconst hx hb dX10_flight_40 ev29 ?_
      refine tr_ialdx Z.1 Z.2.2.2.1 S_34.1 S_34.2 hqn tqn rfl (by omega) (by omega) dX10_flight_41 (fun v30 ev30 lv30 uv30 => ?_)
      have bv30 : nowB v29.toNatClampNeg = (0, 3) := nb_4 (by show v29.toInt.toNat = 4; omega)
      rw [bv30] at lv30 uv30
      have lv30 : 0 ≤ v30.toInt := lv30
      have uv30 : v30.toInt ≤ 3 := uv30
      have av30 : ai E_34 qn 4 = v30 := ai_at ev30 (by omega)
      refine lv_icmp_ge (tgt := 75) hx hb dX10_flight_42 (by decide) (fun c31 => ?_) (fun c31 => ?_)
      · skip
        have tc31 := nu_le c31
        refine lv_aload_n hx hb dX10_flight_75 rfl (lv_at hl_34 0 rfl) ?_
        refine lv_iload_n hx hb dX10_flight_76 rfl (lv_at hl_34 2 rfl) ?_
        obtain ⟨v32, ev32, tv32⟩ : ∃ v : Int32, Int32.ofInt (0) = v ∧ v.toInt = 0 := ⟨_, rfl, by decide +kernel⟩
        refine lv_iconst hx hb dX10_flight_77 ev32 ?_
        obtain ⟨v33, ev33, tv33⟩ : ∃ v : Int32, (Int8.ofInt (20)).toInt32 = v ∧ v.toInt = 20 := ⟨_, rfl, by decide +kernel⟩
        refine lv_bipush hx hb dX10_flight_78 ev33 ?_
        refine tc_vi Z.1 Z.2.2.2.1 Z.2.2.2.2.1 Z.2.2.2.2.2 S_34.1 S_34.2 ha0 ta0 rfl rfl (k_X10_in l D cy S_34.2 ha0 ta0 a2 v32 v33) (cwV 3 hts gX10_flight_X10_in rfl rfl rfl (by decide +kernel) ⟨Nat.le_of_ble_eq_true rfl, Nat.le_of_ble_eq_true rfl⟩) rfl hl_34.1 rfl (Nat.le_of_ble_eq_true rfl) dX10_flight_80 ⟨Nat.zero_le _, Nat.zero_le _⟩ (fun v37 E34 H35 k36 W34 I34 G34 p34 => ?_)
        obtain ⟨q34, p34_0, p34_1, p34_2⟩ := p34
        have q34 := q34.symm
        subst q34
        have S34 : Now D TB cy (va_A (va_pl L E) sz) s L τ E_34 H35 k36 := ⟨W34, I34⟩
        refine lv_if_eq (tgt := 103) hx hb dX10_flight_83 (by decide) (fun c38 => ?_) (fun c38 => ?_)
        · skip
          have tc38 := nu_eq c38
          have uc38 : (0 : Int32).toInt = 0 := rfl
          exact J103 E_34 H35 k36 l_34 S34 F_34 z12 (fun k hk => (z13 k hk)) (lv_sub hl_34 [0] rfl)
        · skip
          have tc38 := nu_ne c38
          have uc38 : (0 : Int32).toInt = 0 := rfl
          refine lv_aload_n hx hb dX10_flight_86 rfl (lv_at hl_34 0 rfl) ?_
          refine lv_iload_n hx hb dX10_flight_87 rfl (lv_at hl_34 3 rfl) ?_
          obtain ⟨v39, ev39, tv39⟩ : ∃ v : Int32, Int32.ofInt (0) = v ∧ v.toInt = 0 := ⟨_, rfl, by decide +kernel⟩
          refine lv_iconst hx hb dX10_flight_88 ev39 ?_
          obtain ⟨v40, ev40, tv40⟩ : ∃ v : Int32, (Int16.ofInt (6000)).toInt32 = v ∧ v.toInt = 6000 := ⟨_, rfl, by decide +kernel⟩
          refine lv_sipush hx hb dX10_flight_89 ev40 ?_
          refine tc_vi Z.1 Z.2.2.2.1 Z.2.2.2.2.1 Z.2.2.2.2.2 S34.1 S34.2 ha0 ta0 rfl rfl (k_X10_in l D cy S34.2 ha0 ta0 a3 v39 v40) (cwV 3 hts gX10_flight_X10_in rfl rfl rfl (by decide +kernel) ⟨Nat.le_of_ble_eq_true rfl, Nat.le_of_ble_eq_true rfl⟩) rfl hl_34.1 rfl (Nat.le_of_ble_eq_true rfl) dX10_flight_92 ⟨Nat.zero_le _, Nat.zero_le _⟩ (fun v44 E41 H42 k43 W41 I41 G41 p41 => ?_)
          obtain ⟨q41, p41_0, p41_1, p41_2⟩ := p41
          have q41 := q41.symm
          subst q41
          have S41 : Now D TB cy (va_A (va_pl L E) sz) s L τ E_34 H42 k43 := ⟨W41, I41⟩
          refine lv_if_eq (tgt := 103) hx hb dX10_flight_95 (by decide) (fun c45 => ?_) (fun c45 => ?_)
          · skip
            have tc45 := nu_eq c45
            have uc45 : (0 : Int32).toInt = 0 := rfl
            exact J103 E_34 H42 k43 l_34 S41 F_34 z12 (fun k hk => (z13 k hk)) (lv_sub hl_34 [0] rfl)
          · skip
            have tc45 := nu_ne c45
            have uc45 : (0 : Int32).toInt = 0 := rfl
            refine lv_iload hx hb dX10_flight_98 (lv_at hl_34 4 rfl) ?_
            refine lv_if_ne (tgt := 109) hx hb dX10_flight_100 (by decide) (fun c46 => ?_) (fun c46 => ?_)
            · skip
              have tc46 := nu_ne c46
              have uc46 : (0 : Int32).toInt = 0 := rfl
              refine lv_aload_n hx hb dX10_flight_109 rfl (lv_at hl_34 0 rfl) ?_
              refine tc_vv Z.1 Z.2.2.2.1 Z.2.2.2.2.1 Z.2.2.2.2.2 S41.1 S41.2 ha0 ta0 rfl rfl (k_X10_act_vw l D cy S41.2 ha0 ta0 z12) (cwV 0 hts gX10_flight_X10_act rfl rfl rfl (by decide +kernel) ⟨Nat.le_of_ble_eq_true rfl, Nat.le_of_ble_eq_true rfl⟩) rfl hl_34.1 rfl (Nat.le_of_ble_eq_true rfl) dX10_flight_110 ⟨Nat.zero_le _, Nat.zero_le _⟩ (fun E47 H48 k49 W47 I47 G47 p47 => ?_)
              obtain ⟨p47_0, p47_1, p47_2⟩ := p47
              have S47 : Now D TB cy (va_A (va_pl L E) sz) s L τ E47 H48 k49 := ⟨W47, I47⟩
              have F47 : Fr L τ (inW [(11, 0), (60, 0), (61, 0)]) E E47 := F_34.trans (G47.mono (inW_mono (by decide)))
              have C51 : ∀ T : Nat → Int32, Link (ai E_34 qn) T → ChW E47 a0 qp T := fun T hT => p47_0 qn hqn tqn qp hqp tqp T hT
              have B52 : ∀ j : Nat, 44 ≤ j → j ≤ 52 → ai E47 qn j = ai E_34 qn j := fun j _ _ => (ai_fr G47 hqn (by rw [tqn]; rfl))
              have kz47_3 := fi_rng (k := 3) S47.2 ha0 ta0 rfl rfl
              refine lv_aload_n hx hb dX10_flight_113 rfl (lv_at hl_34 0 rfl) ?_
              refine tr_getr Z.1 Z.2.2.2.1 S47.1 S47.2 ha0 ta0 rfl rfl (fun _ h => List.mem_cons_of_mem _ (List.mem_append_right _ h)) 0 (by decide) rfl (hts _ (List.mem_of_getElem? (i := 2) rfl)) dX10_flight_114 (fun q53 eq53 hq53 tq53 => ?_)
              have tq53 : τ q53 = (60, 0) := tq53
              have uq53 : qn = q53 := S47.2.2.2.2 _ hqn _ hq53 (tqn.trans tq53.symm) (by rw [tqn]; rfl)
              subst uq53
              obtain ⟨v54, ev54, tv54⟩ : ∃ v : Int32, Int32.ofInt (5) = v ∧ v.toInt = 5 := ⟨_, rfl, by decide +kernel⟩
              refine lv_iconst hx hb dX10_flight_117 ev54 ?_
              refine lv_iload_n hx hb dX10_flight_118 rfl (lv_at hl_34 1 rfl) ?_
              refine lv_iadd hx hb dX10_flight_119 ?_
              refine lv_topi (fun v55 ev55 => ?_)
              have tv55 := nu_add ev55 (by omega) (by omega)
              refine lv_iload_n hx hb dX10_flight_120 rfl (lv_at hl_34 2 rfl) ?_
              have b56 : nowB v55.toNatClampNeg = (0, 20) := nb_5 (by show 5 ≤ v55.toInt.toNat ∧ v55.toInt.toNat ≤ 7; omega)
              have b56 : (nowB v55.toNatClampNeg).1 ≤ a2.toInt ∧ a2.toInt ≤ (nowB v55.toNatClampNeg).2 := by rw [b56]; have := fb_rng a2; show 0 ≤ a2.toInt ∧ a2.toInt ≤ 20; omega
              refine tr_iastx Z.1 Z.2.2.2.1 S47.1 S47.2 hqn tqn rfl (by omega) (by omega) b56.1 b56.2 dX10_flight_121 (fun E56 H57 k58 W56 I56 P56 => ?_)
              have S56 : Now D TB cy (va_A (va_pl L E) sz) s L τ E56 H57 k58 := ⟨W56, I56⟩
              have F56 : Fr L τ (inW [(11, 0), (60, 0), (61, 0)]) E E56 := Fr.set F47 P56 tqn rfl
              refine lv_aload_n hx hb dX10_flight_122 rfl (lv_at hl_34 0 rfl) ?_
              refine tr_getr Z.1 Z.2.2.2.1 S56.1 S56.2 ha0 ta0 rfl rfl (fun _ h => List.mem_cons_of_mem _ (List.mem_append_right _ h)) 0 (by decide) rfl (hts _ (List.mem_of_getElem? (i := 2) rfl)) dX10_flight_123 (fun q59 eq59 hq59 tq59 => ?_)
              have tq59 : τ q59 = (60, 0) := tq59
              have uq59 : qn = q59 := S56.2.2.2.2 _ hqn _ hq59 (tqn.trans tq59.symm) (by rw [tqn]; rfl)
              subst uq59
              obtain ⟨v60, ev60, tv60⟩ : ∃ v : Int32, (Int8.ofInt (8)).toInt32 = v ∧ v.toInt = 8 := ⟨_, rfl, by decide +kernel⟩
              refine lv_bipush hx hb dX10_flight_126 ev60 ?_
              refine lv_iload_n hx hb dX10_flight_128 rfl (lv_at hl_34 1 rfl) ?_
              refine lv_iadd hx hb dX10_flight_129 ?_
              refine lv_topi (fun v61 ev61 => ?_)
              have tv61 := nu_add ev61 (by omega) (by omega)
              refine lv_iload_n hx hb dX10_flight_130 rfl (lv_at hl_34 3 rfl) ?_
              have b62 : nowB v61.toNatClampNeg = (-2147483648, 2147483647) := nb_o (by show v61.toInt.toNat < 4 ∨ (8 ≤ v61.toInt.toNat ∧ v61.toInt.toNat ≤ 18) ∨ (20 ≤ v61.toInt.toNat ∧ v61.toInt.toNat ≤ 43); omega)
              have b62 : (nowB v61.toNatClampNeg).1 ≤ a3.toInt ∧ a3.toInt ≤ (nowB v61.toNatClampNeg).2 := by rw [b62]; have := fb_rng a3; show -2147483648 ≤ a3.toInt ∧ a3.toInt ≤ 2147483647; omega
              refine tr_iastx Z.1 Z.2.2.2.1 S56.1 S56.2 hqn tqn rfl (by omega) (by omega) b62.1 b62.2 dX10_flight_131 (fun E62 H63 k64 W62 I62 P62 => ?_)
              have S62 : Now D TB cy (va_A (va_pl L E) sz) s L τ E62 H63 k64 := ⟨W62, I62⟩
              have F62 : Fr L τ (inW [(11, 0), (60, 0), (61, 0)]) E E62 := Fr.set F56 P62 tqn rfl
              obtain ⟨v65, ev65, tv65⟩ : ∃ v : Int32, Int32.ofInt (1) = v ∧ v.toInt = 1 := ⟨_, rfl, by decide +kernel⟩
              refine lv_iconst hx hb dX10_flight_132 ev65 ?_
              rw [← hQ]
              exact en_z Z S62 F62 (zo v65 (by omega)) ⟨(by rw [((fi_set (k := 3) P62 (ne_ro ta0 tqn (by decide))).trans ((fi_set (k := 3) P56 (ne_ro ta0 tqn (by decide))).trans rfl))]; omega), (by omega), (by omega), (fun k hk => ((fi_set P62 (ne_ro ta0 tqn (by decide))).trans ((fi_set P56 (ne_ro ta0 tqn (by decide))).trans ((p47_2 k (fw_sub (by decide) hk)).trans (z13 k hk))))), (Chain.post C51 S62.2 ha0 ta0 hqn tqn hqp tqp ((P62.1 qp (ne_ro tqp tqn (by decide))).trans (P56.1 qp (ne_ro tqp tqn (by decide)))) ((fi_set (k := 2) P62 (ne_ro ta0 tqn (by decide))).trans (fi_set (k := 2) P56 (ne_ro ta0 tqn (by decide)))) (Link.ag (fun j h1 h2 => ((ai_setk P62 (by show j ≠ v61.toInt.toNat; omega)).trans ((ai_setk P56 (by show j ≠ v55.toInt.toNat; omega)).trans (B52 j h1 h2))))))⟩ dX10_flight_133
            · skip
              have tc46 := nu_eq c46
              have uc46 : (0 : Int32).toInt = 0 := rfl
              exact J103 E_34 H42 k43 l_34 S41 F_34 z12 (fun k hk => (z13 k hk)) (lv_sub hl_34 [0] rfl)
      · skip
        have tc31 := nu_nle c31
        refine lv_iload hx hb dX10_flight_45 (lv_at hl_34 4 rfl) ?_
        refine lv_iload hx hb dX10_flight_47 (lv_at hl_34 5 rfl) ?_
        refine lv_iload_n hx hb dX10_flight_49 rfl (lv_at hl_34 1 rfl) ?_
        refine lv_icmp_ne (tgt := 57) hx hb dX10_flight_50 (by decide) (fun c66 => ?_) (fun c66 => ?_)
        · skip
          have tc66 := nu_ne c66
          refine lv_aload_n hx hb dX10_flight_57 rfl (lv_at hl_34 0 rfl) ?_
          refine tr_getr Z.1 Z.2.2.2.1 S_34.1 S_34.2 ha0 ta0 rfl rfl (fun _ h => List.mem_cons_of_mem _ (List.mem_append_right _ h)) 0 (by decide) rfl (hts _ (List.mem_of_getElem? (i := 2) rfl)) dX10_flight_58 (fun q67 eq67 hq67 tq67 => ?_)
          have tq67 : τ q67 = (60, 0) := tq67
          have uq67 : qn = q67 := S_34.2.2.2.2 _ hqn _ hq67 (tqn.trans tq67.symm) (by rw [tqn]; rfl)
          subst uq67
          obtain ⟨v68, ev68, tv68⟩ : ∃ v : Int32, Int32.ofInt (5) = v ∧ v.toInt = 5 := ⟨_, rfl, by decide +kernel⟩
          refine lv_iconst hx hb dX10_flight_61 ev68 ?_
          refine lv_iload hx hb dX10_flight_62 (lv_at hl_34 5 rfl) ?_
          refine lv_iadd hx hb dX10_flight_64 ?_
          refine lv_topi (fun v69 ev69 => ?_)
          have tv69 := nu_add ev69 (by omega) (by omega)
          refine tr_ialdx Z.1 Z.2.2.2.1 S_34.1 S_34.2 hqn tqn rfl (by omega) (by omega) dX10_flight_65 (fun v70 ev70 lv70 uv70 => ?_)
          have bv70 : nowB v69.toNatClampNeg = (0, 20) := nb_5 (by show 5 ≤ v69.toInt.toNat ∧ v69.toInt.toNat ≤ 7; omega)
          rw [bv70] at lv70 uv70
          have lv70 : 0 ≤ v70.toInt := lv70
          have uv70 : v70.toInt ≤ 20 := uv70
          exact J66 x4_34 v70 E_34 H_34 k_34 l_34 S_34 F_34 (by have := fb_rng a2; have := fb_rng a3; have := fb_rng x4_34; omega) (by have := fb_rng a2; have := fb_rng a3; have := fb_rng x4_34; omega) (by have := fb_rng a2; have := fb_rng a3; have := fb_rng x4_34; omega) (by have := fb_rng a2; have := fb_rng a3; have := fb_rng x4_34; omega) (by have := fb_rng a2; have := fb_rng a3; have := fb_rng x4_34; omega) (by have := fb_rng a2; have := fb_rng a3; have := fb_rng x4_34; omega) z12 (fun k hk => (z13 k hk)) (lv_sub hl_34 [0, 1, 2, 3, 5] rfl)
        · skip
          have tc66 := nu_eq c66
          obtain ⟨v71, ev71, tv71⟩ : ∃ v : Int32, Int32.ofInt (0) = v ∧ v.toInt = 0 := ⟨_, rfl, by decide +kernel⟩
          refine lv_iconst hx hb dX10_flight_53 ev71 ?_
          refine lv_goto (tgt := 66) hx hb dX10_flight_54 (by decide) ?_
          exact J66 x4_34 v71 E_34 H_34 k_34 l_34 S_34 F_34 (by have := fb_rng a2; have := fb_rng a3; have := fb_rng x4_34; omega) (by have := fb_rng a2; have := fb_rng a3; have := fb_rng x4_34; omega) (by have := fb_rng a2; have := fb_rng a3; have := fb_rng x4_34; omega) (by have := fb_rng a2; have := fb_rng a3; have := fb_rng x4_34; omega) (by have := fb_rng a2; have := fb_rng a3; have := fb_rng x4_34; omega) (by have := fb_rng a2; have := fb_rng a3; have := fb_rng x4_34; omega) z12 (fun k hk => (z13 k hk)) (lv_sub hl_34 [0, 1, 2, 3, 5] rfl)
  refine lv_aload_n hx hb dX10_flight_0 rfl (lv_at hl 0 rfl) ?_
  obtain ⟨v72, ev72, tv72⟩ : ∃ v : Int32, Int32.ofInt (0) = v ∧ v.toInt = 0 := ⟨_, rfl, by decide +kernel⟩
  refine lv_iconst hx hb dX10_flight_1 ev72 ?_
  refine tr_puti Z.1 Z.2.2.2.1 S0.1 S0.2 ha0 ta0 rfl rfl (fun _ h => List.mem_cons_of_mem _ (List.mem_append_right _ h)) tyX10_ok nmX10 4 (by decide) rfl rfl rfl (hts _ (List.mem_of_getElem? (i := 1) rfl)) dX10_flight_2 (by omega) (by omega) (fun E73 H74 k75 W73 I73 P73 => ?_)
  have S73 : Now D TB cy (va_A (va_pl L E) sz) s L τ E73 H74 k75 := ⟨W73, I73⟩
  have F73 : Fr L τ (inW [(11, 0), (60, 0), (61, 0)]) E E73 := Fr.put F0_ P73 ta0 rfl
  refine lv_aload_n hx hb dX10_flight_5 rfl (lv_at hl 0 rfl) ?_
  refine lv_iload_n hx hb dX10_flight_6 rfl (lv_at hl 1 rfl) ?_
  obtain ⟨v76, ev76, tv76⟩ : ∃ v : Int32, Int32.ofInt (0) = v ∧ v.toInt = 0 := ⟨_, rfl, by decide +kernel⟩
  refine lv_iconst hx hb dX10_flight_7 ev76 ?_
  refine lv_aload_n hx hb dX10_flight_8 rfl (lv_at hl 0 rfl) ?_
  refine tr_getr Z.1 Z.2.2.2.1 S73.1 S73.2 ha0 ta0 rfl rfl (fun _ h => List.mem_cons_of_mem _ (List.mem_append_right _ h)) 0 (by decide) rfl (hts _ (List.mem_of_getElem? (i := 2) rfl)) dX10_flight_9 (fun q77 eq77 hq77 tq77 => ?_)
  have tq77 : τ q77 = (60, 0) := tq77
  have uq77 : qn = q77 := S73.2.2.2.2 _ hqn _ hq77 (tqn.trans tq77.symm) (by rw [tqn]; rfl)
  subst uq77
  obtain ⟨v78, ev78, tv78⟩ : ∃ v : Int32, Int32.ofInt (4) = v ∧ v.toInt = 4 := ⟨_, rfl, by decide +kernel⟩
  refine lv_iconst hx hb dX10_flight_12 ev78 ?_
  refine tr_ialdx Z.1 Z.2.2.2.1 S73.1 S73.2 hqn tqn rfl (by omega) (by omega) dX10_flight_13 (fun v79 ev79 lv79 uv79 => ?_)
  have bv79 : nowB v78.toNatClampNeg = (0, 3) := nb_4 (by show v78.toInt.toNat = 4; omega)
  rw [bv79] at lv79 uv79
  have lv79 : 0 ≤ v79.toInt := lv79
  have uv79 : v79.toInt ≤ 3 := uv79
  have av79 : ai E73 qn 4 = v79 := ai_at ev79 (by omega)
  obtain ⟨v80, ev80, tv80⟩ : ∃ v : Int32, Int32.ofInt (1) = v ∧ v.toInt = 1 := ⟨_, rfl, by decide +kernel⟩
  refine lv_iconst hx hb dX10_flight_14 ev80 ?_
  refine lv_isub hx hb dX10_flight_15 ?_
  refine lv_topi (fun v81 ev81 => ?_)
  have tv81 := nu_sub ev81 (by omega) (by omega)
  refine tc_vi Z.1 Z.2.2.2.1 Z.2.2.2.2.1 Z.2.2.2.2.2 S73.1 S73.2 ha0 ta0 rfl rfl (k_X10_in l D cy S73.2 ha0 ta0 a1 v76 v81) (cwV 3 hts gX10_flight_X10_in rfl rfl rfl (by decide +kernel) ⟨Nat.le_of_ble_eq_true rfl, Nat.le_of_ble_eq_true rfl⟩) rfl hl.1 rfl (Nat.le_of_ble_eq_true rfl) dX10_flight_16 ⟨Nat.zero_le _, Nat.zero_le _⟩ (fun v85 E82 H83 k84 W82 I82 G82 p82 => ?_)
  obtain ⟨q82, p82_0, p82_1, p82_2⟩ := p82
  have q82 := q82.symm
  subst q82
  have S82 : Now D TB cy (va_A (va_pl L E) sz) s L τ E73 H83 k84 := ⟨W82, I82⟩
  refine lv_if_ne (tgt := 28) hx hb dX10_flight_19 (by decide) (fun c86 => ?_) (fun c86 => ?_)
  · skip
    have tc86 := nu_ne c86
    have uc86 : (0 : Int32).toInt = 0 := rfl
    refine lv_iload_n hx hb dX10_flight_28 rfl (lv_at hl 2 rfl) ?_
    refine lv_istore (lv' := [(4, .int a2), (0, .ref a0), (1, .int a1), (2, .int a2), (3, .int a3)]) hx hb dX10_flight_29 hl (by decide) rfl (fun l87 hl88 => ?_)
    obtain ⟨v89, ev89, tv89⟩ : ∃ v : Int32, Int32.ofInt (0) = v ∧ v.toInt = 0 := ⟨_, rfl, by decide +kernel⟩
    refine lv_iconst hx hb dX10_flight_31 ev89 ?_
    refine lv_istore (lv' := [(5, .int v89), (4, .int a2), (0, .ref a0), (1, .int a1), (2, .int a2), (3, .int a3)]) hx hb dX10_flight_32 hl88 (by decide) rfl (fun l90 hl91 => ?_)
    exact J34 _ a2 v89 E73 H83 k84 l90 S82 F73 (by have := fb_rng a2; have := fb_rng a2; have := fb_rng a3; omega) (by have := fb_rng a2; have := fb_rng a2; have := fb_rng a3; omega) (by have := fb_rng a2; have := fb_rng a2; have := fb_rng a3; omega) (by have := fb_rng a2; have := fb_rng a2; have := fb_rng a3; omega) (Chain.same hC S82.2 ha0 ta0 hqn tqn hqp tqp (P73.1 qn (ne_ro tqn ta0 (by decide))) (P73.1 qp (ne_ro tqp ta0 (by decide))) (fi_put (k := 2) P73 (Or.inr (by decide)))) (fun k hk => ((fi_put P73 (Or.inr (fw_ne (by decide) hk))).trans ((fun k hk => rfl) k hk))) (Nat.lt_succ_self _) (lv_sub hl91 [2, 3, 4, 5, 1, 0] rfl)
  · skip
    have tc86 := nu_eq c86
    have uc86 : (0 : Int32).toInt = 0 := rfl
    refine lv_aload_n hx hb dX10_flight_22 rfl (lv_at hl 0 rfl) ?_
    obtain ⟨v92, ev92, tv92⟩ : ∃ v : Int32, Int32.ofInt (4) = v ∧ v.toInt = 4 := ⟨_, rfl, by decide +kernel⟩
    refine lv_iconst hx hb dX10_flight_23 ev92 ?_
    refine tc_vi Z.1 Z.2.2.2.1 Z.2.2.2.2.1 Z.2.2.2.2.2 S82.1 S82.2 ha0 ta0 rfl rfl (k_X10_not_vw l D cy S82.2 ha0 ta0 v92) (cwV 1 hts gX10_flight_X10_not rfl rfl rfl (by decide +kernel) ⟨Nat.le_of_ble_eq_true rfl, Nat.le_of_ble_eq_true rfl⟩) rfl hl.1 rfl (Nat.le_of_ble_eq_true rfl) dX10_flight_24 ⟨Nat.zero_le _, Nat.zero_le _⟩ (fun v96 E93 H94 k95 W93 I93 G93 p93 => ?_)
    obtain ⟨p93_0, p93_1, p93_2, p93_3⟩ := p93
    have S93 : Now D TB cy (va_A (va_pl L E) sz) s L τ E93 H94 k95 := ⟨W93, I93⟩
    have F93 : Fr L τ (inW [(11, 0), (60, 0), (61, 0)]) E E93 := F73.trans (G93.mono (inW_mono (by decide)))
    have kz93_3 := fi_rng (k := 3) S93.2 ha0 ta0 rfl rfl
    rw [← hQ]
    exact en_z Z S93 F93 (zo v96 (by omega)) ⟨(by omega), (by omega), (by omega), (fun k hk => ((p93_3 k (fw_sub (by decide) hk)).trans ((fi_put P73 (Or.inr (fw_ne (by decide) hk))).trans ((fun k hk => rfl) k hk)))), (Chain.same hC S93.2 ha0 ta0 hqn tqn hqp tqp ((G93 qn hqn (by rw [tqn]; rfl)).trans (P73.1 qn (ne_ro tqn ta0 (by decide)))) ((G93 qp hqp (by rw [tqp]; rfl)).trans (P73.1 qp (ne_ro tqp ta0 (by decide)))) ((p93_3 2 (by decide)).trans (fi_put (k := 2) P73 (Or.inr (by decide)))))⟩ dX10_flight_27

set_option maxHeartbeats 4000000 in
set_option maxRecDepth 100000 in
theorem k_X10_turn_vw (l : Launch) (D : va_G) (cy : Nat → ClassId) {L : List Nat} {τ : Nat → Ro} {E : Ec} (hI : Inv TB cy L τ E) {a0 : Nat} (ha0 : a0 ∈ L) (ta0 : τ a0 = (11, 0)) (a1 : Int32) (a2 : Int32) (hC : Chain L τ E) : CtI l yX10_turn wsX10_turn { frames := 2, cells := 0, slots := 0, locals := 41 } D TB cy L τ E [.ref a0, .int a1, .int a2] (inW [(11, 0), (60, 0), (61, 0)]) (fun r E' => ((fi E' a0 3).toInt ≠ 2) ∧ 0 ≤ r.toInt ∧ r.toInt ≤ 1 ∧ (∀ k : Nat, k ∉ ([2, 3, 4, 6] : List Nat) → fi E' a0 k = fi E a0 k) ∧ Chain L τ E') := by
  intro sz
  refine sta (cc := cX10_turn) (maxL := 3) hI (by decide) rfl (Nat.le_of_ble_eq_true rfl) (fun p e s m args below meth c ls hsz Z S0 hl => ?_)
  have hx := Z.1.1
  have hb := Z.1.2.1
  have hts := Z.1.2.2.2.2
  have F0_ : Fr L τ (inW [(11, 0), (60, 0), (61, 0)]) E E := Fr.refl
  have hl : lv_has ls 3 [(0, .ref a0), (1, .int a1), (2, .int a2)] := hl
  generalize hQ : MQ below _ args s 0 0 _ = QQ
  obtain ⟨qn, hqn, tqn⟩ := ref_of (k := 0) hI ha0 ta0 rfl rfl
  have tqn : τ qn = (60, 0) := tqn
  obtain ⟨qp, hqp, tqp⟩ := ref_of (k := 1) hI ha0 ta0 rfl rfl
  have tqp : τ qp = (61, 0) := tqp
  refine lv_aload_n hx hb dX10_turn_0 rfl (lv_at hl 0 rfl) ?_
  obtain ⟨v1, ev1, tv1⟩ : ∃ v : Int32, Int32.ofInt (0) = v ∧ v.toInt = 0 := ⟨_, rfl, by decide +kernel⟩
  refine lv_iconst hx hb dX10_turn_1 ev1 ?_
  refine tr_puti Z.1 Z.2.2.2.1 S0.1 S0.2 ha0 ta0 rfl rfl (fun _ h => List.mem_cons_of_mem _ (List.mem_append_right _ h)) tyX10_ok nmX10 4 (by decide) rfl rfl rfl (hts _ (List.mem_of_getElem? (i := 1) rfl)) dX10_turn_2 (by omega) (by omega) (fun E2 H3 k4 W2 I2 P2 => ?_)
  have S2 : Now D TB cy (va_A (va_pl L E) sz) s L τ E2 H3 k4 := ⟨W2, I2⟩
  have F2 : Fr L τ (inW [(11, 0), (60, 0), (61, 0)]) E E2 := Fr.put F0_ P2 ta0 rfl
  refine lv_aload_n hx hb dX10_turn_5 rfl (lv_at hl 0 rfl) ?_
  refine lv_iload_n hx hb dX10_turn_6 rfl (lv_at hl 1 rfl) ?_
  obtain ⟨v5, ev5, tv5⟩ : ∃ v : Int32, Int32.ofInt (0) = v ∧ v.toInt = 0 := ⟨_, rfl, by decide +kernel⟩
  refine lv_iconst hx hb dX10_turn_7 ev5 ?_
  refine lv_aload_n hx hb dX10_turn_8 rfl (lv_at hl 0 rfl) ?_
  refine tr_getr Z.1 Z.2.2.2.1 S2.1 S2.2 ha0 ta0 rfl rfl (fun _ h => List.mem_cons_of_mem _ (List.mem_append_right _ h)) 0 (by decide) rfl (hts _ (List.mem_of_getElem? (i := 2) rfl)) dX10_turn_9 (fun q6 eq6 hq6 tq6 => ?_)
  have tq6 : τ q6 = (60, 0) := tq6
  have uq6 : qn = q6 := S2.2.2.2.2 _ hqn _ hq6 (tqn.trans tq6.symm) (by rw [tqn]; rfl)
  subst uq6
  obtain ⟨v7, ev7, tv7⟩ : ∃ v : Int32, Int32.ofInt (4) = v ∧ v.toInt = 4 := ⟨_, rfl, by decide +kernel⟩
  refine lv_iconst hx hb dX10_turn_12 ev7 ?_
  refine tr_ialdx Z.1 Z.2.2.2.1 S2.1 S2.2 hqn tqn rfl (by omega) (by omega) dX10_turn_13 (fun v8 ev8 lv8 uv8 => ?_)
  have bv8 : nowB v7.toNatClampNeg = (0, 3) := nb_4 (by show v7.toInt.toNat = 4; omega)
  rw [bv8] at lv8 uv8
  have lv8 : 0 ≤ v8.toInt := lv8
  have uv8 : v8.toInt ≤ 3 := uv8
  have av8 : ai E2 qn 4 = v8 := ai_at ev8 (by omega)
  obtain ⟨v9, ev9, tv9⟩ : ∃ v : Int32, Int32.ofInt (2) = v ∧ v.toInt = 2 := ⟨_, rfl, by decide +kernel⟩
  refine lv_iconst hx hb dX10_turn_14 ev9 ?_
  refine lv_isub hx hb dX10_turn_15 ?_
  refine lv_topi (fun v10 ev10 => ?_)
  have tv10 := nu_sub ev10 (by omega) (by omega)
  refine tc_vi Z.1 Z.2.2.2.1 Z.2.2.2.2.1 Z.2.2.2.2.2 S2.1 S2.2 ha0 ta0 rfl rfl (k_X10_in l D cy S2.2 ha0 ta0 a1 v5 v10) (cwV 3 hts gX10_turn_X10_in rfl rfl rfl (by decide +kernel) ⟨Nat.le_of_ble_eq_true rfl, Nat.le_of_ble_eq_true rfl⟩) rfl hl.1 rfl (Nat.le_of_ble_eq_true rfl) dX10_turn_16 ⟨Nat.zero_le _, Nat.zero_le _⟩ (fun v14 E11 H12 k13 W11 I11 G11 p11 => ?_)
  obtain ⟨q11, p11_0, p11_1, p11_2⟩ := p11
  have q11 := q11.symm
  subst q11
  have S11 : Now D TB cy (va_A (va_pl L E) sz) s L τ E2 H12 k13 := ⟨W11, I11⟩
  refine lv_if_ne (tgt := 28) hx hb dX10_turn_19 (by decide) (fun c15 => ?_) (fun c15 => ?_)
  · skip
    have tc15 := nu_ne c15
    have uc15 : (0 : Int32).toInt = 0 := rfl
    refine lv_aload_n hx hb dX10_turn_28 rfl (lv_at hl 0 rfl) ?_
    refine lv_iload_n hx hb dX10_turn_29 rfl (lv_at hl 2 rfl) ?_
    obtain ⟨v16, ev16, tv16⟩ : ∃ v : Int32, Int32.ofInt (0) = v ∧ v.toInt = 0 := ⟨_, rfl, by decide +kernel⟩
    refine lv_iconst hx hb dX10_turn_30 ev16 ?_
    obtain ⟨v17, ev17, tv17⟩ : ∃ v : Int32, Int32.ofInt (1) = v ∧ v.toInt = 1 := ⟨_, rfl, by decide +kernel⟩
    refine lv_iconst hx hb dX10_turn_31 ev17 ?_
    refine tc_vi Z.1 Z.2.2.2.1 Z.2.2.2.2.1 Z.2.2.2.2.2 S11.1 S11.2 ha0 ta0 rfl rfl (k_X10_in l D cy S11.2 ha0 ta0 a2 v16 v17) (cwV 3 hts gX10_turn_X10_in rfl rfl rfl (by decide +kernel) ⟨Nat.le_of_ble_eq_true rfl, Nat.le_of_ble_eq_true rfl⟩) rfl hl.1 rfl (Nat.le_of_ble_eq_true rfl) dX10_turn_32 ⟨Nat.zero_le _, Nat.zero_le _⟩ (fun v21 E18 H19 k20 W18 I18 G18 p18 => ?_)
    obtain ⟨q18, p18_0, p18_1, p18_2⟩ := p18
    have q18 := q18.symm
    subst q18
    have S18 : Now D TB cy (va_A (va_pl L E) sz) s L τ E2 H19 k20 := ⟨W18, I18⟩
    refine lv_if_ne (tgt := 44) hx hb dX10_turn_35 (by decide) (fun c22 => ?_) (fun c22 => ?_)
    · skip
      have tc22 := nu_ne c22
      have uc22 : (0 : Int32).toInt = 0 := rfl
      refine lv_aload_n hx hb dX10_turn_44 rfl (lv_at hl 0 rfl) ?_
      refine tc_vv Z.1 Z.2.2.2.1 Z.2.2.2.2.1 Z.2.2.2.2.2 S18.1 S18.2 ha0 ta0 rfl rfl (k_X10_act_vw l D cy S18.2 ha0 ta0 (Chain.same hC S18.2 ha0 ta0 hqn tqn hqp tqp (P2.1 qn (ne_ro tqn ta0 (by decide))) (P2.1 qp (ne_ro tqp ta0 (by decide))) (fi_put (k := 2) P2 (Or.inr (by decide))))) (cwV 0 hts gX10_turn_X10_act rfl rfl rfl (by decide +kernel) ⟨Nat.le_of_ble_eq_true rfl, Nat.le_of_ble_eq_true rfl⟩) rfl hl.1 rfl (Nat.le_of_ble_eq_true rfl) dX10_turn_45 ⟨Nat.zero_le _, Nat.zero_le _⟩ (fun E23 H24 k25 W23 I23 G23 p23 => ?_)
      obtain ⟨p23_0, p23_1, p23_2⟩ := p23
      have S23 : Now D TB cy (va_A (va_pl L E) sz) s L τ E23 H24 k25 := ⟨W23, I23⟩
      have F23 : Fr L τ (inW [(11, 0), (60, 0), (61, 0)]) E E23 := F2.trans (G23.mono (inW_mono (by decide)))
      have C27 : ∀ T : Nat → Int32, Link (ai E qn) T → ChW E23 a0 qp T := fun T hT => p23_0 qn hqn tqn qp hqp tqp T (by rw [ai_cell (P2.1 qn (ne_ro tqn ta0 (by decide)))]; exact hT)
      have B28 : ∀ j : Nat, 44 ≤ j → j ≤ 52 → ai E23 qn j = ai E qn j := fun j _ _ => ((ai_fr G23 hqn (by rw [tqn]; rfl)).trans (ai_put P2 (ne_ro tqn ta0 (by decide))))
      have kz23_3 := fi_rng (k := 3) S23.2 ha0 ta0 rfl rfl
      refine lv_aload_n hx hb dX10_turn_48 rfl (lv_at hl 0 rfl) ?_
      refine tr_getr Z.1 Z.2.2.2.1 S23.1 S23.2 ha0 ta0 rfl rfl (fun _ h => List.mem_cons_of_mem _ (List.mem_append_right _ h)) 0 (by decide) rfl (hts _ (List.mem_of_getElem? (i := 2) rfl)) dX10_turn_49 (fun q29 eq29 hq29 tq29 => ?_)
      have tq29 : τ q29 = (60, 0) := tq29
      have uq29 : qn = q29 := S23.2.2.2.2 _ hqn _ hq29 (tqn.trans tq29.symm) (by rw [tqn]; rfl)
      subst uq29
      obtain ⟨v30, ev30, tv30⟩ : ∃ v : Int32, (Int8.ofInt (11)).toInt32 = v ∧ v.toInt = 11 := ⟨_, rfl, by decide +kernel⟩
      refine lv_bipush hx hb dX10_turn_52 ev30 ?_
      refine lv_iload_n hx hb dX10_turn_54 rfl (lv_at hl 1 rfl) ?_
      refine lv_iadd hx hb dX10_turn_55 ?_
      refine lv_topi (fun v31 ev31 => ?_)
      have tv31 := nu_add ev31 (by omega) (by omega)
      refine lv_iload_n hx hb dX10_turn_56 rfl (lv_at hl 2 rfl) ?_
      have b32 : nowB v31.toNatClampNeg = (-2147483648, 2147483647) := nb_o (by show v31.toInt.toNat < 4 ∨ (8 ≤ v31.toInt.toNat ∧ v31.toInt.toNat ≤ 18) ∨ (20 ≤ v31.toInt.toNat ∧ v31.toInt.toNat ≤ 43); omega)
      have b32 : (nowB v31.toNatClampNeg).1 ≤ a2.toInt ∧ a2.toInt ≤ (nowB v31.toNatClampNeg).2 := by rw [b32]; have := fb_rng a2; show -2147483648 ≤ a2.toInt ∧ a2.toInt ≤ 2147483647; omega
      refine tr_iastx Z.1 Z.2.2.2.1 S23.1 S23.2 hqn tqn rfl (by omega) (by omega) b32.1 b32.2 dX10_turn_57 (fun E32 H33 k34 W32 I32 P32 => ?_)
      have S32 : Now D TB cy (va_A (va_pl L E) sz) s L τ E32 H33 k34 := ⟨W32, I32⟩
      have F32 : Fr L τ (inW [(11, 0), (60, 0), (61, 0)]) E E32 := Fr.set F23 P32 tqn rfl
      obtain ⟨v35, ev35, tv35⟩ : ∃ v : Int32, Int32.ofInt (1) = v ∧ v.toInt = 1 := ⟨_, rfl, by decide +kernel⟩
      refine lv_iconst hx hb dX10_turn_58 ev35 ?_
      rw [← hQ]
      exact en_z Z S32 F32 (zo v35 (by omega)) ⟨(by rw [((fi_set (k := 3) P32 (ne_ro ta0 tqn (by decide))).trans rfl)]; omega), (by omega), (by omega), (fun k hk => ((fi_set P32 (ne_ro ta0 tqn (by decide))).trans ((p23_2 k (fw_sub (by decide) hk)).trans ((fi_put P2 (Or.inr (fw_ne (by decide) hk))).trans ((fun k hk => rfl) k hk))))), (Chain.post C27 S32.2 ha0 ta0 hqn tqn hqp tqp (P32.1 qp (ne_ro tqp tqn (by decide))) (fi_set (k := 2) P32 (ne_ro ta0 tqn (by decide))) (Link.ag (fun j h1 h2 => ((ai_setk P32 (by show j ≠ v31.toInt.toNat; omega)).trans (B28 j h1 h2)))))⟩ dX10_turn_59
    · skip
      have tc22 := nu_eq c22
      have uc22 : (0 : Int32).toInt = 0 := rfl
      refine lv_aload_n hx hb dX10_turn_38 rfl (lv_at hl 0 rfl) ?_
      obtain ⟨v36, ev36, tv36⟩ : ∃ v : Int32, Int32.ofInt (1) = v ∧ v.toInt = 1 := ⟨_, rfl, by decide +kernel⟩
      refine lv_iconst hx hb dX10_turn_39 ev36 ?_
      refine tc_vi Z.1 Z.2.2.2.1 Z.2.2.2.2.1 Z.2.2.2.2.2 S18.1 S18.2 ha0 ta0 rfl rfl (k_X10_not_vw l D cy S18.2 ha0 ta0 v36) (cwV 1 hts gX10_turn_X10_not rfl rfl rfl (by decide +kernel) ⟨Nat.le_of_ble_eq_true rfl, Nat.le_of_ble_eq_true rfl⟩) rfl hl.1 rfl (Nat.le_of_ble_eq_true rfl) dX10_turn_40 ⟨Nat.zero_le _, Nat.zero_le _⟩ (fun v40 E37 H38 k39 W37 I37 G37 p37 => ?_)
      obtain ⟨p37_0, p37_1, p37_2, p37_3⟩ := p37
      have S37 : Now D TB cy (va_A (va_pl L E) sz) s L τ E37 H38 k39 := ⟨W37, I37⟩
      have F37 : Fr L τ (inW [(11, 0), (60, 0), (61, 0)]) E E37 := F2.trans (G37.mono (inW_mono (by decide)))
      have kz37_3 := fi_rng (k := 3) S37.2 ha0 ta0 rfl rfl
      rw [← hQ]
      exact en_z Z S37 F37 (zo v40 (by omega)) ⟨(by omega), (by omega), (by omega), (fun k hk => ((p37_3 k (fw_sub (by decide) hk)).trans ((fi_put P2 (Or.inr (fw_ne (by decide) hk))).trans ((fun k hk => rfl) k hk)))), (Chain.same hC S37.2 ha0 ta0 hqn tqn hqp tqp ((G37 qn hqn (by rw [tqn]; rfl)).trans (P2.1 qn (ne_ro tqn ta0 (by decide)))) ((G37 qp hqp (by rw [tqp]; rfl)).trans (P2.1 qp (ne_ro tqp ta0 (by decide)))) ((p37_3 2 (by decide)).trans (fi_put (k := 2) P2 (Or.inr (by decide)))))⟩ dX10_turn_43
  · skip
    have tc15 := nu_eq c15
    have uc15 : (0 : Int32).toInt = 0 := rfl
    refine lv_aload_n hx hb dX10_turn_22 rfl (lv_at hl 0 rfl) ?_
    obtain ⟨v41, ev41, tv41⟩ : ∃ v : Int32, Int32.ofInt (4) = v ∧ v.toInt = 4 := ⟨_, rfl, by decide +kernel⟩
    refine lv_iconst hx hb dX10_turn_23 ev41 ?_
    refine tc_vi Z.1 Z.2.2.2.1 Z.2.2.2.2.1 Z.2.2.2.2.2 S11.1 S11.2 ha0 ta0 rfl rfl (k_X10_not_vw l D cy S11.2 ha0 ta0 v41) (cwV 1 hts gX10_turn_X10_not rfl rfl rfl (by decide +kernel) ⟨Nat.le_of_ble_eq_true rfl, Nat.le_of_ble_eq_true rfl⟩) rfl hl.1 rfl (Nat.le_of_ble_eq_true rfl) dX10_turn_24 ⟨Nat.zero_le _, Nat.zero_le _⟩ (fun v45 E42 H43 k44 W42 I42 G42 p42 => ?_)
    obtain ⟨p42_0, p42_1, p42_2, p42_3⟩ := p42
    have S42 : Now D TB cy (va_A (va_pl L E) sz) s L τ E42 H43 k44 := ⟨W42, I42⟩
    have F42 : Fr L τ (inW [(11, 0), (60, 0), (61, 0)]) E E42 := F2.trans (G42.mono (inW_mono (by decide)))
    have kz42_3 := fi_rng (k := 3) S42.2 ha0 ta0 rfl rfl
    rw [← hQ]
    exact en_z Z S42 F42 (zo v45 (by omega)) ⟨(by omega), (by omega), (by omega), (fun k hk => ((p42_3 k (fw_sub (by decide) hk)).trans ((fi_put P2 (Or.inr (fw_ne (by decide) hk))).trans ((fun k hk => rfl) k hk)))), (Chain.same hC S42.2 ha0 ta0 hqn tqn hqp tqp ((G42 qn hqn (by rw [tqn]; rfl)).trans (P2.1 qn (ne_ro tqn ta0 (by decide)))) ((G42 qp hqp (by rw [tqp]; rfl)).trans (P2.1 qp (ne_ro tqp ta0 (by decide)))) ((p42_3 2 (by decide)).trans (fi_put (k := 2) P2 (Or.inr (by decide)))))⟩ dX10_turn_27

set_option maxHeartbeats 4000000 in
set_option maxRecDepth 100000 in
theorem k_X10_first_vw (l : Launch) (D : va_G) (cy : Nat → ClassId) {L : List Nat} {τ : Nat → Ro} {E : Ec} (hI : Inv TB cy L τ E) {a0 : Nat} (ha0 : a0 ∈ L) (ta0 : τ a0 = (11, 0)) (a1 : Int32) (hC : Chain L τ E) : CtI l yX10_first wsX10_first { frames := 2, cells := 0, slots := 0, locals := 41 } D TB cy L τ E [.ref a0, .int a1] (inW [(11, 0), (60, 0), (61, 0)]) (fun r E' => ((r.toInt = 1 ∧ 0 ≤ a1.toInt ∧ a1.toInt ≤ 1) ∨ (r.toInt = 0 ∧ ¬ (0 ≤ a1.toInt ∧ a1.toInt ≤ 1))) ∧ ((fi E' a0 3).toInt ≠ 2) ∧ 0 ≤ r.toInt ∧ r.toInt ≤ 1 ∧ (∀ k : Nat, k ∉ ([2, 3, 4, 6] : List Nat) → fi E' a0 k = fi E a0 k) ∧ Chain L τ E') := by
  intro sz
  refine sta (cc := cX10_first) (maxL := 2) hI (by decide) rfl (Nat.le_of_ble_eq_true rfl) (fun p e s m args below meth c ls hsz Z S0 hl => ?_)
  have hx := Z.1.1
  have hb := Z.1.2.1
  have hts := Z.1.2.2.2.2
  have F0_ : Fr L τ (inW [(11, 0), (60, 0), (61, 0)]) E E := Fr.refl
  have hl : lv_has ls 2 [(0, .ref a0), (1, .int a1)] := hl
  generalize hQ : MQ below _ args s 0 0 _ = QQ
  obtain ⟨qn, hqn, tqn⟩ := ref_of (k := 0) hI ha0 ta0 rfl rfl
  have tqn : τ qn = (60, 0) := tqn
  obtain ⟨qp, hqp, tqp⟩ := ref_of (k := 1) hI ha0 ta0 rfl rfl
  have tqp : τ qp = (61, 0) := tqp
  refine lv_aload_n hx hb dX10_first_0 rfl (lv_at hl 0 rfl) ?_
  obtain ⟨v1, ev1, tv1⟩ : ∃ v : Int32, Int32.ofInt (0) = v ∧ v.toInt = 0 := ⟨_, rfl, by decide +kernel⟩
  refine lv_iconst hx hb dX10_first_1 ev1 ?_
  refine tr_puti Z.1 Z.2.2.2.1 S0.1 S0.2 ha0 ta0 rfl rfl (fun _ h => List.mem_cons_of_mem _ (List.mem_append_right _ h)) tyX10_ok nmX10 4 (by decide) rfl rfl rfl (hts _ (List.mem_of_getElem? (i := 1) rfl)) dX10_first_2 (by omega) (by omega) (fun E2 H3 k4 W2 I2 P2 => ?_)
  have S2 : Now D TB cy (va_A (va_pl L E) sz) s L τ E2 H3 k4 := ⟨W2, I2⟩
  have F2 : Fr L τ (inW [(11, 0), (60, 0), (61, 0)]) E E2 := Fr.put F0_ P2 ta0 rfl
  refine lv_aload_n hx hb dX10_first_5 rfl (lv_at hl 0 rfl) ?_
  refine lv_iload_n hx hb dX10_first_6 rfl (lv_at hl 1 rfl) ?_
  obtain ⟨v5, ev5, tv5⟩ : ∃ v : Int32, Int32.ofInt (0) = v ∧ v.toInt = 0 := ⟨_, rfl, by decide +kernel⟩
  refine lv_iconst hx hb dX10_first_7 ev5 ?_
  obtain ⟨v6, ev6, tv6⟩ : ∃ v : Int32, Int32.ofInt (1) = v ∧ v.toInt = 1 := ⟨_, rfl, by decide +kernel⟩
  refine lv_iconst hx hb dX10_first_8 ev6 ?_
  refine tc_vi Z.1 Z.2.2.2.1 Z.2.2.2.2.1 Z.2.2.2.2.2 S2.1 S2.2 ha0 ta0 rfl rfl (k_X10_in l D cy S2.2 ha0 ta0 a1 v5 v6) (cwV 3 hts gX10_first_X10_in rfl rfl rfl (by decide +kernel) ⟨Nat.le_of_ble_eq_true rfl, Nat.le_of_ble_eq_true rfl⟩) rfl hl.1 rfl (Nat.le_of_ble_eq_true rfl) dX10_first_9 ⟨Nat.zero_le _, Nat.zero_le _⟩ (fun v10 E7 H8 k9 W7 I7 G7 p7 => ?_)
  obtain ⟨q7, p7_0, p7_1, p7_2⟩ := p7
  have q7 := q7.symm
  subst q7
  have S7 : Now D TB cy (va_A (va_pl L E) sz) s L τ E2 H8 k9 := ⟨W7, I7⟩
  refine lv_if_ne (tgt := 21) hx hb dX10_first_12 (by decide) (fun c11 => ?_) (fun c11 => ?_)
  · skip
    have tc11 := nu_ne c11
    have uc11 : (0 : Int32).toInt = 0 := rfl
    refine lv_aload_n hx hb dX10_first_21 rfl (lv_at hl 0 rfl) ?_
    refine tc_vv Z.1 Z.2.2.2.1 Z.2.2.2.2.1 Z.2.2.2.2.2 S7.1 S7.2 ha0 ta0 rfl rfl (k_X10_act_vw l D cy S7.2 ha0 ta0 (Chain.same hC S7.2 ha0 ta0 hqn tqn hqp tqp (P2.1 qn (ne_ro tqn ta0 (by decide))) (P2.1 qp (ne_ro tqp ta0 (by decide))) (fi_put (k := 2) P2 (Or.inr (by decide))))) (cwV 0 hts gX10_first_X10_act rfl rfl rfl (by decide +kernel) ⟨Nat.le_of_ble_eq_true rfl, Nat.le_of_ble_eq_true rfl⟩) rfl hl.1 rfl (Nat.le_of_ble_eq_true rfl) dX10_first_22 ⟨Nat.zero_le _, Nat.zero_le _⟩ (fun E12 H13 k14 W12 I12 G12 p12 => ?_)
    obtain ⟨p12_0, p12_1, p12_2⟩ := p12
    have S12 : Now D TB cy (va_A (va_pl L E) sz) s L τ E12 H13 k14 := ⟨W12, I12⟩
    have F12 : Fr L τ (inW [(11, 0), (60, 0), (61, 0)]) E E12 := F2.trans (G12.mono (inW_mono (by decide)))
    have C16 : ∀ T : Nat → Int32, Link (ai E qn) T → ChW E12 a0 qp T := fun T hT => p12_0 qn hqn tqn qp hqp tqp T (by rw [ai_cell (P2.1 qn (ne_ro tqn ta0 (by decide)))]; exact hT)
    have B17 : ∀ j : Nat, 44 ≤ j → j ≤ 52 → ai E12 qn j = ai E qn j := fun j _ _ => ((ai_fr G12 hqn (by rw [tqn]; rfl)).trans (ai_put P2 (ne_ro tqn ta0 (by decide))))
    have kz12_3 := fi_rng (k := 3) S12.2 ha0 ta0 rfl rfl
    refine lv_aload_n hx hb dX10_first_25 rfl (lv_at hl 0 rfl) ?_
    refine tr_getr Z.1 Z.2.2.2.1 S12.1 S12.2 ha0 ta0 rfl rfl (fun _ h => List.mem_cons_of_mem _ (List.mem_append_right _ h)) 0 (by decide) rfl (hts _ (List.mem_of_getElem? (i := 2) rfl)) dX10_first_26 (fun q18 eq18 hq18 tq18 => ?_)
    have tq18 : τ q18 = (60, 0) := tq18
    have uq18 : qn = q18 := S12.2.2.2.2 _ hqn _ hq18 (tqn.trans tq18.symm) (by rw [tqn]; rfl)
    subst uq18
    obtain ⟨v19, ev19, tv19⟩ : ∃ v : Int32, (Int8.ofInt (13)).toInt32 = v ∧ v.toInt = 13 := ⟨_, rfl, by decide +kernel⟩
    refine lv_bipush hx hb dX10_first_29 ev19 ?_
    refine lv_iload_n hx hb dX10_first_31 rfl (lv_at hl 1 rfl) ?_
    have b20 : nowB v19.toNatClampNeg = (-2147483648, 2147483647) := nb_o (by show v19.toInt.toNat < 4 ∨ (8 ≤ v19.toInt.toNat ∧ v19.toInt.toNat ≤ 18) ∨ (20 ≤ v19.toInt.toNat ∧ v19.toInt.toNat ≤ 43); omega)
    have b20 : (nowB v19.toNatClampNeg).1 ≤ a1.toInt ∧ a1.toInt ≤ (nowB v19.toNatClampNeg).2 := by rw [b20]; have := fb_rng a1; show -2147483648 ≤ a1.toInt ∧ a1.toInt ≤ 2147483647; omega
    refine tr_iastx Z.1 Z.2.2.2.1 S12.1 S12.2 hqn tqn rfl (by omega) (by omega) b20.1 b20.2 dX10_first_32 (fun E20 H21 k22 W20 I20 P20 => ?_)
    have S20 : Now D TB cy (va_A (va_pl L E) sz) s L τ E20 H21 k22 := ⟨W20, I20⟩
    have F20 : Fr L τ (inW [(11, 0), (60, 0), (61, 0)]) E E20 := Fr.set F12 P20 tqn rfl
    obtain ⟨v23, ev23, tv23⟩ : ∃ v : Int32, Int32.ofInt (1) = v ∧ v.toInt = 1 := ⟨_, rfl, by decide +kernel⟩
    refine lv_iconst hx hb dX10_first_33 ev23 ?_
    rw [← hQ]
    exact en_z Z S20 F20 (zo v23 (by omega)) ⟨(by omega), (by rw [((fi_set (k := 3) P20 (ne_ro ta0 tqn (by decide))).trans rfl)]; omega), (by omega), (by omega), (fun k hk => ((fi_set P20 (ne_ro ta0 tqn (by decide))).trans ((p12_2 k (fw_sub (by decide) hk)).trans ((fi_put P2 (Or.inr (fw_ne (by decide) hk))).trans ((fun k hk => rfl) k hk))))), (Chain.post C16 S20.2 ha0 ta0 hqn tqn hqp tqp (P20.1 qp (ne_ro tqp tqn (by decide))) (fi_set (k := 2) P20 (ne_ro ta0 tqn (by decide))) (Link.ag (fun j h1 h2 => ((ai_setk P20 (by show j ≠ v19.toInt.toNat; omega)).trans (B17 j h1 h2)))))⟩ dX10_first_34
  · skip
    have tc11 := nu_eq c11
    have uc11 : (0 : Int32).toInt = 0 := rfl
    refine lv_aload_n hx hb dX10_first_15 rfl (lv_at hl 0 rfl) ?_
    obtain ⟨v24, ev24, tv24⟩ : ∃ v : Int32, Int32.ofInt (1) = v ∧ v.toInt = 1 := ⟨_, rfl, by decide +kernel⟩
    refine lv_iconst hx hb dX10_first_16 ev24 ?_
    refine tc_vi Z.1 Z.2.2.2.1 Z.2.2.2.2.1 Z.2.2.2.2.2 S7.1 S7.2 ha0 ta0 rfl rfl (k_X10_not_vw l D cy S7.2 ha0 ta0 v24) (cwV 1 hts gX10_first_X10_not rfl rfl rfl (by decide +kernel) ⟨Nat.le_of_ble_eq_true rfl, Nat.le_of_ble_eq_true rfl⟩) rfl hl.1 rfl (Nat.le_of_ble_eq_true rfl) dX10_first_17 ⟨Nat.zero_le _, Nat.zero_le _⟩ (fun v28 E25 H26 k27 W25 I25 G25 p25 => ?_)
    obtain ⟨p25_0, p25_1, p25_2, p25_3⟩ := p25
    have S25 : Now D TB cy (va_A (va_pl L E) sz) s L τ E25 H26 k27 := ⟨W25, I25⟩
    have F25 : Fr L τ (inW [(11, 0), (60, 0), (61, 0)]) E E25 := F2.trans (G25.mono (inW_mono (by decide)))
    have kz25_3 := fi_rng (k := 3) S25.2 ha0 ta0 rfl rfl
    rw [← hQ]
    exact en_z Z S25 F25 (zo v28 (by omega)) ⟨(by omega), (by omega), (by omega), (by omega), (fun k hk => ((p25_3 k (fw_sub (by decide) hk)).trans ((fi_put P2 (Or.inr (fw_ne (by decide) hk))).trans ((fun k hk => rfl) k hk)))), (Chain.same hC S25.2 ha0 ta0 hqn tqn hqp tqp ((G25 qn hqn (by rw [tqn]; rfl)).trans (P2.1 qn (ne_ro tqn ta0 (by decide)))) ((G25 qp hqp (by rw [tqp]; rfl)).trans (P2.1 qp (ne_ro tqp ta0 (by decide)))) ((p25_3 2 (by decide)).trans (fi_put (k := 2) P2 (Or.inr (by decide)))))⟩ dX10_first_20

set_option maxHeartbeats 4000000 in
set_option maxRecDepth 100000 in
theorem k_X10_beam_vw (l : Launch) (D : va_G) (cy : Nat → ClassId) {L : List Nat} {τ : Nat → Ro} {E : Ec} (hI : Inv TB cy L τ E) {a0 : Nat} (ha0 : a0 ∈ L) (ta0 : τ a0 = (11, 0)) (a1 : Int32) (a2 : Int32) (a3 : Int32) (hC : Chain L τ E) : CtI l yX10_beam wsX10_beam { frames := 2, cells := 0, slots := 0, locals := 41 } D TB cy L τ E [.ref a0, .int a1, .int a2, .int a3] (inW [(11, 0), (60, 0), (61, 0)]) (fun r E' => ((fi E' a0 3).toInt ≠ 2) ∧ (∀ k : Nat, k ∉ ([2, 3, 4, 6] : List Nat) → fi E' a0 k = fi E a0 k) ∧ Chain L τ E') := by
  intro sz
  refine sta (cc := cX10_beam) (maxL := 5) hI (by decide) rfl (Nat.le_of_ble_eq_true rfl) (fun p e s m args below meth c ls hsz Z S0 hl => ?_)
  have hx := Z.1.1
  have hb := Z.1.2.1
  have hts := Z.1.2.2.2.2
  have F0_ : Fr L τ (inW [(11, 0), (60, 0), (61, 0)]) E E := Fr.refl
  have hl : lv_has ls 5 [(0, .ref a0), (1, .int a1), (2, .int a2), (3, .int a3)] := hl
  generalize hQ : MQ below _ args s 0 0 _ = QQ
  obtain ⟨qn, hqn, tqn⟩ := ref_of (k := 0) hI ha0 ta0 rfl rfl
  have tqn : τ qn = (60, 0) := tqn
  obtain ⟨qp, hqp, tqp⟩ := ref_of (k := 1) hI ha0 ta0 rfl rfl
  have tqp : τ qp = (61, 0) := tqp
  have J43 : ∀  (E_43 : Ec) (H_43 : Heap) (k_43 : List Loc) (l_43 : Array Slot), Now D TB cy (va_A (va_pl L E) sz) s L τ E_43 H_43 k_43 → Fr L τ (inW [(11, 0), (60, 0), (61, 0)]) E E_43 → (Chain L τ E_43) → (∀ k : Nat, k ∉ ([2, 3, 4, 6] : List Nat) → fi E_43 a0 k = fi E a0 k) → lv_has l_43 5 [(0, .ref a0)] → W p l e { frames := 2, cells := 0, slots := 0, locals := 41 } s m args below meth c H_43 k_43 0 0 QQ (F0 m 43 l_43 []) := by
    intro  E_43 H_43 k_43 l_43 S_43 F_43 z1 z2 hl_43
    refine lv_aload_n hx hb dX10_beam_43 rfl (lv_at hl_43 0 rfl) ?_
    obtain ⟨v3, ev3, tv3⟩ : ∃ v : Int32, Int32.ofInt (1) = v ∧ v.toInt = 1 := ⟨_, rfl, by decide +kernel⟩
    refine lv_iconst hx hb dX10_beam_44 ev3 ?_
    refine tc_vi Z.1 Z.2.2.2.1 Z.2.2.2.2.1 Z.2.2.2.2.2 S_43.1 S_43.2 ha0 ta0 rfl rfl (k_X10_no_vw l D cy S_43.2 ha0 ta0 v3) (cwV 1 hts gX10_beam_X10_no rfl rfl rfl (by decide +kernel) ⟨Nat.le_of_ble_eq_true rfl, Nat.le_of_ble_eq_true rfl⟩) rfl hl_43.1 rfl (Nat.le_of_ble_eq_true rfl) dX10_beam_45 ⟨Nat.zero_le _, Nat.zero_le _⟩ (fun v7 E4 H5 k6 W4 I4 G4 p4 => ?_)
    obtain ⟨p4_0, p4_1, p4_2, p4_3⟩ := p4
    have S4 : Now D TB cy (va_A (va_pl L E) sz) s L τ E4 H5 k6 := ⟨W4, I4⟩
    have F4 : Fr L τ (inW [(11, 0), (60, 0), (61, 0)]) E E4 := F_43.trans (G4.mono (inW_mono (by decide)))
    have kz4_3 := fi_rng (k := 3) S4.2 ha0 ta0 rfl rfl
    rw [← hQ]
    exact en_i Z S4 F4 ⟨(by omega), (fun k hk => ((p4_3 k (fw_sub (by decide) hk)).trans (z2 k hk))), (Chain.same z1 S4.2 ha0 ta0 hqn tqn hqp tqp (G4 qn hqn (by rw [tqn]; rfl)) (G4 qp hqp (by rw [tqp]; rfl)) (p4_3 2 (by decide)))⟩ dX10_beam_48
  refine lv_aload_n hx hb dX10_beam_0 rfl (lv_at hl 0 rfl) ?_
  obtain ⟨v8, ev8, tv8⟩ : ∃ v : Int32, Int32.ofInt (0) = v ∧ v.toInt = 0 := ⟨_, rfl, by decide +kernel⟩
  refine lv_iconst hx hb dX10_beam_1 ev8 ?_
  refine tr_puti Z.1 Z.2.2.2.1 S0.1 S0.2 ha0 ta0 rfl rfl (fun _ h => List.mem_cons_of_mem _ (List.mem_append_right _ h)) tyX10_ok nmX10 4 (by decide) rfl rfl rfl (hts _ (List.mem_of_getElem? (i := 1) rfl)) dX10_beam_2 (by omega) (by omega) (fun E9 H10 k11 W9 I9 P9 => ?_)
  have S9 : Now D TB cy (va_A (va_pl L E) sz) s L τ E9 H10 k11 := ⟨W9, I9⟩
  have F9 : Fr L τ (inW [(11, 0), (60, 0), (61, 0)]) E E9 := Fr.put F0_ P9 ta0 rfl
  refine lv_aload_n hx hb dX10_beam_5 rfl (lv_at hl 0 rfl) ?_
  refine lv_iload_n hx hb dX10_beam_6 rfl (lv_at hl 1 rfl) ?_
  obtain ⟨v12, ev12, tv12⟩ : ∃ v : Int32, Int32.ofInt (0) = v ∧ v.toInt = 0 := ⟨_, rfl, by decide +kernel⟩
  refine lv_iconst hx hb dX10_beam_7 ev12 ?_
  obtain ⟨v13, ev13, tv13⟩ : ∃ v : Int32, (Int16.ofInt (20000)).toInt32 = v ∧ v.toInt = 20000 := ⟨_, rfl, by decide +kernel⟩
  refine lv_sipush hx hb dX10_beam_8 ev13 ?_
  refine tc_vi Z.1 Z.2.2.2.1 Z.2.2.2.2.1 Z.2.2.2.2.2 S9.1 S9.2 ha0 ta0 rfl rfl (k_X10_in l D cy S9.2 ha0 ta0 a1 v12 v13) (cwV 3 hts gX10_beam_X10_in rfl rfl rfl (by decide +kernel) ⟨Nat.le_of_ble_eq_true rfl, Nat.le_of_ble_eq_true rfl⟩) rfl hl.1 rfl (Nat.le_of_ble_eq_true rfl) dX10_beam_11 ⟨Nat.zero_le _, Nat.zero_le _⟩ (fun v17 E14 H15 k16 W14 I14 G14 p14 => ?_)
  obtain ⟨q14, p14_0, p14_1, p14_2⟩ := p14
  have q14 := q14.symm
  subst q14
  have S14 : Now D TB cy (va_A (va_pl L E) sz) s L τ E9 H15 k16 := ⟨W14, I14⟩
  refine lv_if_eq (tgt := 43) hx hb dX10_beam_14 (by decide) (fun c18 => ?_) (fun c18 => ?_)
  · skip
    have tc18 := nu_eq c18
    have uc18 : (0 : Int32).toInt = 0 := rfl
    exact J43 E9 H15 k16 ls S14 F9 (Chain.same hC S14.2 ha0 ta0 hqn tqn hqp tqp (P9.1 qn (ne_ro tqn ta0 (by decide))) (P9.1 qp (ne_ro tqp ta0 (by decide))) (fi_put (k := 2) P9 (Or.inr (by decide)))) (fun k hk => ((fi_put P9 (Or.inr (fw_ne (by decide) hk))).trans ((fun k hk => rfl) k hk))) (lv_sub hl [0] rfl)
  · skip
    have tc18 := nu_ne c18
    have uc18 : (0 : Int32).toInt = 0 := rfl
    refine lv_aload_n hx hb dX10_beam_17 rfl (lv_at hl 0 rfl) ?_
    refine lv_iload_n hx hb dX10_beam_18 rfl (lv_at hl 2 rfl) ?_
    refine lv_iload_n hx hb dX10_beam_19 rfl (lv_at hl 1 rfl) ?_
    obtain ⟨v19, ev19, tv19⟩ : ∃ v : Int32, Int32.ofInt (1) = v ∧ v.toInt = 1 := ⟨_, rfl, by decide +kernel⟩
    refine lv_iconst hx hb dX10_beam_20 ev19 ?_
    refine lv_iadd hx hb dX10_beam_21 ?_
    refine lv_topi (fun v20 ev20 => ?_)
    have tv20 := nu_add ev20 (by omega) (by omega)
    obtain ⟨v21, ev21, tv21⟩ : ∃ v : Int32, (Int16.ofInt (20000)).toInt32 = v ∧ v.toInt = 20000 := ⟨_, rfl, by decide +kernel⟩
    refine lv_sipush hx hb dX10_beam_22 ev21 ?_
    refine tc_vi Z.1 Z.2.2.2.1 Z.2.2.2.2.1 Z.2.2.2.2.2 S14.1 S14.2 ha0 ta0 rfl rfl (k_X10_in l D cy S14.2 ha0 ta0 a2 v20 v21) (cwV 3 hts gX10_beam_X10_in rfl rfl rfl (by decide +kernel) ⟨Nat.le_of_ble_eq_true rfl, Nat.le_of_ble_eq_true rfl⟩) rfl hl.1 rfl (Nat.le_of_ble_eq_true rfl) dX10_beam_25 ⟨Nat.zero_le _, Nat.zero_le _⟩ (fun v25 E22 H23 k24 W22 I22 G22 p22 => ?_)
    obtain ⟨q22, p22_0, p22_1, p22_2⟩ := p22
    have q22 := q22.symm
    subst q22
    have S22 : Now D TB cy (va_A (va_pl L E) sz) s L τ E9 H23 k24 := ⟨W22, I22⟩
    refine lv_if_eq (tgt := 43) hx hb dX10_beam_28 (by decide) (fun c26 => ?_) (fun c26 => ?_)
    · skip
      have tc26 := nu_eq c26
      have uc26 : (0 : Int32).toInt = 0 := rfl
      exact J43 E9 H23 k24 ls S22 F9 (Chain.same hC S22.2 ha0 ta0 hqn tqn hqp tqp (P9.1 qn (ne_ro tqn ta0 (by decide))) (P9.1 qp (ne_ro tqp ta0 (by decide))) (fi_put (k := 2) P9 (Or.inr (by decide)))) (fun k hk => ((fi_put P9 (Or.inr (fw_ne (by decide) hk))).trans ((fun k hk => rfl) k hk))) (lv_sub hl [0] rfl)
    · skip
      have tc26 := nu_ne c26
      have uc26 : (0 : Int32).toInt = 0 := rfl
      refine lv_aload_n hx hb dX10_beam_31 rfl (lv_at hl 0 rfl) ?_
      refine lv_iload_n hx hb dX10_beam_32 rfl (lv_at hl 3 rfl) ?_
      obtain ⟨v27, ev27, tv27⟩ : ∃ v : Int32, Int32.ofInt (0) = v ∧ v.toInt = 0 := ⟨_, rfl, by decide +kernel⟩
      refine lv_iconst hx hb dX10_beam_33 ev27 ?_
      obtain ⟨v28, ev28, tv28⟩ : ∃ v : Int32, (Int16.ofInt (9000)).toInt32 = v ∧ v.toInt = 9000 := ⟨_, rfl, by decide +kernel⟩
      refine lv_sipush hx hb dX10_beam_34 ev28 ?_
      refine tc_vi Z.1 Z.2.2.2.1 Z.2.2.2.2.1 Z.2.2.2.2.2 S22.1 S22.2 ha0 ta0 rfl rfl (k_X10_in l D cy S22.2 ha0 ta0 a3 v27 v28) (cwV 3 hts gX10_beam_X10_in rfl rfl rfl (by decide +kernel) ⟨Nat.le_of_ble_eq_true rfl, Nat.le_of_ble_eq_true rfl⟩) rfl hl.1 rfl (Nat.le_of_ble_eq_true rfl) dX10_beam_37 ⟨Nat.zero_le _, Nat.zero_le _⟩ (fun v32 E29 H30 k31 W29 I29 G29 p29 => ?_)
      obtain ⟨q29, p29_0, p29_1, p29_2⟩ := p29
      have q29 := q29.symm
      subst q29
      have S29 : Now D TB cy (va_A (va_pl L E) sz) s L τ E9 H30 k31 := ⟨W29, I29⟩
      refine lv_if_ne (tgt := 49) hx hb dX10_beam_40 (by decide) (fun c33 => ?_) (fun c33 => ?_)
      · skip
        have tc33 := nu_ne c33
        have uc33 : (0 : Int32).toInt = 0 := rfl
        refine lv_aload_n hx hb dX10_beam_49 rfl (lv_at hl 0 rfl) ?_
        refine tr_getr Z.1 Z.2.2.2.1 S29.1 S29.2 ha0 ta0 rfl rfl (fun _ h => List.mem_cons_of_mem _ (List.mem_append_right _ h)) 0 (by decide) rfl (hts _ (List.mem_of_getElem? (i := 2) rfl)) dX10_beam_50 (fun q34 eq34 hq34 tq34 => ?_)
        have tq34 : τ q34 = (60, 0) := tq34
        have uq34 : qn = q34 := S29.2.2.2.2 _ hqn _ hq34 (tqn.trans tq34.symm) (by rw [tqn]; rfl)
        subst uq34
        obtain ⟨v35, ev35, tv35⟩ : ∃ v : Int32, (Int8.ofInt (19)).toInt32 = v ∧ v.toInt = 19 := ⟨_, rfl, by decide +kernel⟩
        refine lv_bipush hx hb dX10_beam_53 ev35 ?_
        refine tr_ialdx Z.1 Z.2.2.2.1 S29.1 S29.2 hqn tqn rfl (by omega) (by omega) dX10_beam_55 (fun v36 ev36 lv36 uv36 => ?_)
        have bv36 : nowB v35.toNatClampNeg = (0, 8) := nb_19 (by show v35.toInt.toNat = 19; omega)
        rw [bv36] at lv36 uv36
        have lv36 : 0 ≤ v36.toInt := lv36
        have uv36 : v36.toInt ≤ 8 := uv36
        have av36 : ai E9 qn 19 = v36 := ai_at ev36 (by omega)
        refine lv_istore (lv' := [(4, .int v36), (0, .ref a0), (1, .int a1), (2, .int a2), (3, .int a3)]) hx hb dX10_beam_56 hl (by decide) rfl (fun l37 hl38 => ?_)
        refine lv_iload hx hb dX10_beam_58 (lv_at hl38 0 rfl) ?_
        obtain ⟨v39, ev39, tv39⟩ : ∃ v : Int32, (Int8.ofInt (8)).toInt32 = v ∧ v.toInt = 8 := ⟨_, rfl, by decide +kernel⟩
        refine lv_bipush hx hb dX10_beam_60 ev39 ?_
        refine lv_icmp_ne (tgt := 71) hx hb dX10_beam_62 (by decide) (fun c40 => ?_) (fun c40 => ?_)
        · skip
          have tc40 := nu_ne c40
          refine lv_aload_n hx hb dX10_beam_71 rfl (lv_at hl38 1 rfl) ?_
          refine tc_vv Z.1 Z.2.2.2.1 Z.2.2.2.2.1 Z.2.2.2.2.2 S29.1 S29.2 ha0 ta0 rfl rfl (k_X10_act_vw l D cy S29.2 ha0 ta0 (Chain.same hC S29.2 ha0 ta0 hqn tqn hqp tqp (P9.1 qn (ne_ro tqn ta0 (by decide))) (P9.1 qp (ne_ro tqp ta0 (by decide))) (fi_put (k := 2) P9 (Or.inr (by decide))))) (cwV 0 hts gX10_beam_X10_act rfl rfl rfl (by decide +kernel) ⟨Nat.le_of_ble_eq_true rfl, Nat.le_of_ble_eq_true rfl⟩) rfl hl38.1 rfl (Nat.le_of_ble_eq_true rfl) dX10_beam_72 ⟨Nat.zero_le _, Nat.zero_le _⟩ (fun E41 H42 k43 W41 I41 G41 p41 => ?_)
          obtain ⟨p41_0, p41_1, p41_2⟩ := p41
          have S41 : Now D TB cy (va_A (va_pl L E) sz) s L τ E41 H42 k43 := ⟨W41, I41⟩
          have F41 : Fr L τ (inW [(11, 0), (60, 0), (61, 0)]) E E41 := F9.trans (G41.mono (inW_mono (by decide)))
          have C45 : ∀ T : Nat → Int32, Link (ai E qn) T → ChW E41 a0 qp T := fun T hT => p41_0 qn hqn tqn qp hqp tqp T (by rw [ai_cell (P9.1 qn (ne_ro tqn ta0 (by decide)))]; exact hT)
          have B46 : ∀ j : Nat, 44 ≤ j → j ≤ 52 → ai E41 qn j = ai E qn j := fun j _ _ => ((ai_fr G41 hqn (by rw [tqn]; rfl)).trans (ai_put P9 (ne_ro tqn ta0 (by decide))))
          have kz41_3 := fi_rng (k := 3) S41.2 ha0 ta0 rfl rfl
          refine lv_aload_n hx hb dX10_beam_75 rfl (lv_at hl38 1 rfl) ?_
          refine tr_getr Z.1 Z.2.2.2.1 S41.1 S41.2 ha0 ta0 rfl rfl (fun _ h => List.mem_cons_of_mem _ (List.mem_append_right _ h)) 0 (by decide) rfl (hts _ (List.mem_of_getElem? (i := 2) rfl)) dX10_beam_76 (fun q47 eq47 hq47 tq47 => ?_)
          have tq47 : τ q47 = (60, 0) := tq47
          have uq47 : qn = q47 := S41.2.2.2.2 _ hqn _ hq47 (tqn.trans tq47.symm) (by rw [tqn]; rfl)
          subst uq47
          obtain ⟨v48, ev48, tv48⟩ : ∃ v : Int32, (Int8.ofInt (20)).toInt32 = v ∧ v.toInt = 20 := ⟨_, rfl, by decide +kernel⟩
          refine lv_bipush hx hb dX10_beam_79 ev48 ?_
          obtain ⟨v49, ev49, tv49⟩ : ∃ v : Int32, Int32.ofInt (3) = v ∧ v.toInt = 3 := ⟨_, rfl, by decide +kernel⟩
          refine lv_iconst hx hb dX10_beam_81 ev49 ?_
          refine lv_iload hx hb dX10_beam_82 (lv_at hl38 0 rfl) ?_
          refine lv_imul hx hb dX10_beam_84 ?_
          refine lv_topi (fun v50 ev50 => ?_)
          have tv50 := nu_mulc' (3) ev50 (by omega) (by omega) (by omega)
          refine lv_iadd hx hb dX10_beam_85 ?_
          refine lv_topi (fun v51 ev51 => ?_)
          have tv51 := nu_add ev51 (by omega) (by omega)
          refine lv_iload_n hx hb dX10_beam_86 rfl (lv_at hl38 2 rfl) ?_
          have b52 : nowB v51.toNatClampNeg = (-2147483648, 2147483647) := nb_o (by show v51.toInt.toNat < 4 ∨ (8 ≤ v51.toInt.toNat ∧ v51.toInt.toNat ≤ 18) ∨ (20 ≤ v51.toInt.toNat ∧ v51.toInt.toNat ≤ 43); omega)
          have b52 : (nowB v51.toNatClampNeg).1 ≤ a1.toInt ∧ a1.toInt ≤ (nowB v51.toNatClampNeg).2 := by rw [b52]; have := fb_rng a1; show -2147483648 ≤ a1.toInt ∧ a1.toInt ≤ 2147483647; omega
          refine tr_iastx Z.1 Z.2.2.2.1 S41.1 S41.2 hqn tqn rfl (by omega) (by omega) b52.1 b52.2 dX10_beam_87 (fun E52 H53 k54 W52 I52 P52 => ?_)
          have S52 : Now D TB cy (va_A (va_pl L E) sz) s L τ E52 H53 k54 := ⟨W52, I52⟩
          have F52 : Fr L τ (inW [(11, 0), (60, 0), (61, 0)]) E E52 := Fr.set F41 P52 tqn rfl
          refine lv_aload_n hx hb dX10_beam_88 rfl (lv_at hl38 1 rfl) ?_
          refine tr_getr Z.1 Z.2.2.2.1 S52.1 S52.2 ha0 ta0 rfl rfl (fun _ h => List.mem_cons_of_mem _ (List.mem_append_right _ h)) 0 (by decide) rfl (hts _ (List.mem_of_getElem? (i := 2) rfl)) dX10_beam_89 (fun q55 eq55 hq55 tq55 => ?_)
          have tq55 : τ q55 = (60, 0) := tq55
          have uq55 : qn = q55 := S52.2.2.2.2 _ hqn _ hq55 (tqn.trans tq55.symm) (by rw [tqn]; rfl)
          subst uq55
          obtain ⟨v56, ev56, tv56⟩ : ∃ v : Int32, (Int8.ofInt (20)).toInt32 = v ∧ v.toInt = 20 := ⟨_, rfl, by decide +kernel⟩
          refine lv_bipush hx hb dX10_beam_92 ev56 ?_
          obtain ⟨v57, ev57, tv57⟩ : ∃ v : Int32, Int32.ofInt (3) = v ∧ v.toInt = 3 := ⟨_, rfl, by decide +kernel⟩
          refine lv_iconst hx hb dX10_beam_94 ev57 ?_
          refine lv_iload hx hb dX10_beam_95 (lv_at hl38 0 rfl) ?_
          refine lv_imul hx hb dX10_beam_97 ?_
          refine lv_topi (fun v58 ev58 => ?_)
          have tv58 := nu_mulc' (3) ev58 (by omega) (by omega) (by omega)
          refine lv_iadd hx hb dX10_beam_98 ?_
          refine lv_topi (fun v59 ev59 => ?_)
          have tv59 := nu_add ev59 (by omega) (by omega)
          obtain ⟨v60, ev60, tv60⟩ : ∃ v : Int32, Int32.ofInt (1) = v ∧ v.toInt = 1 := ⟨_, rfl, by decide +kernel⟩
          refine lv_iconst hx hb dX10_beam_99 ev60 ?_
          refine lv_iadd hx hb dX10_beam_100 ?_
          refine lv_topi (fun v61 ev61 => ?_)
          have tv61 := nu_add ev61 (by omega) (by omega)
          refine lv_iload_n hx hb dX10_beam_101 rfl (lv_at hl38 3 rfl) ?_
          have b62 : nowB v61.toNatClampNeg = (-2147483648, 2147483647) := nb_o (by show v61.toInt.toNat < 4 ∨ (8 ≤ v61.toInt.toNat ∧ v61.toInt.toNat ≤ 18) ∨ (20 ≤ v61.toInt.toNat ∧ v61.toInt.toNat ≤ 43); omega)
          have b62 : (nowB v61.toNatClampNeg).1 ≤ a2.toInt ∧ a2.toInt ≤ (nowB v61.toNatClampNeg).2 := by rw [b62]; have := fb_rng a2; show -2147483648 ≤ a2.toInt ∧ a2.toInt ≤ 2147483647; omega
          refine tr_iastx Z.1 Z.2.2.2.1 S52.1 S52.2 hqn tqn rfl (by omega) (by omega) b62.1 b62.2 dX10_beam_102 (fun E62 H63 k64 W62 I62 P62 => ?_)
          have S62 : Now D TB cy (va_A (va_pl L E) sz) s L τ E62 H63 k64 := ⟨W62, I62⟩
          have F62 : Fr L τ (inW [(11, 0), (60, 0), (61, 0)]) E E62 := Fr.set F52 P62 tqn rfl
          refine lv_aload_n hx hb dX10_beam_103 rfl (lv_at hl38 1 rfl) ?_
          refine tr_getr Z.1 Z.2.2.2.1 S62.1 S62.2 ha0 ta0 rfl rfl (fun _ h => List.mem_cons_of_mem _ (List.mem_append_right _ h)) 0 (by decide) rfl (hts _ (List.mem_of_getElem? (i := 2) rfl)) dX10_beam_104 (fun q65 eq65 hq65 tq65 => ?_)
          have tq65 : τ q65 = (60, 0) := tq65
          have uq65 : qn = q65 := S62.2.2.2.2 _ hqn _ hq65 (tqn.trans tq65.symm) (by rw [tqn]; rfl)
          subst uq65
          obtain ⟨v66, ev66, tv66⟩ : ∃ v : Int32, (Int8.ofInt (20)).toInt32 = v ∧ v.toInt = 20 := ⟨_, rfl, by decide +kernel⟩
          refine lv_bipush hx hb dX10_beam_107 ev66 ?_
          obtain ⟨v67, ev67, tv67⟩ : ∃ v : Int32, Int32.ofInt (3) = v ∧ v.toInt = 3 := ⟨_, rfl, by decide +kernel⟩
          refine lv_iconst hx hb dX10_beam_109 ev67 ?_
          refine lv_iload hx hb dX10_beam_110 (lv_at hl38 0 rfl) ?_
          refine lv_imul hx hb dX10_beam_112 ?_
          refine lv_topi (fun v68 ev68 => ?_)
          have tv68 := nu_mulc' (3) ev68 (by omega) (by omega) (by omega)
          refine lv_iadd hx hb dX10_beam_113 ?_
          refine lv_topi (fun v69 ev69 => ?_)
          have tv69 := nu_add ev69 (by omega) (by omega)
          obtain ⟨v70, ev70, tv70⟩ : ∃ v : Int32, Int32.ofInt (2) = v ∧ v.toInt = 2 := ⟨_, rfl, by decide +kernel⟩
          refine lv_iconst hx hb dX10_beam_114 ev70 ?_
          refine lv_iadd hx hb dX10_beam_115 ?_
          refine lv_topi (fun v71 ev71 => ?_)
          have tv71 := nu_add ev71 (by omega) (by omega)
          refine lv_iload_n hx hb dX10_beam_116 rfl (lv_at hl38 4 rfl) ?_
          have b72 : nowB v71.toNatClampNeg = (-2147483648, 2147483647) := nb_o (by show v71.toInt.toNat < 4 ∨ (8 ≤ v71.toInt.toNat ∧ v71.toInt.toNat ≤ 18) ∨ (20 ≤ v71.toInt.toNat ∧ v71.toInt.toNat ≤ 43); omega)
          have b72 : (nowB v71.toNatClampNeg).1 ≤ a3.toInt ∧ a3.toInt ≤ (nowB v71.toNatClampNeg).2 := by rw [b72]; have := fb_rng a3; show -2147483648 ≤ a3.toInt ∧ a3.toInt ≤ 2147483647; omega
          refine tr_iastx Z.1 Z.2.2.2.1 S62.1 S62.2 hqn tqn rfl (by omega) (by omega) b72.1 b72.2 dX10_beam_117 (fun E72 H73 k74 W72 I72 P72 => ?_)
          have S72 : Now D TB cy (va_A (va_pl L E) sz) s L τ E72 H73 k74 := ⟨W72, I72⟩
          have F72 : Fr L τ (inW [(11, 0), (60, 0), (61, 0)]) E E72 := Fr.set F62 P72 tqn rfl
          refine lv_aload_n hx hb dX10_beam_118 rfl (lv_at hl38 1 rfl) ?_
          refine tr_getr Z.1 Z.2.2.2.1 S72.1 S72.2 ha0 ta0 rfl rfl (fun _ h => List.mem_cons_of_mem _ (List.mem_append_right _ h)) 0 (by decide) rfl (hts _ (List.mem_of_getElem? (i := 2) rfl)) dX10_beam_119 (fun q75 eq75 hq75 tq75 => ?_)
          have tq75 : τ q75 = (60, 0) := tq75
          have uq75 : qn = q75 := S72.2.2.2.2 _ hqn _ hq75 (tqn.trans tq75.symm) (by rw [tqn]; rfl)
          subst uq75
          obtain ⟨v76, ev76, tv76⟩ : ∃ v : Int32, (Int8.ofInt (19)).toInt32 = v ∧ v.toInt = 19 := ⟨_, rfl, by decide +kernel⟩
          refine lv_bipush hx hb dX10_beam_122 ev76 ?_
          refine lv_dup2_11 hx hb dX10_beam_124 rfl rfl ?_
          refine tr_ialdx Z.1 Z.2.2.2.1 S72.1 S72.2 hqn tqn rfl (by omega) (by omega) dX10_beam_125 (fun v77 ev77 lv77 uv77 => ?_)
          have bv77 : nowB v76.toNatClampNeg = (0, 8) := nb_19 (by show v76.toInt.toNat = 19; omega)
          rw [bv77] at lv77 uv77
          have lv77 : 0 ≤ v77.toInt := lv77
          have uv77 : v77.toInt ≤ 8 := uv77
          have av77 : ai E72 qn 19 = v77 := ai_at ev77 (by omega)
          have wv77 : v77 = v36 := av77.symm.trans ((ai_setk P72 (by show (19 : Nat) ≠ v71.toInt.toNat; omega)).trans ((ai_setk P62 (by show (19 : Nat) ≠ v61.toInt.toNat; omega)).trans ((ai_setk P52 (by show (19 : Nat) ≠ v51.toInt.toNat; omega)).trans ((ai_fr G41 hqn (by rw [tqn]; rfl)).trans av36))))
          have xv77 : v77.toInt = v36.toInt := by rw [wv77]
          obtain ⟨v78, ev78, tv78⟩ : ∃ v : Int32, Int32.ofInt (1) = v ∧ v.toInt = 1 := ⟨_, rfl, by decide +kernel⟩
          refine lv_iconst hx hb dX10_beam_126 ev78 ?_
          refine lv_iadd hx hb dX10_beam_127 ?_
          refine lv_topi (fun v79 ev79 => ?_)
          have tv79 := nu_add ev79 (by omega) (by omega)
          have b80 : nowB v76.toNatClampNeg = (0, 8) := nb_19 (by show v76.toInt.toNat = 19; omega)
          have b80 : (nowB v76.toNatClampNeg).1 ≤ v79.toInt ∧ v79.toInt ≤ (nowB v76.toNatClampNeg).2 := by rw [b80]; have := fb_rng v79; show 0 ≤ v79.toInt ∧ v79.toInt ≤ 8; omega
          refine tr_iastx Z.1 Z.2.2.2.1 S72.1 S72.2 hqn tqn rfl (by omega) (by omega) b80.1 b80.2 dX10_beam_128 (fun E80 H81 k82 W80 I80 P80 => ?_)
          have S80 : Now D TB cy (va_A (va_pl L E) sz) s L τ E80 H81 k82 := ⟨W80, I80⟩
          have F80 : Fr L τ (inW [(11, 0), (60, 0), (61, 0)]) E E80 := Fr.set F72 P80 tqn rfl
          refine lv_iload hx hb dX10_beam_129 (lv_at hl38 0 rfl) ?_
          obtain ⟨v83, ev83, tv83⟩ : ∃ v : Int32, Int32.ofInt (1) = v ∧ v.toInt = 1 := ⟨_, rfl, by decide +kernel⟩
          refine lv_iconst hx hb dX10_beam_131 ev83 ?_
          refine lv_iadd hx hb dX10_beam_132 ?_
          refine lv_topi (fun v84 ev84 => ?_)
          have tv84 := nu_add ev84 (by omega) (by omega)
          rw [← hQ]
          exact en_i Z S80 F80 ⟨(by rw [((fi_set (k := 3) P80 (ne_ro ta0 tqn (by decide))).trans ((fi_set (k := 3) P72 (ne_ro ta0 tqn (by decide))).trans ((fi_set (k := 3) P62 (ne_ro ta0 tqn (by decide))).trans ((fi_set (k := 3) P52 (ne_ro ta0 tqn (by decide))).trans rfl))))]; omega), (fun k hk => ((fi_set P80 (ne_ro ta0 tqn (by decide))).trans ((fi_set P72 (ne_ro ta0 tqn (by decide))).trans ((fi_set P62 (ne_ro ta0 tqn (by decide))).trans ((fi_set P52 (ne_ro ta0 tqn (by decide))).trans ((p41_2 k (fw_sub (by decide) hk)).trans ((fi_put P9 (Or.inr (fw_ne (by decide) hk))).trans ((fun k hk => rfl) k hk)))))))), (Chain.post C45 S80.2 ha0 ta0 hqn tqn hqp tqp ((P80.1 qp (ne_ro tqp tqn (by decide))).trans ((P72.1 qp (ne_ro tqp tqn (by decide))).trans ((P62.1 qp (ne_ro tqp tqn (by decide))).trans (P52.1 qp (ne_ro tqp tqn (by decide)))))) ((fi_set (k := 2) P80 (ne_ro ta0 tqn (by decide))).trans ((fi_set (k := 2) P72 (ne_ro ta0 tqn (by decide))).trans ((fi_set (k := 2) P62 (ne_ro ta0 tqn (by decide))).trans (fi_set (k := 2) P52 (ne_ro ta0 tqn (by decide)))))) (Link.ag (fun j h1 h2 => ((ai_setk P80 (by show j ≠ v76.toInt.toNat; omega)).trans ((ai_setk P72 (by show j ≠ v71.toInt.toNat; omega)).trans ((ai_setk P62 (by show j ≠ v61.toInt.toNat; omega)).trans ((ai_setk P52 (by show j ≠ v51.toInt.toNat; omega)).trans (B46 j h1 h2))))))))⟩ dX10_beam_133
        · skip
          have tc40 := nu_eq c40
          refine lv_aload_n hx hb dX10_beam_65 rfl (lv_at hl38 1 rfl) ?_
          obtain ⟨v85, ev85, tv85⟩ : ∃ v : Int32, Int32.ofInt (3) = v ∧ v.toInt = 3 := ⟨_, rfl, by decide +kernel⟩
          refine lv_iconst hx hb dX10_beam_66 ev85 ?_
          refine tc_vi Z.1 Z.2.2.2.1 Z.2.2.2.2.1 Z.2.2.2.2.2 S29.1 S29.2 ha0 ta0 rfl rfl (k_X10_no_vw l D cy S29.2 ha0 ta0 v85) (cwV 1 hts gX10_beam_X10_no rfl rfl rfl (by decide +kernel) ⟨Nat.le_of_ble_eq_true rfl, Nat.le_of_ble_eq_true rfl⟩) rfl hl38.1 rfl (Nat.le_of_ble_eq_true rfl) dX10_beam_67 ⟨Nat.zero_le _, Nat.zero_le _⟩ (fun v89 E86 H87 k88 W86 I86 G86 p86 => ?_)
          obtain ⟨p86_0, p86_1, p86_2, p86_3⟩ := p86
          have S86 : Now D TB cy (va_A (va_pl L E) sz) s L τ E86 H87 k88 := ⟨W86, I86⟩
          have F86 : Fr L τ (inW [(11, 0), (60, 0), (61, 0)]) E E86 := F9.trans (G86.mono (inW_mono (by decide)))
          have kz86_3 := fi_rng (k := 3) S86.2 ha0 ta0 rfl rfl
          rw [← hQ]
          exact en_i Z S86 F86 ⟨(by omega), (fun k hk => ((p86_3 k (fw_sub (by decide) hk)).trans ((fi_put P9 (Or.inr (fw_ne (by decide) hk))).trans ((fun k hk => rfl) k hk)))), (Chain.same hC S86.2 ha0 ta0 hqn tqn hqp tqp ((G86 qn hqn (by rw [tqn]; rfl)).trans (P9.1 qn (ne_ro tqn ta0 (by decide)))) ((G86 qp hqp (by rw [tqp]; rfl)).trans (P9.1 qp (ne_ro tqp ta0 (by decide)))) ((p86_3 2 (by decide)).trans (fi_put (k := 2) P9 (Or.inr (by decide)))))⟩ dX10_beam_70
      · skip
        have tc33 := nu_eq c33
        have uc33 : (0 : Int32).toInt = 0 := rfl
        exact J43 E9 H30 k31 ls S29 F9 (Chain.same hC S29.2 ha0 ta0 hqn tqn hqp tqp (P9.1 qn (ne_ro tqn ta0 (by decide))) (P9.1 qp (ne_ro tqp ta0 (by decide))) (fi_put (k := 2) P9 (Or.inr (by decide)))) (fun k hk => ((fi_put P9 (Or.inr (fw_ne (by decide) hk))).trans ((fun k hk => rfl) k hk))) (lv_sub hl [0] rfl)

set_option maxHeartbeats 4000000 in
set_option maxRecDepth 100000 in
theorem k_X10_repeal_vw (l : Launch) (D : va_G) (cy : Nat → ClassId) {L : List Nat} {τ : Nat → Ro} {E : Ec} (hI : Inv TB cy L τ E) {a0 : Nat} (ha0 : a0 ∈ L) (ta0 : τ a0 = (11, 0)) (hC : Chain L τ E) : CtI l yX10_repeal wsX10_repeal { frames := 2, cells := 0, slots := 0, locals := 41 } D TB cy L τ E [.ref a0] (inW [(11, 0), (60, 0), (61, 0)]) (fun r E' => ((fi E' a0 3).toInt ≠ 2) ∧ 0 ≤ r.toInt ∧ r.toInt ≤ 1 ∧ (∀ k : Nat, k ∉ ([2, 3, 4, 6] : List Nat) → fi E' a0 k = fi E a0 k) ∧ Chain L τ E') := by
  intro sz
  refine sta (cc := cX10_repeal) (maxL := 1) hI (by decide) rfl (Nat.le_of_ble_eq_true rfl) (fun p e s m args below meth c ls hsz Z S0 hl => ?_)
  have hx := Z.1.1
  have hb := Z.1.2.1
  have hts := Z.1.2.2.2.2
  have F0_ : Fr L τ (inW [(11, 0), (60, 0), (61, 0)]) E E := Fr.refl
  have hl : lv_has ls 1 [(0, .ref a0)] := hl
  generalize hQ : MQ below _ args s 0 0 _ = QQ
  obtain ⟨qn, hqn, tqn⟩ := ref_of (k := 0) hI ha0 ta0 rfl rfl
  have tqn : τ qn = (60, 0) := tqn
  obtain ⟨qp, hqp, tqp⟩ := ref_of (k := 1) hI ha0 ta0 rfl rfl
  have tqp : τ qp = (61, 0) := tqp
  refine lv_aload_n hx hb dX10_repeal_0 rfl (lv_at hl 0 rfl) ?_
  obtain ⟨v1, ev1, tv1⟩ : ∃ v : Int32, Int32.ofInt (0) = v ∧ v.toInt = 0 := ⟨_, rfl, by decide +kernel⟩
  refine lv_iconst hx hb dX10_repeal_1 ev1 ?_
  refine tr_puti Z.1 Z.2.2.2.1 S0.1 S0.2 ha0 ta0 rfl rfl (fun _ h => List.mem_cons_of_mem _ (List.mem_append_right _ h)) tyX10_ok nmX10 4 (by decide) rfl rfl rfl (hts _ (List.mem_of_getElem? (i := 1) rfl)) dX10_repeal_2 (by omega) (by omega) (fun E2 H3 k4 W2 I2 P2 => ?_)
  have S2 : Now D TB cy (va_A (va_pl L E) sz) s L τ E2 H3 k4 := ⟨W2, I2⟩
  have F2 : Fr L τ (inW [(11, 0), (60, 0), (61, 0)]) E E2 := Fr.put F0_ P2 ta0 rfl
  refine lv_aload_n hx hb dX10_repeal_5 rfl (lv_at hl 0 rfl) ?_
  refine tr_getr Z.1 Z.2.2.2.1 S2.1 S2.2 ha0 ta0 rfl rfl (fun _ h => List.mem_cons_of_mem _ (List.mem_append_right _ h)) 0 (by decide) rfl (hts _ (List.mem_of_getElem? (i := 2) rfl)) dX10_repeal_6 (fun q5 eq5 hq5 tq5 => ?_)
  have tq5 : τ q5 = (60, 0) := tq5
  have uq5 : qn = q5 := S2.2.2.2.2 _ hqn _ hq5 (tqn.trans tq5.symm) (by rw [tqn]; rfl)
  subst uq5
  obtain ⟨v6, ev6, tv6⟩ : ∃ v : Int32, (Int8.ofInt (44)).toInt32 = v ∧ v.toInt = 44 := ⟨_, rfl, by decide +kernel⟩
  refine lv_bipush hx hb dX10_repeal_9 ev6 ?_
  refine tr_ialdx Z.1 Z.2.2.2.1 S2.1 S2.2 hqn tqn rfl (by omega) (by omega) dX10_repeal_11 (fun v7 ev7 lv7 uv7 => ?_)
  have bv7 : nowB v6.toNatClampNeg = (0, 8) := nb_44 (by show v6.toInt.toNat = 44; omega)
  rw [bv7] at lv7 uv7
  have lv7 : 0 ≤ v7.toInt := lv7
  have uv7 : v7.toInt ≤ 8 := uv7
  have av7 : ai E2 qn 44 = v7 := ai_at ev7 (by omega)
  refine lv_if_ne (tgt := 21) hx hb dX10_repeal_12 (by decide) (fun c8 => ?_) (fun c8 => ?_)
  · skip
    have tc8 := nu_ne c8
    have uc8 : (0 : Int32).toInt = 0 := rfl
    refine lv_aload_n hx hb dX10_repeal_21 rfl (lv_at hl 0 rfl) ?_
    refine tc_vv Z.1 Z.2.2.2.1 Z.2.2.2.2.1 Z.2.2.2.2.2 S2.1 S2.2 ha0 ta0 rfl rfl (k_X10_act_vw l D cy S2.2 ha0 ta0 (Chain.same hC S2.2 ha0 ta0 hqn tqn hqp tqp (P2.1 qn (ne_ro tqn ta0 (by decide))) (P2.1 qp (ne_ro tqp ta0 (by decide))) (fi_put (k := 2) P2 (Or.inr (by decide))))) (cwV 0 hts gX10_repeal_X10_act rfl rfl rfl (by decide +kernel) ⟨Nat.le_of_ble_eq_true rfl, Nat.le_of_ble_eq_true rfl⟩) rfl hl.1 rfl (Nat.le_of_ble_eq_true rfl) dX10_repeal_22 ⟨Nat.zero_le _, Nat.zero_le _⟩ (fun E9 H10 k11 W9 I9 G9 p9 => ?_)
    obtain ⟨p9_0, p9_1, p9_2⟩ := p9
    have S9 : Now D TB cy (va_A (va_pl L E) sz) s L τ E9 H10 k11 := ⟨W9, I9⟩
    have F9 : Fr L τ (inW [(11, 0), (60, 0), (61, 0)]) E E9 := F2.trans (G9.mono (inW_mono (by decide)))
    have C13 : ∀ T : Nat → Int32, Link (ai E qn) T → ChW E9 a0 qp T := fun T hT => p9_0 qn hqn tqn qp hqp tqp T (by rw [ai_cell (P2.1 qn (ne_ro tqn ta0 (by decide)))]; exact hT)
    have B14 : ∀ j : Nat, 44 ≤ j → j ≤ 52 → ai E9 qn j = ai E qn j := fun j _ _ => ((ai_fr G9 hqn (by rw [tqn]; rfl)).trans (ai_put P2 (ne_ro tqn ta0 (by decide))))
    have kz9_3 := fi_rng (k := 3) S9.2 ha0 ta0 rfl rfl
    refine lv_aload_n hx hb dX10_repeal_25 rfl (lv_at hl 0 rfl) ?_
    refine tr_getr Z.1 Z.2.2.2.1 S9.1 S9.2 ha0 ta0 rfl rfl (fun _ h => List.mem_cons_of_mem _ (List.mem_append_right _ h)) 0 (by decide) rfl (hts _ (List.mem_of_getElem? (i := 2) rfl)) dX10_repeal_26 (fun q15 eq15 hq15 tq15 => ?_)
    have tq15 : τ q15 = (60, 0) := tq15
    have uq15 : qn = q15 := S9.2.2.2.2 _ hqn _ hq15 (tqn.trans tq15.symm) (by rw [tqn]; rfl)
    subst uq15
    obtain ⟨v16, ev16, tv16⟩ : ∃ v : Int32, (Int8.ofInt (44)).toInt32 = v ∧ v.toInt = 44 := ⟨_, rfl, by decide +kernel⟩
    refine lv_bipush hx hb dX10_repeal_29 ev16 ?_
    refine lv_dup2_11 hx hb dX10_repeal_31 rfl rfl ?_
    refine tr_ialdx Z.1 Z.2.2.2.1 S9.1 S9.2 hqn tqn rfl (by omega) (by omega) dX10_repeal_32 (fun v17 ev17 lv17 uv17 => ?_)
    have bv17 : nowB v16.toNatClampNeg = (0, 8) := nb_44 (by show v16.toInt.toNat = 44; omega)
    rw [bv17] at lv17 uv17
    have lv17 : 0 ≤ v17.toInt := lv17
    have uv17 : v17.toInt ≤ 8 := uv17
    have av17 : ai E9 qn 44 = v17 := ai_at ev17 (by omega)
    have wv17 : v17 = v7 := av17.symm.trans ((ai_fr G9 hqn (by rw [tqn]; rfl)).trans av7)
    have xv17 : v17.toInt = v7.toInt := by rw [wv17]
    obtain ⟨v18, ev18, tv18⟩ : ∃ v : Int32, Int32.ofInt (1) = v ∧ v.toInt = 1 := ⟨_, rfl, by decide +kernel⟩
    refine lv_iconst hx hb dX10_repeal_33 ev18 ?_
    refine lv_isub hx hb dX10_repeal_34 ?_
    refine lv_topi (fun v19 ev19 => ?_)
    have tv19 := nu_sub ev19 (by omega) (by omega)
    have b20 : nowB v16.toNatClampNeg = (0, 8) := nb_44 (by show v16.toInt.toNat = 44; omega)
    have b20 : (nowB v16.toNatClampNeg).1 ≤ v19.toInt ∧ v19.toInt ≤ (nowB v16.toNatClampNeg).2 := by rw [b20]; have := fb_rng v19; show 0 ≤ v19.toInt ∧ v19.toInt ≤ 8; omega
    refine tr_iastx Z.1 Z.2.2.2.1 S9.1 S9.2 hqn tqn rfl (by omega) (by omega) b20.1 b20.2 dX10_repeal_35 (fun E20 H21 k22 W20 I20 P20 => ?_)
    have S20 : Now D TB cy (va_A (va_pl L E) sz) s L τ E20 H21 k22 := ⟨W20, I20⟩
    have F20 : Fr L τ (inW [(11, 0), (60, 0), (61, 0)]) E E20 := Fr.set F9 P20 tqn rfl
    obtain ⟨v23, ev23, tv23⟩ : ∃ v : Int32, Int32.ofInt (1) = v ∧ v.toInt = 1 := ⟨_, rfl, by decide +kernel⟩
    refine lv_iconst hx hb dX10_repeal_36 ev23 ?_
    rw [← hQ]
    exact en_z Z S20 F20 (zo v23 (by omega)) ⟨(by rw [((fi_set (k := 3) P20 (ne_ro ta0 tqn (by decide))).trans rfl)]; omega), (by omega), (by omega), (fun k hk => ((fi_set P20 (ne_ro ta0 tqn (by decide))).trans ((p9_2 k (fw_sub (by decide) hk)).trans ((fi_put P2 (Or.inr (fw_ne (by decide) hk))).trans ((fun k hk => rfl) k hk))))), (Chain.post C13 S20.2 ha0 ta0 hqn tqn hqp tqp (P20.1 qp (ne_ro tqp tqn (by decide))) (fi_set (k := 2) P20 (ne_ro ta0 tqn (by decide))) (Link.rep (by rw [(ai_at P20.2.1 (by omega)), ← B14 44 (by omega) (by omega), av17]; omega) (fun j h1 h2 => ((ai_setk P20 (by show j ≠ v16.toInt.toNat; omega)).trans (B14 j (by omega) h2)))))⟩ dX10_repeal_37
  · skip
    have tc8 := nu_eq c8
    have uc8 : (0 : Int32).toInt = 0 := rfl
    refine lv_aload_n hx hb dX10_repeal_15 rfl (lv_at hl 0 rfl) ?_
    obtain ⟨v24, ev24, tv24⟩ : ∃ v : Int32, Int32.ofInt (4) = v ∧ v.toInt = 4 := ⟨_, rfl, by decide +kernel⟩
    refine lv_iconst hx hb dX10_repeal_16 ev24 ?_
    refine tc_vi Z.1 Z.2.2.2.1 Z.2.2.2.2.1 Z.2.2.2.2.2 S2.1 S2.2 ha0 ta0 rfl rfl (k_X10_not_vw l D cy S2.2 ha0 ta0 v24) (cwV 1 hts gX10_repeal_X10_not rfl rfl rfl (by decide +kernel) ⟨Nat.le_of_ble_eq_true rfl, Nat.le_of_ble_eq_true rfl⟩) rfl hl.1 rfl (Nat.le_of_ble_eq_true rfl) dX10_repeal_17 ⟨Nat.zero_le _, Nat.zero_le _⟩ (fun v28 E25 H26 k27 W25 I25 G25 p25 => ?_)
    obtain ⟨p25_0, p25_1, p25_2, p25_3⟩ := p25
    have S25 : Now D TB cy (va_A (va_pl L E) sz) s L τ E25 H26 k27 := ⟨W25, I25⟩
    have F25 : Fr L τ (inW [(11, 0), (60, 0), (61, 0)]) E E25 := F2.trans (G25.mono (inW_mono (by decide)))
    have kz25_3 := fi_rng (k := 3) S25.2 ha0 ta0 rfl rfl
    rw [← hQ]
    exact en_z Z S25 F25 (zo v28 (by omega)) ⟨(by omega), (by omega), (by omega), (fun k hk => ((p25_3 k (fw_sub (by decide) hk)).trans ((fi_put P2 (Or.inr (fw_ne (by decide) hk))).trans ((fun k hk => rfl) k hk)))), (Chain.same hC S25.2 ha0 ta0 hqn tqn hqp tqp ((G25 qn hqn (by rw [tqn]; rfl)).trans (P2.1 qn (ne_ro tqn ta0 (by decide)))) ((G25 qp hqp (by rw [tqp]; rfl)).trans (P2.1 qp (ne_ro tqp ta0 (by decide)))) ((p25_3 2 (by decide)).trans (fi_put (k := 2) P2 (Or.inr (by decide)))))⟩ dX10_repeal_20

set_option maxHeartbeats 4000000 in
set_option maxRecDepth 100000 in
theorem k_X10_price_vw (l : Launch) (D : va_G) (cy : Nat → ClassId) {L : List Nat} {τ : Nat → Ro} {E : Ec} (hI : Inv TB cy L τ E) {a0 : Nat} (ha0 : a0 ∈ L) (ta0 : τ a0 = (11, 0)) (a1 : Int32) (a2 : Int32) (hC : Chain L τ E) : CtI l yX10_price wsX10_price { frames := 2, cells := 0, slots := 0, locals := 41 } D TB cy L τ E [.ref a0, .int a1, .int a2] (inW [(11, 0), (60, 0), (61, 0)]) (fun r E' => ((r.toInt = 1 ∧ 0 ≤ a1.toInt ∧ a1.toInt ≤ 4 ∧ 0 ≤ a2.toInt ∧ a2.toInt ≤ 10000) ∨ (r.toInt = 0 ∧ ¬ (0 ≤ a1.toInt ∧ a1.toInt ≤ 4 ∧ 0 ≤ a2.toInt ∧ a2.toInt ≤ 10000))) ∧ ((fi E' a0 3).toInt ≠ 2) ∧ 0 ≤ r.toInt ∧ r.toInt ≤ 1 ∧ (∀ k : Nat, k ∉ ([2, 3, 4, 6] : List Nat) → fi E' a0 k = fi E a0 k) ∧ Chain L τ E') := by
  intro sz
  refine sta (cc := cX10_price) (maxL := 3) hI (by decide) rfl (Nat.le_of_ble_eq_true rfl) (fun p e s m args below meth c ls hsz Z S0 hl => ?_)
  have hx := Z.1.1
  have hb := Z.1.2.1
  have hts := Z.1.2.2.2.2
  have F0_ : Fr L τ (inW [(11, 0), (60, 0), (61, 0)]) E E := Fr.refl
  have hl : lv_has ls 3 [(0, .ref a0), (1, .int a1), (2, .int a2)] := hl
  generalize hQ : MQ below _ args s 0 0 _ = QQ
  obtain ⟨qn, hqn, tqn⟩ := ref_of (k := 0) hI ha0 ta0 rfl rfl
  have tqn : τ qn = (60, 0) := tqn
  obtain ⟨qp, hqp, tqp⟩ := ref_of (k := 1) hI ha0 ta0 rfl rfl
  have tqp : τ qp = (61, 0) := tqp
  have J27 : ∀  (E_27 : Ec) (H_27 : Heap) (k_27 : List Loc) (l_27 : Array Slot), Now D TB cy (va_A (va_pl L E) sz) s L τ E_27 H_27 k_27 → Fr L τ (inW [(11, 0), (60, 0), (61, 0)]) E E_27 → (¬ (0 ≤ a1.toInt ∧ a1.toInt ≤ 4 ∧ 0 ≤ a2.toInt ∧ a2.toInt ≤ 10000)) → (Chain L τ E_27) → (∀ k : Nat, k ∉ ([2, 3, 4, 6] : List Nat) → fi E_27 a0 k = fi E a0 k) → lv_has l_27 3 [(0, .ref a0)] → W p l e { frames := 2, cells := 0, slots := 0, locals := 41 } s m args below meth c H_27 k_27 0 0 QQ (F0 m 27 l_27 []) := by
    intro  E_27 H_27 k_27 l_27 S_27 F_27 z1 z2 z3 hl_27
    refine lv_aload_n hx hb dX10_price_27 rfl (lv_at hl_27 0 rfl) ?_
    obtain ⟨v4, ev4, tv4⟩ : ∃ v : Int32, Int32.ofInt (1) = v ∧ v.toInt = 1 := ⟨_, rfl, by decide +kernel⟩
    refine lv_iconst hx hb dX10_price_28 ev4 ?_
    refine tc_vi Z.1 Z.2.2.2.1 Z.2.2.2.2.1 Z.2.2.2.2.2 S_27.1 S_27.2 ha0 ta0 rfl rfl (k_X10_not_vw l D cy S_27.2 ha0 ta0 v4) (cwV 1 hts gX10_price_X10_not rfl rfl rfl (by decide +kernel) ⟨Nat.le_of_ble_eq_true rfl, Nat.le_of_ble_eq_true rfl⟩) rfl hl_27.1 rfl (Nat.le_of_ble_eq_true rfl) dX10_price_29 ⟨Nat.zero_le _, Nat.zero_le _⟩ (fun v8 E5 H6 k7 W5 I5 G5 p5 => ?_)
    obtain ⟨p5_0, p5_1, p5_2, p5_3⟩ := p5
    have S5 : Now D TB cy (va_A (va_pl L E) sz) s L τ E5 H6 k7 := ⟨W5, I5⟩
    have F5 : Fr L τ (inW [(11, 0), (60, 0), (61, 0)]) E E5 := F_27.trans (G5.mono (inW_mono (by decide)))
    have kz5_3 := fi_rng (k := 3) S5.2 ha0 ta0 rfl rfl
    rw [← hQ]
    exact en_z Z S5 F5 (zo v8 (by omega)) ⟨(by omega), (by omega), (by omega), (by omega), (fun k hk => ((p5_3 k (fw_sub (by decide) hk)).trans (z3 k hk))), (Chain.same z2 S5.2 ha0 ta0 hqn tqn hqp tqp (G5 qn hqn (by rw [tqn]; rfl)) (G5 qp hqp (by rw [tqp]; rfl)) (p5_3 2 (by decide)))⟩ dX10_price_32
  refine lv_aload_n hx hb dX10_price_0 rfl (lv_at hl 0 rfl) ?_
  obtain ⟨v9, ev9, tv9⟩ : ∃ v : Int32, Int32.ofInt (0) = v ∧ v.toInt = 0 := ⟨_, rfl, by decide +kernel⟩
  refine lv_iconst hx hb dX10_price_1 ev9 ?_
  refine tr_puti Z.1 Z.2.2.2.1 S0.1 S0.2 ha0 ta0 rfl rfl (fun _ h => List.mem_cons_of_mem _ (List.mem_append_right _ h)) tyX10_ok nmX10 4 (by decide) rfl rfl rfl (hts _ (List.mem_of_getElem? (i := 1) rfl)) dX10_price_2 (by omega) (by omega) (fun E10 H11 k12 W10 I10 P10 => ?_)
  have S10 : Now D TB cy (va_A (va_pl L E) sz) s L τ E10 H11 k12 := ⟨W10, I10⟩
  have F10 : Fr L τ (inW [(11, 0), (60, 0), (61, 0)]) E E10 := Fr.put F0_ P10 ta0 rfl
  refine lv_aload_n hx hb dX10_price_5 rfl (lv_at hl 0 rfl) ?_
  refine lv_iload_n hx hb dX10_price_6 rfl (lv_at hl 1 rfl) ?_
  obtain ⟨v13, ev13, tv13⟩ : ∃ v : Int32, Int32.ofInt (0) = v ∧ v.toInt = 0 := ⟨_, rfl, by decide +kernel⟩
  refine lv_iconst hx hb dX10_price_7 ev13 ?_
  obtain ⟨v14, ev14, tv14⟩ : ∃ v : Int32, Int32.ofInt (4) = v ∧ v.toInt = 4 := ⟨_, rfl, by decide +kernel⟩
  refine lv_iconst hx hb dX10_price_8 ev14 ?_
  refine tc_vi Z.1 Z.2.2.2.1 Z.2.2.2.2.1 Z.2.2.2.2.2 S10.1 S10.2 ha0 ta0 rfl rfl (k_X10_in l D cy S10.2 ha0 ta0 a1 v13 v14) (cwV 3 hts gX10_price_X10_in rfl rfl rfl (by decide +kernel) ⟨Nat.le_of_ble_eq_true rfl, Nat.le_of_ble_eq_true rfl⟩) rfl hl.1 rfl (Nat.le_of_ble_eq_true rfl) dX10_price_9 ⟨Nat.zero_le _, Nat.zero_le _⟩ (fun v18 E15 H16 k17 W15 I15 G15 p15 => ?_)
  obtain ⟨q15, p15_0, p15_1, p15_2⟩ := p15
  have q15 := q15.symm
  subst q15
  have S15 : Now D TB cy (va_A (va_pl L E) sz) s L τ E10 H16 k17 := ⟨W15, I15⟩
  refine lv_if_eq (tgt := 27) hx hb dX10_price_12 (by decide) (fun c19 => ?_) (fun c19 => ?_)
  · skip
    have tc19 := nu_eq c19
    have uc19 : (0 : Int32).toInt = 0 := rfl
    exact J27 E10 H16 k17 ls S15 F10 (by have := fb_rng a1; have := fb_rng a2; omega) (Chain.same hC S15.2 ha0 ta0 hqn tqn hqp tqp (P10.1 qn (ne_ro tqn ta0 (by decide))) (P10.1 qp (ne_ro tqp ta0 (by decide))) (fi_put (k := 2) P10 (Or.inr (by decide)))) (fun k hk => ((fi_put P10 (Or.inr (fw_ne (by decide) hk))).trans ((fun k hk => rfl) k hk))) (lv_sub hl [0] rfl)
  · skip
    have tc19 := nu_ne c19
    have uc19 : (0 : Int32).toInt = 0 := rfl
    refine lv_aload_n hx hb dX10_price_15 rfl (lv_at hl 0 rfl) ?_
    refine lv_iload_n hx hb dX10_price_16 rfl (lv_at hl 2 rfl) ?_
    obtain ⟨v20, ev20, tv20⟩ : ∃ v : Int32, Int32.ofInt (0) = v ∧ v.toInt = 0 := ⟨_, rfl, by decide +kernel⟩
    refine lv_iconst hx hb dX10_price_17 ev20 ?_
    obtain ⟨v21, ev21, tv21⟩ : ∃ v : Int32, (Int16.ofInt (10000)).toInt32 = v ∧ v.toInt = 10000 := ⟨_, rfl, by decide +kernel⟩
    refine lv_sipush hx hb dX10_price_18 ev21 ?_
    refine tc_vi Z.1 Z.2.2.2.1 Z.2.2.2.2.1 Z.2.2.2.2.2 S15.1 S15.2 ha0 ta0 rfl rfl (k_X10_in l D cy S15.2 ha0 ta0 a2 v20 v21) (cwV 3 hts gX10_price_X10_in rfl rfl rfl (by decide +kernel) ⟨Nat.le_of_ble_eq_true rfl, Nat.le_of_ble_eq_true rfl⟩) rfl hl.1 rfl (Nat.le_of_ble_eq_true rfl) dX10_price_21 ⟨Nat.zero_le _, Nat.zero_le _⟩ (fun v25 E22 H23 k24 W22 I22 G22 p22 => ?_)
    obtain ⟨q22, p22_0, p22_1, p22_2⟩ := p22
    have q22 := q22.symm
    subst q22
    have S22 : Now D TB cy (va_A (va_pl L E) sz) s L τ E10 H23 k24 := ⟨W22, I22⟩
    refine lv_if_ne (tgt := 33) hx hb dX10_price_24 (by decide) (fun c26 => ?_) (fun c26 => ?_)
    · skip
      have tc26 := nu_ne c26
      have uc26 : (0 : Int32).toInt = 0 := rfl
      refine lv_aload_n hx hb dX10_price_33 rfl (lv_at hl 0 rfl) ?_
      refine tc_vv Z.1 Z.2.2.2.1 Z.2.2.2.2.1 Z.2.2.2.2.2 S22.1 S22.2 ha0 ta0 rfl rfl (k_X10_act_vw l D cy S22.2 ha0 ta0 (Chain.same hC S22.2 ha0 ta0 hqn tqn hqp tqp (P10.1 qn (ne_ro tqn ta0 (by decide))) (P10.1 qp (ne_ro tqp ta0 (by decide))) (fi_put (k := 2) P10 (Or.inr (by decide))))) (cwV 0 hts gX10_price_X10_act rfl rfl rfl (by decide +kernel) ⟨Nat.le_of_ble_eq_true rfl, Nat.le_of_ble_eq_true rfl⟩) rfl hl.1 rfl (Nat.le_of_ble_eq_true rfl) dX10_price_34 ⟨Nat.zero_le _, Nat.zero_le _⟩ (fun E27 H28 k29 W27 I27 G27 p27 => ?_)
      obtain ⟨p27_0, p27_1, p27_2⟩ := p27
      have S27 : Now D TB cy (va_A (va_pl L E) sz) s L τ E27 H28 k29 := ⟨W27, I27⟩
      have F27 : Fr L τ (inW [(11, 0), (60, 0), (61, 0)]) E E27 := F10.trans (G27.mono (inW_mono (by decide)))
      have C31 : ∀ T : Nat → Int32, Link (ai E qn) T → ChW E27 a0 qp T := fun T hT => p27_0 qn hqn tqn qp hqp tqp T (by rw [ai_cell (P10.1 qn (ne_ro tqn ta0 (by decide)))]; exact hT)
      have B32 : ∀ j : Nat, 44 ≤ j → j ≤ 52 → ai E27 qn j = ai E qn j := fun j _ _ => ((ai_fr G27 hqn (by rw [tqn]; rfl)).trans (ai_put P10 (ne_ro tqn ta0 (by decide))))
      have kz27_3 := fi_rng (k := 3) S27.2 ha0 ta0 rfl rfl
      refine lv_aload_n hx hb dX10_price_37 rfl (lv_at hl 0 rfl) ?_
      refine tr_getr Z.1 Z.2.2.2.1 S27.1 S27.2 ha0 ta0 rfl rfl (fun _ h => List.mem_cons_of_mem _ (List.mem_append_right _ h)) 0 (by decide) rfl (hts _ (List.mem_of_getElem? (i := 2) rfl)) dX10_price_38 (fun q33 eq33 hq33 tq33 => ?_)
      have tq33 : τ q33 = (60, 0) := tq33
      have uq33 : qn = q33 := S27.2.2.2.2 _ hqn _ hq33 (tqn.trans tq33.symm) (by rw [tqn]; rfl)
      subst uq33
      obtain ⟨v34, ev34, tv34⟩ : ∃ v : Int32, (Int8.ofInt (14)).toInt32 = v ∧ v.toInt = 14 := ⟨_, rfl, by decide +kernel⟩
      refine lv_bipush hx hb dX10_price_41 ev34 ?_
      refine lv_iload_n hx hb dX10_price_43 rfl (lv_at hl 1 rfl) ?_
      refine lv_iadd hx hb dX10_price_44 ?_
      refine lv_topi (fun v35 ev35 => ?_)
      have tv35 := nu_add ev35 (by omega) (by omega)
      refine lv_iload_n hx hb dX10_price_45 rfl (lv_at hl 2 rfl) ?_
      have b36 : nowB v35.toNatClampNeg = (-2147483648, 2147483647) := nb_o (by show v35.toInt.toNat < 4 ∨ (8 ≤ v35.toInt.toNat ∧ v35.toInt.toNat ≤ 18) ∨ (20 ≤ v35.toInt.toNat ∧ v35.toInt.toNat ≤ 43); omega)
      have b36 : (nowB v35.toNatClampNeg).1 ≤ a2.toInt ∧ a2.toInt ≤ (nowB v35.toNatClampNeg).2 := by rw [b36]; have := fb_rng a2; show -2147483648 ≤ a2.toInt ∧ a2.toInt ≤ 2147483647; omega
      refine tr_iastx Z.1 Z.2.2.2.1 S27.1 S27.2 hqn tqn rfl (by omega) (by omega) b36.1 b36.2 dX10_price_46 (fun E36 H37 k38 W36 I36 P36 => ?_)
      have S36 : Now D TB cy (va_A (va_pl L E) sz) s L τ E36 H37 k38 := ⟨W36, I36⟩
      have F36 : Fr L τ (inW [(11, 0), (60, 0), (61, 0)]) E E36 := Fr.set F27 P36 tqn rfl
      obtain ⟨v39, ev39, tv39⟩ : ∃ v : Int32, Int32.ofInt (1) = v ∧ v.toInt = 1 := ⟨_, rfl, by decide +kernel⟩
      refine lv_iconst hx hb dX10_price_47 ev39 ?_
      rw [← hQ]
      exact en_z Z S36 F36 (zo v39 (by omega)) ⟨(by omega), (by rw [((fi_set (k := 3) P36 (ne_ro ta0 tqn (by decide))).trans rfl)]; omega), (by omega), (by omega), (fun k hk => ((fi_set P36 (ne_ro ta0 tqn (by decide))).trans ((p27_2 k (fw_sub (by decide) hk)).trans ((fi_put P10 (Or.inr (fw_ne (by decide) hk))).trans ((fun k hk => rfl) k hk))))), (Chain.post C31 S36.2 ha0 ta0 hqn tqn hqp tqp (P36.1 qp (ne_ro tqp tqn (by decide))) (fi_set (k := 2) P36 (ne_ro ta0 tqn (by decide))) (Link.ag (fun j h1 h2 => ((ai_setk P36 (by show j ≠ v35.toInt.toNat; omega)).trans (B32 j h1 h2)))))⟩ dX10_price_48
    · skip
      have tc26 := nu_eq c26
      have uc26 : (0 : Int32).toInt = 0 := rfl
      exact J27 E10 H23 k24 ls S22 F10 (by have := fb_rng a2; omega) (Chain.same hC S22.2 ha0 ta0 hqn tqn hqp tqp (P10.1 qn (ne_ro tqn ta0 (by decide))) (P10.1 qp (ne_ro tqp ta0 (by decide))) (fi_put (k := 2) P10 (Or.inr (by decide)))) (fun k hk => ((fi_put P10 (Or.inr (fw_ne (by decide) hk))).trans ((fun k hk => rfl) k hk))) (lv_sub hl [0] rfl)

set_option maxHeartbeats 4000000 in
set_option maxRecDepth 100000 in
theorem k_X10_take_vw (l : Launch) (D : va_G) (cy : Nat → ClassId) {L : List Nat} {τ : Nat → Ro} {E : Ec} (hI : Inv TB cy L τ E) {a0 : Nat} (ha0 : a0 ∈ L) (ta0 : τ a0 = (11, 0)) (hC : Chain L τ E) : CtI l yX10_take wsX10_take { frames := 2, cells := 0, slots := 0, locals := 41 } D TB cy L τ E [.ref a0] (inW [(11, 0), (60, 0), (61, 0)]) (fun r E' => ((fi E' a0 3).toInt ≠ 2) ∧ 0 ≤ r.toInt ∧ r.toInt ≤ 1 ∧ (∀ k : Nat, k ∉ ([2, 3, 4, 6] : List Nat) → fi E' a0 k = fi E a0 k) ∧ Chain L τ E') := by
  intro sz
  refine sta (cc := cX10_take) (maxL := 2) hI (by decide) rfl (Nat.le_of_ble_eq_true rfl) (fun p e s m args below meth c ls hsz Z S0 hl => ?_)
  have hx := Z.1.1
  have hb := Z.1.2.1
  have hts := Z.1.2.2.2.2
  have F0_ : Fr L τ (inW [(11, 0), (60, 0), (61, 0)]) E E := Fr.refl
  have hl : lv_has ls 2 [(0, .ref a0)] := hl
  generalize hQ : MQ below _ args s 0 0 _ = QQ
  obtain ⟨qn, hqn, tqn⟩ := ref_of (k := 0) hI ha0 ta0 rfl rfl
  have tqn : τ qn = (60, 0) := tqn
  obtain ⟨qp, hqp, tqp⟩ := ref_of (k := 1) hI ha0 ta0 rfl rfl
  have tqp : τ qp = (61, 0) := tqp
  have J44 : ∀ (n : Nat) (x1_44 : Int32) (E_44 : Ec) (H_44 : Heap) (k_44 : List Loc) (l_44 : Array Slot), Now D TB cy (va_A (va_pl L E) sz) s L τ E_44 H_44 k_44 → Fr L τ (inW [(11, 0), (60, 0), (61, 0)]) E E_44 → (0 ≤ x1_44.toInt) → (x1_44.toInt ≤ 3) → (∀ T : Nat → Int32, Link (ai E qn) T → ChW E_44 a0 qp T) → (∀ j : Nat, 44 ≤ j → j ≤ 52 → ai E_44 qn j = ai E qn j) → (∀ k : Nat, k ∉ ([2, 3, 4, 6] : List Nat) → fi E_44 a0 k = fi E a0 k) → (-2147483648 ≤ (fi E_44 a0 3).toInt ∧ (fi E_44 a0 3).toInt ≤ 2147483647 ∧ (fi E_44 a0 3).toInt ≠ 2) → (3 - x1_44.toInt).toNat < n → lv_has l_44 2 [(0, .ref a0), (1, .int x1_44)] → W p l e { frames := 2, cells := 0, slots := 0, locals := 41 } s m args below meth c H_44 k_44 0 0 QQ (F0 m 44 l_44 []) := by
    intro n
    induction n with
    | zero => intro x1_44 E_44 H_44 k_44 l_44 S_44 F_44 z1 z2 z3 z4 z5 z6 hm hl_44; exact absurd hm (Nat.not_lt_zero _)
    | succ n ih =>
      intro x1_44 E_44 H_44 k_44 l_44 S_44 F_44 z1 z2 z3 z4 z5 z6 hm hl_44
      have ih_44 := ih
      refine lv_iload_n hx hb dX10_take_44 rfl (lv_at hl_44 1 rfl) ?_
      refine lv_aload_n hx hb dX10_take_45 rfl (lv_at hl_44 0 rfl) ?_
      refine tr_geti Z.1 Z.2.2.2.1 S_44.1 S_44.2 ha0 ta0 rfl rfl (fun _ h => List.mem_cons_of_mem _ (List.mem_append_right _ h)) 38 (by decide) rfl (hts _ (List.mem_of_getElem? (i := 4) rfl)) dX10_take_46 (fun v7 ev7 lv7 uv7 => ?_)
      refine lv_icmp_ge (tgt := 72) hx hb dX10_take_49 (by decide) (fun c8 => ?_) (fun c8 => ?_)
      · skip
        have tc8 := nu_le c8
        obtain ⟨v9, ev9, tv9⟩ : ∃ v : Int32, Int32.ofInt (1) = v ∧ v.toInt = 1 := ⟨_, rfl, by decide +kernel⟩
        refine lv_iconst hx hb dX10_take_72 ev9 ?_
        rw [← hQ]
        exact en_z Z S_44 F_44 (zo v9 (by omega)) ⟨(by omega), (by omega), (by omega), (fun k hk => (z5 k hk)), (Chain.post z3 S_44.2 ha0 ta0 hqn tqn hqp tqp rfl rfl (Link.ag (fun j h1 h2 => (z4 j h1 h2))))⟩ dX10_take_73
      · skip
        have tc8 := nu_nle c8
        refine lv_aload_n hx hb dX10_take_52 rfl (lv_at hl_44 0 rfl) ?_
        refine tr_getr Z.1 Z.2.2.2.1 S_44.1 S_44.2 ha0 ta0 rfl rfl (fun _ h => List.mem_cons_of_mem _ (List.mem_append_right _ h)) 0 (by decide) rfl (hts _ (List.mem_of_getElem? (i := 5) rfl)) dX10_take_53 (fun q10 eq10 hq10 tq10 => ?_)
        have tq10 : τ q10 = (60, 0) := tq10
        have uq10 : qn = q10 := S_44.2.2.2.2 _ hqn _ hq10 (tqn.trans tq10.symm) (by rw [tqn]; rfl)
        subst uq10
        obtain ⟨v11, ev11, tv11⟩ : ∃ v : Int32, Int32.ofInt (5) = v ∧ v.toInt = 5 := ⟨_, rfl, by decide +kernel⟩
        refine lv_iconst hx hb dX10_take_56 ev11 ?_
        refine lv_iload_n hx hb dX10_take_57 rfl (lv_at hl_44 1 rfl) ?_
        refine lv_iadd hx hb dX10_take_58 ?_
        refine lv_topi (fun v12 ev12 => ?_)
        have tv12 := nu_add ev12 (by omega) (by omega)
        refine lv_aload_n hx hb dX10_take_59 rfl (lv_at hl_44 0 rfl) ?_
        refine tr_getr Z.1 Z.2.2.2.1 S_44.1 S_44.2 ha0 ta0 rfl rfl (fun _ h => List.mem_cons_of_mem _ (List.mem_append_right _ h)) 34 (by decide) rfl (hts _ (List.mem_of_getElem? (i := 6) rfl)) dX10_take_60 (fun q13 eq13 hq13 tq13 => ?_)
        have tq13 : τ q13 = (82, 0) := tq13
        refine lv_iload_n hx hb dX10_take_63 rfl (lv_at hl_44 1 rfl) ?_
        refine tr_iald Z.1 Z.2.2.2.1 S_44.1 S_44.2 hq13 tq13 rfl (by omega) (by omega) dX10_take_64 (fun v14 ev14 lv14 uv14 => ?_)
        have b15 : nowB v12.toNatClampNeg = (0, 20) := nb_5 (by show 5 ≤ v12.toInt.toNat ∧ v12.toInt.toNat ≤ 7; omega)
        have b15 : (nowB v12.toNatClampNeg).1 ≤ v14.toInt ∧ v14.toInt ≤ (nowB v12.toNatClampNeg).2 := by rw [b15]; have := fb_rng v14; show 0 ≤ v14.toInt ∧ v14.toInt ≤ 20; omega
        refine tr_iastx Z.1 Z.2.2.2.1 S_44.1 S_44.2 hqn tqn rfl (by omega) (by omega) b15.1 b15.2 dX10_take_65 (fun E15 H16 k17 W15 I15 P15 => ?_)
        have S15 : Now D TB cy (va_A (va_pl L E) sz) s L τ E15 H16 k17 := ⟨W15, I15⟩
        have F15 : Fr L τ (inW [(11, 0), (60, 0), (61, 0)]) E E15 := Fr.set F_44 P15 tqn rfl
        obtain ⟨v18, ev18⟩ : ∃ y : Int32, x1_44 + Int32.ofInt (1) = y := ⟨_, rfl⟩
        have tv18 : v18.toInt = x1_44.toInt + (1) := by rw [← ev18]; exact (fb_addI (by rw [show (Int32.ofInt (1)).toInt = 1 from by decide +kernel]; omega) (by rw [show (Int32.ofInt (1)).toInt = 1 from by decide +kernel]; omega)).trans (by rw [show (Int32.ofInt (1)).toInt = 1 from by decide +kernel])
        refine lv_iinc (v := v18) (lv' := [(1, .int v18), (0, .ref a0)]) hx hb dX10_take_66 hl_44 (k := 1) rfl ev18 (by decide) rfl (fun l19 hl20 => ?_)
        refine lv_goto (tgt := 44) hx hb dX10_take_69 (by decide) ?_
        exact ih_44 v18 E15 H16 k17 l19 S15 F15 (by omega) (by omega) (fun T hT => (z3 T hT).keep (P15.1 qp (ne_ro tqp tqn (by decide))) (fi_set (k := 2) P15 (ne_ro ta0 tqn (by decide)))) (fun j h1 h2 => ((ai_setk P15 (by show j ≠ v12.toInt.toNat; omega)).trans (z4 j h1 h2))) (fun k hk => ((fi_set P15 (ne_ro ta0 tqn (by decide))).trans (z5 k hk))) (by rw [((fi_set (k := 3) P15 (ne_ro ta0 tqn (by decide))).trans rfl)]; omega) (by omega) (lv_sub hl20 [1, 0] rfl)
  have J32 : ∀  (E_32 : Ec) (H_32 : Heap) (k_32 : List Loc) (l_32 : Array Slot), Now D TB cy (va_A (va_pl L E) sz) s L τ E_32 H_32 k_32 → Fr L τ (inW [(11, 0), (60, 0), (61, 0)]) E E_32 → (Chain L τ E_32) → (∀ k : Nat, k ∉ ([2, 3, 4, 6] : List Nat) → fi E_32 a0 k = fi E a0 k) → lv_has l_32 2 [(0, .ref a0)] → W p l e { frames := 2, cells := 0, slots := 0, locals := 41 } s m args below meth c H_32 k_32 0 0 QQ (F0 m 32 l_32 []) := by
    intro  E_32 H_32 k_32 l_32 S_32 F_32 z21 z22 hl_32
    refine lv_aload_n hx hb dX10_take_32 rfl (lv_at hl_32 0 rfl) ?_
    obtain ⟨v23, ev23, tv23⟩ : ∃ v : Int32, Int32.ofInt (5) = v ∧ v.toInt = 5 := ⟨_, rfl, by decide +kernel⟩
    refine lv_iconst hx hb dX10_take_33 ev23 ?_
    refine tc_vi Z.1 Z.2.2.2.1 Z.2.2.2.2.1 Z.2.2.2.2.2 S_32.1 S_32.2 ha0 ta0 rfl rfl (k_X10_not_vw l D cy S_32.2 ha0 ta0 v23) (cwV 1 hts gX10_take_X10_not rfl rfl rfl (by decide +kernel) ⟨Nat.le_of_ble_eq_true rfl, Nat.le_of_ble_eq_true rfl⟩) rfl hl_32.1 rfl (Nat.le_of_ble_eq_true rfl) dX10_take_34 ⟨Nat.zero_le _, Nat.zero_le _⟩ (fun v27 E24 H25 k26 W24 I24 G24 p24 => ?_)
    obtain ⟨p24_0, p24_1, p24_2, p24_3⟩ := p24
    have S24 : Now D TB cy (va_A (va_pl L E) sz) s L τ E24 H25 k26 := ⟨W24, I24⟩
    have F24 : Fr L τ (inW [(11, 0), (60, 0), (61, 0)]) E E24 := F_32.trans (G24.mono (inW_mono (by decide)))
    have kz24_3 := fi_rng (k := 3) S24.2 ha0 ta0 rfl rfl
    rw [← hQ]
    exact en_z Z S24 F24 (zo v27 (by omega)) ⟨(by omega), (by omega), (by omega), (fun k hk => ((p24_3 k (fw_sub (by decide) hk)).trans (z22 k hk))), (Chain.same z21 S24.2 ha0 ta0 hqn tqn hqp tqp (G24 qn hqn (by rw [tqn]; rfl)) (G24 qp hqp (by rw [tqp]; rfl)) (p24_3 2 (by decide)))⟩ dX10_take_37
  refine lv_aload_n hx hb dX10_take_0 rfl (lv_at hl 0 rfl) ?_
  obtain ⟨v28, ev28, tv28⟩ : ∃ v : Int32, Int32.ofInt (0) = v ∧ v.toInt = 0 := ⟨_, rfl, by decide +kernel⟩
  refine lv_iconst hx hb dX10_take_1 ev28 ?_
  refine tr_puti Z.1 Z.2.2.2.1 S0.1 S0.2 ha0 ta0 rfl rfl (fun _ h => List.mem_cons_of_mem _ (List.mem_append_right _ h)) tyX10_ok nmX10 4 (by decide) rfl rfl rfl (hts _ (List.mem_of_getElem? (i := 1) rfl)) dX10_take_2 (by omega) (by omega) (fun E29 H30 k31 W29 I29 P29 => ?_)
  have S29 : Now D TB cy (va_A (va_pl L E) sz) s L τ E29 H30 k31 := ⟨W29, I29⟩
  have F29 : Fr L τ (inW [(11, 0), (60, 0), (61, 0)]) E E29 := Fr.put F0_ P29 ta0 rfl
  refine lv_aload_n hx hb dX10_take_5 rfl (lv_at hl 0 rfl) ?_
  refine tr_geti Z.1 Z.2.2.2.1 S29.1 S29.2 ha0 ta0 rfl rfl (fun _ h => List.mem_cons_of_mem _ (List.mem_append_right _ h)) 40 (by decide) rfl (hts _ (List.mem_of_getElem? (i := 2) rfl)) dX10_take_6 (fun v32 ev32 lv32 uv32 => ?_)
  refine lv_if_eq (tgt := 32) hx hb dX10_take_9 (by decide) (fun c33 => ?_) (fun c33 => ?_)
  · skip
    have tc33 := nu_eq c33
    have uc33 : (0 : Int32).toInt = 0 := rfl
    exact J32 E29 H30 k31 ls S29 F29 (Chain.same hC S29.2 ha0 ta0 hqn tqn hqp tqp (P29.1 qn (ne_ro tqn ta0 (by decide))) (P29.1 qp (ne_ro tqp ta0 (by decide))) (fi_put (k := 2) P29 (Or.inr (by decide)))) (fun k hk => ((fi_put P29 (Or.inr (fw_ne (by decide) hk))).trans ((fun k hk => rfl) k hk))) (lv_sub hl [0] rfl)
  · skip
    have tc33 := nu_ne c33
    have uc33 : (0 : Int32).toInt = 0 := rfl
    refine lv_aload_n hx hb dX10_take_12 rfl (lv_at hl 0 rfl) ?_
    refine tr_geti Z.1 Z.2.2.2.1 S29.1 S29.2 ha0 ta0 rfl rfl (fun _ h => List.mem_cons_of_mem _ (List.mem_append_right _ h)) 41 (by decide) rfl (hts _ (List.mem_of_getElem? (i := 3) rfl)) dX10_take_13 (fun v34 ev34 lv34 uv34 => ?_)
    refine lv_if_eq (tgt := 32) hx hb dX10_take_16 (by decide) (fun c35 => ?_) (fun c35 => ?_)
    · skip
      have tc35 := nu_eq c35
      have uc35 : (0 : Int32).toInt = 0 := rfl
      exact J32 E29 H30 k31 ls S29 F29 (Chain.same hC S29.2 ha0 ta0 hqn tqn hqp tqp (P29.1 qn (ne_ro tqn ta0 (by decide))) (P29.1 qp (ne_ro tqp ta0 (by decide))) (fi_put (k := 2) P29 (Or.inr (by decide)))) (fun k hk => ((fi_put P29 (Or.inr (fw_ne (by decide) hk))).trans ((fun k hk => rfl) k hk))) (lv_sub hl [0] rfl)
    · skip
      have tc35 := nu_ne c35
      have uc35 : (0 : Int32).toInt = 0 := rfl
      refine lv_aload_n hx hb dX10_take_19 rfl (lv_at hl 0 rfl) ?_
      refine tr_geti Z.1 Z.2.2.2.1 S29.1 S29.2 ha0 ta0 rfl rfl (fun _ h => List.mem_cons_of_mem _ (List.mem_append_right _ h)) 38 (by decide) rfl (hts _ (List.mem_of_getElem? (i := 4) rfl)) dX10_take_20 (fun v36 ev36 lv36 uv36 => ?_)
      refine lv_aload_n hx hb dX10_take_23 rfl (lv_at hl 0 rfl) ?_
      refine tr_getr Z.1 Z.2.2.2.1 S29.1 S29.2 ha0 ta0 rfl rfl (fun _ h => List.mem_cons_of_mem _ (List.mem_append_right _ h)) 0 (by decide) rfl (hts _ (List.mem_of_getElem? (i := 5) rfl)) dX10_take_24 (fun q37 eq37 hq37 tq37 => ?_)
      have tq37 : τ q37 = (60, 0) := tq37
      have uq37 : qn = q37 := S29.2.2.2.2 _ hqn _ hq37 (tqn.trans tq37.symm) (by rw [tqn]; rfl)
      subst uq37
      obtain ⟨v38, ev38, tv38⟩ : ∃ v : Int32, Int32.ofInt (4) = v ∧ v.toInt = 4 := ⟨_, rfl, by decide +kernel⟩
      refine lv_iconst hx hb dX10_take_27 ev38 ?_
      refine tr_ialdx Z.1 Z.2.2.2.1 S29.1 S29.2 hqn tqn rfl (by omega) (by omega) dX10_take_28 (fun v39 ev39 lv39 uv39 => ?_)
      have bv39 : nowB v38.toNatClampNeg = (0, 3) := nb_4 (by show v38.toInt.toNat = 4; omega)
      rw [bv39] at lv39 uv39
      have lv39 : 0 ≤ v39.toInt := lv39
      have uv39 : v39.toInt ≤ 3 := uv39
      have av39 : ai E29 qn 4 = v39 := ai_at ev39 (by omega)
      refine lv_icmp_eq (tgt := 38) hx hb dX10_take_29 (by decide) (fun c40 => ?_) (fun c40 => ?_)
      · skip
        have tc40 := nu_eq c40
        refine lv_aload_n hx hb dX10_take_38 rfl (lv_at hl 0 rfl) ?_
        refine tc_vv Z.1 Z.2.2.2.1 Z.2.2.2.2.1 Z.2.2.2.2.2 S29.1 S29.2 ha0 ta0 rfl rfl (k_X10_act_vw l D cy S29.2 ha0 ta0 (Chain.same hC S29.2 ha0 ta0 hqn tqn hqp tqp (P29.1 qn (ne_ro tqn ta0 (by decide))) (P29.1 qp (ne_ro tqp ta0 (by decide))) (fi_put (k := 2) P29 (Or.inr (by decide))))) (cwV 0 hts gX10_take_X10_act rfl rfl rfl (by decide +kernel) ⟨Nat.le_of_ble_eq_true rfl, Nat.le_of_ble_eq_true rfl⟩) rfl hl.1 rfl (Nat.le_of_ble_eq_true rfl) dX10_take_39 ⟨Nat.zero_le _, Nat.zero_le _⟩ (fun E41 H42 k43 W41 I41 G41 p41 => ?_)
        obtain ⟨p41_0, p41_1, p41_2⟩ := p41
        have S41 : Now D TB cy (va_A (va_pl L E) sz) s L τ E41 H42 k43 := ⟨W41, I41⟩
        have F41 : Fr L τ (inW [(11, 0), (60, 0), (61, 0)]) E E41 := F29.trans (G41.mono (inW_mono (by decide)))
        have C45 : ∀ T : Nat → Int32, Link (ai E qn) T → ChW E41 a0 qp T := fun T hT => p41_0 qn hqn tqn qp hqp tqp T (by rw [ai_cell (P29.1 qn (ne_ro tqn ta0 (by decide)))]; exact hT)
        have B46 : ∀ j : Nat, 44 ≤ j → j ≤ 52 → ai E41 qn j = ai E qn j := fun j _ _ => ((ai_fr G41 hqn (by rw [tqn]; rfl)).trans (ai_put P29 (ne_ro tqn ta0 (by decide))))
        have kz41_3 := fi_rng (k := 3) S41.2 ha0 ta0 rfl rfl
        obtain ⟨v47, ev47, tv47⟩ : ∃ v : Int32, Int32.ofInt (0) = v ∧ v.toInt = 0 := ⟨_, rfl, by decide +kernel⟩
        refine lv_iconst hx hb dX10_take_42 ev47 ?_
        refine lv_istore_n (lv' := [(1, .int v47), (0, .ref a0)]) hx hb dX10_take_43 rfl hl (by decide) rfl (fun l48 hl49 => ?_)
        exact J44 _ v47 E41 H42 k43 l48 S41 F41 (by omega) (by omega) C45 (fun j h1 h2 => (B46 j h1 h2)) (fun k hk => ((p41_2 k (fw_sub (by decide) hk)).trans ((fi_put P29 (Or.inr (fw_ne (by decide) hk))).trans ((fun k hk => rfl) k hk)))) (by omega) (Nat.lt_succ_self _) (lv_sub hl49 [1, 0] rfl)
      · skip
        have tc40 := nu_ne c40
        exact J32 E29 H30 k31 ls S29 F29 (Chain.same hC S29.2 ha0 ta0 hqn tqn hqp tqp (P29.1 qn (ne_ro tqn ta0 (by decide))) (P29.1 qp (ne_ro tqp ta0 (by decide))) (fi_put (k := 2) P29 (Or.inr (by decide)))) (fun k hk => ((fi_put P29 (Or.inr (fw_ne (by decide) hk))).trans ((fun k hk => rfl) k hk))) (lv_sub hl [0] rfl)

set_option maxHeartbeats 4000000 in
set_option maxRecDepth 100000 in
theorem k_X10_piece_vw (l : Launch) (D : va_G) (cy : Nat → ClassId) {L : List Nat} {τ : Nat → Ro} {E : Ec} (hI : Inv TB cy L τ E) {a0 : Nat} (ha0 : a0 ∈ L) (ta0 : τ a0 = (11, 0)) (a1 : Int32) : CtI l yX10_piece wsX10_piece { frames := 1, cells := 0, slots := 0, locals := 23 } D TB cy L τ E [.ref a0, .int a1] (inW [(11, 0), (83, 0)]) (fun r E' => ((1 ≤ a1.toInt ∧ a1.toInt ≤ 10000 ∧ (fi E a0 45).toInt < 12 ∧ r.toInt = (fi E a0 45).toInt + 1 ∧ (fi E' a0 45).toInt = (fi E a0 45).toInt + 1) ∨ (r.toInt = -1 ∧ (fi E' a0 45).toInt = (fi E a0 45).toInt ∧ ¬ (1 ≤ a1.toInt ∧ a1.toInt ≤ 10000 ∧ (fi E a0 45).toInt < 12))) ∧ ((fi E' a0 3).toInt ≠ 2) ∧ (∀ k : Nat, k ∉ ([3, 4, 6, 45] : List Nat) → fi E' a0 k = fi E a0 k)) := by
  intro sz
  refine sta (cc := cX10_piece) (maxL := 2) hI (by decide) rfl (Nat.le_of_ble_eq_true rfl) (fun p e s m args below meth c ls hsz Z S0 hl => ?_)
  have hx := Z.1.1
  have hb := Z.1.2.1
  have hts := Z.1.2.2.2.2
  have F0_ : Fr L τ (inW [(11, 0), (83, 0)]) E E := Fr.refl
  have hl : lv_has ls 2 [(0, .ref a0), (1, .int a1)] := hl
  generalize hQ : MQ below _ args s 0 0 _ = QQ
  have kz_a0_45 := fi_rng (k := 45) hI ha0 ta0 rfl rfl
  refine lv_aload_n hx hb dX10_piece_0 rfl (lv_at hl 0 rfl) ?_
  obtain ⟨v1, ev1, tv1⟩ : ∃ v : Int32, Int32.ofInt (0) = v ∧ v.toInt = 0 := ⟨_, rfl, by decide +kernel⟩
  refine lv_iconst hx hb dX10_piece_1 ev1 ?_
  refine tr_puti Z.1 Z.2.2.2.1 S0.1 S0.2 ha0 ta0 rfl rfl (fun _ h => List.mem_cons_of_mem _ (List.mem_append_right _ h)) tyX10_ok nmX10 4 (by decide) rfl rfl rfl (hts _ (List.mem_of_getElem? (i := 1) rfl)) dX10_piece_2 (by omega) (by omega) (fun E2 H3 k4 W2 I2 P2 => ?_)
  have S2 : Now D TB cy (va_A (va_pl L E) sz) s L τ E2 H3 k4 := ⟨W2, I2⟩
  have F2 : Fr L τ (inW [(11, 0), (83, 0)]) E E2 := Fr.put F0_ P2 ta0 rfl
  refine lv_aload_n hx hb dX10_piece_5 rfl (lv_at hl 0 rfl) ?_
  refine lv_iload_n hx hb dX10_piece_6 rfl (lv_at hl 1 rfl) ?_
  obtain ⟨v5, ev5, tv5⟩ : ∃ v : Int32, Int32.ofInt (1) = v ∧ v.toInt = 1 := ⟨_, rfl, by decide +kernel⟩
  refine lv_iconst hx hb dX10_piece_7 ev5 ?_
  obtain ⟨v6, ev6, tv6⟩ : ∃ v : Int32, (Int16.ofInt (10000)).toInt32 = v ∧ v.toInt = 10000 := ⟨_, rfl, by decide +kernel⟩
  refine lv_sipush hx hb dX10_piece_8 ev6 ?_
  refine tc_vi Z.1 Z.2.2.2.1 Z.2.2.2.2.1 Z.2.2.2.2.2 S2.1 S2.2 ha0 ta0 rfl rfl (k_X10_in l D cy S2.2 ha0 ta0 a1 v5 v6) (cwV 3 hts gX10_piece_X10_in rfl rfl rfl (by decide +kernel) ⟨Nat.le_of_ble_eq_true rfl, Nat.le_of_ble_eq_true rfl⟩) rfl hl.1 rfl (Nat.le_of_ble_eq_true rfl) dX10_piece_11 ⟨Nat.zero_le _, Nat.zero_le _⟩ (fun v10 E7 H8 k9 W7 I7 G7 p7 => ?_)
  obtain ⟨q7, p7_0, p7_1, p7_2⟩ := p7
  have q7 := q7.symm
  subst q7
  have S7 : Now D TB cy (va_A (va_pl L E) sz) s L τ E2 H8 k9 := ⟨W7, I7⟩
  refine lv_if_ne (tgt := 23) hx hb dX10_piece_14 (by decide) (fun c11 => ?_) (fun c11 => ?_)
  · skip
    have tc11 := nu_ne c11
    have uc11 : (0 : Int32).toInt = 0 := rfl
    refine lv_aload_n hx hb dX10_piece_23 rfl (lv_at hl 0 rfl) ?_
    refine tr_geti Z.1 Z.2.2.2.1 S7.1 S7.2 ha0 ta0 rfl rfl (fun _ h => List.mem_cons_of_mem _ (List.mem_append_right _ h)) 45 (by decide) rfl (hts _ (List.mem_of_getElem? (i := 2) rfl)) dX10_piece_24 (fun v12 ev12 lv12 uv12 => ?_)
    have wv12 : v12 = (fi E a0 45) := ev12.symm.trans ((fi_put (k := 45) P2 (Or.inr (by decide))).trans rfl)
    have xv12 : v12.toInt = (fi E a0 45).toInt := by rw [wv12]
    obtain ⟨v13, ev13, tv13⟩ : ∃ v : Int32, (Int8.ofInt (12)).toInt32 = v ∧ v.toInt = 12 := ⟨_, rfl, by decide +kernel⟩
    refine lv_bipush hx hb dX10_piece_27 ev13 ?_
    refine lv_icmp_ne (tgt := 38) hx hb dX10_piece_29 (by decide) (fun c14 => ?_) (fun c14 => ?_)
    · skip
      have tc14 := nu_ne c14
      refine lv_aload_n hx hb dX10_piece_38 rfl (lv_at hl 0 rfl) ?_
      refine tc_vv Z.1 Z.2.2.2.1 Z.2.2.2.2.1 Z.2.2.2.2.2 S7.1 S7.2 ha0 ta0 rfl rfl (k_X10_good_vw l D cy S7.2 ha0 ta0) (cwV 0 hts gX10_piece_X10_good rfl rfl rfl (by decide +kernel) ⟨Nat.le_of_ble_eq_true rfl, Nat.le_of_ble_eq_true rfl⟩) rfl hl.1 rfl (Nat.le_of_ble_eq_true rfl) dX10_piece_39 ⟨Nat.zero_le _, Nat.zero_le _⟩ (fun E15 H16 k17 W15 I15 G15 p15 => ?_)
      obtain ⟨p15_0, p15_1⟩ := p15
      have S15 : Now D TB cy (va_A (va_pl L E) sz) s L τ E15 H16 k17 := ⟨W15, I15⟩
      have F15 : Fr L τ (inW [(11, 0), (83, 0)]) E E15 := F2.trans (G15.mono (inW_mono (by decide)))
      have kz15_3 := fi_rng (k := 3) S15.2 ha0 ta0 rfl rfl
      refine lv_aload_n hx hb dX10_piece_42 rfl (lv_at hl 0 rfl) ?_
      refine tr_getr Z.1 Z.2.2.2.1 S15.1 S15.2 ha0 ta0 rfl rfl (fun _ h => List.mem_cons_of_mem _ (List.mem_append_right _ h)) 42 (by decide) rfl (hts _ (List.mem_of_getElem? (i := 3) rfl)) dX10_piece_43 (fun q19 eq19 hq19 tq19 => ?_)
      have tq19 : τ q19 = (83, 0) := tq19
      refine lv_aload_n hx hb dX10_piece_46 rfl (lv_at hl 0 rfl) ?_
      refine tr_geti Z.1 Z.2.2.2.1 S15.1 S15.2 ha0 ta0 rfl rfl (fun _ h => List.mem_cons_of_mem _ (List.mem_append_right _ h)) 45 (by decide) rfl (hts _ (List.mem_of_getElem? (i := 2) rfl)) dX10_piece_47 (fun v20 ev20 lv20 uv20 => ?_)
      have wv20 : v20 = v12 := ev20.symm.trans ((p15_1 45 (by decide)).trans ev12)
      have xv20 : v20.toInt = v12.toInt := by rw [wv20]
      refine lv_iload_n hx hb dX10_piece_50 rfl (lv_at hl 1 rfl) ?_
      refine tr_iast Z.1 Z.2.2.2.1 S15.1 S15.2 hq19 tq19 rfl (by omega) (by omega) (by have := fb_rng a1; omega) (by have := fb_rng a1; omega) dX10_piece_51 (fun E21 H22 k23 W21 I21 P21 => ?_)
      have S21 : Now D TB cy (va_A (va_pl L E) sz) s L τ E21 H22 k23 := ⟨W21, I21⟩
      have F21 : Fr L τ (inW [(11, 0), (83, 0)]) E E21 := Fr.set F15 P21 tq19 rfl
      refine lv_aload_n hx hb dX10_piece_52 rfl (lv_at hl 0 rfl) ?_
      refine lv_dup hx hb dX10_piece_53 rfl ?_
      refine tr_geti Z.1 Z.2.2.2.1 S21.1 S21.2 ha0 ta0 rfl rfl (fun _ h => List.mem_cons_of_mem _ (List.mem_append_right _ h)) 45 (by decide) rfl (hts _ (List.mem_of_getElem? (i := 2) rfl)) dX10_piece_54 (fun v24 ev24 lv24 uv24 => ?_)
      have wv24 : v24 = v20 := ev24.symm.trans ((fi_set (k := 45) P21 (ne_ro ta0 tq19 (by decide))).trans ev20)
      have xv24 : v24.toInt = v20.toInt := by rw [wv24]
      obtain ⟨v25, ev25, tv25⟩ : ∃ v : Int32, Int32.ofInt (1) = v ∧ v.toInt = 1 := ⟨_, rfl, by decide +kernel⟩
      refine lv_iconst hx hb dX10_piece_57 ev25 ?_
      refine lv_iadd hx hb dX10_piece_58 ?_
      refine lv_topi (fun v26 ev26 => ?_)
      have tv26 := nu_add ev26 (by omega) (by omega)
      refine tr_puti Z.1 Z.2.2.2.1 S21.1 S21.2 ha0 ta0 rfl rfl (fun _ h => List.mem_cons_of_mem _ (List.mem_append_right _ h)) tyX10_ok nmX10 45 (by decide) rfl rfl rfl (hts _ (List.mem_of_getElem? (i := 2) rfl)) dX10_piece_59 (by omega) (by omega) (fun E27 H28 k29 W27 I27 P27 => ?_)
      have S27 : Now D TB cy (va_A (va_pl L E) sz) s L τ E27 H28 k29 := ⟨W27, I27⟩
      have F27 : Fr L τ (inW [(11, 0), (83, 0)]) E E27 := Fr.put F21 P27 ta0 rfl
      refine lv_aload_n hx hb dX10_piece_62 rfl (lv_at hl 0 rfl) ?_
      refine tr_geti Z.1 Z.2.2.2.1 S27.1 S27.2 ha0 ta0 rfl rfl (fun _ h => List.mem_cons_of_mem _ (List.mem_append_right _ h)) 45 (by decide) rfl (hts _ (List.mem_of_getElem? (i := 2) rfl)) dX10_piece_63 (fun v30 ev30 lv30 uv30 => ?_)
      have wv30 : v30 = v26 := ev30.symm.trans (fi_at P27)
      have xv30 : v30.toInt = v26.toInt := by rw [wv30]
      rw [← hQ]
      exact en_i Z S27 F27 ⟨(by rw [ev30]; omega), (by rw [((fi_put (k := 3) P27 (Or.inr (by decide))).trans ((fi_set (k := 3) P21 (ne_ro ta0 tq19 (by decide))).trans rfl))]; omega), (fun k hk => ((fi_put P27 (Or.inr (fw_ne (by decide) hk))).trans ((fi_set P21 (ne_ro ta0 tq19 (by decide))).trans ((p15_1 k (fw_sub (by decide) hk)).trans ((fi_put P2 (Or.inr (fw_ne (by decide) hk))).trans ((fun k hk => rfl) k hk))))))⟩ dX10_piece_66
    · skip
      have tc14 := nu_eq c14
      refine lv_aload_n hx hb dX10_piece_32 rfl (lv_at hl 0 rfl) ?_
      obtain ⟨v31, ev31, tv31⟩ : ∃ v : Int32, Int32.ofInt (3) = v ∧ v.toInt = 3 := ⟨_, rfl, by decide +kernel⟩
      refine lv_iconst hx hb dX10_piece_33 ev31 ?_
      refine tc_vi Z.1 Z.2.2.2.1 Z.2.2.2.2.1 Z.2.2.2.2.2 S7.1 S7.2 ha0 ta0 rfl rfl (k_X10_no_vw l D cy S7.2 ha0 ta0 v31) (cwV 1 hts gX10_piece_X10_no rfl rfl rfl (by decide +kernel) ⟨Nat.le_of_ble_eq_true rfl, Nat.le_of_ble_eq_true rfl⟩) rfl hl.1 rfl (Nat.le_of_ble_eq_true rfl) dX10_piece_34 ⟨Nat.zero_le _, Nat.zero_le _⟩ (fun v35 E32 H33 k34 W32 I32 G32 p32 => ?_)
      obtain ⟨p32_0, p32_1, p32_2, p32_3⟩ := p32
      have S32 : Now D TB cy (va_A (va_pl L E) sz) s L τ E32 H33 k34 := ⟨W32, I32⟩
      have F32 : Fr L τ (inW [(11, 0), (83, 0)]) E E32 := F2.trans (G32.mono (inW_mono (by decide)))
      have kz32_3 := fi_rng (k := 3) S32.2 ha0 ta0 rfl rfl
      rw [← hQ]
      exact en_i Z S32 F32 ⟨(by rw [((p32_3 45 (by decide)).trans ev12)]; omega), (by omega), (fun k hk => ((p32_3 k (fw_sub (by decide) hk)).trans ((fi_put P2 (Or.inr (fw_ne (by decide) hk))).trans ((fun k hk => rfl) k hk))))⟩ dX10_piece_37
  · skip
    have tc11 := nu_eq c11
    have uc11 : (0 : Int32).toInt = 0 := rfl
    refine lv_aload_n hx hb dX10_piece_17 rfl (lv_at hl 0 rfl) ?_
    obtain ⟨v36, ev36, tv36⟩ : ∃ v : Int32, Int32.ofInt (1) = v ∧ v.toInt = 1 := ⟨_, rfl, by decide +kernel⟩
    refine lv_iconst hx hb dX10_piece_18 ev36 ?_
    refine tc_vi Z.1 Z.2.2.2.1 Z.2.2.2.2.1 Z.2.2.2.2.2 S7.1 S7.2 ha0 ta0 rfl rfl (k_X10_no_vw l D cy S7.2 ha0 ta0 v36) (cwV 1 hts gX10_piece_X10_no rfl rfl rfl (by decide +kernel) ⟨Nat.le_of_ble_eq_true rfl, Nat.le_of_ble_eq_true rfl⟩) rfl hl.1 rfl (Nat.le_of_ble_eq_true rfl) dX10_piece_19 ⟨Nat.zero_le _, Nat.zero_le _⟩ (fun v40 E37 H38 k39 W37 I37 G37 p37 => ?_)
    obtain ⟨p37_0, p37_1, p37_2, p37_3⟩ := p37
    have S37 : Now D TB cy (va_A (va_pl L E) sz) s L τ E37 H38 k39 := ⟨W37, I37⟩
    have F37 : Fr L τ (inW [(11, 0), (83, 0)]) E E37 := F2.trans (G37.mono (inW_mono (by decide)))
    have kz37_3 := fi_rng (k := 3) S37.2 ha0 ta0 rfl rfl
    rw [← hQ]
    exact en_i Z S37 F37 ⟨(by rw [((p37_3 45 (by decide)).trans ((fi_put (k := 45) P2 (Or.inr (by decide))).trans rfl))]; omega), (by omega), (fun k hk => ((p37_3 k (fw_sub (by decide) hk)).trans ((fi_put P2 (Or.inr (fw_ne (by decide) hk))).trans ((fun k hk => rfl) k hk))))⟩ dX10_piece_22

set_option maxHeartbeats 4000000 in
set_option maxRecDepth 100000 in
theorem k_X10_alter_vw (l : Launch) (D : va_G) (cy : Nat → ClassId) {L : List Nat} {τ : Nat → Ro} {E : Ec} (hI : Inv TB cy L τ E) {a0 : Nat} (ha0 : a0 ∈ L) (ta0 : τ a0 = (11, 0)) (a1 : Int32) (a2 : Int32) : CtI l yX10_alter wsX10_alter { frames := 1, cells := 0, slots := 0, locals := 23 } D TB cy L τ E [.ref a0, .int a1, .int a2] (inW [(11, 0), (86, 0)]) (fun r E' => ((fi E' a0 3).toInt ≠ 2) ∧ 0 ≤ r.toInt ∧ r.toInt ≤ 1 ∧ (∀ k : Nat, k ∉ ([3, 4, 6] : List Nat) → fi E' a0 k = fi E a0 k)) := by
  intro sz
  refine sta (cc := cX10_alter) (maxL := 3) hI (by decide) rfl (Nat.le_of_ble_eq_true rfl) (fun p e s m args below meth c ls hsz Z S0 hl => ?_)
  have hx := Z.1.1
  have hb := Z.1.2.1
  have hts := Z.1.2.2.2.2
  have F0_ : Fr L τ (inW [(11, 0), (86, 0)]) E E := Fr.refl
  have hl : lv_has ls 3 [(0, .ref a0), (1, .int a1), (2, .int a2)] := hl
  generalize hQ : MQ below _ args s 0 0 _ = QQ
  refine lv_aload_n hx hb dX10_alter_0 rfl (lv_at hl 0 rfl) ?_
  obtain ⟨v1, ev1, tv1⟩ : ∃ v : Int32, Int32.ofInt (0) = v ∧ v.toInt = 0 := ⟨_, rfl, by decide +kernel⟩
  refine lv_iconst hx hb dX10_alter_1 ev1 ?_
  refine tr_puti Z.1 Z.2.2.2.1 S0.1 S0.2 ha0 ta0 rfl rfl (fun _ h => List.mem_cons_of_mem _ (List.mem_append_right _ h)) tyX10_ok nmX10 4 (by decide) rfl rfl rfl (hts _ (List.mem_of_getElem? (i := 1) rfl)) dX10_alter_2 (by omega) (by omega) (fun E2 H3 k4 W2 I2 P2 => ?_)
  have S2 : Now D TB cy (va_A (va_pl L E) sz) s L τ E2 H3 k4 := ⟨W2, I2⟩
  have F2 : Fr L τ (inW [(11, 0), (86, 0)]) E E2 := Fr.put F0_ P2 ta0 rfl
  refine lv_aload_n hx hb dX10_alter_5 rfl (lv_at hl 0 rfl) ?_
  refine lv_iload_n hx hb dX10_alter_6 rfl (lv_at hl 1 rfl) ?_
  obtain ⟨v5, ev5, tv5⟩ : ∃ v : Int32, Int32.ofInt (0) = v ∧ v.toInt = 0 := ⟨_, rfl, by decide +kernel⟩
  refine lv_iconst hx hb dX10_alter_7 ev5 ?_
  refine lv_aload_n hx hb dX10_alter_8 rfl (lv_at hl 0 rfl) ?_
  refine tr_geti Z.1 Z.2.2.2.1 S2.1 S2.2 ha0 ta0 rfl rfl (fun _ h => List.mem_cons_of_mem _ (List.mem_append_right _ h)) 47 (by decide) rfl (hts _ (List.mem_of_getElem? (i := 2) rfl)) dX10_alter_9 (fun v6 ev6 lv6 uv6 => ?_)
  obtain ⟨v7, ev7, tv7⟩ : ∃ v : Int32, Int32.ofInt (1) = v ∧ v.toInt = 1 := ⟨_, rfl, by decide +kernel⟩
  refine lv_iconst hx hb dX10_alter_12 ev7 ?_
  refine lv_isub hx hb dX10_alter_13 ?_
  refine lv_topi (fun v8 ev8 => ?_)
  have tv8 := nu_sub ev8 (by omega) (by omega)
  refine tc_vi Z.1 Z.2.2.2.1 Z.2.2.2.2.1 Z.2.2.2.2.2 S2.1 S2.2 ha0 ta0 rfl rfl (k_X10_in l D cy S2.2 ha0 ta0 a1 v5 v8) (cwV 3 hts gX10_alter_X10_in rfl rfl rfl (by decide +kernel) ⟨Nat.le_of_ble_eq_true rfl, Nat.le_of_ble_eq_true rfl⟩) rfl hl.1 rfl (Nat.le_of_ble_eq_true rfl) dX10_alter_14 ⟨Nat.zero_le _, Nat.zero_le _⟩ (fun v12 E9 H10 k11 W9 I9 G9 p9 => ?_)
  obtain ⟨q9, p9_0, p9_1, p9_2⟩ := p9
  have q9 := q9.symm
  subst q9
  have S9 : Now D TB cy (va_A (va_pl L E) sz) s L τ E2 H10 k11 := ⟨W9, I9⟩
  refine lv_if_ne (tgt := 26) hx hb dX10_alter_17 (by decide) (fun c13 => ?_) (fun c13 => ?_)
  · skip
    have tc13 := nu_ne c13
    have uc13 : (0 : Int32).toInt = 0 := rfl
    refine lv_aload_n hx hb dX10_alter_26 rfl (lv_at hl 0 rfl) ?_
    refine tc_vv Z.1 Z.2.2.2.1 Z.2.2.2.2.1 Z.2.2.2.2.2 S9.1 S9.2 ha0 ta0 rfl rfl (k_X10_good_vw l D cy S9.2 ha0 ta0) (cwV 0 hts gX10_alter_X10_good rfl rfl rfl (by decide +kernel) ⟨Nat.le_of_ble_eq_true rfl, Nat.le_of_ble_eq_true rfl⟩) rfl hl.1 rfl (Nat.le_of_ble_eq_true rfl) dX10_alter_27 ⟨Nat.zero_le _, Nat.zero_le _⟩ (fun E14 H15 k16 W14 I14 G14 p14 => ?_)
    obtain ⟨p14_0, p14_1⟩ := p14
    have S14 : Now D TB cy (va_A (va_pl L E) sz) s L τ E14 H15 k16 := ⟨W14, I14⟩
    have F14 : Fr L τ (inW [(11, 0), (86, 0)]) E E14 := F2.trans (G14.mono (inW_mono (by decide)))
    have kz14_3 := fi_rng (k := 3) S14.2 ha0 ta0 rfl rfl
    refine lv_aload_n hx hb dX10_alter_30 rfl (lv_at hl 0 rfl) ?_
    refine tr_getr Z.1 Z.2.2.2.1 S14.1 S14.2 ha0 ta0 rfl rfl (fun _ h => List.mem_cons_of_mem _ (List.mem_append_right _ h)) 46 (by decide) rfl (hts _ (List.mem_of_getElem? (i := 3) rfl)) dX10_alter_31 (fun q18 eq18 hq18 tq18 => ?_)
    have tq18 : τ q18 = (86, 0) := tq18
    refine lv_iload_n hx hb dX10_alter_34 rfl (lv_at hl 1 rfl) ?_
    refine lv_dup2_11 hx hb dX10_alter_35 rfl rfl ?_
    refine tr_iald Z.1 Z.2.2.2.1 S14.1 S14.2 hq18 tq18 rfl (by omega) (by omega) dX10_alter_36 (fun v19 ev19 lv19 uv19 => ?_)
    refine lv_iload_n hx hb dX10_alter_37 rfl (lv_at hl 2 rfl) ?_
    refine lv_ixor hx hb dX10_alter_38 ?_
    refine lv_topi (fun v20 ev20 => ?_)
    refine tr_iast Z.1 Z.2.2.2.1 S14.1 S14.2 hq18 tq18 rfl (by omega) (by omega) (by have := fb_rng v20; omega) (by have := fb_rng v20; omega) dX10_alter_39 (fun E21 H22 k23 W21 I21 P21 => ?_)
    have S21 : Now D TB cy (va_A (va_pl L E) sz) s L τ E21 H22 k23 := ⟨W21, I21⟩
    have F21 : Fr L τ (inW [(11, 0), (86, 0)]) E E21 := Fr.set F14 P21 tq18 rfl
    obtain ⟨v24, ev24, tv24⟩ : ∃ v : Int32, Int32.ofInt (1) = v ∧ v.toInt = 1 := ⟨_, rfl, by decide +kernel⟩
    refine lv_iconst hx hb dX10_alter_40 ev24 ?_
    rw [← hQ]
    exact en_z Z S21 F21 (zo v24 (by omega)) ⟨(by rw [((fi_set (k := 3) P21 (ne_ro ta0 tq18 (by decide))).trans rfl)]; omega), (by omega), (by omega), (fun k hk => ((fi_set P21 (ne_ro ta0 tq18 (by decide))).trans ((p14_1 k (fw_sub (by decide) hk)).trans ((fi_put P2 (Or.inr (fw_ne (by decide) hk))).trans ((fun k hk => rfl) k hk)))))⟩ dX10_alter_41
  · skip
    have tc13 := nu_eq c13
    have uc13 : (0 : Int32).toInt = 0 := rfl
    refine lv_aload_n hx hb dX10_alter_20 rfl (lv_at hl 0 rfl) ?_
    obtain ⟨v25, ev25, tv25⟩ : ∃ v : Int32, Int32.ofInt (4) = v ∧ v.toInt = 4 := ⟨_, rfl, by decide +kernel⟩
    refine lv_iconst hx hb dX10_alter_21 ev25 ?_
    refine tc_vi Z.1 Z.2.2.2.1 Z.2.2.2.2.1 Z.2.2.2.2.2 S9.1 S9.2 ha0 ta0 rfl rfl (k_X10_not_vw l D cy S9.2 ha0 ta0 v25) (cwV 1 hts gX10_alter_X10_not rfl rfl rfl (by decide +kernel) ⟨Nat.le_of_ble_eq_true rfl, Nat.le_of_ble_eq_true rfl⟩) rfl hl.1 rfl (Nat.le_of_ble_eq_true rfl) dX10_alter_22 ⟨Nat.zero_le _, Nat.zero_le _⟩ (fun v29 E26 H27 k28 W26 I26 G26 p26 => ?_)
    obtain ⟨p26_0, p26_1, p26_2, p26_3⟩ := p26
    have S26 : Now D TB cy (va_A (va_pl L E) sz) s L τ E26 H27 k28 := ⟨W26, I26⟩
    have F26 : Fr L τ (inW [(11, 0), (86, 0)]) E E26 := F2.trans (G26.mono (inW_mono (by decide)))
    have kz26_3 := fi_rng (k := 3) S26.2 ha0 ta0 rfl rfl
    rw [← hQ]
    exact en_z Z S26 F26 (zo v29 (by omega)) ⟨(by omega), (by omega), (by omega), (fun k hk => ((p26_3 k (fw_sub (by decide) hk)).trans ((fi_put P2 (Or.inr (fw_ne (by decide) hk))).trans ((fun k hk => rfl) k hk))))⟩ dX10_alter_25

set_option maxHeartbeats 4000000 in
set_option maxRecDepth 100000 in
theorem k_X10_clear_vw (l : Launch) (D : va_G) (cy : Nat → ClassId) {L : List Nat} {τ : Nat → Ro} {E : Ec} (hI : Inv TB cy L τ E) {a0 : Nat} (ha0 : a0 ∈ L) (ta0 : τ a0 = (11, 0)) (hC : Chain L τ E) : CtI l yX10_clear wsX10_clear { frames := 2, cells := 0, slots := 0, locals := 41 } D TB cy L τ E [.ref a0] (inW [(11, 0), (60, 0), (61, 0)]) (fun r E' => (fi E' a0 3 = fi E a0 3 ∧ fi E' a0 6 = fi E a0 6) ∧ (∀ k : Nat, k ∉ ([2, 3, 4, 6] : List Nat) → fi E' a0 k = fi E a0 k) ∧ Chain L τ E') := by
  intro sz
  refine sta (cc := cX10_clear) (maxL := 4) hI (by decide) rfl (Nat.le_of_ble_eq_true rfl) (fun p e s m args below meth c ls hsz Z S0 hl => ?_)
  have hx := Z.1.1
  have hb := Z.1.2.1
  have hts := Z.1.2.2.2.2
  have F0_ : Fr L τ (inW [(11, 0), (60, 0), (61, 0)]) E E := Fr.refl
  have hl : lv_has ls 4 [(0, .ref a0)] := hl
  generalize hQ : MQ below _ args s 0 0 _ = QQ
  obtain ⟨qn, hqn, tqn⟩ := ref_of (k := 0) hI ha0 ta0 rfl rfl
  have tqn : τ qn = (60, 0) := tqn
  obtain ⟨qp, hqp, tqp⟩ := ref_of (k := 1) hI ha0 ta0 rfl rfl
  have tqp : τ qp = (61, 0) := tqp
  have kz_a0_3 := fi_rng (k := 3) hI ha0 ta0 rfl rfl
  have kz_a0_6 := fi_rng (k := 6) hI ha0 ta0 rfl rfl
  refine lv_aload_n hx hb dX10_clear_0 rfl (lv_at hl 0 rfl) ?_
  obtain ⟨v1, ev1, tv1⟩ : ∃ v : Int32, Int32.ofInt (0) = v ∧ v.toInt = 0 := ⟨_, rfl, by decide +kernel⟩
  refine lv_iconst hx hb dX10_clear_1 ev1 ?_
  refine tr_puti Z.1 Z.2.2.2.1 S0.1 S0.2 ha0 ta0 rfl rfl (fun _ h => List.mem_cons_of_mem _ (List.mem_append_right _ h)) tyX10_ok nmX10 4 (by decide) rfl rfl rfl (hts _ (List.mem_of_getElem? (i := 1) rfl)) dX10_clear_2 (by omega) (by omega) (fun E2 H3 k4 W2 I2 P2 => ?_)
  have S2 : Now D TB cy (va_A (va_pl L E) sz) s L τ E2 H3 k4 := ⟨W2, I2⟩
  have F2 : Fr L τ (inW [(11, 0), (60, 0), (61, 0)]) E E2 := Fr.put F0_ P2 ta0 rfl
  refine lv_aload_n hx hb dX10_clear_5 rfl (lv_at hl 0 rfl) ?_
  refine tr_getr Z.1 Z.2.2.2.1 S2.1 S2.2 ha0 ta0 rfl rfl (fun _ h => List.mem_cons_of_mem _ (List.mem_append_right _ h)) 0 (by decide) rfl (hts _ (List.mem_of_getElem? (i := 2) rfl)) dX10_clear_6 (fun q5 eq5 hq5 tq5 => ?_)
  have tq5 : τ q5 = (60, 0) := tq5
  have uq5 : qn = q5 := S2.2.2.2.2 _ hqn _ hq5 (tqn.trans tq5.symm) (by rw [tqn]; rfl)
  subst uq5
  obtain ⟨v6, ev6, tv6⟩ : ∃ v : Int32, (Int8.ofInt (19)).toInt32 = v ∧ v.toInt = 19 := ⟨_, rfl, by decide +kernel⟩
  refine lv_bipush hx hb dX10_clear_9 ev6 ?_
  refine tr_ialdx Z.1 Z.2.2.2.1 S2.1 S2.2 hqn tqn rfl (by omega) (by omega) dX10_clear_11 (fun v7 ev7 lv7 uv7 => ?_)
  have bv7 : nowB v6.toNatClampNeg = (0, 8) := nb_19 (by show v6.toInt.toNat = 19; omega)
  rw [bv7] at lv7 uv7
  have lv7 : 0 ≤ v7.toInt := lv7
  have uv7 : v7.toInt ≤ 8 := uv7
  have av7 : ai E2 qn 19 = v7 := ai_at ev7 (by omega)
  refine lv_istore_n (lv' := [(1, .int v7), (0, .ref a0)]) hx hb dX10_clear_12 rfl hl (by decide) rfl (fun l8 hl9 => ?_)
  refine lv_iload_n hx hb dX10_clear_13 rfl (lv_at hl9 0 rfl) ?_
  refine lv_if_ne (tgt := 19) hx hb dX10_clear_14 (by decide) (fun c10 => ?_) (fun c10 => ?_)
  · skip
    have tc10 := nu_ne c10
    have uc10 : (0 : Int32).toInt = 0 := rfl
    refine lv_aload_n hx hb dX10_clear_19 rfl (lv_at hl9 1 rfl) ?_
    refine tr_geti Z.1 Z.2.2.2.1 S2.1 S2.2 ha0 ta0 rfl rfl (fun _ h => List.mem_cons_of_mem _ (List.mem_append_right _ h)) 3 (by decide) rfl (hts _ (List.mem_of_getElem? (i := 3) rfl)) dX10_clear_20 (fun v11 ev11 lv11 uv11 => ?_)
    have wv11 : v11 = (fi E a0 3) := ev11.symm.trans ((fi_put (k := 3) P2 (Or.inr (by decide))).trans rfl)
    have xv11 : v11.toInt = (fi E a0 3).toInt := by rw [wv11]
    refine lv_istore_n (lv' := [(2, .int v11), (1, .int v7), (0, .ref a0)]) hx hb dX10_clear_23 rfl hl9 (by decide) rfl (fun l12 hl13 => ?_)
    refine lv_aload_n hx hb dX10_clear_24 rfl (lv_at hl13 2 rfl) ?_
    refine tr_geti Z.1 Z.2.2.2.1 S2.1 S2.2 ha0 ta0 rfl rfl (fun _ h => List.mem_cons_of_mem _ (List.mem_append_right _ h)) 6 (by decide) rfl (hts _ (List.mem_of_getElem? (i := 4) rfl)) dX10_clear_25 (fun v14 ev14 lv14 uv14 => ?_)
    have wv14 : v14 = (fi E a0 6) := ev14.symm.trans ((fi_put (k := 6) P2 (Or.inr (by decide))).trans rfl)
    have xv14 : v14.toInt = (fi E a0 6).toInt := by rw [wv14]
    refine lv_istore_n (lv' := [(3, .int v14), (2, .int v11), (1, .int v7), (0, .ref a0)]) hx hb dX10_clear_28 rfl hl13 (by decide) rfl (fun l15 hl16 => ?_)
    refine lv_aload_n hx hb dX10_clear_29 rfl (lv_at hl16 3 rfl) ?_
    refine tc_vv Z.1 Z.2.2.2.1 Z.2.2.2.2.1 Z.2.2.2.2.2 S2.1 S2.2 ha0 ta0 rfl rfl (k_X10_act_vw l D cy S2.2 ha0 ta0 (Chain.same hC S2.2 ha0 ta0 hqn tqn hqp tqp (P2.1 qn (ne_ro tqn ta0 (by decide))) (P2.1 qp (ne_ro tqp ta0 (by decide))) (fi_put (k := 2) P2 (Or.inr (by decide))))) (cwV 0 hts gX10_clear_X10_act rfl rfl rfl (by decide +kernel) ⟨Nat.le_of_ble_eq_true rfl, Nat.le_of_ble_eq_true rfl⟩) rfl hl16.1 rfl (Nat.le_of_ble_eq_true rfl) dX10_clear_30 ⟨Nat.zero_le _, Nat.zero_le _⟩ (fun E17 H18 k19 W17 I17 G17 p17 => ?_)
    obtain ⟨p17_0, p17_1, p17_2⟩ := p17
    have S17 : Now D TB cy (va_A (va_pl L E) sz) s L τ E17 H18 k19 := ⟨W17, I17⟩
    have F17 : Fr L τ (inW [(11, 0), (60, 0), (61, 0)]) E E17 := F2.trans (G17.mono (inW_mono (by decide)))
    have C21 : ∀ T : Nat → Int32, Link (ai E qn) T → ChW E17 a0 qp T := fun T hT => p17_0 qn hqn tqn qp hqp tqp T (by rw [ai_cell (P2.1 qn (ne_ro tqn ta0 (by decide)))]; exact hT)
    have B22 : ∀ j : Nat, 44 ≤ j → j ≤ 52 → ai E17 qn j = ai E qn j := fun j _ _ => ((ai_fr G17 hqn (by rw [tqn]; rfl)).trans (ai_put P2 (ne_ro tqn ta0 (by decide))))
    try rw [ev11] at p17_1
    have kz17_3 := fi_rng (k := 3) S17.2 ha0 ta0 rfl rfl
    refine lv_aload_n hx hb dX10_clear_33 rfl (lv_at hl16 3 rfl) ?_
    refine lv_iload_n hx hb dX10_clear_34 rfl (lv_at hl16 1 rfl) ?_
    refine tr_puti Z.1 Z.2.2.2.1 S17.1 S17.2 ha0 ta0 rfl rfl (fun _ h => List.mem_cons_of_mem _ (List.mem_append_right _ h)) tyX10_ok nmX10 3 (by decide) rfl rfl rfl (hts _ (List.mem_of_getElem? (i := 3) rfl)) dX10_clear_35 (by have := fb_rng v11; omega) (by have := fb_rng v11; omega) (fun E23 H24 k25 W23 I23 P23 => ?_)
    have S23 : Now D TB cy (va_A (va_pl L E) sz) s L τ E23 H24 k25 := ⟨W23, I23⟩
    have F23 : Fr L τ (inW [(11, 0), (60, 0), (61, 0)]) E E23 := Fr.put F17 P23 ta0 rfl
    refine lv_aload_n hx hb dX10_clear_38 rfl (lv_at hl16 3 rfl) ?_
    refine lv_iload_n hx hb dX10_clear_39 rfl (lv_at hl16 0 rfl) ?_
    refine tr_puti Z.1 Z.2.2.2.1 S23.1 S23.2 ha0 ta0 rfl rfl (fun _ h => List.mem_cons_of_mem _ (List.mem_append_right _ h)) tyX10_ok nmX10 6 (by decide) rfl rfl rfl (hts _ (List.mem_of_getElem? (i := 4) rfl)) dX10_clear_40 (by have := fb_rng v14; omega) (by have := fb_rng v14; omega) (fun E26 H27 k28 W26 I26 P26 => ?_)
    have S26 : Now D TB cy (va_A (va_pl L E) sz) s L τ E26 H27 k28 := ⟨W26, I26⟩
    have F26 : Fr L τ (inW [(11, 0), (60, 0), (61, 0)]) E E26 := Fr.put F23 P26 ta0 rfl
    refine lv_aload_n hx hb dX10_clear_43 rfl (lv_at hl16 3 rfl) ?_
    refine tr_getr Z.1 Z.2.2.2.1 S26.1 S26.2 ha0 ta0 rfl rfl (fun _ h => List.mem_cons_of_mem _ (List.mem_append_right _ h)) 0 (by decide) rfl (hts _ (List.mem_of_getElem? (i := 2) rfl)) dX10_clear_44 (fun q29 eq29 hq29 tq29 => ?_)
    have tq29 : τ q29 = (60, 0) := tq29
    have uq29 : qn = q29 := S26.2.2.2.2 _ hqn _ hq29 (tqn.trans tq29.symm) (by rw [tqn]; rfl)
    subst uq29
    obtain ⟨v30, ev30, tv30⟩ : ∃ v : Int32, (Int8.ofInt (19)).toInt32 = v ∧ v.toInt = 19 := ⟨_, rfl, by decide +kernel⟩
    refine lv_bipush hx hb dX10_clear_47 ev30 ?_
    obtain ⟨v31, ev31, tv31⟩ : ∃ v : Int32, Int32.ofInt (0) = v ∧ v.toInt = 0 := ⟨_, rfl, by decide +kernel⟩
    refine lv_iconst hx hb dX10_clear_49 ev31 ?_
    have b32 : nowB v30.toNatClampNeg = (0, 8) := nb_19 (by show v30.toInt.toNat = 19; omega)
    have b32 : (nowB v30.toNatClampNeg).1 ≤ v31.toInt ∧ v31.toInt ≤ (nowB v30.toNatClampNeg).2 := by rw [b32]; have := fb_rng v31; show 0 ≤ v31.toInt ∧ v31.toInt ≤ 8; omega
    refine tr_iastx Z.1 Z.2.2.2.1 S26.1 S26.2 hqn tqn rfl (by omega) (by omega) b32.1 b32.2 dX10_clear_50 (fun E32 H33 k34 W32 I32 P32 => ?_)
    have S32 : Now D TB cy (va_A (va_pl L E) sz) s L τ E32 H33 k34 := ⟨W32, I32⟩
    have F32 : Fr L τ (inW [(11, 0), (60, 0), (61, 0)]) E E32 := Fr.set F26 P32 tqn rfl
    refine lv_iload_n hx hb dX10_clear_51 rfl (lv_at hl16 2 rfl) ?_
    rw [← hQ]
    exact en_i Z S32 F32 ⟨⟨(((fi_set (k := 3) P32 (ne_ro ta0 tqn (by decide))).trans ((fi_put (k := 3) P26 (Or.inr (by decide))).trans (fi_at P23))).trans wv11), (((fi_set (k := 6) P32 (ne_ro ta0 tqn (by decide))).trans (fi_at P26)).trans wv14)⟩, (fun k hk => ((fi_set P32 (ne_ro ta0 tqn (by decide))).trans ((fi_put P26 (Or.inr (fw_ne (by decide) hk))).trans ((fi_put P23 (Or.inr (fw_ne (by decide) hk))).trans ((p17_2 k (fw_sub (by decide) hk)).trans ((fi_put P2 (Or.inr (fw_ne (by decide) hk))).trans ((fun k hk => rfl) k hk))))))), (Chain.post C21 S32.2 ha0 ta0 hqn tqn hqp tqp ((P32.1 qp (ne_ro tqp tqn (by decide))).trans ((P26.1 qp (ne_ro tqp ta0 (by decide))).trans (P23.1 qp (ne_ro tqp ta0 (by decide))))) ((fi_set (k := 2) P32 (ne_ro ta0 tqn (by decide))).trans ((fi_put (k := 2) P26 (Or.inr (by decide))).trans (fi_put (k := 2) P23 (Or.inr (by decide))))) (Link.ag (fun j h1 h2 => ((ai_setk P32 (by show j ≠ v30.toInt.toNat; omega)).trans ((ai_put P26 (ne_ro tqn ta0 (by decide))).trans ((ai_put P23 (ne_ro tqn ta0 (by decide))).trans (B22 j h1 h2)))))))⟩ dX10_clear_52
  · skip
    have tc10 := nu_eq c10
    have uc10 : (0 : Int32).toInt = 0 := rfl
    obtain ⟨v35, ev35, tv35⟩ : ∃ v : Int32, Int32.ofInt (0) = v ∧ v.toInt = 0 := ⟨_, rfl, by decide +kernel⟩
    refine lv_iconst hx hb dX10_clear_17 ev35 ?_
    rw [← hQ]
    exact en_i Z S2 F2 ⟨⟨((fi_put (k := 3) P2 (Or.inr (by decide))).trans rfl), ((fi_put (k := 6) P2 (Or.inr (by decide))).trans rfl)⟩, (fun k hk => ((fi_put P2 (Or.inr (fw_ne (by decide) hk))).trans ((fun k hk => rfl) k hk))), (Chain.same hC S2.2 ha0 ta0 hqn tqn hqp tqp (P2.1 qn (ne_ro tqn ta0 (by decide))) (P2.1 qp (ne_ro tqp ta0 (by decide))) (fi_put (k := 2) P2 (Or.inr (by decide))))⟩ dX10_clear_18

set_option maxHeartbeats 4000000 in
set_option maxRecDepth 100000 in
theorem k_X10_where_vw (l : Launch) (D : va_G) (cy : Nat → ClassId) {L : List Nat} {τ : Nat → Ro} {E : Ec} (hI : Inv TB cy L τ E) {a0 : Nat} (ha0 : a0 ∈ L) (ta0 : τ a0 = (11, 0)) : CtI l yX10_where wsX10_where { frames := 0, cells := 0, slots := 0, locals := 0 } D TB cy L τ E [.ref a0] (inW [(11, 0)]) (fun r E' => (((fi E a0 3).toInt = 2 ∧ r.toInt = (fi E a0 6).toInt) ∨ ((fi E a0 3).toInt ≠ 2 ∧ r.toInt = -1)) ∧ (∀ k : Nat, k ∉ ([4] : List Nat) → fi E' a0 k = fi E a0 k)) := by
  intro sz
  refine sta (cc := cX10_where) (maxL := 1) hI (by decide) rfl (Nat.le_of_ble_eq_true rfl) (fun p e s m args below meth c ls hsz Z S0 hl => ?_)
  have hx := Z.1.1
  have hb := Z.1.2.1
  have hts := Z.1.2.2.2.2
  have F0_ : Fr L τ (inW [(11, 0)]) E E := Fr.refl
  have hl : lv_has ls 1 [(0, .ref a0)] := hl
  generalize hQ : MQ below _ args s 0 0 _ = QQ
  have kz_a0_3 := fi_rng (k := 3) hI ha0 ta0 rfl rfl
  have kz_a0_6 := fi_rng (k := 6) hI ha0 ta0 rfl rfl
  refine lv_aload_n hx hb dX10_where_0 rfl (lv_at hl 0 rfl) ?_
  obtain ⟨v1, ev1, tv1⟩ : ∃ v : Int32, Int32.ofInt (0) = v ∧ v.toInt = 0 := ⟨_, rfl, by decide +kernel⟩
  refine lv_iconst hx hb dX10_where_1 ev1 ?_
  refine tr_puti Z.1 Z.2.2.2.1 S0.1 S0.2 ha0 ta0 rfl rfl (fun _ h => List.mem_cons_of_mem _ (List.mem_append_right _ h)) tyX10_ok nmX10 4 (by decide) rfl rfl rfl (hts _ (List.mem_of_getElem? (i := 1) rfl)) dX10_where_2 (by omega) (by omega) (fun E2 H3 k4 W2 I2 P2 => ?_)
  have S2 : Now D TB cy (va_A (va_pl L E) sz) s L τ E2 H3 k4 := ⟨W2, I2⟩
  have F2 : Fr L τ (inW [(11, 0)]) E E2 := Fr.put F0_ P2 ta0 rfl
  refine lv_aload_n hx hb dX10_where_5 rfl (lv_at hl 0 rfl) ?_
  refine tr_geti Z.1 Z.2.2.2.1 S2.1 S2.2 ha0 ta0 rfl rfl (fun _ h => List.mem_cons_of_mem _ (List.mem_append_right _ h)) 3 (by decide) rfl (hts _ (List.mem_of_getElem? (i := 2) rfl)) dX10_where_6 (fun v5 ev5 lv5 uv5 => ?_)
  have wv5 : v5 = (fi E a0 3) := ev5.symm.trans ((fi_put (k := 3) P2 (Or.inr (by decide))).trans rfl)
  have xv5 : v5.toInt = (fi E a0 3).toInt := by rw [wv5]
  obtain ⟨v6, ev6, tv6⟩ : ∃ v : Int32, Int32.ofInt (2) = v ∧ v.toInt = 2 := ⟨_, rfl, by decide +kernel⟩
  refine lv_iconst hx hb dX10_where_9 ev6 ?_
  refine lv_icmp_ne (tgt := 20) hx hb dX10_where_10 (by decide) (fun c7 => ?_) (fun c7 => ?_)
  · skip
    have tc7 := nu_ne c7
    obtain ⟨v8, ev8, tv8⟩ : ∃ v : Int32, Int32.ofInt (-1) = v ∧ v.toInt = -1 := ⟨_, rfl, by decide +kernel⟩
    refine lv_iconst hx hb dX10_where_20 ev8 ?_
    rw [← hQ]
    exact en_i Z S2 F2 ⟨(by omega), (fun k hk => ((fi_put P2 (Or.inr (fw_ne (by decide) hk))).trans ((fun k hk => rfl) k hk)))⟩ dX10_where_21
  · skip
    have tc7 := nu_eq c7
    refine lv_aload_n hx hb dX10_where_13 rfl (lv_at hl 0 rfl) ?_
    refine tr_geti Z.1 Z.2.2.2.1 S2.1 S2.2 ha0 ta0 rfl rfl (fun _ h => List.mem_cons_of_mem _ (List.mem_append_right _ h)) 6 (by decide) rfl (hts _ (List.mem_of_getElem? (i := 3) rfl)) dX10_where_14 (fun v9 ev9 lv9 uv9 => ?_)
    have wv9 : v9 = (fi E a0 6) := ev9.symm.trans ((fi_put (k := 6) P2 (Or.inr (by decide))).trans rfl)
    have xv9 : v9.toInt = (fi E a0 6).toInt := by rw [wv9]
    refine lv_goto (tgt := 21) hx hb dX10_where_17 (by decide) ?_
    rw [← hQ]
    exact en_i Z S2 F2 ⟨(by omega), (fun k hk => ((fi_put P2 (Or.inr (fw_ne (by decide) hk))).trans ((fun k hk => rfl) k hk)))⟩ dX10_where_21

