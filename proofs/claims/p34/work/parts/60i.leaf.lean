set_option maxHeartbeats 4000000 in
set_option maxRecDepth 100000 in
theorem k_X10_look_vr (l : Launch) (D : va_G) (cy : Nat → ClassId) {L : List Nat} {τ : Nat → Ro} {E : Ec} (hI : Inv TB cy L τ E) {a0 : Nat} (ha0 : a0 ∈ L) (ta0 : τ a0 = (11, 0)) {qx : Nat} (hqx : qx ∈ L) (tqx : τ qx = (73, 0)) : CtI l yX10_look wsX10_look { frames := 0, cells := 0, slots := 0, locals := 0 } D TB cy L τ E [.ref a0] (inW []) (fun r E' => E' = E ∧ (r.toInt = -1 ∨ ((fi E a0 22).toInt < (fi E a0 21).toInt ∧ (fi E a0 22).toInt ≤ 119)) ∧ (r.toInt = pkI (tx E qx a0 21) (fi E a0 21).toInt.toNat (fi E a0 22).toInt.toNat) ∧ -1 ≤ r.toInt ∧ r.toInt ≤ 255) := by
  intro sz
  refine sta (cc := cX10_look) (maxL := 1) hI (by decide) rfl (Nat.le_of_ble_eq_true rfl) (fun p e s m args below meth c ls hsz Z S0 hl => ?_)
  have hx := Z.1.1
  have hb := Z.1.2.1
  have hts := Z.1.2.2.2.2
  have F0_ : Fr L τ (inW []) E E := Fr.refl
  have hl : lv_has ls 1 [(0, .ref a0)] := hl
  generalize hQ : MQ below _ args s 0 0 _ = QQ
  have kz_a0_22 := fi_rng (k := 22) hI ha0 ta0 rfl rfl
  have kz_a0_21 := fi_rng (k := 21) hI ha0 ta0 rfl rfl
  refine lv_aload_n hx hb dX10_look_0 rfl (lv_at hl 0 rfl) ?_
  refine tr_geti Z.1 Z.2.2.2.1 S0.1 S0.2 ha0 ta0 rfl rfl (fun _ h => List.mem_cons_of_mem _ (List.mem_append_right _ h)) 22 (by decide) rfl (hts _ (List.mem_of_getElem? (i := 1) rfl)) dX10_look_1 (fun v1 ev1 lv1 uv1 => ?_)
  have wv1 : v1 = (fi E a0 22) := ev1.symm.trans rfl
  have xv1 : v1.toInt = (fi E a0 22).toInt := by rw [wv1]
  refine lv_aload_n hx hb dX10_look_4 rfl (lv_at hl 0 rfl) ?_
  refine tr_geti Z.1 Z.2.2.2.1 S0.1 S0.2 ha0 ta0 rfl rfl (fun _ h => List.mem_cons_of_mem _ (List.mem_append_right _ h)) 21 (by decide) rfl (hts _ (List.mem_of_getElem? (i := 2) rfl)) dX10_look_5 (fun v2 ev2 lv2 uv2 => ?_)
  have wv2 : v2 = (fi E a0 21) := ev2.symm.trans rfl
  have xv2 : v2.toInt = (fi E a0 21).toInt := by rw [wv2]
  refine lv_icmp_ge (tgt := 27) hx hb dX10_look_8 (by decide) (fun c3 => ?_) (fun c3 => ?_)
  · skip
    have tc3 := nu_le c3
    obtain ⟨v4, ev4, tv4⟩ : ∃ v : Int32, Int32.ofInt (-1) = v ∧ v.toInt = -1 := ⟨_, rfl, by decide +kernel⟩
    refine lv_iconst hx hb dX10_look_27 ev4 ?_
    rw [← hQ]
    exact en_i Z S0 F0_ ⟨rfl, (by rw [ev1]; first | done | omega), (by rw [pkI_out (by omega)]; omega), (by omega), (by omega)⟩ dX10_look_28
  · skip
    have tc3 := nu_nle c3
    refine lv_aload_n hx hb dX10_look_11 rfl (lv_at hl 0 rfl) ?_
    refine tr_getr Z.1 Z.2.2.2.1 S0.1 S0.2 ha0 ta0 rfl rfl (fun _ h => List.mem_cons_of_mem _ (List.mem_append_right _ h)) 19 (by decide) rfl (hts _ (List.mem_of_getElem? (i := 3) rfl)) dX10_look_12 (fun q5 eq5 hq5 tq5 => ?_)
    have tq5 : τ q5 = (73, 0) := tq5
    have uq5 : qx = q5 := S0.2.2.2.2 _ hqx _ hq5 (tqx.trans tq5.symm) (by rw [tqx]; rfl)
    subst uq5
    refine lv_aload_n hx hb dX10_look_15 rfl (lv_at hl 0 rfl) ?_
    refine tr_geti Z.1 Z.2.2.2.1 S0.1 S0.2 ha0 ta0 rfl rfl (fun _ h => List.mem_cons_of_mem _ (List.mem_append_right _ h)) 22 (by decide) rfl (hts _ (List.mem_of_getElem? (i := 1) rfl)) dX10_look_16 (fun v6 ev6 lv6 uv6 => ?_)
    have wv6 : v6 = v1 := ev6.symm.trans ev1
    have xv6 : v6.toInt = v1.toInt := by rw [wv6]
    refine tr_bald Z.1 Z.2.2.2.1 S0.1 S0.2 hqx tqx rfl (by omega) (by omega) dX10_look_19 (fun v7 ev7 lv7 uv7 => ?_)
    obtain ⟨v8, ev8, tv8⟩ : ∃ v : Int32, (Int16.ofInt (255)).toInt32 = v ∧ v.toInt = 255 := ⟨_, rfl, by decide +kernel⟩
    refine lv_sipush hx hb dX10_look_20 ev8 ?_
    refine lv_iand hx hb dX10_look_23 ?_
    refine lv_topi (fun v9 ev9 => ?_)
    have tv9 := nu_and255 ev9 (by omega)
    refine lv_goto (tgt := 28) hx hb dX10_look_24 (by decide) ?_
    rw [← hQ]
    exact en_i Z S0 F0_ ⟨rfl, (by rw [ev6]; first | done | omega), (pkI_at (x := v6) (p := (fi E a0 22).toInt.toNat) (by omega) (by omega) ev7 ev9 (by omega) (by omega) (by omega)), (by omega), (by omega)⟩ dX10_look_28

set_option maxHeartbeats 4000000 in
set_option maxRecDepth 100000 in
theorem k_X10_wrong_vr (l : Launch) (D : va_G) (cy : Nat → ClassId) {L : List Nat} {τ : Nat → Ro} {E : Ec} (hI : Inv TB cy L τ E) {a0 : Nat} (ha0 : a0 ∈ L) (ta0 : τ a0 = (11, 0)) (a1 : Int32) (la1 : 1 ≤ a1.toInt) (ua1 : a1.toInt ≤ 3) (a2 : Int32) : CtV l yX10_wrong wsX10_wrong { frames := 0, cells := 0, slots := 0, locals := 0 } D TB cy L τ E [.ref a0, .int a1, .int a2] (inW [(11, 0)]) (fun E' => ((0 < (fi E a0 5).toInt ∧ (fi E' a0 5).toInt = (fi E a0 5).toInt ∧ (fi E' a0 6).toInt = (fi E a0 6).toInt) ∨ ((fi E a0 5).toInt ≤ 0 ∧ (fi E' a0 5).toInt = a1.toInt ∧ (fi E' a0 6).toInt = a2.toInt)) ∧ (∀ k : Nat, k ∉ ([5, 6] : List Nat) → fi E' a0 k = fi E a0 k)) := by
  intro sz
  refine sta (cc := cX10_wrong) (maxL := 3) hI (by decide) rfl (Nat.le_of_ble_eq_true rfl) (fun p e s m args below meth c ls hsz Z S0 hl => ?_)
  have hx := Z.1.1
  have hb := Z.1.2.1
  have hts := Z.1.2.2.2.2
  have F0_ : Fr L τ (inW [(11, 0)]) E E := Fr.refl
  have hl : lv_has ls 3 [(0, .ref a0), (1, .int a1), (2, .int a2)] := hl
  generalize hQ : MQ below _ args s 0 0 _ = QQ
  have kz_a0_5 := fi_rng (k := 5) hI ha0 ta0 rfl rfl
  have kz_a0_6 := fi_rng (k := 6) hI ha0 ta0 rfl rfl
  refine lv_aload_n hx hb dX10_wrong_0 rfl (lv_at hl 0 rfl) ?_
  refine tr_geti Z.1 Z.2.2.2.1 S0.1 S0.2 ha0 ta0 rfl rfl (fun _ h => List.mem_cons_of_mem _ (List.mem_append_right _ h)) 5 (by decide) rfl (hts _ (List.mem_of_getElem? (i := 1) rfl)) dX10_wrong_1 (fun v1 ev1 lv1 uv1 => ?_)
  have wv1 : v1 = (fi E a0 5) := ev1.symm.trans rfl
  have xv1 : v1.toInt = (fi E a0 5).toInt := by rw [wv1]
  refine lv_if_le (tgt := 8) hx hb dX10_wrong_4 (by decide) (fun c2 => ?_) (fun c2 => ?_)
  · skip
    have tc2 := nu_le c2
    have uc2 : (0 : Int32).toInt = 0 := rfl
    refine lv_aload_n hx hb dX10_wrong_8 rfl (lv_at hl 0 rfl) ?_
    refine lv_iload_n hx hb dX10_wrong_9 rfl (lv_at hl 1 rfl) ?_
    refine tr_puti Z.1 Z.2.2.2.1 S0.1 S0.2 ha0 ta0 rfl rfl (fun _ h => List.mem_cons_of_mem _ (List.mem_append_right _ h)) tyX10_ok nmX10 5 (by decide) rfl rfl rfl (hts _ (List.mem_of_getElem? (i := 1) rfl)) dX10_wrong_10 (by have := fb_rng a1; omega) (by have := fb_rng a1; omega) (fun E3 H4 k5 W3 I3 P3 => ?_)
    have S3 : Now D TB cy (va_A (va_pl L E) sz) s L τ E3 H4 k5 := ⟨W3, I3⟩
    have F3 : Fr L τ (inW [(11, 0)]) E E3 := Fr.put F0_ P3 ta0 rfl
    refine lv_aload_n hx hb dX10_wrong_13 rfl (lv_at hl 0 rfl) ?_
    refine lv_iload_n hx hb dX10_wrong_14 rfl (lv_at hl 2 rfl) ?_
    refine tr_puti Z.1 Z.2.2.2.1 S3.1 S3.2 ha0 ta0 rfl rfl (fun _ h => List.mem_cons_of_mem _ (List.mem_append_right _ h)) tyX10_ok nmX10 6 (by decide) rfl rfl rfl (hts _ (List.mem_of_getElem? (i := 2) rfl)) dX10_wrong_15 (by have := fb_rng a2; omega) (by have := fb_rng a2; omega) (fun E6 H7 k8 W6 I6 P6 => ?_)
    have S6 : Now D TB cy (va_A (va_pl L E) sz) s L τ E6 H7 k8 := ⟨W6, I6⟩
    have F6 : Fr L τ (inW [(11, 0)]) E E6 := Fr.put F3 P6 ta0 rfl
    rw [← hQ]
    exact en_v Z S6 F6 ⟨(by rw [((fi_put (k := 5) P6 (Or.inr (by decide))).trans (fi_at P3)), (fi_at P6)]; omega), (fun k hk => ((fi_put P6 (Or.inr (fw_ne (by decide) hk))).trans ((fi_put P3 (Or.inr (fw_ne (by decide) hk))).trans ((fun k hk => rfl) k hk))))⟩ dX10_wrong_18
  · skip
    have tc2 := nu_nle c2
    have uc2 : (0 : Int32).toInt = 0 := rfl
    rw [← hQ]
    exact en_v Z S0 F0_ ⟨(by rw [ev1]; omega), (fun k hk => ((fun k hk => rfl) k hk))⟩ dX10_wrong_7

set_option maxHeartbeats 4000000 in
set_option maxRecDepth 100000 in
theorem k_X10_blanks_vr (l : Launch) (D : va_G) (cy : Nat → ClassId) {L : List Nat} {τ : Nat → Ro} {E : Ec} (hI : Inv TB cy L τ E) {a0 : Nat} (ha0 : a0 ∈ L) (ta0 : τ a0 = (11, 0)) {qx : Nat} (hqx : qx ∈ L) (tqx : τ qx = (73, 0)) : CtV l yX10_blanks wsX10_blanks { frames := 1, cells := 0, slots := 0, locals := 20 } D TB cy L τ E [.ref a0] (inW [(11, 0)]) (fun E' => ((fi E' a0 22).toInt = ((skI (tx E qx a0 21) (fi E a0 21).toInt.toNat (fi E a0 22).toInt.toNat : Nat) : Int)) ∧ (∀ k : Nat, k ∉ ([22] : List Nat) → fi E' a0 k = fi E a0 k)) := by
  intro sz
  refine sta (cc := cX10_blanks) (maxL := 1) hI (by decide) rfl (Nat.le_of_ble_eq_true rfl) (fun p e s m args below meth c ls hsz Z S0 hl => ?_)
  have hx := Z.1.1
  have hb := Z.1.2.1
  have hts := Z.1.2.2.2.2
  have F0_ : Fr L τ (inW [(11, 0)]) E E := Fr.refl
  have hl : lv_has ls 1 [(0, .ref a0)] := hl
  generalize hQ : MQ below _ args s 0 0 _ = QQ
  have kz_a0_22 := fi_rng (k := 22) hI ha0 ta0 rfl rfl
  have kz_a0_21 := fi_rng (k := 21) hI ha0 ta0 rfl rfl
  have hTr : ∀ p : Nat, -128 ≤ (tx E qx a0 21) p ∧ (tx E qx a0 21) p ≤ 127 := tx_rng hI hqx tqx rfl (by omega)
  have J0 : ∀ (n : Nat)  (E_0 : Ec) (H_0 : Heap) (k_0 : List Loc) (l_0 : Array Slot), Now D TB cy (va_A (va_pl L E) sz) s L τ E_0 H_0 k_0 → Fr L τ (inW [(11, 0)]) E E_0 → (skI (tx E qx a0 21) (fi E a0 21).toInt.toNat (fi E_0 a0 22).toInt.toNat = skI (tx E qx a0 21) (fi E a0 21).toInt.toNat (fi E a0 22).toInt.toNat) → (∀ k : Nat, k ∉ ([22] : List Nat) → fi E_0 a0 k = fi E a0 k) → (0 ≤ (fi E_0 a0 22).toInt ∧ (fi E_0 a0 22).toInt ≤ 120) → (0 ≤ (fi E_0 a0 21).toInt ∧ (fi E_0 a0 21).toInt ≤ 120 ∧ (fi E_0 a0 21).toInt = (fi E a0 21).toInt) → (120 - (fi E_0 a0 22).toInt).toNat < n → lv_has l_0 1 [(0, .ref a0)] → W p l e { frames := 1, cells := 0, slots := 0, locals := 20 } s m args below meth c H_0 k_0 0 0 QQ (F0 m 0 l_0 []) := by
    intro n
    induction n with
    | zero => intro  E_0 H_0 k_0 l_0 S_0 F_0 z1 z2 z3 z4 hm hl_0; exact absurd hm (Nat.not_lt_zero _)
    | succ n ih =>
      intro  E_0 H_0 k_0 l_0 S_0 F_0 z1 z2 z3 z4 hm hl_0
      have ih_0 := ih
      refine lv_aload_n hx hb dX10_blanks_0 rfl (lv_at hl_0 0 rfl) ?_
      refine tc_vi Z.1 Z.2.2.2.1 Z.2.2.2.2.1 Z.2.2.2.2.2 S_0.1 S_0.2 ha0 ta0 rfl rfl (k_X10_look_vr l D cy S_0.2 ha0 ta0 hqx tqx) (cwV 0 hts gX10_blanks_X10_look rfl rfl rfl (by decide +kernel) ⟨Nat.le_of_ble_eq_true rfl, Nat.le_of_ble_eq_true rfl⟩) rfl hl_0.1 rfl (Nat.le_of_ble_eq_true rfl) dX10_blanks_1 ⟨Nat.zero_le _, Nat.zero_le _⟩ (fun v8 E5 H6 k7 W5 I5 G5 p5 => ?_)
      obtain ⟨q5, p5_0, p5_1, p5_2, p5_3⟩ := p5
      have q5 := q5.symm
      subst q5
      have S5 : Now D TB cy (va_A (va_pl L E) sz) s L τ E_0 H6 k7 := ⟨W5, I5⟩
      have fe_1 : fi E_0 a0 21 = fi E a0 21 := (z2 21 (by decide))
      have tq_1 : tx E_0 qx a0 21 = (tx E qx a0 21) := tx_same (F_0 qx hqx (by rw [tqx]; rfl)) fe_1
      have pk1 : v8.toInt = pkI (tx E qx a0 21) (fi E a0 21).toInt.toNat (fi E_0 a0 22).toInt.toNat := by have q := p5_1; rw [tq_1, fe_1] at q; exact q
      obtain ⟨v9, ev9, tv9⟩ : ∃ v : Int32, (Int8.ofInt (32)).toInt32 = v ∧ v.toInt = 32 := ⟨_, rfl, by decide +kernel⟩
      refine lv_bipush hx hb dX10_blanks_4 ev9 ?_
      refine lv_icmp_ne (tgt := 22) hx hb dX10_blanks_6 (by decide) (fun c10 => ?_) (fun c10 => ?_)
      · skip
        have tc10 := nu_ne c10
        rw [← hQ]
        exact en_v Z S5 F_0 ⟨(by rw [← z1, show skI (tx E qx a0 21) (fi E a0 21).toInt.toNat (fi E_0 a0 22).toInt.toNat = (fi E_0 a0 22).toInt.toNat from run_stop (fun z => absurd ((pkB (n := (fi E a0 21).toInt.toNat) (hTr _)).mpr z) (by rw [← pk1]; omega))]; omega), (fun k hk => (z2 k hk))⟩ dX10_blanks_22
      · skip
        have tc10 := nu_eq c10
        refine lv_aload_n hx hb dX10_blanks_9 rfl (lv_at hl_0 0 rfl) ?_
        refine lv_dup hx hb dX10_blanks_10 rfl ?_
        refine tr_geti Z.1 Z.2.2.2.1 S5.1 S5.2 ha0 ta0 rfl rfl (fun _ h => List.mem_cons_of_mem _ (List.mem_append_right _ h)) 22 (by decide) rfl (hts _ (List.mem_of_getElem? (i := 1) rfl)) dX10_blanks_11 (fun v11 ev11 lv11 uv11 => ?_)
        have wv11 : v11 = (fi E_0 a0 22) := ev11.symm.trans rfl
        have xv11 : v11.toInt = (fi E_0 a0 22).toInt := by rw [wv11]
        obtain ⟨v12, ev12, tv12⟩ : ∃ v : Int32, Int32.ofInt (1) = v ∧ v.toInt = 1 := ⟨_, rfl, by decide +kernel⟩
        refine lv_iconst hx hb dX10_blanks_14 ev12 ?_
        refine lv_iadd hx hb dX10_blanks_15 ?_
        refine lv_topi (fun v13 ev13 => ?_)
        have tv13 := nu_add ev13 (by omega) (by omega)
        refine tr_puti Z.1 Z.2.2.2.1 S5.1 S5.2 ha0 ta0 rfl rfl (fun _ h => List.mem_cons_of_mem _ (List.mem_append_right _ h)) tyX10_ok nmX10 22 (by decide) rfl rfl rfl (hts _ (List.mem_of_getElem? (i := 1) rfl)) dX10_blanks_16 (by omega) (by omega) (fun E14 H15 k16 W14 I14 P14 => ?_)
        have S14 : Now D TB cy (va_A (va_pl L E) sz) s L τ E14 H15 k16 := ⟨W14, I14⟩
        have F14 : Fr L τ (inW [(11, 0)]) E E14 := Fr.put F_0 P14 ta0 rfl
        refine lv_goto (tgt := 0) hx hb dX10_blanks_19 (by decide) ?_
        exact ih_0 E14 H15 k16 l_0 S14 F14 ((show skI (tx E qx a0 21) (fi E a0 21).toInt.toNat (fi E14 a0 22).toInt.toNat = skI (tx E qx a0 21) (fi E a0 21).toInt.toNat (fi E_0 a0 22).toInt.toNat from by rw [show (fi E14 a0 22).toInt.toNat = (fi E_0 a0 22).toInt.toNat + 1 from by rw [(fi_at P14)]; omega]; exact (run_go (by omega) ((pkB (n := (fi E a0 21).toInt.toNat) (hTr _)).mp (pk1.symm.trans (by omega))).2).symm).trans z1) (fun k hk => ((fi_put P14 (Or.inr (fw_ne (by decide) hk))).trans (z2 k hk))) (by rw [(fi_at P14)]; omega) (by rw [((fi_put (k := 21) P14 (Or.inr (by decide))).trans rfl)]; omega) (by rw [(fi_at P14)]; omega) (lv_sub hl_0 [0] rfl)
  exact J0 _ E s.heap [] ls S0 F0_ rfl (fun k hk => ((fun k hk => rfl) k hk)) (by omega) (by omega) (Nat.lt_succ_self _) (lv_sub hl [0] rfl)

set_option maxHeartbeats 4000000 in
set_option maxRecDepth 100000 in
theorem k_X10_passWord_vr (l : Launch) (D : va_G) (cy : Nat → ClassId) {L : List Nat} {τ : Nat → Ro} {E : Ec} (hI : Inv TB cy L τ E) {a0 : Nat} (ha0 : a0 ∈ L) (ta0 : τ a0 = (11, 0)) {qx : Nat} (hqx : qx ∈ L) (tqx : τ qx = (73, 0)) : CtV l yX10_passWord wsX10_passWord { frames := 1, cells := 0, slots := 0, locals := 21 } D TB cy L τ E [.ref a0] (inW [(11, 0)]) (fun E' => ((fi E' a0 22).toInt = ((ltI (tx E qx a0 21) (fi E a0 21).toInt.toNat (fi E a0 22).toInt.toNat : Nat) : Int)) ∧ (∀ k : Nat, k ∉ ([22] : List Nat) → fi E' a0 k = fi E a0 k)) := by
  intro sz
  refine sta (cc := cX10_passWord) (maxL := 1) hI (by decide) rfl (Nat.le_of_ble_eq_true rfl) (fun p e s m args below meth c ls hsz Z S0 hl => ?_)
  have hx := Z.1.1
  have hb := Z.1.2.1
  have hts := Z.1.2.2.2.2
  have F0_ : Fr L τ (inW [(11, 0)]) E E := Fr.refl
  have hl : lv_has ls 1 [(0, .ref a0)] := hl
  generalize hQ : MQ below _ args s 0 0 _ = QQ
  have kz_a0_22 := fi_rng (k := 22) hI ha0 ta0 rfl rfl
  have kz_a0_21 := fi_rng (k := 21) hI ha0 ta0 rfl rfl
  have hTr : ∀ p : Nat, -128 ≤ (tx E qx a0 21) p ∧ (tx E qx a0 21) p ≤ 127 := tx_rng hI hqx tqx rfl (by omega)
  have J0 : ∀ (n : Nat)  (E_0 : Ec) (H_0 : Heap) (k_0 : List Loc) (l_0 : Array Slot), Now D TB cy (va_A (va_pl L E) sz) s L τ E_0 H_0 k_0 → Fr L τ (inW [(11, 0)]) E E_0 → (ltI (tx E qx a0 21) (fi E a0 21).toInt.toNat (fi E_0 a0 22).toInt.toNat = ltI (tx E qx a0 21) (fi E a0 21).toInt.toNat (fi E a0 22).toInt.toNat) → (∀ k : Nat, k ∉ ([22] : List Nat) → fi E_0 a0 k = fi E a0 k) → (0 ≤ (fi E_0 a0 22).toInt ∧ (fi E_0 a0 22).toInt ≤ 120) → (0 ≤ (fi E_0 a0 21).toInt ∧ (fi E_0 a0 21).toInt ≤ 120 ∧ (fi E_0 a0 21).toInt = (fi E a0 21).toInt) → (120 - (fi E_0 a0 22).toInt).toNat < n → lv_has l_0 1 [(0, .ref a0)] → W p l e { frames := 1, cells := 0, slots := 0, locals := 21 } s m args below meth c H_0 k_0 0 0 QQ (F0 m 0 l_0 []) := by
    intro n
    induction n with
    | zero => intro  E_0 H_0 k_0 l_0 S_0 F_0 z1 z2 z3 z4 hm hl_0; exact absurd hm (Nat.not_lt_zero _)
    | succ n ih =>
      intro  E_0 H_0 k_0 l_0 S_0 F_0 z1 z2 z3 z4 hm hl_0
      have ih_0 := ih
      refine lv_aload_n hx hb dX10_passWord_0 rfl (lv_at hl_0 0 rfl) ?_
      refine lv_aload_n hx hb dX10_passWord_1 rfl (lv_at hl_0 0 rfl) ?_
      refine tc_vi Z.1 Z.2.2.2.1 Z.2.2.2.2.1 Z.2.2.2.2.2 S_0.1 S_0.2 ha0 ta0 rfl rfl (k_X10_look_vr l D cy S_0.2 ha0 ta0 hqx tqx) (cwV 0 hts gX10_passWord_X10_look rfl rfl rfl (by decide +kernel) ⟨Nat.le_of_ble_eq_true rfl, Nat.le_of_ble_eq_true rfl⟩) rfl hl_0.1 rfl (Nat.le_of_ble_eq_true rfl) dX10_passWord_2 ⟨Nat.zero_le _, Nat.zero_le _⟩ (fun v8 E5 H6 k7 W5 I5 G5 p5 => ?_)
      obtain ⟨q5, p5_0, p5_1, p5_2, p5_3⟩ := p5
      have q5 := q5.symm
      subst q5
      have S5 : Now D TB cy (va_A (va_pl L E) sz) s L τ E_0 H6 k7 := ⟨W5, I5⟩
      have fe_2 : fi E_0 a0 21 = fi E a0 21 := (z2 21 (by decide))
      have tq_2 : tx E_0 qx a0 21 = (tx E qx a0 21) := tx_same (F_0 qx hqx (by rw [tqx]; rfl)) fe_2
      have pk2 : v8.toInt = pkI (tx E qx a0 21) (fi E a0 21).toInt.toNat (fi E_0 a0 22).toInt.toNat := by have q := p5_1; rw [tq_2, fe_2] at q; exact q
      refine tc_vi Z.1 Z.2.2.2.1 Z.2.2.2.2.1 Z.2.2.2.2.2 S5.1 S5.2 ha0 ta0 rfl rfl (k_X10_isSmall l D cy S5.2 ha0 ta0 v8) (cwV 1 hts gX10_passWord_X10_isSmall rfl rfl rfl (by decide +kernel) ⟨Nat.le_of_ble_eq_true rfl, Nat.le_of_ble_eq_true rfl⟩) rfl hl_0.1 rfl (Nat.le_of_ble_eq_true rfl) dX10_passWord_5 ⟨Nat.zero_le _, Nat.zero_le _⟩ (fun v12 E9 H10 k11 W9 I9 G9 p9 => ?_)
      obtain ⟨q9, p9_0, p9_1, p9_2⟩ := p9
      have q9 := q9.symm
      subst q9
      have S9 : Now D TB cy (va_A (va_pl L E) sz) s L τ E_0 H10 k11 := ⟨W9, I9⟩
      refine lv_if_eq (tgt := 24) hx hb dX10_passWord_8 (by decide) (fun c13 => ?_) (fun c13 => ?_)
      · skip
        have tc13 := nu_eq c13
        have uc13 : (0 : Int32).toInt = 0 := rfl
        rw [← hQ]
        exact en_v Z S9 F_0 ⟨(by rw [← z1, show ltI (tx E qx a0 21) (fi E a0 21).toInt.toNat (fi E_0 a0 22).toInt.toNat = (fi E_0 a0 22).toInt.toNat from run_stop (fun z => absurd ((pkS (n := (fi E a0 21).toInt.toNat) (hTr _)).mpr z) (by rw [← pk2]; omega))]; omega), (fun k hk => (z2 k hk))⟩ dX10_passWord_24
      · skip
        have tc13 := nu_ne c13
        have uc13 : (0 : Int32).toInt = 0 := rfl
        refine lv_aload_n hx hb dX10_passWord_11 rfl (lv_at hl_0 0 rfl) ?_
        refine lv_dup hx hb dX10_passWord_12 rfl ?_
        refine tr_geti Z.1 Z.2.2.2.1 S9.1 S9.2 ha0 ta0 rfl rfl (fun _ h => List.mem_cons_of_mem _ (List.mem_append_right _ h)) 22 (by decide) rfl (hts _ (List.mem_of_getElem? (i := 1) rfl)) dX10_passWord_13 (fun v14 ev14 lv14 uv14 => ?_)
        have wv14 : v14 = (fi E_0 a0 22) := ev14.symm.trans rfl
        have xv14 : v14.toInt = (fi E_0 a0 22).toInt := by rw [wv14]
        obtain ⟨v15, ev15, tv15⟩ : ∃ v : Int32, Int32.ofInt (1) = v ∧ v.toInt = 1 := ⟨_, rfl, by decide +kernel⟩
        refine lv_iconst hx hb dX10_passWord_16 ev15 ?_
        refine lv_iadd hx hb dX10_passWord_17 ?_
        refine lv_topi (fun v16 ev16 => ?_)
        have tv16 := nu_add ev16 (by omega) (by omega)
        refine tr_puti Z.1 Z.2.2.2.1 S9.1 S9.2 ha0 ta0 rfl rfl (fun _ h => List.mem_cons_of_mem _ (List.mem_append_right _ h)) tyX10_ok nmX10 22 (by decide) rfl rfl rfl (hts _ (List.mem_of_getElem? (i := 1) rfl)) dX10_passWord_18 (by omega) (by omega) (fun E17 H18 k19 W17 I17 P17 => ?_)
        have S17 : Now D TB cy (va_A (va_pl L E) sz) s L τ E17 H18 k19 := ⟨W17, I17⟩
        have F17 : Fr L τ (inW [(11, 0)]) E E17 := Fr.put F_0 P17 ta0 rfl
        refine lv_goto (tgt := 0) hx hb dX10_passWord_21 (by decide) ?_
        exact ih_0 E17 H18 k19 l_0 S17 F17 ((show ltI (tx E qx a0 21) (fi E a0 21).toInt.toNat (fi E17 a0 22).toInt.toNat = ltI (tx E qx a0 21) (fi E a0 21).toInt.toNat (fi E_0 a0 22).toInt.toNat from by rw [show (fi E17 a0 22).toInt.toNat = (fi E_0 a0 22).toInt.toNat + 1 from by rw [(fi_at P17)]; omega]; exact (run_go (by omega) ((pkS (n := (fi E a0 21).toInt.toNat) (hTr _)).mp (by rw [← pk2]; omega)).2).symm).trans z1) (fun k hk => ((fi_put P17 (Or.inr (fw_ne (by decide) hk))).trans (z2 k hk))) (by rw [(fi_at P17)]; omega) (by rw [((fi_put (k := 21) P17 (Or.inr (by decide))).trans rfl)]; omega) (by rw [(fi_at P17)]; omega) (lv_sub hl_0 [0] rfl)
  exact J0 _ E s.heap [] ls S0 F0_ rfl (fun k hk => ((fun k hk => rfl) k hk)) (by omega) (by omega) (Nat.lt_succ_self _) (lv_sub hl [0] rfl)

set_option maxHeartbeats 4000000 in
set_option maxRecDepth 100000 in
theorem k_X10_digits_vr (l : Launch) (D : va_G) (cy : Nat → ClassId) {L : List Nat} {τ : Nat → Ro} {E : Ec} (hI : Inv TB cy L τ E) {a0 : Nat} (ha0 : a0 ∈ L) (ta0 : τ a0 = (11, 0)) {qx : Nat} (hqx : qx ∈ L) (tqx : τ qx = (73, 0)) (h5 : (fi E a0 5).toInt = 0) : CtI l yX10_digits wsX10_digits { frames := 1, cells := 0, slots := 0, locals := 22 } D TB cy L τ E [.ref a0] (inW [(11, 0)]) (fun r E' => ((fi E' a0 22).toInt = ((dgI (tx E qx a0 21) (fi E a0 21).toInt.toNat (fi E a0 22).toInt.toNat : Nat) : Int)) ∧ ((9999 < dvI (tx E qx a0 21) (fi E a0 21).toInt.toNat (fi E a0 22).toInt.toNat 0 ∧ (fi E' a0 5).toInt = 2 ∧ (fi E' a0 6).toInt = (fi E a0 22).toInt) ∨ (dvI (tx E qx a0 21) (fi E a0 21).toInt.toNat (fi E a0 22).toInt.toNat 0 ≤ 9999 ∧ (fi E' a0 5).toInt = 0 ∧ (fi E' a0 6).toInt = (fi E a0 6).toInt)) ∧ (∀ k : Nat, k ∉ ([5, 6, 22] : List Nat) → fi E' a0 k = fi E a0 k)) := by
  intro sz
  refine sta (cc := cX10_digits) (maxL := 3) hI (by decide) rfl (Nat.le_of_ble_eq_true rfl) (fun p e s m args below meth c ls hsz Z S0 hl => ?_)
  have hx := Z.1.1
  have hb := Z.1.2.1
  have hts := Z.1.2.2.2.2
  have F0_ : Fr L τ (inW [(11, 0)]) E E := Fr.refl
  have hl : lv_has ls 3 [(0, .ref a0)] := hl
  generalize hQ : MQ below _ args s 0 0 _ = QQ
  have kz_a0_22 := fi_rng (k := 22) hI ha0 ta0 rfl rfl
  have kz_a0_21 := fi_rng (k := 21) hI ha0 ta0 rfl rfl
  have kz_a0_5 := fi_rng (k := 5) hI ha0 ta0 rfl rfl
  have kz_a0_6 := fi_rng (k := 6) hI ha0 ta0 rfl rfl
  have hTr : ∀ p : Nat, -128 ≤ (tx E qx a0 21) p ∧ (tx E qx a0 21) p ≤ 127 := tx_rng hI hqx tqx rfl (by omega)
  have J7 : ∀ (n : Nat) (x1_7 : Int32) (x2_7 : Int32) (E_7 : Ec) (H_7 : Heap) (k_7 : List Loc) (l_7 : Array Slot), Now D TB cy (va_A (va_pl L E) sz) s L τ E_7 H_7 k_7 → Fr L τ (inW [(11, 0)]) E E_7 → (0 ≤ x1_7.toInt) → (x1_7.toInt ≤ 120) → (0 ≤ x2_7.toInt) → (x2_7.toInt ≤ 99999) → (dvI (tx E qx a0 21) (fi E a0 21).toInt.toNat (fi E_7 a0 22).toInt.toNat (min x2_7.toInt 10000) = dvI (tx E qx a0 21) (fi E a0 21).toInt.toNat (fi E a0 22).toInt.toNat 0) → (dgI (tx E qx a0 21) (fi E a0 21).toInt.toNat (fi E_7 a0 22).toInt.toNat = dgI (tx E qx a0 21) (fi E a0 21).toInt.toNat (fi E a0 22).toInt.toNat) → (x1_7.toInt = (fi E a0 22).toInt) → (∀ k : Nat, k ∉ ([5, 6, 22] : List Nat) → fi E_7 a0 k = fi E a0 k) → (0 ≤ (fi E_7 a0 22).toInt ∧ (fi E_7 a0 22).toInt ≤ 120) → (0 ≤ (fi E_7 a0 21).toInt ∧ (fi E_7 a0 21).toInt ≤ 120 ∧ (fi E_7 a0 21).toInt = (fi E a0 21).toInt) → (-2147483648 ≤ (fi E_7 a0 5).toInt ∧ (fi E_7 a0 5).toInt ≤ 2147483647 ∧ (fi E_7 a0 5).toInt = (fi E a0 5).toInt) → (-2147483648 ≤ (fi E_7 a0 6).toInt ∧ (fi E_7 a0 6).toInt ≤ 2147483647 ∧ (fi E_7 a0 6).toInt = (fi E a0 6).toInt) → (120 - (fi E_7 a0 22).toInt).toNat < n → lv_has l_7 3 [(0, .ref a0), (1, .int x1_7), (2, .int x2_7)] → W p l e { frames := 1, cells := 0, slots := 0, locals := 22 } s m args below meth c H_7 k_7 0 0 QQ (F0 m 7 l_7 []) := by
    intro n
    induction n with
    | zero => intro x1_7 x2_7 E_7 H_7 k_7 l_7 S_7 F_7 z1 z2 z3 z4 z5 z6 z7 z8 z9 z10 z11 z12 hm hl_7; exact absurd hm (Nat.not_lt_zero _)
    | succ n ih =>
      intro x1_7 x2_7 E_7 H_7 k_7 l_7 S_7 F_7 z1 z2 z3 z4 z5 z6 z7 z8 z9 z10 z11 z12 hm hl_7
      have ih_7 := ih
      refine lv_aload_n hx hb dX10_digits_7 rfl (lv_at hl_7 0 rfl) ?_
      refine tc_vi Z.1 Z.2.2.2.1 Z.2.2.2.2.1 Z.2.2.2.2.2 S_7.1 S_7.2 ha0 ta0 rfl rfl (k_X10_look_vr l D cy S_7.2 ha0 ta0 hqx tqx) (cwV 0 hts gX10_digits_X10_look rfl rfl rfl (by decide +kernel) ⟨Nat.le_of_ble_eq_true rfl, Nat.le_of_ble_eq_true rfl⟩) rfl hl_7.1 rfl (Nat.le_of_ble_eq_true rfl) dX10_digits_8 ⟨Nat.zero_le _, Nat.zero_le _⟩ (fun v16 E13 H14 k15 W13 I13 G13 p13 => ?_)
      obtain ⟨q13, p13_0, p13_1, p13_2, p13_3⟩ := p13
      have q13 := q13.symm
      subst q13
      have S13 : Now D TB cy (va_A (va_pl L E) sz) s L τ E_7 H14 k15 := ⟨W13, I13⟩
      have fe_8 : fi E_7 a0 21 = fi E a0 21 := (z8 21 (by decide))
      have tq_8 : tx E_7 qx a0 21 = (tx E qx a0 21) := tx_same (F_7 qx hqx (by rw [tqx]; rfl)) fe_8
      have pk8 : v16.toInt = pkI (tx E qx a0 21) (fi E a0 21).toInt.toNat (fi E_7 a0 22).toInt.toNat := by have q := p13_1; rw [tq_8, fe_8] at q; exact q
      obtain ⟨v17, ev17, tv17⟩ : ∃ v : Int32, (Int8.ofInt (48)).toInt32 = v ∧ v.toInt = 48 := ⟨_, rfl, by decide +kernel⟩
      refine lv_bipush hx hb dX10_digits_11 ev17 ?_
      refine lv_icmp_lt (tgt := 62) hx hb dX10_digits_13 (by decide) (fun c18 => ?_) (fun c18 => ?_)
      · skip
        have tc18 := nu_lt c18
        refine lv_iload_n hx hb dX10_digits_62 rfl (lv_at hl_7 2 rfl) ?_
        obtain ⟨v19, ev19, tv19⟩ : ∃ v : Int32, (Int16.ofInt (9999)).toInt32 = v ∧ v.toInt = 9999 := ⟨_, rfl, by decide +kernel⟩
        refine lv_sipush hx hb dX10_digits_63 ev19 ?_
        refine lv_icmp_le (tgt := 75) hx hb dX10_digits_66 (by decide) (fun c20 => ?_) (fun c20 => ?_)
        · skip
          have tc20 := nu_le c20
          refine lv_iload_n hx hb dX10_digits_75 rfl (lv_at hl_7 2 rfl) ?_
          rw [← hQ]
          exact en_i Z S13 F_7 ⟨(by rw [← z6, show dgI (tx E qx a0 21) (fi E a0 21).toInt.toNat (fi E_7 a0 22).toInt.toNat = (fi E_7 a0 22).toInt.toNat from run_stop (fun z => absurd ((pkD (n := (fi E a0 21).toInt.toNat) (hTr _)).mpr z) (by rw [← pk8]; omega))]; omega), (by have q : min x2_7.toInt 10000 = dvI (tx E qx a0 21) (fi E a0 21).toInt.toNat (fi E a0 22).toInt.toNat 0 := (by rw [← z5, dv_stop (fun z => absurd ((pkD (n := (fi E a0 21).toInt.toNat) (hTr _)).mpr z) (by rw [← pk8]; omega))]); rw [← q]; omega), (fun k hk => (z8 k hk))⟩ dX10_digits_76
        · skip
          have tc20 := nu_nle c20
          refine lv_aload_n hx hb dX10_digits_69 rfl (lv_at hl_7 0 rfl) ?_
          obtain ⟨v21, ev21, tv21⟩ : ∃ v : Int32, Int32.ofInt (2) = v ∧ v.toInt = 2 := ⟨_, rfl, by decide +kernel⟩
          refine lv_iconst hx hb dX10_digits_70 ev21 ?_
          refine lv_iload_n hx hb dX10_digits_71 rfl (lv_at hl_7 1 rfl) ?_
          refine tc_vv Z.1 Z.2.2.2.1 Z.2.2.2.2.1 Z.2.2.2.2.2 S13.1 S13.2 ha0 ta0 rfl rfl (k_X10_wrong_vr l D cy S13.2 ha0 ta0 v21 (by omega) (by omega) x1_7) (cwV 2 hts gX10_digits_X10_wrong rfl rfl rfl (by decide +kernel) ⟨Nat.le_of_ble_eq_true rfl, Nat.le_of_ble_eq_true rfl⟩) rfl hl_7.1 rfl (Nat.le_of_ble_eq_true rfl) dX10_digits_72 ⟨Nat.zero_le _, Nat.zero_le _⟩ (fun E22 H23 k24 W22 I22 G22 p22 => ?_)
          obtain ⟨p22_0, p22_1⟩ := p22
          have S22 : Now D TB cy (va_A (va_pl L E) sz) s L τ E22 H23 k24 := ⟨W22, I22⟩
          have F22 : Fr L τ (inW [(11, 0)]) E E22 := F_7.trans (G22.mono (inW_mono (by decide)))
          refine lv_iload_n hx hb dX10_digits_75 rfl (lv_at hl_7 2 rfl) ?_
          rw [← hQ]
          exact en_i Z S22 F22 ⟨(by rw [((p22_1 22 (by decide)).trans rfl), ← z6, show dgI (tx E qx a0 21) (fi E a0 21).toInt.toNat (fi E_7 a0 22).toInt.toNat = (fi E_7 a0 22).toInt.toNat from run_stop (fun z => absurd ((pkD (n := (fi E a0 21).toInt.toNat) (hTr _)).mpr z) (by rw [← pk8]; omega))]; omega), (by have q : min x2_7.toInt 10000 = dvI (tx E qx a0 21) (fi E a0 21).toInt.toNat (fi E a0 22).toInt.toNat 0 := (by rw [← z5, dv_stop (fun z => absurd ((pkD (n := (fi E a0 21).toInt.toNat) (hTr _)).mpr z) (by rw [← pk8]; omega))]); rw [← q]; have w := p22_0; omega), (fun k hk => ((p22_1 k (fw_sub (by decide) hk)).trans (z8 k hk)))⟩ dX10_digits_76
      · skip
        have tc18 := nu_nlt c18
        refine lv_aload_n hx hb dX10_digits_16 rfl (lv_at hl_7 0 rfl) ?_
        refine tc_vi Z.1 Z.2.2.2.1 Z.2.2.2.2.1 Z.2.2.2.2.2 S13.1 S13.2 ha0 ta0 rfl rfl (k_X10_look_vr l D cy S13.2 ha0 ta0 hqx tqx) (cwV 0 hts gX10_digits_X10_look rfl rfl rfl (by decide +kernel) ⟨Nat.le_of_ble_eq_true rfl, Nat.le_of_ble_eq_true rfl⟩) rfl hl_7.1 rfl (Nat.le_of_ble_eq_true rfl) dX10_digits_17 ⟨Nat.zero_le _, Nat.zero_le _⟩ (fun v29 E26 H27 k28 W26 I26 G26 p26 => ?_)
        obtain ⟨q26, p26_0, p26_1, p26_2, p26_3⟩ := p26
        have q26 := q26.symm
        subst q26
        have S26 : Now D TB cy (va_A (va_pl L E) sz) s L τ E_7 H27 k28 := ⟨W26, I26⟩
        have fe_17 : fi E_7 a0 21 = fi E a0 21 := (z8 21 (by decide))
        have tq_17 : tx E_7 qx a0 21 = (tx E qx a0 21) := tx_same (F_7 qx hqx (by rw [tqx]; rfl)) fe_17
        have pk17 : v29.toInt = pkI (tx E qx a0 21) (fi E a0 21).toInt.toNat (fi E_7 a0 22).toInt.toNat := by have q := p26_1; rw [tq_17, fe_17] at q; exact q
        obtain ⟨v30, ev30, tv30⟩ : ∃ v : Int32, (Int8.ofInt (57)).toInt32 = v ∧ v.toInt = 57 := ⟨_, rfl, by decide +kernel⟩
        refine lv_bipush hx hb dX10_digits_20 ev30 ?_
        refine lv_icmp_gt (tgt := 62) hx hb dX10_digits_22 (by decide) (fun c31 => ?_) (fun c31 => ?_)
        · skip
          have tc31 := nu_lt c31
          refine lv_iload_n hx hb dX10_digits_62 rfl (lv_at hl_7 2 rfl) ?_
          obtain ⟨v32, ev32, tv32⟩ : ∃ v : Int32, (Int16.ofInt (9999)).toInt32 = v ∧ v.toInt = 9999 := ⟨_, rfl, by decide +kernel⟩
          refine lv_sipush hx hb dX10_digits_63 ev32 ?_
          refine lv_icmp_le (tgt := 75) hx hb dX10_digits_66 (by decide) (fun c33 => ?_) (fun c33 => ?_)
          · skip
            have tc33 := nu_le c33
            refine lv_iload_n hx hb dX10_digits_75 rfl (lv_at hl_7 2 rfl) ?_
            rw [← hQ]
            exact en_i Z S26 F_7 ⟨(by rw [← z6, show dgI (tx E qx a0 21) (fi E a0 21).toInt.toNat (fi E_7 a0 22).toInt.toNat = (fi E_7 a0 22).toInt.toNat from run_stop (fun z => absurd ((pkD (n := (fi E a0 21).toInt.toNat) (hTr _)).mpr z) (by rw [← pk17]; omega))]; omega), (by have q : min x2_7.toInt 10000 = dvI (tx E qx a0 21) (fi E a0 21).toInt.toNat (fi E a0 22).toInt.toNat 0 := (by rw [← z5, dv_stop (fun z => absurd ((pkD (n := (fi E a0 21).toInt.toNat) (hTr _)).mpr z) (by rw [← pk17]; omega))]); rw [← q]; omega), (fun k hk => (z8 k hk))⟩ dX10_digits_76
          · skip
            have tc33 := nu_nle c33
            refine lv_aload_n hx hb dX10_digits_69 rfl (lv_at hl_7 0 rfl) ?_
            obtain ⟨v34, ev34, tv34⟩ : ∃ v : Int32, Int32.ofInt (2) = v ∧ v.toInt = 2 := ⟨_, rfl, by decide +kernel⟩
            refine lv_iconst hx hb dX10_digits_70 ev34 ?_
            refine lv_iload_n hx hb dX10_digits_71 rfl (lv_at hl_7 1 rfl) ?_
            refine tc_vv Z.1 Z.2.2.2.1 Z.2.2.2.2.1 Z.2.2.2.2.2 S26.1 S26.2 ha0 ta0 rfl rfl (k_X10_wrong_vr l D cy S26.2 ha0 ta0 v34 (by omega) (by omega) x1_7) (cwV 2 hts gX10_digits_X10_wrong rfl rfl rfl (by decide +kernel) ⟨Nat.le_of_ble_eq_true rfl, Nat.le_of_ble_eq_true rfl⟩) rfl hl_7.1 rfl (Nat.le_of_ble_eq_true rfl) dX10_digits_72 ⟨Nat.zero_le _, Nat.zero_le _⟩ (fun E35 H36 k37 W35 I35 G35 p35 => ?_)
            obtain ⟨p35_0, p35_1⟩ := p35
            have S35 : Now D TB cy (va_A (va_pl L E) sz) s L τ E35 H36 k37 := ⟨W35, I35⟩
            have F35 : Fr L τ (inW [(11, 0)]) E E35 := F_7.trans (G35.mono (inW_mono (by decide)))
            refine lv_iload_n hx hb dX10_digits_75 rfl (lv_at hl_7 2 rfl) ?_
            rw [← hQ]
            exact en_i Z S35 F35 ⟨(by rw [((p35_1 22 (by decide)).trans rfl), ← z6, show dgI (tx E qx a0 21) (fi E a0 21).toInt.toNat (fi E_7 a0 22).toInt.toNat = (fi E_7 a0 22).toInt.toNat from run_stop (fun z => absurd ((pkD (n := (fi E a0 21).toInt.toNat) (hTr _)).mpr z) (by rw [← pk17]; omega))]; omega), (by have q : min x2_7.toInt 10000 = dvI (tx E qx a0 21) (fi E a0 21).toInt.toNat (fi E a0 22).toInt.toNat 0 := (by rw [← z5, dv_stop (fun z => absurd ((pkD (n := (fi E a0 21).toInt.toNat) (hTr _)).mpr z) (by rw [← pk17]; omega))]); rw [← q]; have w := p35_0; omega), (fun k hk => ((p35_1 k (fw_sub (by decide) hk)).trans (z8 k hk)))⟩ dX10_digits_76
        · skip
          have tc31 := nu_nlt c31
          refine lv_iload_n hx hb dX10_digits_25 rfl (lv_at hl_7 2 rfl) ?_
          have dg17 : qD ((tx E qx a0 21) (fi E_7 a0 22).toInt.toNat) = true := ((pkD (n := (fi E a0 21).toInt.toNat) (hTr _)).mp (by rw [← pk17]; omega)).2
          have lt17 : (fi E_7 a0 22).toInt.toNat < (fi E a0 21).toInt.toNat := ((pkD (n := (fi E a0 21).toInt.toNat) (hTr _)).mp (by rw [← pk17]; omega)).1
          have vb17 : (tx E qx a0 21) (fi E_7 a0 22).toInt.toNat = v29.toInt := (pkI_val (n := (fi E a0 21).toInt.toNat) (hTr _) (by rw [← pk17]; omega) (by rw [← pk17]; omega)).symm.trans pk17.symm
          obtain ⟨v39, ev39, tv39⟩ : ∃ v : Int32, (Int16.ofInt (9999)).toInt32 = v ∧ v.toInt = 9999 := ⟨_, rfl, by decide +kernel⟩
          refine lv_sipush hx hb dX10_digits_26 ev39 ?_
          refine lv_icmp_le (tgt := 36) hx hb dX10_digits_29 (by decide) (fun c40 => ?_) (fun c40 => ?_)
          · skip
            have tc40 := nu_le c40
            obtain ⟨v41, ev41, tv41⟩ : ∃ v : Int32, (Int8.ofInt (10)).toInt32 = v ∧ v.toInt = 10 := ⟨_, rfl, by decide +kernel⟩
            refine lv_bipush hx hb dX10_digits_36 ev41 ?_
            refine lv_iload_n hx hb dX10_digits_38 rfl (lv_at hl_7 2 rfl) ?_
            refine lv_imul hx hb dX10_digits_39 ?_
            refine lv_topi (fun v42 ev42 => ?_)
            have tv42 := nu_mulc' (10) ev42 (by omega) (by omega) (by omega)
            refine lv_aload_n hx hb dX10_digits_40 rfl (lv_at hl_7 0 rfl) ?_
            refine tc_vi Z.1 Z.2.2.2.1 Z.2.2.2.2.1 Z.2.2.2.2.2 S26.1 S26.2 ha0 ta0 rfl rfl (k_X10_look_vr l D cy S26.2 ha0 ta0 hqx tqx) (cwV 0 hts gX10_digits_X10_look rfl rfl rfl (by decide +kernel) ⟨Nat.le_of_ble_eq_true rfl, Nat.le_of_ble_eq_true rfl⟩) rfl hl_7.1 rfl (Nat.le_of_ble_eq_true rfl) dX10_digits_41 ⟨Nat.zero_le _, Nat.zero_le _⟩ (fun v46 E43 H44 k45 W43 I43 G43 p43 => ?_)
            obtain ⟨q43, p43_0, p43_1, p43_2, p43_3⟩ := p43
            have q43 := q43.symm
            subst q43
            have S43 : Now D TB cy (va_A (va_pl L E) sz) s L τ E_7 H44 k45 := ⟨W43, I43⟩
            have fe_41 : fi E_7 a0 21 = fi E a0 21 := (z8 21 (by decide))
            have tq_41 : tx E_7 qx a0 21 = (tx E qx a0 21) := tx_same (F_7 qx hqx (by rw [tqx]; rfl)) fe_41
            have pk41 : v46.toInt = pkI (tx E qx a0 21) (fi E a0 21).toInt.toNat (fi E_7 a0 22).toInt.toNat := by have q := p43_1; rw [tq_41, fe_41] at q; exact q
            refine lv_iadd hx hb dX10_digits_44 ?_
            refine lv_topi (fun v47 ev47 => ?_)
            have tv47 := nu_add ev47 (by omega) (by omega)
            obtain ⟨v48, ev48, tv48⟩ : ∃ v : Int32, (Int8.ofInt (48)).toInt32 = v ∧ v.toInt = 48 := ⟨_, rfl, by decide +kernel⟩
            refine lv_bipush hx hb dX10_digits_45 ev48 ?_
            refine lv_isub hx hb dX10_digits_47 ?_
            refine lv_topi (fun v49 ev49 => ?_)
            have tv49 := nu_sub ev49 (by omega) (by omega)
            refine lv_istore_n (lv' := [(2, .int v49), (0, .ref a0), (1, .int x1_7)]) hx hb dX10_digits_48 rfl hl_7 (by decide) rfl (fun l50 hl51 => ?_)
            refine lv_aload_n hx hb dX10_digits_49 rfl (lv_at hl51 1 rfl) ?_
            refine lv_dup hx hb dX10_digits_50 rfl ?_
            refine tr_geti Z.1 Z.2.2.2.1 S43.1 S43.2 ha0 ta0 rfl rfl (fun _ h => List.mem_cons_of_mem _ (List.mem_append_right _ h)) 22 (by decide) rfl (hts _ (List.mem_of_getElem? (i := 1) rfl)) dX10_digits_51 (fun v52 ev52 lv52 uv52 => ?_)
            have wv52 : v52 = (fi E_7 a0 22) := ev52.symm.trans rfl
            have xv52 : v52.toInt = (fi E_7 a0 22).toInt := by rw [wv52]
            obtain ⟨v53, ev53, tv53⟩ : ∃ v : Int32, Int32.ofInt (1) = v ∧ v.toInt = 1 := ⟨_, rfl, by decide +kernel⟩
            refine lv_iconst hx hb dX10_digits_54 ev53 ?_
            refine lv_iadd hx hb dX10_digits_55 ?_
            refine lv_topi (fun v54 ev54 => ?_)
            have tv54 := nu_add ev54 (by omega) (by omega)
            refine tr_puti Z.1 Z.2.2.2.1 S43.1 S43.2 ha0 ta0 rfl rfl (fun _ h => List.mem_cons_of_mem _ (List.mem_append_right _ h)) tyX10_ok nmX10 22 (by decide) rfl rfl rfl (hts _ (List.mem_of_getElem? (i := 1) rfl)) dX10_digits_56 (by omega) (by omega) (fun E55 H56 k57 W55 I55 P55 => ?_)
            have S55 : Now D TB cy (va_A (va_pl L E) sz) s L τ E55 H56 k57 := ⟨W55, I55⟩
            have F55 : Fr L τ (inW [(11, 0)]) E E55 := Fr.put F_7 P55 ta0 rfl
            refine lv_goto (tgt := 7) hx hb dX10_digits_59 (by decide) ?_
            exact ih_7 x1_7 v49 E55 H56 k57 l50 S55 F55 (by omega) (by omega) (by omega) (by omega) ((show dvI (tx E qx a0 21) (fi E a0 21).toInt.toNat (fi E55 a0 22).toInt.toNat (min v49.toInt 10000) = dvI (tx E qx a0 21) (fi E a0 21).toInt.toNat (fi E_7 a0 22).toInt.toNat (min x2_7.toInt 10000) from by rw [show (fi E55 a0 22).toInt.toNat = (fi E_7 a0 22).toInt.toNat + 1 from by rw [(fi_at P55)]; omega]; exact (congrArg (dvI (tx E qx a0 21) (fi E a0 21).toInt.toNat ((fi E_7 a0 22).toInt.toNat + 1)) (show min v49.toInt 10000 = min (if x2_7.toInt > 9999 then x2_7.toInt else 10 * x2_7.toInt + (tx E qx a0 21) (fi E_7 a0 22).toInt.toNat - 48) 10000 from by rw [if_neg (by omega), vb17]; omega)).trans (dv_ref (by omega) dg17 (by omega)).symm).trans z5) ((show dgI (tx E qx a0 21) (fi E a0 21).toInt.toNat (fi E55 a0 22).toInt.toNat = dgI (tx E qx a0 21) (fi E a0 21).toInt.toNat (fi E_7 a0 22).toInt.toNat from by rw [show (fi E55 a0 22).toInt.toNat = (fi E_7 a0 22).toInt.toNat + 1 from by rw [(fi_at P55)]; omega]; exact (run_go (by omega) dg17).symm).trans z6) (by omega) (fun k hk => ((fi_put P55 (Or.inr (fw_ne (by decide) hk))).trans (z8 k hk))) (by rw [(fi_at P55)]; omega) (by rw [((fi_put (k := 21) P55 (Or.inr (by decide))).trans rfl)]; omega) (by rw [((fi_put (k := 5) P55 (Or.inr (by decide))).trans rfl)]; omega) (by rw [((fi_put (k := 6) P55 (Or.inr (by decide))).trans rfl)]; omega) (by rw [(fi_at P55)]; omega) (lv_sub hl51 [1, 2, 0] rfl)
          · skip
            have tc40 := nu_nle c40
            refine lv_iload_n hx hb dX10_digits_32 rfl (lv_at hl_7 2 rfl) ?_
            refine lv_goto (tgt := 48) hx hb dX10_digits_33 (by decide) ?_
            refine lv_istore_n (lv' := [(2, .int x2_7), (0, .ref a0), (1, .int x1_7)]) hx hb dX10_digits_48 rfl hl_7 (by decide) rfl (fun l58 hl59 => ?_)
            refine lv_aload_n hx hb dX10_digits_49 rfl (lv_at hl59 1 rfl) ?_
            refine lv_dup hx hb dX10_digits_50 rfl ?_
            refine tr_geti Z.1 Z.2.2.2.1 S26.1 S26.2 ha0 ta0 rfl rfl (fun _ h => List.mem_cons_of_mem _ (List.mem_append_right _ h)) 22 (by decide) rfl (hts _ (List.mem_of_getElem? (i := 1) rfl)) dX10_digits_51 (fun v60 ev60 lv60 uv60 => ?_)
            have wv60 : v60 = (fi E_7 a0 22) := ev60.symm.trans rfl
            have xv60 : v60.toInt = (fi E_7 a0 22).toInt := by rw [wv60]
            obtain ⟨v61, ev61, tv61⟩ : ∃ v : Int32, Int32.ofInt (1) = v ∧ v.toInt = 1 := ⟨_, rfl, by decide +kernel⟩
            refine lv_iconst hx hb dX10_digits_54 ev61 ?_
            refine lv_iadd hx hb dX10_digits_55 ?_
            refine lv_topi (fun v62 ev62 => ?_)
            have tv62 := nu_add ev62 (by omega) (by omega)
            refine tr_puti Z.1 Z.2.2.2.1 S26.1 S26.2 ha0 ta0 rfl rfl (fun _ h => List.mem_cons_of_mem _ (List.mem_append_right _ h)) tyX10_ok nmX10 22 (by decide) rfl rfl rfl (hts _ (List.mem_of_getElem? (i := 1) rfl)) dX10_digits_56 (by omega) (by omega) (fun E63 H64 k65 W63 I63 P63 => ?_)
            have S63 : Now D TB cy (va_A (va_pl L E) sz) s L τ E63 H64 k65 := ⟨W63, I63⟩
            have F63 : Fr L τ (inW [(11, 0)]) E E63 := Fr.put F_7 P63 ta0 rfl
            refine lv_goto (tgt := 7) hx hb dX10_digits_59 (by decide) ?_
            exact ih_7 x1_7 x2_7 E63 H64 k65 l58 S63 F63 (by omega) (by omega) (by omega) (by omega) ((show dvI (tx E qx a0 21) (fi E a0 21).toInt.toNat (fi E63 a0 22).toInt.toNat (min x2_7.toInt 10000) = dvI (tx E qx a0 21) (fi E a0 21).toInt.toNat (fi E_7 a0 22).toInt.toNat (min x2_7.toInt 10000) from by rw [show (fi E63 a0 22).toInt.toNat = (fi E_7 a0 22).toInt.toNat + 1 from by rw [(fi_at P63)]; omega]; exact (congrArg (dvI (tx E qx a0 21) (fi E a0 21).toInt.toNat ((fi E_7 a0 22).toInt.toNat + 1)) (show min x2_7.toInt 10000 = min (if x2_7.toInt > 9999 then x2_7.toInt else 10 * x2_7.toInt + (tx E qx a0 21) (fi E_7 a0 22).toInt.toNat - 48) 10000 from by rw [if_pos (by omega)])).trans (dv_ref (by omega) dg17 (by omega)).symm).trans z5) ((show dgI (tx E qx a0 21) (fi E a0 21).toInt.toNat (fi E63 a0 22).toInt.toNat = dgI (tx E qx a0 21) (fi E a0 21).toInt.toNat (fi E_7 a0 22).toInt.toNat from by rw [show (fi E63 a0 22).toInt.toNat = (fi E_7 a0 22).toInt.toNat + 1 from by rw [(fi_at P63)]; omega]; exact (run_go (by omega) dg17).symm).trans z6) (by omega) (fun k hk => ((fi_put P63 (Or.inr (fw_ne (by decide) hk))).trans (z8 k hk))) (by rw [(fi_at P63)]; omega) (by rw [((fi_put (k := 21) P63 (Or.inr (by decide))).trans rfl)]; omega) (by rw [((fi_put (k := 5) P63 (Or.inr (by decide))).trans rfl)]; omega) (by rw [((fi_put (k := 6) P63 (Or.inr (by decide))).trans rfl)]; omega) (by rw [(fi_at P63)]; omega) (lv_sub hl59 [1, 2, 0] rfl)
  refine lv_aload_n hx hb dX10_digits_0 rfl (lv_at hl 0 rfl) ?_
  refine tr_geti Z.1 Z.2.2.2.1 S0.1 S0.2 ha0 ta0 rfl rfl (fun _ h => List.mem_cons_of_mem _ (List.mem_append_right _ h)) 22 (by decide) rfl (hts _ (List.mem_of_getElem? (i := 1) rfl)) dX10_digits_1 (fun v66 ev66 lv66 uv66 => ?_)
  have wv66 : v66 = (fi E a0 22) := ev66.symm.trans rfl
  have xv66 : v66.toInt = (fi E a0 22).toInt := by rw [wv66]
  refine lv_istore_n (lv' := [(1, .int v66), (0, .ref a0)]) hx hb dX10_digits_4 rfl hl (by decide) rfl (fun l67 hl68 => ?_)
  obtain ⟨v69, ev69, tv69⟩ : ∃ v : Int32, Int32.ofInt (0) = v ∧ v.toInt = 0 := ⟨_, rfl, by decide +kernel⟩
  refine lv_iconst hx hb dX10_digits_5 ev69 ?_
  refine lv_istore_n (lv' := [(2, .int v69), (1, .int v66), (0, .ref a0)]) hx hb dX10_digits_6 rfl hl68 (by decide) rfl (fun l70 hl71 => ?_)
  exact J7 _ v66 v69 E s.heap [] l70 S0 F0_ (by omega) (by omega) (by omega) (by omega) (by rw [show min v69.toInt 10000 = 0 from by omega]) rfl (by omega) (fun k hk => ((fun k hk => rfl) k hk)) (by rw [ev66]; omega) (by omega) (by omega) (by omega) (Nat.lt_succ_self _) (lv_sub hl71 [2, 1, 0] rfl)

set_option maxHeartbeats 4000000 in
set_option maxRecDepth 100000 in
theorem k_X10_packed_vr (l : Launch) (D : va_G) (cy : Nat → ClassId) {L : List Nat} {τ : Nat → Ro} {E : Ec} (hI : Inv TB cy L τ E) {a0 : Nat} (ha0 : a0 ∈ L) (ta0 : τ a0 = (11, 0)) (a1 : Int32) (la1 : 0 ≤ a1.toInt) (ua1 : a1.toInt ≤ 122) (a2 : Int32) (la2 : 0 ≤ a2.toInt) (ua2 : a2.toInt ≤ 122) (a3 : Int32) (la3 : 0 ≤ a3.toInt) (ua3 : a3.toInt ≤ 122) (a4 : Int32) (la4 : 0 ≤ a4.toInt) (ua4 : a4.toInt ≤ 122) (a5 : Int32) (la5 : 0 ≤ a5.toInt) (ua5 : a5.toInt ≤ 122) (a6 : Int32) (la6 : 0 ≤ a6.toInt) (ua6 : a6.toInt ≤ 122) (h1 : a1.toInt = 0 ∨ 97 ≤ a1.toInt) (h2 : a2.toInt = 0 ∨ 97 ≤ a2.toInt) (h3 : a3.toInt = 0 ∨ 97 ≤ a3.toInt) (h4 : a4.toInt = 0 ∨ 97 ≤ a4.toInt) (h5 : a5.toInt = 0 ∨ 97 ≤ a5.toInt) (h6 : a6.toInt = 0 ∨ 97 ≤ a6.toInt) : CtL l yX10_packed wsX10_packed { frames := 0, cells := 0, slots := 0, locals := 0 } D TB cy L τ E [.ref a0, .int a1, .int a2, .int a3, .int a4, .int a5, .int a6] (inW []) (fun r E' => E' = E ∧ (r.toInt = (pk1 (pk1 (pk1 (pk1 (pk1 (pk1 0 a1.toInt) a2.toInt) a3.toInt) a4.toInt) a5.toInt) a6.toInt))) := by
  intro sz
  refine sta (cc := cX10_packed) (maxL := 9) hI (by decide) rfl (Nat.le_of_ble_eq_true rfl) (fun p e s m args below meth c ls hsz Z S0 hl => ?_)
  have hx := Z.1.1
  have hb := Z.1.2.1
  have hts := Z.1.2.2.2.2
  have F0_ : Fr L τ (inW []) E E := Fr.refl
  have hl : lv_has ls 9 [(0, .ref a0), (1, .int a1), (2, .int a2), (3, .int a3), (4, .int a4), (5, .int a5), (6, .int a6)] := hl
  generalize hQ : MQ below _ args s 0 0 _ = QQ
  have J123 : ∀ (x7_123 : Int64) (H_123 : Heap) (k_123 : List Loc) (l_123 : Array Slot), Now D TB cy (va_A (va_pl L E) sz) s L τ E H_123 k_123 → (0 ≤ x7_123.toInt) → (x7_123.toInt ≤ 1073741823) → (x7_123.toInt = (pk1 (pk1 (pk1 (pk1 (pk1 (pk1 0 a1.toInt) a2.toInt) a3.toInt) a4.toInt) a5.toInt) a6.toInt)) → lv_has l_123 9 [(7, .long x7_123)] → W p l e { frames := 0, cells := 0, slots := 0, locals := 0 } s m args below meth c H_123 k_123 0 0 QQ (F0 m 123 l_123 []) := by
    intro x7_123 H_123 k_123 l_123 S_123 z1 z2 z3 hl_123
    refine lv_lload hx hb dX10_packed_123 (lv_at hl_123 0 rfl) ?_
    rw [← hQ]
    exact en_l Z S_123 F0_ ⟨rfl, z3⟩ dX10_packed_125
  have J102 : ∀ (x7_102 : Int64) (H_102 : Heap) (k_102 : List Loc) (l_102 : Array Slot), Now D TB cy (va_A (va_pl L E) sz) s L τ E H_102 k_102 → (0 ≤ a6.toInt) → (a6.toInt ≤ 122) → (0 ≤ x7_102.toInt) → (x7_102.toInt ≤ 33554431) → (x7_102.toInt = (pk1 (pk1 (pk1 (pk1 (pk1 0 a1.toInt) a2.toInt) a3.toInt) a4.toInt) a5.toInt)) → lv_has l_102 9 [(6, .int a6), (7, .long x7_102)] → W p l e { frames := 0, cells := 0, slots := 0, locals := 0 } s m args below meth c H_102 k_102 0 0 QQ (F0 m 102 l_102 []) := by
    intro x7_102 H_102 k_102 l_102 S_102 z4 z5 z6 z7 z8 hl_102
    refine lv_iload hx hb dX10_packed_102 (lv_at hl_102 0 rfl) ?_
    refine lv_if_le (tgt := 123) hx hb dX10_packed_104 (by decide) (fun c9 => ?_) (fun c9 => ?_)
    · skip
      have tc9 := nu_le c9
      have uc9 : (0 : Int32).toInt = 0 := rfl
      exact J123 x7_102 H_102 k_102 l_102 S_102 (by omega) (by omega) (by rw [pk1_n (by omega)]; omega) (lv_sub hl_102 [1] rfl)
    · skip
      have tc9 := nu_nle c9
      have uc9 : (0 : Int32).toInt = 0 := rfl
      refine lv_lload hx hb dX10_packed_107 (lv_at hl_102 1 rfl) ?_
      refine lv_ldc2 (v := (32)) hx hb Z.1.2.2.2.1 (hts _ (List.mem_of_getElem? (i := 1) rfl)) dX10_packed_109 ?_
      refine lv_topl (fun w10 ew10 => ?_)
      have tw10 : w10.toInt = 32 := by rw [ew10]; decide +kernel
      refine lv_lmul hx hb dX10_packed_112 ?_
      refine lv_topl (fun w11 ew11 => ?_)
      have tw11 := nl_mulc (32) ew11 (by omega) (by omega) (by omega)
      refine lv_iload hx hb dX10_packed_113 (lv_at hl_102 0 rfl) ?_
      obtain ⟨w12, ew12⟩ : ∃ y : Int64, a6.toInt64 = y := ⟨_, rfl⟩
      refine lv_i2l hx hb dX10_packed_115 ew12 ?_
      have tw12 : w12.toInt = a6.toInt := by rw [← ew12]; exact Int32.toInt_toInt64 a6
      refine lv_ladd hx hb dX10_packed_116 ?_
      refine lv_topl (fun w13 ew13 => ?_)
      have tw13 := nl_add ew13 (by omega) (by omega)
      refine lv_ldc2 (v := (96)) hx hb Z.1.2.2.2.1 (hts _ (List.mem_of_getElem? (i := 2) rfl)) dX10_packed_117 ?_
      refine lv_topl (fun w14 ew14 => ?_)
      have tw14 : w14.toInt = 96 := by rw [ew14]; decide +kernel
      refine lv_lsub hx hb dX10_packed_120 ?_
      refine lv_topl (fun w15 ew15 => ?_)
      have tw15 := nl_sub ew15 (by omega) (by omega)
      refine lv_lstore (lv' := [(7, .long w15), (6, .int a6)]) hx hb dX10_packed_121 hl_102 (by decide) rfl (fun l16 hl17 => ?_)
      exact J123 w15 H_102 k_102 l16 S_102 (by omega) (by omega) (by rw [pk1_y (by omega), ← z8]; omega) (lv_sub hl17 [0] rfl)
  have J81 : ∀ (x7_81 : Int64) (H_81 : Heap) (k_81 : List Loc) (l_81 : Array Slot), Now D TB cy (va_A (va_pl L E) sz) s L τ E H_81 k_81 → (0 ≤ a5.toInt) → (a5.toInt ≤ 122) → (0 ≤ a6.toInt) → (a6.toInt ≤ 122) → (0 ≤ x7_81.toInt) → (x7_81.toInt ≤ 1048575) → (x7_81.toInt = (pk1 (pk1 (pk1 (pk1 0 a1.toInt) a2.toInt) a3.toInt) a4.toInt)) → lv_has l_81 9 [(5, .int a5), (6, .int a6), (7, .long x7_81)] → W p l e { frames := 0, cells := 0, slots := 0, locals := 0 } s m args below meth c H_81 k_81 0 0 QQ (F0 m 81 l_81 []) := by
    intro x7_81 H_81 k_81 l_81 S_81 z18 z19 z20 z21 z22 z23 z24 hl_81
    refine lv_iload hx hb dX10_packed_81 (lv_at hl_81 0 rfl) ?_
    refine lv_if_le (tgt := 102) hx hb dX10_packed_83 (by decide) (fun c25 => ?_) (fun c25 => ?_)
    · skip
      have tc25 := nu_le c25
      have uc25 : (0 : Int32).toInt = 0 := rfl
      exact J102 x7_81 H_81 k_81 l_81 S_81 (by omega) (by omega) (by omega) (by omega) (by rw [pk1_n (by omega)]; omega) (lv_sub hl_81 [1, 2] rfl)
    · skip
      have tc25 := nu_nle c25
      have uc25 : (0 : Int32).toInt = 0 := rfl
      refine lv_lload hx hb dX10_packed_86 (lv_at hl_81 2 rfl) ?_
      refine lv_ldc2 (v := (32)) hx hb Z.1.2.2.2.1 (hts _ (List.mem_of_getElem? (i := 1) rfl)) dX10_packed_88 ?_
      refine lv_topl (fun w26 ew26 => ?_)
      have tw26 : w26.toInt = 32 := by rw [ew26]; decide +kernel
      refine lv_lmul hx hb dX10_packed_91 ?_
      refine lv_topl (fun w27 ew27 => ?_)
      have tw27 := nl_mulc (32) ew27 (by omega) (by omega) (by omega)
      refine lv_iload hx hb dX10_packed_92 (lv_at hl_81 0 rfl) ?_
      obtain ⟨w28, ew28⟩ : ∃ y : Int64, a5.toInt64 = y := ⟨_, rfl⟩
      refine lv_i2l hx hb dX10_packed_94 ew28 ?_
      have tw28 : w28.toInt = a5.toInt := by rw [← ew28]; exact Int32.toInt_toInt64 a5
      refine lv_ladd hx hb dX10_packed_95 ?_
      refine lv_topl (fun w29 ew29 => ?_)
      have tw29 := nl_add ew29 (by omega) (by omega)
      refine lv_ldc2 (v := (96)) hx hb Z.1.2.2.2.1 (hts _ (List.mem_of_getElem? (i := 2) rfl)) dX10_packed_96 ?_
      refine lv_topl (fun w30 ew30 => ?_)
      have tw30 : w30.toInt = 96 := by rw [ew30]; decide +kernel
      refine lv_lsub hx hb dX10_packed_99 ?_
      refine lv_topl (fun w31 ew31 => ?_)
      have tw31 := nl_sub ew31 (by omega) (by omega)
      refine lv_lstore (lv' := [(7, .long w31), (5, .int a5), (6, .int a6)]) hx hb dX10_packed_100 hl_81 (by decide) rfl (fun l32 hl33 => ?_)
      exact J102 w31 H_81 k_81 l32 S_81 (by omega) (by omega) (by omega) (by omega) (by rw [pk1_y (by omega), ← z24]; omega) (lv_sub hl33 [2, 0] rfl)
  have J60 : ∀ (x7_60 : Int64) (H_60 : Heap) (k_60 : List Loc) (l_60 : Array Slot), Now D TB cy (va_A (va_pl L E) sz) s L τ E H_60 k_60 → (0 ≤ a4.toInt) → (a4.toInt ≤ 122) → (0 ≤ a5.toInt) → (a5.toInt ≤ 122) → (0 ≤ a6.toInt) → (a6.toInt ≤ 122) → (0 ≤ x7_60.toInt) → (x7_60.toInt ≤ 32767) → (x7_60.toInt = (pk1 (pk1 (pk1 0 a1.toInt) a2.toInt) a3.toInt)) → lv_has l_60 9 [(4, .int a4), (5, .int a5), (6, .int a6), (7, .long x7_60)] → W p l e { frames := 0, cells := 0, slots := 0, locals := 0 } s m args below meth c H_60 k_60 0 0 QQ (F0 m 60 l_60 []) := by
    intro x7_60 H_60 k_60 l_60 S_60 z34 z35 z36 z37 z38 z39 z40 z41 z42 hl_60
    refine lv_iload hx hb dX10_packed_60 (lv_at hl_60 0 rfl) ?_
    refine lv_if_le (tgt := 81) hx hb dX10_packed_62 (by decide) (fun c43 => ?_) (fun c43 => ?_)
    · skip
      have tc43 := nu_le c43
      have uc43 : (0 : Int32).toInt = 0 := rfl
      exact J81 x7_60 H_60 k_60 l_60 S_60 (by omega) (by omega) (by omega) (by omega) (by omega) (by omega) (by rw [pk1_n (by omega)]; omega) (lv_sub hl_60 [1, 2, 3] rfl)
    · skip
      have tc43 := nu_nle c43
      have uc43 : (0 : Int32).toInt = 0 := rfl
      refine lv_lload hx hb dX10_packed_65 (lv_at hl_60 3 rfl) ?_
      refine lv_ldc2 (v := (32)) hx hb Z.1.2.2.2.1 (hts _ (List.mem_of_getElem? (i := 1) rfl)) dX10_packed_67 ?_
      refine lv_topl (fun w44 ew44 => ?_)
      have tw44 : w44.toInt = 32 := by rw [ew44]; decide +kernel
      refine lv_lmul hx hb dX10_packed_70 ?_
      refine lv_topl (fun w45 ew45 => ?_)
      have tw45 := nl_mulc (32) ew45 (by omega) (by omega) (by omega)
      refine lv_iload hx hb dX10_packed_71 (lv_at hl_60 0 rfl) ?_
      obtain ⟨w46, ew46⟩ : ∃ y : Int64, a4.toInt64 = y := ⟨_, rfl⟩
      refine lv_i2l hx hb dX10_packed_73 ew46 ?_
      have tw46 : w46.toInt = a4.toInt := by rw [← ew46]; exact Int32.toInt_toInt64 a4
      refine lv_ladd hx hb dX10_packed_74 ?_
      refine lv_topl (fun w47 ew47 => ?_)
      have tw47 := nl_add ew47 (by omega) (by omega)
      refine lv_ldc2 (v := (96)) hx hb Z.1.2.2.2.1 (hts _ (List.mem_of_getElem? (i := 2) rfl)) dX10_packed_75 ?_
      refine lv_topl (fun w48 ew48 => ?_)
      have tw48 : w48.toInt = 96 := by rw [ew48]; decide +kernel
      refine lv_lsub hx hb dX10_packed_78 ?_
      refine lv_topl (fun w49 ew49 => ?_)
      have tw49 := nl_sub ew49 (by omega) (by omega)
      refine lv_lstore (lv' := [(7, .long w49), (4, .int a4), (5, .int a5), (6, .int a6)]) hx hb dX10_packed_79 hl_60 (by decide) rfl (fun l50 hl51 => ?_)
      exact J81 w49 H_60 k_60 l50 S_60 (by omega) (by omega) (by omega) (by omega) (by omega) (by omega) (by rw [pk1_y (by omega), ← z42]; omega) (lv_sub hl51 [2, 3, 0] rfl)
  have J41 : ∀ (x7_41 : Int64) (H_41 : Heap) (k_41 : List Loc) (l_41 : Array Slot), Now D TB cy (va_A (va_pl L E) sz) s L τ E H_41 k_41 → (0 ≤ a3.toInt) → (a3.toInt ≤ 122) → (0 ≤ a4.toInt) → (a4.toInt ≤ 122) → (0 ≤ a5.toInt) → (a5.toInt ≤ 122) → (0 ≤ a6.toInt) → (a6.toInt ≤ 122) → (0 ≤ x7_41.toInt) → (x7_41.toInt ≤ 1023) → (x7_41.toInt = (pk1 (pk1 0 a1.toInt) a2.toInt)) → lv_has l_41 9 [(3, .int a3), (4, .int a4), (5, .int a5), (6, .int a6), (7, .long x7_41)] → W p l e { frames := 0, cells := 0, slots := 0, locals := 0 } s m args below meth c H_41 k_41 0 0 QQ (F0 m 41 l_41 []) := by
    intro x7_41 H_41 k_41 l_41 S_41 z52 z53 z54 z55 z56 z57 z58 z59 z60 z61 z62 hl_41
    refine lv_iload_n hx hb dX10_packed_41 rfl (lv_at hl_41 0 rfl) ?_
    refine lv_if_le (tgt := 60) hx hb dX10_packed_42 (by decide) (fun c63 => ?_) (fun c63 => ?_)
    · skip
      have tc63 := nu_le c63
      have uc63 : (0 : Int32).toInt = 0 := rfl
      exact J60 x7_41 H_41 k_41 l_41 S_41 (by omega) (by omega) (by omega) (by omega) (by omega) (by omega) (by omega) (by omega) (by rw [pk1_n (by omega)]; omega) (lv_sub hl_41 [1, 2, 3, 4] rfl)
    · skip
      have tc63 := nu_nle c63
      have uc63 : (0 : Int32).toInt = 0 := rfl
      refine lv_lload hx hb dX10_packed_45 (lv_at hl_41 4 rfl) ?_
      refine lv_ldc2 (v := (32)) hx hb Z.1.2.2.2.1 (hts _ (List.mem_of_getElem? (i := 1) rfl)) dX10_packed_47 ?_
      refine lv_topl (fun w64 ew64 => ?_)
      have tw64 : w64.toInt = 32 := by rw [ew64]; decide +kernel
      refine lv_lmul hx hb dX10_packed_50 ?_
      refine lv_topl (fun w65 ew65 => ?_)
      have tw65 := nl_mulc (32) ew65 (by omega) (by omega) (by omega)
      refine lv_iload_n hx hb dX10_packed_51 rfl (lv_at hl_41 0 rfl) ?_
      obtain ⟨w66, ew66⟩ : ∃ y : Int64, a3.toInt64 = y := ⟨_, rfl⟩
      refine lv_i2l hx hb dX10_packed_52 ew66 ?_
      have tw66 : w66.toInt = a3.toInt := by rw [← ew66]; exact Int32.toInt_toInt64 a3
      refine lv_ladd hx hb dX10_packed_53 ?_
      refine lv_topl (fun w67 ew67 => ?_)
      have tw67 := nl_add ew67 (by omega) (by omega)
      refine lv_ldc2 (v := (96)) hx hb Z.1.2.2.2.1 (hts _ (List.mem_of_getElem? (i := 2) rfl)) dX10_packed_54 ?_
      refine lv_topl (fun w68 ew68 => ?_)
      have tw68 : w68.toInt = 96 := by rw [ew68]; decide +kernel
      refine lv_lsub hx hb dX10_packed_57 ?_
      refine lv_topl (fun w69 ew69 => ?_)
      have tw69 := nl_sub ew69 (by omega) (by omega)
      refine lv_lstore (lv' := [(7, .long w69), (3, .int a3), (4, .int a4), (5, .int a5), (6, .int a6)]) hx hb dX10_packed_58 hl_41 (by decide) rfl (fun l70 hl71 => ?_)
      exact J60 w69 H_41 k_41 l70 S_41 (by omega) (by omega) (by omega) (by omega) (by omega) (by omega) (by omega) (by omega) (by rw [pk1_y (by omega), ← z62]; omega) (lv_sub hl71 [2, 3, 4, 0] rfl)
  have J22 : ∀ (x7_22 : Int64) (H_22 : Heap) (k_22 : List Loc) (l_22 : Array Slot), Now D TB cy (va_A (va_pl L E) sz) s L τ E H_22 k_22 → (0 ≤ a2.toInt) → (a2.toInt ≤ 122) → (0 ≤ a3.toInt) → (a3.toInt ≤ 122) → (0 ≤ a4.toInt) → (a4.toInt ≤ 122) → (0 ≤ a5.toInt) → (a5.toInt ≤ 122) → (0 ≤ a6.toInt) → (a6.toInt ≤ 122) → (0 ≤ x7_22.toInt) → (x7_22.toInt ≤ 31) → (x7_22.toInt = (pk1 0 a1.toInt)) → lv_has l_22 9 [(2, .int a2), (3, .int a3), (4, .int a4), (5, .int a5), (6, .int a6), (7, .long x7_22)] → W p l e { frames := 0, cells := 0, slots := 0, locals := 0 } s m args below meth c H_22 k_22 0 0 QQ (F0 m 22 l_22 []) := by
    intro x7_22 H_22 k_22 l_22 S_22 z72 z73 z74 z75 z76 z77 z78 z79 z80 z81 z82 z83 z84 hl_22
    refine lv_iload_n hx hb dX10_packed_22 rfl (lv_at hl_22 0 rfl) ?_
    refine lv_if_le (tgt := 41) hx hb dX10_packed_23 (by decide) (fun c85 => ?_) (fun c85 => ?_)
    · skip
      have tc85 := nu_le c85
      have uc85 : (0 : Int32).toInt = 0 := rfl
      exact J41 x7_22 H_22 k_22 l_22 S_22 (by omega) (by omega) (by omega) (by omega) (by omega) (by omega) (by omega) (by omega) (by omega) (by omega) (by rw [pk1_n (by omega)]; omega) (lv_sub hl_22 [1, 2, 3, 4, 5] rfl)
    · skip
      have tc85 := nu_nle c85
      have uc85 : (0 : Int32).toInt = 0 := rfl
      refine lv_lload hx hb dX10_packed_26 (lv_at hl_22 5 rfl) ?_
      refine lv_ldc2 (v := (32)) hx hb Z.1.2.2.2.1 (hts _ (List.mem_of_getElem? (i := 1) rfl)) dX10_packed_28 ?_
      refine lv_topl (fun w86 ew86 => ?_)
      have tw86 : w86.toInt = 32 := by rw [ew86]; decide +kernel
      refine lv_lmul hx hb dX10_packed_31 ?_
      refine lv_topl (fun w87 ew87 => ?_)
      have tw87 := nl_mulc (32) ew87 (by omega) (by omega) (by omega)
      refine lv_iload_n hx hb dX10_packed_32 rfl (lv_at hl_22 0 rfl) ?_
      obtain ⟨w88, ew88⟩ : ∃ y : Int64, a2.toInt64 = y := ⟨_, rfl⟩
      refine lv_i2l hx hb dX10_packed_33 ew88 ?_
      have tw88 : w88.toInt = a2.toInt := by rw [← ew88]; exact Int32.toInt_toInt64 a2
      refine lv_ladd hx hb dX10_packed_34 ?_
      refine lv_topl (fun w89 ew89 => ?_)
      have tw89 := nl_add ew89 (by omega) (by omega)
      refine lv_ldc2 (v := (96)) hx hb Z.1.2.2.2.1 (hts _ (List.mem_of_getElem? (i := 2) rfl)) dX10_packed_35 ?_
      refine lv_topl (fun w90 ew90 => ?_)
      have tw90 : w90.toInt = 96 := by rw [ew90]; decide +kernel
      refine lv_lsub hx hb dX10_packed_38 ?_
      refine lv_topl (fun w91 ew91 => ?_)
      have tw91 := nl_sub ew91 (by omega) (by omega)
      refine lv_lstore (lv' := [(7, .long w91), (2, .int a2), (3, .int a3), (4, .int a4), (5, .int a5), (6, .int a6)]) hx hb dX10_packed_39 hl_22 (by decide) rfl (fun l92 hl93 => ?_)
      exact J41 w91 H_22 k_22 l92 S_22 (by omega) (by omega) (by omega) (by omega) (by omega) (by omega) (by omega) (by omega) (by omega) (by omega) (by rw [pk1_y (by omega), ← z84]; omega) (lv_sub hl93 [2, 3, 4, 5, 0] rfl)
  refine lv_lconst (v := 0) hx hb dX10_packed_0 (by decide +kernel) ?_
  refine lv_topl (fun w94 ew94 => ?_)
  have tw94 : w94.toInt = 0 := by rw [ew94]; decide +kernel
  refine lv_lstore (lv' := [(7, .long w94), (0, .ref a0), (1, .int a1), (2, .int a2), (3, .int a3), (4, .int a4), (5, .int a5), (6, .int a6)]) hx hb dX10_packed_1 hl (by decide) rfl (fun l95 hl96 => ?_)
  refine lv_iload_n hx hb dX10_packed_3 rfl (lv_at hl96 2 rfl) ?_
  refine lv_if_le (tgt := 22) hx hb dX10_packed_4 (by decide) (fun c97 => ?_) (fun c97 => ?_)
  · skip
    have tc97 := nu_le c97
    have uc97 : (0 : Int32).toInt = 0 := rfl
    exact J22 w94 s.heap [] l95 S0 (by omega) (by omega) (by omega) (by omega) (by omega) (by omega) (by omega) (by omega) (by omega) (by omega) (by omega) (by omega) (by rw [pk1_n (by omega)]; omega) (lv_sub hl96 [3, 4, 5, 6, 7, 0] rfl)
  · skip
    have tc97 := nu_nle c97
    have uc97 : (0 : Int32).toInt = 0 := rfl
    refine lv_lload hx hb dX10_packed_7 (lv_at hl96 0 rfl) ?_
    refine lv_ldc2 (v := (32)) hx hb Z.1.2.2.2.1 (hts _ (List.mem_of_getElem? (i := 1) rfl)) dX10_packed_9 ?_
    refine lv_topl (fun w98 ew98 => ?_)
    have tw98 : w98.toInt = 32 := by rw [ew98]; decide +kernel
    refine lv_lmul hx hb dX10_packed_12 ?_
    refine lv_topl (fun w99 ew99 => ?_)
    have tw99 := nl_mulc (32) ew99 (by omega) (by omega) (by omega)
    refine lv_iload_n hx hb dX10_packed_13 rfl (lv_at hl96 2 rfl) ?_
    obtain ⟨w100, ew100⟩ : ∃ y : Int64, a1.toInt64 = y := ⟨_, rfl⟩
    refine lv_i2l hx hb dX10_packed_14 ew100 ?_
    have tw100 : w100.toInt = a1.toInt := by rw [← ew100]; exact Int32.toInt_toInt64 a1
    refine lv_ladd hx hb dX10_packed_15 ?_
    refine lv_topl (fun w101 ew101 => ?_)
    have tw101 := nl_add ew101 (by omega) (by omega)
    refine lv_ldc2 (v := (96)) hx hb Z.1.2.2.2.1 (hts _ (List.mem_of_getElem? (i := 2) rfl)) dX10_packed_16 ?_
    refine lv_topl (fun w102 ew102 => ?_)
    have tw102 : w102.toInt = 96 := by rw [ew102]; decide +kernel
    refine lv_lsub hx hb dX10_packed_19 ?_
    refine lv_topl (fun w103 ew103 => ?_)
    have tw103 := nl_sub ew103 (by omega) (by omega)
    refine lv_lstore (lv' := [(7, .long w103), (0, .ref a0), (1, .int a1), (2, .int a2), (3, .int a3), (4, .int a4), (5, .int a5), (6, .int a6)]) hx hb dX10_packed_20 hl96 (by decide) rfl (fun l104 hl105 => ?_)
    exact J22 w103 s.heap [] l104 S0 (by omega) (by omega) (by omega) (by omega) (by omega) (by omega) (by omega) (by omega) (by omega) (by omega) (by omega) (by omega) (by rw [pk1_y (by omega)]; omega) (lv_sub hl105 [3, 4, 5, 6, 7, 0] rfl)

set_option maxHeartbeats 4000000 in
set_option maxRecDepth 100000 in
theorem k_X10_nameOf_vr (l : Launch) (D : va_G) (cy : Nat → ClassId) {L : List Nat} {τ : Nat → Ro} {E : Ec} (hI : Inv TB cy L τ E) {a0 : Nat} (ha0 : a0 ∈ L) (ta0 : τ a0 = (11, 0)) (a1 : Int64) : CtI l yX10_nameOf wsX10_nameOf { frames := 1, cells := 0, slots := 0, locals := 28 } D TB cy L τ E [.ref a0, .long a1] (inW []) (fun r E' => E' = E ∧ (r.toInt = nmV a1.toInt) ∧ -1 ≤ r.toInt ∧ r.toInt ≤ 7) := by
  intro sz
  refine sta (cc := cX10_nameOf) (maxL := 3) hI (by decide) rfl (Nat.le_of_ble_eq_true rfl) (fun p e s m args below meth c ls hsz Z S0 hl => ?_)
  have hx := Z.1.1
  have hb := Z.1.2.1
  have hts := Z.1.2.2.2.2
  have F0_ : Fr L τ (inW []) E E := Fr.refl
  have hl : lv_has ls 3 [(0, .ref a0), (1, .long a1)] := hl
  generalize hQ : MQ below _ args s 0 0 _ = QQ
  refine lv_lload_n hx hb dX10_nameOf_0 rfl (lv_at hl 1 rfl) ?_
  refine lv_aload_n hx hb dX10_nameOf_1 rfl (lv_at hl 0 rfl) ?_
  obtain ⟨v1, ev1, tv1⟩ : ∃ v : Int32, (Int8.ofInt (114)).toInt32 = v ∧ v.toInt = 114 := ⟨_, rfl, by decide +kernel⟩
  refine lv_bipush hx hb dX10_nameOf_2 ev1 ?_
  obtain ⟨v2, ev2, tv2⟩ : ∃ v : Int32, (Int8.ofInt (105)).toInt32 = v ∧ v.toInt = 105 := ⟨_, rfl, by decide +kernel⟩
  refine lv_bipush hx hb dX10_nameOf_4 ev2 ?_
  obtain ⟨v3, ev3, tv3⟩ : ∃ v : Int32, (Int8.ofInt (115)).toInt32 = v ∧ v.toInt = 115 := ⟨_, rfl, by decide +kernel⟩
  refine lv_bipush hx hb dX10_nameOf_6 ev3 ?_
  obtain ⟨v4, ev4, tv4⟩ : ∃ v : Int32, (Int8.ofInt (101)).toInt32 = v ∧ v.toInt = 101 := ⟨_, rfl, by decide +kernel⟩
  refine lv_bipush hx hb dX10_nameOf_8 ev4 ?_
  obtain ⟨v5, ev5, tv5⟩ : ∃ v : Int32, (Int8.ofInt (114)).toInt32 = v ∧ v.toInt = 114 := ⟨_, rfl, by decide +kernel⟩
  refine lv_bipush hx hb dX10_nameOf_10 ev5 ?_
  obtain ⟨v6, ev6, tv6⟩ : ∃ v : Int32, Int32.ofInt (0) = v ∧ v.toInt = 0 := ⟨_, rfl, by decide +kernel⟩
  refine lv_iconst hx hb dX10_nameOf_12 ev6 ?_
  refine tc_vl Z.1 Z.2.2.2.1 Z.2.2.2.2.1 Z.2.2.2.2.2 S0.1 S0.2 ha0 ta0 rfl rfl (k_X10_packed_vr l D cy S0.2 ha0 ta0 v1 (by omega) (by omega) v2 (by omega) (by omega) v3 (by omega) (by omega) v4 (by omega) (by omega) v5 (by omega) (by omega) v6 (by omega) (by omega) (by omega) (by omega) (by omega) (by omega) (by omega) (by omega)) (cwV 6 hts gX10_nameOf_X10_packed rfl rfl rfl (by decide +kernel) ⟨Nat.le_of_ble_eq_true rfl, Nat.le_of_ble_eq_true rfl⟩) rfl hl.1 rfl (Nat.le_of_ble_eq_true rfl) dX10_nameOf_13 ⟨Nat.zero_le _, Nat.zero_le _⟩ (fun v10 E7 H8 k9 W7 I7 G7 p7 => ?_)
  obtain ⟨q7, p7_0⟩ := p7
  have q7 := q7.symm
  subst q7
  have S7 : Now D TB cy (va_A (va_pl L E) sz) s L τ E H8 k9 := ⟨W7, I7⟩
  have n13 : v10.toInt = wV 0 := by have q := p7_0; rw [tv1, tv2, tv3, tv4, tv5, tv6] at q; exact q.trans (by decide +kernel)
  refine W.lcmp hx hb dX10_nameOf_16 ?_
  refine lv_topi (fun v11 ev11 => ?_)
  have tv11 := nl_cmp ev11
  refine lv_if_ne (tgt := 22) hx hb dX10_nameOf_17 (by decide) (fun c12 => ?_) (fun c12 => ?_)
  · skip
    have tc12 := nu_ne c12
    have uc12 : (0 : Int32).toInt = 0 := rfl
    refine lv_lload_n hx hb dX10_nameOf_22 rfl (lv_at hl 1 rfl) ?_
    refine lv_aload_n hx hb dX10_nameOf_23 rfl (lv_at hl 0 rfl) ?_
    obtain ⟨v13, ev13, tv13⟩ : ∃ v : Int32, (Int8.ofInt (103)).toInt32 = v ∧ v.toInt = 103 := ⟨_, rfl, by decide +kernel⟩
    refine lv_bipush hx hb dX10_nameOf_24 ev13 ?_
    obtain ⟨v14, ev14, tv14⟩ : ∃ v : Int32, (Int8.ofInt (111)).toInt32 = v ∧ v.toInt = 111 := ⟨_, rfl, by decide +kernel⟩
    refine lv_bipush hx hb dX10_nameOf_26 ev14 ?_
    obtain ⟨v15, ev15, tv15⟩ : ∃ v : Int32, (Int8.ofInt (105)).toInt32 = v ∧ v.toInt = 105 := ⟨_, rfl, by decide +kernel⟩
    refine lv_bipush hx hb dX10_nameOf_28 ev15 ?_
    obtain ⟨v16, ev16, tv16⟩ : ∃ v : Int32, (Int8.ofInt (110)).toInt32 = v ∧ v.toInt = 110 := ⟨_, rfl, by decide +kernel⟩
    refine lv_bipush hx hb dX10_nameOf_30 ev16 ?_
    obtain ⟨v17, ev17, tv17⟩ : ∃ v : Int32, (Int8.ofInt (103)).toInt32 = v ∧ v.toInt = 103 := ⟨_, rfl, by decide +kernel⟩
    refine lv_bipush hx hb dX10_nameOf_32 ev17 ?_
    obtain ⟨v18, ev18, tv18⟩ : ∃ v : Int32, Int32.ofInt (0) = v ∧ v.toInt = 0 := ⟨_, rfl, by decide +kernel⟩
    refine lv_iconst hx hb dX10_nameOf_34 ev18 ?_
    refine tc_vl Z.1 Z.2.2.2.1 Z.2.2.2.2.1 Z.2.2.2.2.2 S7.1 S7.2 ha0 ta0 rfl rfl (k_X10_packed_vr l D cy S7.2 ha0 ta0 v13 (by omega) (by omega) v14 (by omega) (by omega) v15 (by omega) (by omega) v16 (by omega) (by omega) v17 (by omega) (by omega) v18 (by omega) (by omega) (by omega) (by omega) (by omega) (by omega) (by omega) (by omega)) (cwV 6 hts gX10_nameOf_X10_packed rfl rfl rfl (by decide +kernel) ⟨Nat.le_of_ble_eq_true rfl, Nat.le_of_ble_eq_true rfl⟩) rfl hl.1 rfl (Nat.le_of_ble_eq_true rfl) dX10_nameOf_35 ⟨Nat.zero_le _, Nat.zero_le _⟩ (fun v22 E19 H20 k21 W19 I19 G19 p19 => ?_)
    obtain ⟨q19, p19_0⟩ := p19
    have q19 := q19.symm
    subst q19
    have S19 : Now D TB cy (va_A (va_pl L E) sz) s L τ E H20 k21 := ⟨W19, I19⟩
    have n35 : v22.toInt = wV 1 := by have q := p19_0; rw [tv13, tv14, tv15, tv16, tv17, tv18] at q; exact q.trans (by decide +kernel)
    refine W.lcmp hx hb dX10_nameOf_38 ?_
    refine lv_topi (fun v23 ev23 => ?_)
    have tv23 := nl_cmp ev23
    refine lv_if_ne (tgt := 44) hx hb dX10_nameOf_39 (by decide) (fun c24 => ?_) (fun c24 => ?_)
    · skip
      have tc24 := nu_ne c24
      have uc24 : (0 : Int32).toInt = 0 := rfl
      refine lv_lload_n hx hb dX10_nameOf_44 rfl (lv_at hl 1 rfl) ?_
      refine lv_aload_n hx hb dX10_nameOf_45 rfl (lv_at hl 0 rfl) ?_
      obtain ⟨v25, ev25, tv25⟩ : ∃ v : Int32, (Int8.ofInt (110)).toInt32 = v ∧ v.toInt = 110 := ⟨_, rfl, by decide +kernel⟩
      refine lv_bipush hx hb dX10_nameOf_46 ev25 ?_
      obtain ⟨v26, ev26, tv26⟩ : ∃ v : Int32, (Int8.ofInt (97)).toInt32 = v ∧ v.toInt = 97 := ⟨_, rfl, by decide +kernel⟩
      refine lv_bipush hx hb dX10_nameOf_48 ev26 ?_
      obtain ⟨v27, ev27, tv27⟩ : ∃ v : Int32, (Int8.ofInt (114)).toInt32 = v ∧ v.toInt = 114 := ⟨_, rfl, by decide +kernel⟩
      refine lv_bipush hx hb dX10_nameOf_50 ev27 ?_
      obtain ⟨v28, ev28, tv28⟩ : ∃ v : Int32, (Int8.ofInt (114)).toInt32 = v ∧ v.toInt = 114 := ⟨_, rfl, by decide +kernel⟩
      refine lv_bipush hx hb dX10_nameOf_52 ev28 ?_
      obtain ⟨v29, ev29, tv29⟩ : ∃ v : Int32, (Int8.ofInt (111)).toInt32 = v ∧ v.toInt = 111 := ⟨_, rfl, by decide +kernel⟩
      refine lv_bipush hx hb dX10_nameOf_54 ev29 ?_
      obtain ⟨v30, ev30, tv30⟩ : ∃ v : Int32, (Int8.ofInt (119)).toInt32 = v ∧ v.toInt = 119 := ⟨_, rfl, by decide +kernel⟩
      refine lv_bipush hx hb dX10_nameOf_56 ev30 ?_
      refine tc_vl Z.1 Z.2.2.2.1 Z.2.2.2.2.1 Z.2.2.2.2.2 S19.1 S19.2 ha0 ta0 rfl rfl (k_X10_packed_vr l D cy S19.2 ha0 ta0 v25 (by omega) (by omega) v26 (by omega) (by omega) v27 (by omega) (by omega) v28 (by omega) (by omega) v29 (by omega) (by omega) v30 (by omega) (by omega) (by omega) (by omega) (by omega) (by omega) (by omega) (by omega)) (cwV 6 hts gX10_nameOf_X10_packed rfl rfl rfl (by decide +kernel) ⟨Nat.le_of_ble_eq_true rfl, Nat.le_of_ble_eq_true rfl⟩) rfl hl.1 rfl (Nat.le_of_ble_eq_true rfl) dX10_nameOf_58 ⟨Nat.zero_le _, Nat.zero_le _⟩ (fun v34 E31 H32 k33 W31 I31 G31 p31 => ?_)
      obtain ⟨q31, p31_0⟩ := p31
      have q31 := q31.symm
      subst q31
      have S31 : Now D TB cy (va_A (va_pl L E) sz) s L τ E H32 k33 := ⟨W31, I31⟩
      have n58 : v34.toInt = wV 2 := by have q := p31_0; rw [tv25, tv26, tv27, tv28, tv29, tv30] at q; exact q.trans (by decide +kernel)
      refine W.lcmp hx hb dX10_nameOf_61 ?_
      refine lv_topi (fun v35 ev35 => ?_)
      have tv35 := nl_cmp ev35
      refine lv_if_ne (tgt := 67) hx hb dX10_nameOf_62 (by decide) (fun c36 => ?_) (fun c36 => ?_)
      · skip
        have tc36 := nu_ne c36
        have uc36 : (0 : Int32).toInt = 0 := rfl
        refine lv_lload_n hx hb dX10_nameOf_67 rfl (lv_at hl 1 rfl) ?_
        refine lv_aload_n hx hb dX10_nameOf_68 rfl (lv_at hl 0 rfl) ?_
        obtain ⟨v37, ev37, tv37⟩ : ∃ v : Int32, (Int8.ofInt (104)).toInt32 = v ∧ v.toInt = 104 := ⟨_, rfl, by decide +kernel⟩
        refine lv_bipush hx hb dX10_nameOf_69 ev37 ?_
        obtain ⟨v38, ev38, tv38⟩ : ∃ v : Int32, (Int8.ofInt (101)).toInt32 = v ∧ v.toInt = 101 := ⟨_, rfl, by decide +kernel⟩
        refine lv_bipush hx hb dX10_nameOf_71 ev38 ?_
        obtain ⟨v39, ev39, tv39⟩ : ∃ v : Int32, (Int8.ofInt (97)).toInt32 = v ∧ v.toInt = 97 := ⟨_, rfl, by decide +kernel⟩
        refine lv_bipush hx hb dX10_nameOf_73 ev39 ?_
        obtain ⟨v40, ev40, tv40⟩ : ∃ v : Int32, (Int8.ofInt (100)).toInt32 = v ∧ v.toInt = 100 := ⟨_, rfl, by decide +kernel⟩
        refine lv_bipush hx hb dX10_nameOf_75 ev40 ?_
        obtain ⟨v41, ev41, tv41⟩ : ∃ v : Int32, Int32.ofInt (0) = v ∧ v.toInt = 0 := ⟨_, rfl, by decide +kernel⟩
        refine lv_iconst hx hb dX10_nameOf_77 ev41 ?_
        obtain ⟨v42, ev42, tv42⟩ : ∃ v : Int32, Int32.ofInt (0) = v ∧ v.toInt = 0 := ⟨_, rfl, by decide +kernel⟩
        refine lv_iconst hx hb dX10_nameOf_78 ev42 ?_
        refine tc_vl Z.1 Z.2.2.2.1 Z.2.2.2.2.1 Z.2.2.2.2.2 S31.1 S31.2 ha0 ta0 rfl rfl (k_X10_packed_vr l D cy S31.2 ha0 ta0 v37 (by omega) (by omega) v38 (by omega) (by omega) v39 (by omega) (by omega) v40 (by omega) (by omega) v41 (by omega) (by omega) v42 (by omega) (by omega) (by omega) (by omega) (by omega) (by omega) (by omega) (by omega)) (cwV 6 hts gX10_nameOf_X10_packed rfl rfl rfl (by decide +kernel) ⟨Nat.le_of_ble_eq_true rfl, Nat.le_of_ble_eq_true rfl⟩) rfl hl.1 rfl (Nat.le_of_ble_eq_true rfl) dX10_nameOf_79 ⟨Nat.zero_le _, Nat.zero_le _⟩ (fun v46 E43 H44 k45 W43 I43 G43 p43 => ?_)
        obtain ⟨q43, p43_0⟩ := p43
        have q43 := q43.symm
        subst q43
        have S43 : Now D TB cy (va_A (va_pl L E) sz) s L τ E H44 k45 := ⟨W43, I43⟩
        have n79 : v46.toInt = wV 3 := by have q := p43_0; rw [tv37, tv38, tv39, tv40, tv41, tv42] at q; exact q.trans (by decide +kernel)
        refine W.lcmp hx hb dX10_nameOf_82 ?_
        refine lv_topi (fun v47 ev47 => ?_)
        have tv47 := nl_cmp ev47
        refine lv_if_ne (tgt := 88) hx hb dX10_nameOf_83 (by decide) (fun c48 => ?_) (fun c48 => ?_)
        · skip
          have tc48 := nu_ne c48
          have uc48 : (0 : Int32).toInt = 0 := rfl
          refine lv_lload_n hx hb dX10_nameOf_88 rfl (lv_at hl 1 rfl) ?_
          refine lv_aload_n hx hb dX10_nameOf_89 rfl (lv_at hl 0 rfl) ?_
          obtain ⟨v49, ev49, tv49⟩ : ∃ v : Int32, (Int8.ofInt (119)).toInt32 = v ∧ v.toInt = 119 := ⟨_, rfl, by decide +kernel⟩
          refine lv_bipush hx hb dX10_nameOf_90 ev49 ?_
          obtain ⟨v50, ev50, tv50⟩ : ∃ v : Int32, (Int8.ofInt (105)).toInt32 = v ∧ v.toInt = 105 := ⟨_, rfl, by decide +kernel⟩
          refine lv_bipush hx hb dX10_nameOf_92 ev50 ?_
          obtain ⟨v51, ev51, tv51⟩ : ∃ v : Int32, (Int8.ofInt (100)).toInt32 = v ∧ v.toInt = 100 := ⟨_, rfl, by decide +kernel⟩
          refine lv_bipush hx hb dX10_nameOf_94 ev51 ?_
          obtain ⟨v52, ev52, tv52⟩ : ∃ v : Int32, (Int8.ofInt (101)).toInt32 = v ∧ v.toInt = 101 := ⟨_, rfl, by decide +kernel⟩
          refine lv_bipush hx hb dX10_nameOf_96 ev52 ?_
          obtain ⟨v53, ev53, tv53⟩ : ∃ v : Int32, Int32.ofInt (0) = v ∧ v.toInt = 0 := ⟨_, rfl, by decide +kernel⟩
          refine lv_iconst hx hb dX10_nameOf_98 ev53 ?_
          obtain ⟨v54, ev54, tv54⟩ : ∃ v : Int32, Int32.ofInt (0) = v ∧ v.toInt = 0 := ⟨_, rfl, by decide +kernel⟩
          refine lv_iconst hx hb dX10_nameOf_99 ev54 ?_
          refine tc_vl Z.1 Z.2.2.2.1 Z.2.2.2.2.1 Z.2.2.2.2.2 S43.1 S43.2 ha0 ta0 rfl rfl (k_X10_packed_vr l D cy S43.2 ha0 ta0 v49 (by omega) (by omega) v50 (by omega) (by omega) v51 (by omega) (by omega) v52 (by omega) (by omega) v53 (by omega) (by omega) v54 (by omega) (by omega) (by omega) (by omega) (by omega) (by omega) (by omega) (by omega)) (cwV 6 hts gX10_nameOf_X10_packed rfl rfl rfl (by decide +kernel) ⟨Nat.le_of_ble_eq_true rfl, Nat.le_of_ble_eq_true rfl⟩) rfl hl.1 rfl (Nat.le_of_ble_eq_true rfl) dX10_nameOf_100 ⟨Nat.zero_le _, Nat.zero_le _⟩ (fun v58 E55 H56 k57 W55 I55 G55 p55 => ?_)
          obtain ⟨q55, p55_0⟩ := p55
          have q55 := q55.symm
          subst q55
          have S55 : Now D TB cy (va_A (va_pl L E) sz) s L τ E H56 k57 := ⟨W55, I55⟩
          have n100 : v58.toInt = wV 4 := by have q := p55_0; rw [tv49, tv50, tv51, tv52, tv53, tv54] at q; exact q.trans (by decide +kernel)
          refine W.lcmp hx hb dX10_nameOf_103 ?_
          refine lv_topi (fun v59 ev59 => ?_)
          have tv59 := nl_cmp ev59
          refine lv_if_ne (tgt := 109) hx hb dX10_nameOf_104 (by decide) (fun c60 => ?_) (fun c60 => ?_)
          · skip
            have tc60 := nu_ne c60
            have uc60 : (0 : Int32).toInt = 0 := rfl
            refine lv_lload_n hx hb dX10_nameOf_109 rfl (lv_at hl 1 rfl) ?_
            refine lv_aload_n hx hb dX10_nameOf_110 rfl (lv_at hl 0 rfl) ?_
            obtain ⟨v61, ev61, tv61⟩ : ∃ v : Int32, (Int8.ofInt (99)).toInt32 = v ∧ v.toInt = 99 := ⟨_, rfl, by decide +kernel⟩
            refine lv_bipush hx hb dX10_nameOf_111 ev61 ?_
            obtain ⟨v62, ev62, tv62⟩ : ∃ v : Int32, (Int8.ofInt (111)).toInt32 = v ∧ v.toInt = 111 := ⟨_, rfl, by decide +kernel⟩
            refine lv_bipush hx hb dX10_nameOf_113 ev62 ?_
            obtain ⟨v63, ev63, tv63⟩ : ∃ v : Int32, (Int8.ofInt (117)).toInt32 = v ∧ v.toInt = 117 := ⟨_, rfl, by decide +kernel⟩
            refine lv_bipush hx hb dX10_nameOf_115 ev63 ?_
            obtain ⟨v64, ev64, tv64⟩ : ∃ v : Int32, (Int8.ofInt (110)).toInt32 = v ∧ v.toInt = 110 := ⟨_, rfl, by decide +kernel⟩
            refine lv_bipush hx hb dX10_nameOf_117 ev64 ?_
            obtain ⟨v65, ev65, tv65⟩ : ∃ v : Int32, (Int8.ofInt (116)).toInt32 = v ∧ v.toInt = 116 := ⟨_, rfl, by decide +kernel⟩
            refine lv_bipush hx hb dX10_nameOf_119 ev65 ?_
            obtain ⟨v66, ev66, tv66⟩ : ∃ v : Int32, Int32.ofInt (0) = v ∧ v.toInt = 0 := ⟨_, rfl, by decide +kernel⟩
            refine lv_iconst hx hb dX10_nameOf_121 ev66 ?_
            refine tc_vl Z.1 Z.2.2.2.1 Z.2.2.2.2.1 Z.2.2.2.2.2 S55.1 S55.2 ha0 ta0 rfl rfl (k_X10_packed_vr l D cy S55.2 ha0 ta0 v61 (by omega) (by omega) v62 (by omega) (by omega) v63 (by omega) (by omega) v64 (by omega) (by omega) v65 (by omega) (by omega) v66 (by omega) (by omega) (by omega) (by omega) (by omega) (by omega) (by omega) (by omega)) (cwV 6 hts gX10_nameOf_X10_packed rfl rfl rfl (by decide +kernel) ⟨Nat.le_of_ble_eq_true rfl, Nat.le_of_ble_eq_true rfl⟩) rfl hl.1 rfl (Nat.le_of_ble_eq_true rfl) dX10_nameOf_122 ⟨Nat.zero_le _, Nat.zero_le _⟩ (fun v70 E67 H68 k69 W67 I67 G67 p67 => ?_)
            obtain ⟨q67, p67_0⟩ := p67
            have q67 := q67.symm
            subst q67
            have S67 : Now D TB cy (va_A (va_pl L E) sz) s L τ E H68 k69 := ⟨W67, I67⟩
            have n122 : v70.toInt = wV 5 := by have q := p67_0; rw [tv61, tv62, tv63, tv64, tv65, tv66] at q; exact q.trans (by decide +kernel)
            refine W.lcmp hx hb dX10_nameOf_125 ?_
            refine lv_topi (fun v71 ev71 => ?_)
            have tv71 := nl_cmp ev71
            refine lv_if_ne (tgt := 131) hx hb dX10_nameOf_126 (by decide) (fun c72 => ?_) (fun c72 => ?_)
            · skip
              have tc72 := nu_ne c72
              have uc72 : (0 : Int32).toInt = 0 := rfl
              refine lv_lload_n hx hb dX10_nameOf_131 rfl (lv_at hl 1 rfl) ?_
              refine lv_aload_n hx hb dX10_nameOf_132 rfl (lv_at hl 0 rfl) ?_
              obtain ⟨v73, ev73, tv73⟩ : ∃ v : Int32, (Int8.ofInt (110)).toInt32 = v ∧ v.toInt = 110 := ⟨_, rfl, by decide +kernel⟩
              refine lv_bipush hx hb dX10_nameOf_133 ev73 ?_
              obtain ⟨v74, ev74, tv74⟩ : ∃ v : Int32, (Int8.ofInt (117)).toInt32 = v ∧ v.toInt = 117 := ⟨_, rfl, by decide +kernel⟩
              refine lv_bipush hx hb dX10_nameOf_135 ev74 ?_
              obtain ⟨v75, ev75, tv75⟩ : ∃ v : Int32, (Int8.ofInt (109)).toInt32 = v ∧ v.toInt = 109 := ⟨_, rfl, by decide +kernel⟩
              refine lv_bipush hx hb dX10_nameOf_137 ev75 ?_
              obtain ⟨v76, ev76, tv76⟩ : ∃ v : Int32, (Int8.ofInt (98)).toInt32 = v ∧ v.toInt = 98 := ⟨_, rfl, by decide +kernel⟩
              refine lv_bipush hx hb dX10_nameOf_139 ev76 ?_
              obtain ⟨v77, ev77, tv77⟩ : ∃ v : Int32, (Int8.ofInt (101)).toInt32 = v ∧ v.toInt = 101 := ⟨_, rfl, by decide +kernel⟩
              refine lv_bipush hx hb dX10_nameOf_141 ev77 ?_
              obtain ⟨v78, ev78, tv78⟩ : ∃ v : Int32, (Int8.ofInt (114)).toInt32 = v ∧ v.toInt = 114 := ⟨_, rfl, by decide +kernel⟩
              refine lv_bipush hx hb dX10_nameOf_143 ev78 ?_
              refine tc_vl Z.1 Z.2.2.2.1 Z.2.2.2.2.1 Z.2.2.2.2.2 S67.1 S67.2 ha0 ta0 rfl rfl (k_X10_packed_vr l D cy S67.2 ha0 ta0 v73 (by omega) (by omega) v74 (by omega) (by omega) v75 (by omega) (by omega) v76 (by omega) (by omega) v77 (by omega) (by omega) v78 (by omega) (by omega) (by omega) (by omega) (by omega) (by omega) (by omega) (by omega)) (cwV 6 hts gX10_nameOf_X10_packed rfl rfl rfl (by decide +kernel) ⟨Nat.le_of_ble_eq_true rfl, Nat.le_of_ble_eq_true rfl⟩) rfl hl.1 rfl (Nat.le_of_ble_eq_true rfl) dX10_nameOf_145 ⟨Nat.zero_le _, Nat.zero_le _⟩ (fun v82 E79 H80 k81 W79 I79 G79 p79 => ?_)
              obtain ⟨q79, p79_0⟩ := p79
              have q79 := q79.symm
              subst q79
              have S79 : Now D TB cy (va_A (va_pl L E) sz) s L τ E H80 k81 := ⟨W79, I79⟩
              have n145 : v82.toInt = wV 6 := by have q := p79_0; rw [tv73, tv74, tv75, tv76, tv77, tv78] at q; exact q.trans (by decide +kernel)
              refine W.lcmp hx hb dX10_nameOf_148 ?_
              refine lv_topi (fun v83 ev83 => ?_)
              have tv83 := nl_cmp ev83
              refine lv_if_ne (tgt := 155) hx hb dX10_nameOf_149 (by decide) (fun c84 => ?_) (fun c84 => ?_)
              · skip
                have tc84 := nu_ne c84
                have uc84 : (0 : Int32).toInt = 0 := rfl
                refine lv_lload_n hx hb dX10_nameOf_155 rfl (lv_at hl 1 rfl) ?_
                refine lv_aload_n hx hb dX10_nameOf_156 rfl (lv_at hl 0 rfl) ?_
                obtain ⟨v85, ev85, tv85⟩ : ∃ v : Int32, (Int8.ofInt (107)).toInt32 = v ∧ v.toInt = 107 := ⟨_, rfl, by decide +kernel⟩
                refine lv_bipush hx hb dX10_nameOf_157 ev85 ?_
                obtain ⟨v86, ev86, tv86⟩ : ∃ v : Int32, (Int8.ofInt (105)).toInt32 = v ∧ v.toInt = 105 := ⟨_, rfl, by decide +kernel⟩
                refine lv_bipush hx hb dX10_nameOf_159 ev86 ?_
                obtain ⟨v87, ev87, tv87⟩ : ∃ v : Int32, (Int8.ofInt (110)).toInt32 = v ∧ v.toInt = 110 := ⟨_, rfl, by decide +kernel⟩
                refine lv_bipush hx hb dX10_nameOf_161 ev87 ?_
                obtain ⟨v88, ev88, tv88⟩ : ∃ v : Int32, (Int8.ofInt (100)).toInt32 = v ∧ v.toInt = 100 := ⟨_, rfl, by decide +kernel⟩
                refine lv_bipush hx hb dX10_nameOf_163 ev88 ?_
                obtain ⟨v89, ev89, tv89⟩ : ∃ v : Int32, Int32.ofInt (0) = v ∧ v.toInt = 0 := ⟨_, rfl, by decide +kernel⟩
                refine lv_iconst hx hb dX10_nameOf_165 ev89 ?_
                obtain ⟨v90, ev90, tv90⟩ : ∃ v : Int32, Int32.ofInt (0) = v ∧ v.toInt = 0 := ⟨_, rfl, by decide +kernel⟩
                refine lv_iconst hx hb dX10_nameOf_166 ev90 ?_
                refine tc_vl Z.1 Z.2.2.2.1 Z.2.2.2.2.1 Z.2.2.2.2.2 S79.1 S79.2 ha0 ta0 rfl rfl (k_X10_packed_vr l D cy S79.2 ha0 ta0 v85 (by omega) (by omega) v86 (by omega) (by omega) v87 (by omega) (by omega) v88 (by omega) (by omega) v89 (by omega) (by omega) v90 (by omega) (by omega) (by omega) (by omega) (by omega) (by omega) (by omega) (by omega)) (cwV 6 hts gX10_nameOf_X10_packed rfl rfl rfl (by decide +kernel) ⟨Nat.le_of_ble_eq_true rfl, Nat.le_of_ble_eq_true rfl⟩) rfl hl.1 rfl (Nat.le_of_ble_eq_true rfl) dX10_nameOf_167 ⟨Nat.zero_le _, Nat.zero_le _⟩ (fun v94 E91 H92 k93 W91 I91 G91 p91 => ?_)
                obtain ⟨q91, p91_0⟩ := p91
                have q91 := q91.symm
                subst q91
                have S91 : Now D TB cy (va_A (va_pl L E) sz) s L τ E H92 k93 := ⟨W91, I91⟩
                have n167 : v94.toInt = wV 7 := by have q := p91_0; rw [tv85, tv86, tv87, tv88, tv89, tv90] at q; exact q.trans (by decide +kernel)
                refine W.lcmp hx hb dX10_nameOf_170 ?_
                refine lv_topi (fun v95 ev95 => ?_)
                have tv95 := nl_cmp ev95
                refine lv_if_ne (tgt := 179) hx hb dX10_nameOf_171 (by decide) (fun c96 => ?_) (fun c96 => ?_)
                · skip
                  have tc96 := nu_ne c96
                  have uc96 : (0 : Int32).toInt = 0 := rfl
                  obtain ⟨v97, ev97, tv97⟩ : ∃ v : Int32, Int32.ofInt (-1) = v ∧ v.toInt = -1 := ⟨_, rfl, by decide +kernel⟩
                  refine lv_iconst hx hb dX10_nameOf_179 ev97 ?_
                  rw [← hQ]
                  exact en_i Z S91 F0_ ⟨rfl, (by unfold nmV; rw [if_neg (by omega), if_neg (by omega), if_neg (by omega), if_neg (by omega), if_neg (by omega), if_neg (by omega), if_neg (by omega), if_neg (by omega)]; omega), (by omega), (by omega)⟩ dX10_nameOf_180
                · skip
                  have tc96 := nu_eq c96
                  have uc96 : (0 : Int32).toInt = 0 := rfl
                  obtain ⟨v98, ev98, tv98⟩ : ∃ v : Int32, (Int8.ofInt (7)).toInt32 = v ∧ v.toInt = 7 := ⟨_, rfl, by decide +kernel⟩
                  refine lv_bipush hx hb dX10_nameOf_174 ev98 ?_
                  refine lv_goto (tgt := 180) hx hb dX10_nameOf_176 (by decide) ?_
                  rw [← hQ]
                  exact en_i Z S91 F0_ ⟨rfl, (by unfold nmV; rw [if_neg (by omega), if_neg (by omega), if_neg (by omega), if_neg (by omega), if_neg (by omega), if_neg (by omega), if_neg (by omega), if_pos (by omega)]; omega), (by omega), (by omega)⟩ dX10_nameOf_180
              · skip
                have tc84 := nu_eq c84
                have uc84 : (0 : Int32).toInt = 0 := rfl
                obtain ⟨v99, ev99, tv99⟩ : ∃ v : Int32, (Int8.ofInt (6)).toInt32 = v ∧ v.toInt = 6 := ⟨_, rfl, by decide +kernel⟩
                refine lv_bipush hx hb dX10_nameOf_152 ev99 ?_
                rw [← hQ]
                exact en_i Z S79 F0_ ⟨rfl, (by unfold nmV; rw [if_neg (by omega), if_neg (by omega), if_neg (by omega), if_neg (by omega), if_neg (by omega), if_neg (by omega), if_pos (by omega)]; omega), (by omega), (by omega)⟩ dX10_nameOf_154
            · skip
              have tc72 := nu_eq c72
              have uc72 : (0 : Int32).toInt = 0 := rfl
              obtain ⟨v100, ev100, tv100⟩ : ∃ v : Int32, Int32.ofInt (5) = v ∧ v.toInt = 5 := ⟨_, rfl, by decide +kernel⟩
              refine lv_iconst hx hb dX10_nameOf_129 ev100 ?_
              rw [← hQ]
              exact en_i Z S67 F0_ ⟨rfl, (by unfold nmV; rw [if_neg (by omega), if_neg (by omega), if_neg (by omega), if_neg (by omega), if_neg (by omega), if_pos (by omega)]; omega), (by omega), (by omega)⟩ dX10_nameOf_130
          · skip
            have tc60 := nu_eq c60
            have uc60 : (0 : Int32).toInt = 0 := rfl
            obtain ⟨v101, ev101, tv101⟩ : ∃ v : Int32, Int32.ofInt (4) = v ∧ v.toInt = 4 := ⟨_, rfl, by decide +kernel⟩
            refine lv_iconst hx hb dX10_nameOf_107 ev101 ?_
            rw [← hQ]
            exact en_i Z S55 F0_ ⟨rfl, (by unfold nmV; rw [if_neg (by omega), if_neg (by omega), if_neg (by omega), if_neg (by omega), if_pos (by omega)]; omega), (by omega), (by omega)⟩ dX10_nameOf_108
        · skip
          have tc48 := nu_eq c48
          have uc48 : (0 : Int32).toInt = 0 := rfl
          obtain ⟨v102, ev102, tv102⟩ : ∃ v : Int32, Int32.ofInt (3) = v ∧ v.toInt = 3 := ⟨_, rfl, by decide +kernel⟩
          refine lv_iconst hx hb dX10_nameOf_86 ev102 ?_
          rw [← hQ]
          exact en_i Z S43 F0_ ⟨rfl, (by unfold nmV; rw [if_neg (by omega), if_neg (by omega), if_neg (by omega), if_pos (by omega)]; omega), (by omega), (by omega)⟩ dX10_nameOf_87
      · skip
        have tc36 := nu_eq c36
        have uc36 : (0 : Int32).toInt = 0 := rfl
        obtain ⟨v103, ev103, tv103⟩ : ∃ v : Int32, Int32.ofInt (2) = v ∧ v.toInt = 2 := ⟨_, rfl, by decide +kernel⟩
        refine lv_iconst hx hb dX10_nameOf_65 ev103 ?_
        rw [← hQ]
        exact en_i Z S31 F0_ ⟨rfl, (by unfold nmV; rw [if_neg (by omega), if_neg (by omega), if_pos (by omega)]; omega), (by omega), (by omega)⟩ dX10_nameOf_66
    · skip
      have tc24 := nu_eq c24
      have uc24 : (0 : Int32).toInt = 0 := rfl
      obtain ⟨v104, ev104, tv104⟩ : ∃ v : Int32, Int32.ofInt (1) = v ∧ v.toInt = 1 := ⟨_, rfl, by decide +kernel⟩
      refine lv_iconst hx hb dX10_nameOf_42 ev104 ?_
      rw [← hQ]
      exact en_i Z S19 F0_ ⟨rfl, (by unfold nmV; rw [if_neg (by omega), if_pos (by omega)]; omega), (by omega), (by omega)⟩ dX10_nameOf_43
  · skip
    have tc12 := nu_eq c12
    have uc12 : (0 : Int32).toInt = 0 := rfl
    obtain ⟨v105, ev105, tv105⟩ : ∃ v : Int32, Int32.ofInt (0) = v ∧ v.toInt = 0 := ⟨_, rfl, by decide +kernel⟩
    refine lv_iconst hx hb dX10_nameOf_20 ev105 ?_
    rw [← hQ]
    exact en_i Z S7 F0_ ⟨rfl, (by unfold nmV; rw [if_pos (by omega)]; omega), (by omega), (by omega)⟩ dX10_nameOf_21

set_option maxHeartbeats 4000000 in
set_option maxRecDepth 100000 in
theorem k_X10_wordAt_vr (l : Launch) (D : va_G) (cy : Nat → ClassId) {L : List Nat} {τ : Nat → Ro} {E : Ec} (hI : Inv TB cy L τ E) {a0 : Nat} (ha0 : a0 ∈ L) (ta0 : τ a0 = (11, 0)) {qx : Nat} (hqx : qx ∈ L) (tqx : τ qx = (73, 0)) : CtL l yX10_wordAt wsX10_wordAt { frames := 1, cells := 0, slots := 0, locals := 21 } D TB cy L τ E [.ref a0] (inW []) (fun r E' => E' = E ∧ (r.toInt = wdI (tx E qx a0 21) (fi E a0 21).toInt.toNat (fi E a0 22).toInt.toNat)) := by
  intro sz
  refine sta (cc := cX10_wordAt) (maxL := 4) hI (by decide) rfl (Nat.le_of_ble_eq_true rfl) (fun p e s m args below meth c ls hsz Z S0 hl => ?_)
  have hx := Z.1.1
  have hb := Z.1.2.1
  have hts := Z.1.2.2.2.2
  have F0_ : Fr L τ (inW []) E E := Fr.refl
  have hl : lv_has ls 4 [(0, .ref a0)] := hl
  generalize hQ : MQ below _ args s 0 0 _ = QQ
  have kz_a0_22 := fi_rng (k := 22) hI ha0 ta0 rfl rfl
  have kz_a0_21 := fi_rng (k := 21) hI ha0 ta0 rfl rfl
  have J7 : ∀ (n : Nat) (x1_7 : Int64) (x3_7 : Int32) (H_7 : Heap) (k_7 : List Loc) (l_7 : Array Slot), Now D TB cy (va_A (va_pl L E) sz) s L τ E H_7 k_7 → (0 ≤ x1_7.toInt) → (x1_7.toInt ≤ 34359738368) → (0 ≤ x3_7.toInt) → (x3_7.toInt ≤ 120) → (wvI (tx E qx a0 21) (fi E a0 21).toInt.toNat (fi E a0 22).toInt.toNat x3_7.toInt.toNat x1_7.toInt = wdI (tx E qx a0 21) (fi E a0 21).toInt.toNat (fi E a0 22).toInt.toNat) → (x1_7.toInt < (32 : Int) ^ (x3_7.toInt.toNat - (fi E a0 22).toInt.toNat)) → ((fi E a0 22).toInt ≤ x3_7.toInt ∧ x3_7.toInt ≤ (fi E a0 22).toInt + 7) → (120 - x3_7.toInt).toNat < n → lv_has l_7 4 [(0, .ref a0), (1, .long x1_7), (3, .int x3_7)] → W p l e { frames := 1, cells := 0, slots := 0, locals := 21 } s m args below meth c H_7 k_7 0 0 QQ (F0 m 7 l_7 []) := by
    intro n
    induction n with
    | zero => intro x1_7 x3_7 H_7 k_7 l_7 S_7 z1 z2 z3 z4 z5 z6 z7 hm hl_7; exact absurd hm (Nat.not_lt_zero _)
    | succ n ih =>
      intro x1_7 x3_7 H_7 k_7 l_7 S_7 z1 z2 z3 z4 z5 z6 z7 hm hl_7
      have ih_7 := ih
      refine lv_iload_n hx hb dX10_wordAt_7 rfl (lv_at hl_7 2 rfl) ?_
      refine lv_aload_n hx hb dX10_wordAt_8 rfl (lv_at hl_7 0 rfl) ?_
      refine tr_geti Z.1 Z.2.2.2.1 S_7.1 S_7.2 ha0 ta0 rfl rfl (fun _ h => List.mem_cons_of_mem _ (List.mem_append_right _ h)) 21 (by decide) rfl (hts _ (List.mem_of_getElem? (i := 2) rfl)) dX10_wordAt_9 (fun v8 ev8 lv8 uv8 => ?_)
      have wv8 : v8 = (fi E a0 21) := ev8.symm.trans rfl
      have xv8 : v8.toInt = (fi E a0 21).toInt := by rw [wv8]
      refine lv_icmp_ge (tgt := 80) hx hb dX10_wordAt_12 (by decide) (fun c9 => ?_) (fun c9 => ?_)
      · skip
        have tc9 := nu_le c9
        refine lv_lload_n hx hb dX10_wordAt_80 rfl (lv_at hl_7 1 rfl) ?_
        rw [← hQ]
        exact en_l Z S_7 F0_ ⟨rfl, (by rw [← z5, wv_stop (fun z => absurd z.1 (by omega))])⟩ dX10_wordAt_81
      · skip
        have tc9 := nu_nle c9
        refine lv_aload_n hx hb dX10_wordAt_15 rfl (lv_at hl_7 0 rfl) ?_
        refine lv_aload_n hx hb dX10_wordAt_16 rfl (lv_at hl_7 0 rfl) ?_
        refine tr_getr Z.1 Z.2.2.2.1 S_7.1 S_7.2 ha0 ta0 rfl rfl (fun _ h => List.mem_cons_of_mem _ (List.mem_append_right _ h)) 19 (by decide) rfl (hts _ (List.mem_of_getElem? (i := 3) rfl)) dX10_wordAt_17 (fun q10 eq10 hq10 tq10 => ?_)
        have tq10 : τ q10 = (73, 0) := tq10
        have uq10 : qx = q10 := S_7.2.2.2.2 _ hqx _ hq10 (tqx.trans tq10.symm) (by rw [tqx]; rfl)
        subst uq10
        refine lv_iload_n hx hb dX10_wordAt_20 rfl (lv_at hl_7 2 rfl) ?_
        refine tr_bald Z.1 Z.2.2.2.1 S_7.1 S_7.2 hqx tqx rfl (by omega) (by omega) dX10_wordAt_21 (fun v11 ev11 lv11 uv11 => ?_)
        have fe_21 : fi E a0 21 = fi E a0 21 := rfl
        have tq_21 : (tx E qx a0 21) = (tx E qx a0 21) := rfl
        have b21 : (tx E qx a0 21) x3_7.toInt.toNat = v11.toInt := tx_at (x := x3_7) (by omega) (by omega) ev11
        refine tc_vi Z.1 Z.2.2.2.1 Z.2.2.2.2.1 Z.2.2.2.2.2 S_7.1 S_7.2 ha0 ta0 rfl rfl (k_X10_isSmall l D cy S_7.2 ha0 ta0 v11) (cwV 1 hts gX10_wordAt_X10_isSmall rfl rfl rfl (by decide +kernel) ⟨Nat.le_of_ble_eq_true rfl, Nat.le_of_ble_eq_true rfl⟩) rfl hl_7.1 rfl (Nat.le_of_ble_eq_true rfl) dX10_wordAt_22 ⟨Nat.zero_le _, Nat.zero_le _⟩ (fun v15 E12 H13 k14 W12 I12 G12 p12 => ?_)
        obtain ⟨q12, p12_0, p12_1, p12_2⟩ := p12
        have q12 := q12.symm
        subst q12
        have S12 : Now D TB cy (va_A (va_pl L E) sz) s L τ E H13 k14 := ⟨W12, I12⟩
        refine lv_if_eq (tgt := 80) hx hb dX10_wordAt_25 (by decide) (fun c16 => ?_) (fun c16 => ?_)
        · skip
          have tc16 := nu_eq c16
          have uc16 : (0 : Int32).toInt = 0 := rfl
          refine lv_lload_n hx hb dX10_wordAt_80 rfl (lv_at hl_7 1 rfl) ?_
          rw [← hQ]
          exact en_l Z S12 F0_ ⟨rfl, (by rw [← z5, wv_stop (fun z => absurd (qS_iff.mp z.2) (by rw [b21]; omega))])⟩ dX10_wordAt_81
        · skip
          have tc16 := nu_ne c16
          have uc16 : (0 : Int32).toInt = 0 := rfl
          refine lv_iload_n hx hb dX10_wordAt_28 rfl (lv_at hl_7 2 rfl) ?_
          have qs21 : qS ((tx E qx a0 21) x3_7.toInt.toNat) = true := qS_iff.mpr (by rw [b21]; omega)
          have wb28 := wb_le (j := x3_7.toInt.toNat - (fi E a0 22).toInt.toNat) (by omega)
          have wc28 := z6
          refine lv_aload_n hx hb dX10_wordAt_29 rfl (lv_at hl_7 0 rfl) ?_
          refine tr_geti Z.1 Z.2.2.2.1 S12.1 S12.2 ha0 ta0 rfl rfl (fun _ h => List.mem_cons_of_mem _ (List.mem_append_right _ h)) 22 (by decide) rfl (hts _ (List.mem_of_getElem? (i := 1) rfl)) dX10_wordAt_30 (fun v17 ev17 lv17 uv17 => ?_)
          have wv17 : v17 = (fi E a0 22) := ev17.symm.trans rfl
          have xv17 : v17.toInt = (fi E a0 22).toInt := by rw [wv17]
          refine lv_isub hx hb dX10_wordAt_33 ?_
          refine lv_topi (fun v18 ev18 => ?_)
          have tv18 := nu_sub ev18 (by omega) (by omega)
          obtain ⟨v19, ev19, tv19⟩ : ∃ v : Int32, (Int8.ofInt (7)).toInt32 = v ∧ v.toInt = 7 := ⟨_, rfl, by decide +kernel⟩
          refine lv_bipush hx hb dX10_wordAt_34 ev19 ?_
          refine lv_icmp_ge (tgt := 59) hx hb dX10_wordAt_36 (by decide) (fun c20 => ?_) (fun c20 => ?_)
          · skip
            have tc20 := nu_le c20
            refine lv_lconst (v := 0) hx hb dX10_wordAt_59 (by decide +kernel) ?_
            refine lv_topl (fun w21 ew21 => ?_)
            have tw21 : w21.toInt = 0 := by rw [ew21]; decide +kernel
            refine lv_lstore_n (lv' := [(1, .long w21), (0, .ref a0), (3, .int x3_7)]) hx hb dX10_wordAt_60 rfl hl_7 (by decide) rfl (fun l22 hl23 => ?_)
            refine lv_iload_n hx hb dX10_wordAt_61 rfl (lv_at hl23 2 rfl) ?_
            refine lv_aload_n hx hb dX10_wordAt_62 rfl (lv_at hl23 1 rfl) ?_
            refine tr_geti Z.1 Z.2.2.2.1 S12.1 S12.2 ha0 ta0 rfl rfl (fun _ h => List.mem_cons_of_mem _ (List.mem_append_right _ h)) 22 (by decide) rfl (hts _ (List.mem_of_getElem? (i := 1) rfl)) dX10_wordAt_63 (fun v24 ev24 lv24 uv24 => ?_)
            have wv24 : v24 = v17 := ev24.symm.trans ev17
            have xv24 : v24.toInt = v17.toInt := by rw [wv24]
            refine lv_isub hx hb dX10_wordAt_66 ?_
            refine lv_topi (fun v25 ev25 => ?_)
            have tv25 := nu_sub ev25 (by omega) (by omega)
            obtain ⟨v26, ev26, tv26⟩ : ∃ v : Int32, (Int8.ofInt (7)).toInt32 = v ∧ v.toInt = 7 := ⟨_, rfl, by decide +kernel⟩
            refine lv_bipush hx hb dX10_wordAt_67 ev26 ?_
            refine lv_icmp_lt (tgt := 74) hx hb dX10_wordAt_69 (by decide) (fun c27 => ?_) (fun c27 => ?_)
            · skip
              have tc27 := nu_lt c27
              omega
            · skip
              have tc27 := nu_nlt c27
              refine lv_lconst (v := 0) hx hb dX10_wordAt_72 (by decide +kernel) ?_
              refine lv_topl (fun w28 ew28 => ?_)
              have tw28 : w28.toInt = 0 := by rw [ew28]; decide +kernel
              rw [← hQ]
              exact en_l Z S12 F0_ ⟨rfl, (by rw [← z5, wv_long (by omega) qs21 (by omega)]; omega)⟩ dX10_wordAt_73
          · skip
            have tc20 := nu_nle c20
            refine lv_lload_n hx hb dX10_wordAt_39 rfl (lv_at hl_7 1 rfl) ?_
            have wb39 := wb_le6 (j := x3_7.toInt.toNat - (fi E a0 22).toInt.toNat) (by omega)
            refine lv_ldc2 (v := (32)) hx hb Z.1.2.2.2.1 (hts _ (List.mem_of_getElem? (i := 4) rfl)) dX10_wordAt_40 ?_
            refine lv_topl (fun w29 ew29 => ?_)
            have tw29 : w29.toInt = 32 := by rw [ew29]; decide +kernel
            refine lv_lmul hx hb dX10_wordAt_43 ?_
            refine lv_topl (fun w30 ew30 => ?_)
            have tw30 := nl_mulc (32) ew30 (by omega) (by omega) (by omega)
            refine lv_aload_n hx hb dX10_wordAt_44 rfl (lv_at hl_7 0 rfl) ?_
            refine tr_getr Z.1 Z.2.2.2.1 S12.1 S12.2 ha0 ta0 rfl rfl (fun _ h => List.mem_cons_of_mem _ (List.mem_append_right _ h)) 19 (by decide) rfl (hts _ (List.mem_of_getElem? (i := 3) rfl)) dX10_wordAt_45 (fun q31 eq31 hq31 tq31 => ?_)
            have tq31 : τ q31 = (73, 0) := tq31
            have uq31 : qx = q31 := S12.2.2.2.2 _ hqx _ hq31 (tqx.trans tq31.symm) (by rw [tqx]; rfl)
            subst uq31
            refine lv_iload_n hx hb dX10_wordAt_48 rfl (lv_at hl_7 2 rfl) ?_
            refine tr_bald Z.1 Z.2.2.2.1 S12.1 S12.2 hqx tqx rfl (by omega) (by omega) dX10_wordAt_49 (fun v32 ev32 lv32 uv32 => ?_)
            have fe_49 : fi E a0 21 = fi E a0 21 := rfl
            have tq_49 : (tx E qx a0 21) = (tx E qx a0 21) := rfl
            have b49 : (tx E qx a0 21) x3_7.toInt.toNat = v32.toInt := tx_at (x := x3_7) (by omega) (by omega) ev32
            obtain ⟨w33, ew33⟩ : ∃ y : Int64, v32.toInt64 = y := ⟨_, rfl⟩
            refine lv_i2l hx hb dX10_wordAt_50 ew33 ?_
            have tw33 : w33.toInt = v32.toInt := by rw [← ew33]; exact Int32.toInt_toInt64 v32
            refine lv_ladd hx hb dX10_wordAt_51 ?_
            refine lv_topl (fun w34 ew34 => ?_)
            have tw34 := nl_add ew34 (by omega) (by omega)
            refine lv_ldc2 (v := (96)) hx hb Z.1.2.2.2.1 (hts _ (List.mem_of_getElem? (i := 5) rfl)) dX10_wordAt_52 ?_
            refine lv_topl (fun w35 ew35 => ?_)
            have tw35 : w35.toInt = 96 := by rw [ew35]; decide +kernel
            refine lv_lsub hx hb dX10_wordAt_55 ?_
            refine lv_topl (fun w36 ew36 => ?_)
            have tw36 := nl_sub ew36 (by omega) (by omega)
            refine lv_goto (tgt := 60) hx hb dX10_wordAt_56 (by decide) ?_
            refine lv_lstore_n (lv' := [(1, .long w36), (0, .ref a0), (3, .int x3_7)]) hx hb dX10_wordAt_60 rfl hl_7 (by decide) rfl (fun l37 hl38 => ?_)
            refine lv_iload_n hx hb dX10_wordAt_61 rfl (lv_at hl38 2 rfl) ?_
            refine lv_aload_n hx hb dX10_wordAt_62 rfl (lv_at hl38 1 rfl) ?_
            refine tr_geti Z.1 Z.2.2.2.1 S12.1 S12.2 ha0 ta0 rfl rfl (fun _ h => List.mem_cons_of_mem _ (List.mem_append_right _ h)) 22 (by decide) rfl (hts _ (List.mem_of_getElem? (i := 1) rfl)) dX10_wordAt_63 (fun v39 ev39 lv39 uv39 => ?_)
            have wv39 : v39 = v17 := ev39.symm.trans ev17
            have xv39 : v39.toInt = v17.toInt := by rw [wv39]
            refine lv_isub hx hb dX10_wordAt_66 ?_
            refine lv_topi (fun v40 ev40 => ?_)
            have tv40 := nu_sub ev40 (by omega) (by omega)
            obtain ⟨v41, ev41, tv41⟩ : ∃ v : Int32, (Int8.ofInt (7)).toInt32 = v ∧ v.toInt = 7 := ⟨_, rfl, by decide +kernel⟩
            refine lv_bipush hx hb dX10_wordAt_67 ev41 ?_
            refine lv_icmp_lt (tgt := 74) hx hb dX10_wordAt_69 (by decide) (fun c42 => ?_) (fun c42 => ?_)
            · skip
              have tc42 := nu_lt c42
              obtain ⟨v43, ev43⟩ : ∃ y : Int32, x3_7 + Int32.ofInt (1) = y := ⟨_, rfl⟩
              have tv43 : v43.toInt = x3_7.toInt + (1) := by rw [← ev43]; exact (fb_addI (by rw [show (Int32.ofInt (1)).toInt = 1 from by decide +kernel]; omega) (by rw [show (Int32.ofInt (1)).toInt = 1 from by decide +kernel]; omega)).trans (by rw [show (Int32.ofInt (1)).toInt = 1 from by decide +kernel])
              refine lv_iinc (v := v43) (lv' := [(3, .int v43), (1, .long w36), (0, .ref a0)]) hx hb dX10_wordAt_74 hl38 (k := 2) rfl ev43 (by decide) rfl (fun l44 hl45 => ?_)
              refine lv_goto (tgt := 7) hx hb dX10_wordAt_77 (by decide) ?_
              exact ih_7 w36 v43 H13 k14 l44 S12 (by omega) (by omega) (by omega) (by omega) ((show wvI (tx E qx a0 21) (fi E a0 21).toInt.toNat (fi E a0 22).toInt.toNat v43.toInt.toNat w36.toInt = wvI (tx E qx a0 21) (fi E a0 21).toInt.toNat (fi E a0 22).toInt.toNat x3_7.toInt.toNat x1_7.toInt from by rw [show v43.toInt.toNat = x3_7.toInt.toNat + 1 from by omega, show w36.toInt = x1_7.toInt * 32 + (tx E qx a0 21) x3_7.toInt.toNat - 96 from by rw [b49]; omega]; exact (wv_go (by omega) qs21 (by omega)).symm).trans z5) (by rw [show v43.toInt.toNat - (fi E a0 22).toInt.toNat = (x3_7.toInt.toNat - (fi E a0 22).toInt.toNat) + 1 from by omega, show w36.toInt = x1_7.toInt * 32 + v32.toInt - 96 from by omega]; exact wb_step z6 (by omega)) (by omega) (by omega) (lv_sub hl45 [2, 1, 0] rfl)
            · skip
              have tc42 := nu_nlt c42
              omega
  refine lv_lconst (v := 0) hx hb dX10_wordAt_0 (by decide +kernel) ?_
  refine lv_topl (fun w46 ew46 => ?_)
  have tw46 : w46.toInt = 0 := by rw [ew46]; decide +kernel
  refine lv_lstore_n (lv' := [(1, .long w46), (0, .ref a0)]) hx hb dX10_wordAt_1 rfl hl (by decide) rfl (fun l47 hl48 => ?_)
  refine lv_aload_n hx hb dX10_wordAt_2 rfl (lv_at hl48 1 rfl) ?_
  refine tr_geti Z.1 Z.2.2.2.1 S0.1 S0.2 ha0 ta0 rfl rfl (fun _ h => List.mem_cons_of_mem _ (List.mem_append_right _ h)) 22 (by decide) rfl (hts _ (List.mem_of_getElem? (i := 1) rfl)) dX10_wordAt_3 (fun v49 ev49 lv49 uv49 => ?_)
  have wv49 : v49 = (fi E a0 22) := ev49.symm.trans rfl
  have xv49 : v49.toInt = (fi E a0 22).toInt := by rw [wv49]
  refine lv_istore_n (lv' := [(3, .int v49), (1, .long w46), (0, .ref a0)]) hx hb dX10_wordAt_6 rfl hl48 (by decide) rfl (fun l50 hl51 => ?_)
  exact J7 _ w46 v49 s.heap [] l50 S0 (by omega) (by omega) (by omega) (by omega) (by rw [show v49.toInt.toNat = (fi E a0 22).toInt.toNat from by omega, show w46.toInt = 0 from by omega]) (by rw [show v49.toInt.toNat - (fi E a0 22).toInt.toNat = 0 from by omega, Int.pow_zero]; omega) (by omega) (Nat.lt_succ_self _) (lv_sub hl51 [2, 1, 0] rfl)

set_option maxHeartbeats 4000000 in
set_option maxRecDepth 100000 in
theorem k_X10_name_vr (l : Launch) (D : va_G) (cy : Nat → ClassId) {L : List Nat} {τ : Nat → Ro} {E : Ec} (hI : Inv TB cy L τ E) {a0 : Nat} (ha0 : a0 ∈ L) (ta0 : τ a0 = (11, 0)) (a1 : Int32) (la1 : 0 ≤ a1.toInt) (ua1 : a1.toInt ≤ 49) {ql : Nat} (hql : ql ∈ L) (tql : τ ql = (75, 0)) {qx : Nat} (hqx : qx ∈ L) (tqx : τ qx = (73, 0)) (h4 : (fi E a0 5).toInt = 0) : CtI l yX10_name wsX10_name { frames := 2, cells := 0, slots := 0, locals := 50 } D TB cy L τ E [.ref a0, .int a1] (inW [(11, 0), (75, 0)]) (fun r E' => (Grow E E' ql a1.toInt.toNat) ∧ (15 < r.toInt → (ai E' ql a1.toInt.toNat).toInt = 1) ∧ ((nmV (wdI (tx E qx a0 21) (fi E a0 21).toInt.toNat (fi E a0 22).toInt.toNat) = -1 ∧ (fi E' a0 5).toInt = 1 ∧ (fi E' a0 6).toInt = (fi E a0 22).toInt) ∨ (nmV (wdI (tx E qx a0 21) (fi E a0 21).toInt.toNat (fi E a0 22).toInt.toNat) ≠ -1 ∧ (fi E' a0 5).toInt = 0 ∧ (fi E' a0 22).toInt = ((nameE (tx E qx a0 21) (fi E a0 21).toInt.toNat (fi E a0 22).toInt.toNat : Nat) : Int))) ∧ 0 ≤ r.toInt ∧ r.toInt ≤ 23 ∧ (∀ k : Nat, k ∉ ([5, 6, 22] : List Nat) → fi E' a0 k = fi E a0 k)) := by
  intro sz
  refine sta (cc := cX10_name) (maxL := 3) hI (by decide) rfl (Nat.le_of_ble_eq_true rfl) (fun p e s m args below meth c ls hsz Z S0 hl => ?_)
  have hx := Z.1.1
  have hb := Z.1.2.1
  have hts := Z.1.2.2.2.2
  have F0_ : Fr L τ (inW [(11, 0), (75, 0)]) E E := Fr.refl
  have hl : lv_has ls 3 [(0, .ref a0), (1, .int a1)] := hl
  generalize hQ : MQ below _ args s 0 0 _ = QQ
  have kz_a0_5 := fi_rng (k := 5) hI ha0 ta0 rfl rfl
  have kz_a0_6 := fi_rng (k := 6) hI ha0 ta0 rfl rfl
  have kz_a0_22 := fi_rng (k := 22) hI ha0 ta0 rfl rfl
  have kz_a0_21 := fi_rng (k := 21) hI ha0 ta0 rfl rfl
  have hTr : ∀ p : Nat, -128 ≤ (tx E qx a0 21) p ∧ (tx E qx a0 21) p ≤ 127 := tx_rng hI hqx tqx rfl (by omega)
  refine lv_aload_n hx hb dX10_name_0 rfl (lv_at hl 0 rfl) ?_
  refine lv_aload_n hx hb dX10_name_1 rfl (lv_at hl 0 rfl) ?_
  have fe_2a : fi E a0 21 = fi E a0 21 := rfl
  have tq_2a : (tx E qx a0 21) = (tx E qx a0 21) := rfl
  have pz_2a : (fi E a0 22).toInt = (((fi E a0 22).toInt.toNat : Nat) : Int) := by omega
  have po_2a : (fi E a0 22).toInt = (((fi E a0 22).toInt.toNat : Nat) : Int) := pz_2a
  refine tc_vl Z.1 Z.2.2.2.1 Z.2.2.2.2.1 Z.2.2.2.2.2 S0.1 S0.2 ha0 ta0 rfl rfl (k_X10_wordAt_vr l D cy S0.2 ha0 ta0 hqx tqx) (cwV 0 hts gX10_name_X10_wordAt rfl rfl rfl (by decide +kernel) ⟨Nat.le_of_ble_eq_true rfl, Nat.le_of_ble_eq_true rfl⟩) rfl hl.1 rfl (Nat.le_of_ble_eq_true rfl) dX10_name_2 ⟨Nat.zero_le _, Nat.zero_le _⟩ (fun v4 E1 H2 k3 W1 I1 G1 p1 => ?_)
  obtain ⟨q1, p1_0⟩ := p1
  have q1 := q1.symm
  subst q1
  have S1 : Now D TB cy (va_A (va_pl L E) sz) s L τ E H2 k3 := ⟨W1, I1⟩
  refine tc_vi Z.1 Z.2.2.2.1 Z.2.2.2.2.1 Z.2.2.2.2.2 S1.1 S1.2 ha0 ta0 rfl rfl (k_X10_nameOf_vr l D cy S1.2 ha0 ta0 v4) (cwV 1 hts gX10_name_X10_nameOf rfl rfl rfl (by decide +kernel) ⟨Nat.le_of_ble_eq_true rfl, Nat.le_of_ble_eq_true rfl⟩) rfl hl.1 rfl (Nat.le_of_ble_eq_true rfl) dX10_name_5 ⟨Nat.zero_le _, Nat.zero_le _⟩ (fun v8 E5 H6 k7 W5 I5 G5 p5 => ?_)
  obtain ⟨q5, p5_0, p5_1, p5_2⟩ := p5
  have q5 := q5.symm
  subst q5
  have S5 : Now D TB cy (va_A (va_pl L E) sz) s L τ E H6 k7 := ⟨W5, I5⟩
  have wd_2 : v4.toInt = wdI (tx E qx a0 21) (fi E a0 21).toInt.toNat (fi E a0 22).toInt.toNat := by have q := p1_0; exact q
  have nv_5 : v8.toInt = nmV (wdI (tx E qx a0 21) (fi E a0 21).toInt.toNat (fi E a0 22).toInt.toNat) := by rw [← wd_2]; exact p5_0
  refine lv_istore_n (lv' := [(2, .int v8), (0, .ref a0), (1, .int a1)]) hx hb dX10_name_8 rfl hl (by decide) rfl (fun l9 hl10 => ?_)
  refine lv_iload_n hx hb dX10_name_9 rfl (lv_at hl10 0 rfl) ?_
  obtain ⟨v11, ev11, tv11⟩ : ∃ v : Int32, Int32.ofInt (-1) = v ∧ v.toInt = -1 := ⟨_, rfl, by decide +kernel⟩
  refine lv_iconst hx hb dX10_name_10 ev11 ?_
  refine lv_icmp_ne (tgt := 25) hx hb dX10_name_11 (by decide) (fun c12 => ?_) (fun c12 => ?_)
  · skip
    have tc12 := nu_ne c12
    refine lv_aload_n hx hb dX10_name_25 rfl (lv_at hl10 1 rfl) ?_
    have fe_26a : fi E a0 21 = fi E a0 21 := rfl
    have tq_26a : (tx E qx a0 21) = (tx E qx a0 21) := rfl
    have pz_26a : (fi E a0 22).toInt = (((fi E a0 22).toInt.toNat : Nat) : Int) := by omega
    have po_26a : (fi E a0 22).toInt = (((fi E a0 22).toInt.toNat : Nat) : Int) := pz_26a
    refine tc_vv Z.1 Z.2.2.2.1 Z.2.2.2.2.1 Z.2.2.2.2.2 S5.1 S5.2 ha0 ta0 rfl rfl (k_X10_passWord_vr l D cy S5.2 ha0 ta0 hqx tqx) (cwV 0 hts gX10_name_X10_passWord rfl rfl rfl (by decide +kernel) ⟨Nat.le_of_ble_eq_true rfl, Nat.le_of_ble_eq_true rfl⟩) rfl hl10.1 rfl (Nat.le_of_ble_eq_true rfl) dX10_name_26 ⟨Nat.zero_le _, Nat.zero_le _⟩ (fun E13 H14 k15 W13 I13 G13 p13 => ?_)
    obtain ⟨p13_0, p13_1⟩ := p13
    have S13 : Now D TB cy (va_A (va_pl L E) sz) s L τ E13 H14 k15 := ⟨W13, I13⟩
    have F13 : Fr L τ (inW [(11, 0), (75, 0)]) E E13 := F0_.trans (G13.mono (inW_mono (by decide)))
    have po_26 : (fi E13 a0 22).toInt = (((ltI (tx E qx a0 21) (fi E a0 21).toInt.toNat (fi E a0 22).toInt.toNat) : Nat) : Int) := by have q := p13_0; skip; exact q
    have kp_26 := fi_rng (k := 22) S13.2 ha0 ta0 rfl rfl
    refine lv_aload_n hx hb dX10_name_29 rfl (lv_at hl10 1 rfl) ?_
    have fe_30a : fi E13 a0 21 = fi E a0 21 := (p13_1 21 (by decide))
    have tq_30a : tx E13 qx a0 21 = (tx E qx a0 21) := tx_same (F13 qx hqx (by rw [tqx]; rfl)) fe_30a
    have po_30a : (fi E13 a0 22).toInt = (((ltI (tx E qx a0 21) (fi E a0 21).toInt.toNat (fi E a0 22).toInt.toNat) : Nat) : Int) := po_26
    refine tc_vv Z.1 Z.2.2.2.1 Z.2.2.2.2.1 Z.2.2.2.2.2 S13.1 S13.2 ha0 ta0 rfl rfl (k_X10_blanks_vr l D cy S13.2 ha0 ta0 hqx tqx) (cwV 0 hts gX10_name_X10_blanks rfl rfl rfl (by decide +kernel) ⟨Nat.le_of_ble_eq_true rfl, Nat.le_of_ble_eq_true rfl⟩) rfl hl10.1 rfl (Nat.le_of_ble_eq_true rfl) dX10_name_30 ⟨Nat.zero_le _, Nat.zero_le _⟩ (fun E17 H18 k19 W17 I17 G17 p17 => ?_)
    obtain ⟨p17_0, p17_1⟩ := p17
    have S17 : Now D TB cy (va_A (va_pl L E) sz) s L τ E17 H18 k19 := ⟨W17, I17⟩
    have F17 : Fr L τ (inW [(11, 0), (75, 0)]) E E17 := F13.trans (G17.mono (inW_mono (by decide)))
    have po_30 : (fi E17 a0 22).toInt = (((skI (tx E qx a0 21) (fi E a0 21).toInt.toNat (ltI (tx E qx a0 21) (fi E a0 21).toInt.toNat (fi E a0 22).toInt.toNat)) : Nat) : Int) := by have q := p17_0; rw [tq_30a, fe_30a, show (fi E13 a0 22).toInt.toNat = (ltI (tx E qx a0 21) (fi E a0 21).toInt.toNat (fi E a0 22).toInt.toNat) from by omega] at q; exact q
    have kp_30 := fi_rng (k := 22) S17.2 ha0 ta0 rfl rfl
    refine lv_aload_n hx hb dX10_name_33 rfl (lv_at hl10 1 rfl) ?_
    have fe_34a : fi E17 a0 21 = fi E a0 21 := ((p17_1 21 (by decide)).trans (p13_1 21 (by decide)))
    have tq_34a : tx E17 qx a0 21 = (tx E qx a0 21) := tx_same (F17 qx hqx (by rw [tqx]; rfl)) fe_34a
    have po_34a : (fi E17 a0 22).toInt = (((skI (tx E qx a0 21) (fi E a0 21).toInt.toNat (ltI (tx E qx a0 21) (fi E a0 21).toInt.toNat (fi E a0 22).toInt.toNat)) : Nat) : Int) := po_30
    refine tc_vi Z.1 Z.2.2.2.1 Z.2.2.2.2.1 Z.2.2.2.2.2 S17.1 S17.2 ha0 ta0 rfl rfl (k_X10_look_vr l D cy S17.2 ha0 ta0 hqx tqx) (cwV 0 hts gX10_name_X10_look rfl rfl rfl (by decide +kernel) ⟨Nat.le_of_ble_eq_true rfl, Nat.le_of_ble_eq_true rfl⟩) rfl hl10.1 rfl (Nat.le_of_ble_eq_true rfl) dX10_name_34 ⟨Nat.zero_le _, Nat.zero_le _⟩ (fun v24 E21 H22 k23 W21 I21 G21 p21 => ?_)
    obtain ⟨q21, p21_0, p21_1, p21_2, p21_3⟩ := p21
    have q21 := q21.symm
    subst q21
    have S21 : Now D TB cy (va_A (va_pl L E) sz) s L τ E17 H22 k23 := ⟨W21, I21⟩
    have pk_34 : v24.toInt = pkI (tx E qx a0 21) (fi E a0 21).toInt.toNat (skI (tx E qx a0 21) (fi E a0 21).toInt.toNat (ltI (tx E qx a0 21) (fi E a0 21).toInt.toNat (fi E a0 22).toInt.toNat)) := by have q := p21_1; rw [tq_34a, fe_34a, show (fi E17 a0 22).toInt.toNat = (skI (tx E qx a0 21) (fi E a0 21).toInt.toNat (ltI (tx E qx a0 21) (fi E a0 21).toInt.toNat (fi E a0 22).toInt.toNat)) from by omega] at q; exact q
    obtain ⟨v25, ev25, tv25⟩ : ∃ v : Int32, (Int8.ofInt (39)).toInt32 = v ∧ v.toInt = 39 := ⟨_, rfl, by decide +kernel⟩
    refine lv_bipush hx hb dX10_name_37 ev25 ?_
    refine lv_icmp_eq (tgt := 44) hx hb dX10_name_39 (by decide) (fun c26 => ?_) (fun c26 => ?_)
    · skip
      have tc26 := nu_eq c26
      refine lv_aload_n hx hb dX10_name_44 rfl (lv_at hl10 1 rfl) ?_
      refine lv_dup hx hb dX10_name_45 rfl ?_
      refine tr_geti Z.1 Z.2.2.2.1 S21.1 S21.2 ha0 ta0 rfl rfl (fun _ h => List.mem_cons_of_mem _ (List.mem_append_right _ h)) 22 (by decide) rfl (hts _ (List.mem_of_getElem? (i := 1) rfl)) dX10_name_46 (fun v27 ev27 lv27 uv27 => ?_)
      have wv27 : v27 = (fi E17 a0 22) := ev27.symm.trans rfl
      have xv27 : v27.toInt = (fi E17 a0 22).toInt := by rw [wv27]
      obtain ⟨v28, ev28, tv28⟩ : ∃ v : Int32, Int32.ofInt (1) = v ∧ v.toInt = 1 := ⟨_, rfl, by decide +kernel⟩
      refine lv_iconst hx hb dX10_name_49 ev28 ?_
      refine lv_iadd hx hb dX10_name_50 ?_
      refine lv_topi (fun v29 ev29 => ?_)
      have tv29 := nu_add ev29 (by omega) (by omega)
      refine tr_puti Z.1 Z.2.2.2.1 S21.1 S21.2 ha0 ta0 rfl rfl (fun _ h => List.mem_cons_of_mem _ (List.mem_append_right _ h)) tyX10_ok nmX10 22 (by decide) rfl rfl rfl (hts _ (List.mem_of_getElem? (i := 1) rfl)) dX10_name_51 (by omega) (by omega) (fun E30 H31 k32 W30 I30 P30 => ?_)
      have S30 : Now D TB cy (va_A (va_pl L E) sz) s L τ E30 H31 k32 := ⟨W30, I30⟩
      have F30 : Fr L τ (inW [(11, 0), (75, 0)]) E E30 := Fr.put F17 P30 ta0 rfl
      have po_51 : (fi E30 a0 22).toInt = ((((skI (tx E qx a0 21) (fi E a0 21).toInt.toNat (ltI (tx E qx a0 21) (fi E a0 21).toInt.toNat (fi E a0 22).toInt.toNat)) + 1) : Nat) : Int) := by have q : (fi E17 a0 22).toInt = (((skI (tx E qx a0 21) (fi E a0 21).toInt.toNat (ltI (tx E qx a0 21) (fi E a0 21).toInt.toNat (fi E a0 22).toInt.toNat)) : Nat) : Int) := po_30; rw [(fi_at P30)]; omega
      refine lv_aload_n hx hb dX10_name_54 rfl (lv_at hl10 1 rfl) ?_
      refine tr_getr Z.1 Z.2.2.2.1 S30.1 S30.2 ha0 ta0 rfl rfl (fun _ h => List.mem_cons_of_mem _ (List.mem_append_right _ h)) 24 (by decide) rfl (hts _ (List.mem_of_getElem? (i := 2) rfl)) dX10_name_55 (fun q33 eq33 hq33 tq33 => ?_)
      have tq33 : τ q33 = (75, 0) := tq33
      have uq33 : ql = q33 := S30.2.2.2.2 _ hql _ hq33 (tql.trans tq33.symm) (by rw [tql]; rfl)
      subst uq33
      refine lv_iload_n hx hb dX10_name_58 rfl (lv_at hl10 2 rfl) ?_
      obtain ⟨v34, ev34, tv34⟩ : ∃ v : Int32, Int32.ofInt (1) = v ∧ v.toInt = 1 := ⟨_, rfl, by decide +kernel⟩
      refine lv_iconst hx hb dX10_name_59 ev34 ?_
      refine tr_zast Z.1 Z.2.2.2.1 S30.1 S30.2 hql tql rfl (by omega) (by omega) (by omega) (by omega) dX10_name_60 (fun E35 H36 k37 W35 I35 P35 => ?_)
      have S35 : Now D TB cy (va_A (va_pl L E) sz) s L τ E35 H36 k37 := ⟨W35, I35⟩
      have F35 : Fr L τ (inW [(11, 0), (75, 0)]) E E35 := Fr.set F30 P35 tql rfl
      refine lv_iload_n hx hb dX10_name_61 rfl (lv_at hl10 0 rfl) ?_
      obtain ⟨v38, ev38, tv38⟩ : ∃ v : Int32, (Int8.ofInt (16)).toInt32 = v ∧ v.toInt = 16 := ⟨_, rfl, by decide +kernel⟩
      refine lv_bipush hx hb dX10_name_62 ev38 ?_
      refine lv_iadd hx hb dX10_name_64 ?_
      refine lv_topi (fun v39 ev39 => ?_)
      have tv39 := nu_add ev39 (by omega) (by omega)
      rw [← hQ]
      exact en_i Z S35 F35 ⟨(((((Grow.refl (s := a1.toInt.toNat)).cell (G13 ql hql (by rw [tql]; rfl))).cell (G17 ql hql (by rw [tql]; rfl))).cell (P30.1 ql (ne_ro tql ta0 (by decide)))).trans (grow_set P35 (by omega) rfl)), (fun _ => by have q := P35.2.1; have q2 : (ai E35 ql a1.toInt.toNat) = v34 := q; rw [q2]; omega), (Or.inr ⟨by rw [← nv_5]; omega, (by rw [((fi_set (k := 5) P35 (ne_ro ta0 tql (by decide))).trans ((fi_put (k := 5) P30 (Or.inr (by decide))).trans ((p17_1 5 (by decide)).trans (p13_1 5 (by decide)))))]; exact h4), (by rw [nameE_q (by rw [← pk_34]; omega)]; exact (by rw [(fi_set (k := 22) P35 (ne_ro ta0 tql (by decide)))]; exact po_51))⟩), (by omega), (by omega), (fun k hk => ((fi_set P35 (ne_ro ta0 tql (by decide))).trans ((fi_put P30 (Or.inr (fw_ne (by decide) hk))).trans ((p17_1 k (fw_sub (by decide) hk)).trans ((p13_1 k (fw_sub (by decide) hk)).trans ((fun k hk => rfl) k hk))))))⟩ dX10_name_65
    · skip
      have tc26 := nu_ne c26
      refine lv_iload_n hx hb dX10_name_42 rfl (lv_at hl10 0 rfl) ?_
      rw [← hQ]
      exact en_i Z S21 F17 ⟨(((Grow.refl (s := a1.toInt.toNat)).cell (G13 ql hql (by rw [tql]; rfl))).cell (G17 ql hql (by rw [tql]; rfl))), (fun h => by omega), (Or.inr ⟨by rw [← nv_5]; omega, (by rw [((p17_1 5 (by decide)).trans (p13_1 5 (by decide)))]; exact h4), (by rw [nameE_p (by rw [← pk_34]; omega)]; exact po_30)⟩), (by omega), (by omega), (fun k hk => ((p17_1 k (fw_sub (by decide) hk)).trans ((p13_1 k (fw_sub (by decide) hk)).trans ((fun k hk => rfl) k hk))))⟩ dX10_name_43
  · skip
    have tc12 := nu_eq c12
    refine lv_aload_n hx hb dX10_name_14 rfl (lv_at hl10 1 rfl) ?_
    obtain ⟨v40, ev40, tv40⟩ : ∃ v : Int32, Int32.ofInt (1) = v ∧ v.toInt = 1 := ⟨_, rfl, by decide +kernel⟩
    refine lv_iconst hx hb dX10_name_15 ev40 ?_
    refine lv_aload_n hx hb dX10_name_16 rfl (lv_at hl10 1 rfl) ?_
    refine tr_geti Z.1 Z.2.2.2.1 S5.1 S5.2 ha0 ta0 rfl rfl (fun _ h => List.mem_cons_of_mem _ (List.mem_append_right _ h)) 22 (by decide) rfl (hts _ (List.mem_of_getElem? (i := 1) rfl)) dX10_name_17 (fun v41 ev41 lv41 uv41 => ?_)
    have wv41 : v41 = (fi E a0 22) := ev41.symm.trans rfl
    have xv41 : v41.toInt = (fi E a0 22).toInt := by rw [wv41]
    have f0_20 : (fi E a0 5).toInt = 0 := h4
    refine tc_vv Z.1 Z.2.2.2.1 Z.2.2.2.2.1 Z.2.2.2.2.2 S5.1 S5.2 ha0 ta0 rfl rfl (k_X10_wrong_vr l D cy S5.2 ha0 ta0 v40 (by omega) (by omega) v41) (cwV 2 hts gX10_name_X10_wrong rfl rfl rfl (by decide +kernel) ⟨Nat.le_of_ble_eq_true rfl, Nat.le_of_ble_eq_true rfl⟩) rfl hl10.1 rfl (Nat.le_of_ble_eq_true rfl) dX10_name_20 ⟨Nat.zero_le _, Nat.zero_le _⟩ (fun E42 H43 k44 W42 I42 G42 p42 => ?_)
    obtain ⟨p42_0, p42_1⟩ := p42
    have S42 : Now D TB cy (va_A (va_pl L E) sz) s L τ E42 H43 k44 := ⟨W42, I42⟩
    have F42 : Fr L τ (inW [(11, 0), (75, 0)]) E E42 := F0_.trans (G42.mono (inW_mono (by decide)))
    have ff_20 : (fi E42 a0 5).toInt = v40.toInt ∧ (fi E42 a0 6).toInt = v41.toInt := by rcases p42_0 with q | q; omega; exact q.2
    obtain ⟨v46, ev46, tv46⟩ : ∃ v : Int32, Int32.ofInt (0) = v ∧ v.toInt = 0 := ⟨_, rfl, by decide +kernel⟩
    refine lv_iconst hx hb dX10_name_23 ev46 ?_
    rw [← hQ]
    exact en_i Z S42 F42 ⟨((Grow.refl (s := a1.toInt.toNat)).cell (G42 ql hql (by rw [tql]; rfl))), (fun h => by omega), (Or.inl ⟨by rw [← nv_5]; omega, by omega, by omega⟩), (by omega), (by omega), (fun k hk => ((p42_1 k (fw_sub (by decide) hk)).trans ((fun k hk => rfl) k hk)))⟩ dX10_name_24

set_option maxHeartbeats 4000000 in
set_option maxRecDepth 100000 in
theorem k_X5_push_vr (l : Launch) (D : va_G) (cy : Nat → ClassId) {L : List Nat} {τ : Nat → Ro} {E : Ec} (hI : Inv TB cy L τ E) {a0 : Nat} (ha0 : a0 ∈ L) (ta0 : τ a0 = (7, 0)) (a1 : Int32) {qt : Nat} (hqt : qt ∈ L) (tqt : τ qt = (32, 0)) (hp : (fi E a0 1).toInt ≤ 116) : CtV l yX5_push wsX5_push { frames := 0, cells := 0, slots := 0, locals := 0 } D TB cy L τ E [.ref a0, .int a1] (inW [(7, 0), (32, 0)]) (fun E' => ((fi E' a0 1).toInt = (fi E a0 1).toInt + 4) ∧ (∀ i : Nat, i < (fi E a0 1).toInt.toNat → ai E' qt i = ai E qt i) ∧ (∀ j : Nat, j < 4 → ai E' qt ((fi E a0 1).toInt.toNat + j) = btW a1 j) ∧ (∀ k : Nat, k ∉ ([1] : List Nat) → fi E' a0 k = fi E a0 k)) := by
  intro sz
  refine sta (cc := cX5_push) (maxL := 3) hI (by decide) rfl (Nat.le_of_ble_eq_true rfl) (fun p e s m args below meth c ls hsz Z S0 hl => ?_)
  have hx := Z.1.1
  have hb := Z.1.2.1
  have hts := Z.1.2.2.2.2
  have F0_ : Fr L τ (inW [(7, 0), (32, 0)]) E E := Fr.refl
  have hl : lv_has ls 3 [(0, .ref a0), (1, .int a1)] := hl
  generalize hQ : MQ below _ args s 0 0 _ = QQ
  have kz_a0_1 := fi_rng (k := 1) hI ha0 ta0 rfl rfl
  have J3 : ∀ (n : Nat) (x2_3 : Int32) (E_3 : Ec) (H_3 : Heap) (k_3 : List Loc) (l_3 : Array Slot), Now D TB cy (va_A (va_pl L E) sz) s L τ E_3 H_3 k_3 → Fr L τ (inW [(7, 0), (32, 0)]) E E_3 → (-8 ≤ x2_3.toInt) → (x2_3.toInt ≤ 24) → (∀ i : Nat, i < (fi E a0 1).toInt.toNat → ai E_3 qt i = ai E qt i) → (∀ j : Nat, (j : Int) < (24 - x2_3.toInt) / 8 → ai E_3 qt ((fi E a0 1).toInt.toNat + j) = btW a1 j) → (∀ k : Nat, k ∉ ([1] : List Nat) → fi E_3 a0 k = fi E a0 k) → (0 ≤ (fi E_3 a0 1).toInt ∧ (fi E_3 a0 1).toInt ≤ 120 ∧ (fi E_3 a0 1).toInt = (fi E a0 1).toInt + (24 - x2_3.toInt) / 8 ∧ (x2_3.toInt + 8) % 8 = 0) → (x2_3.toInt - (-8)).toNat < n → lv_has l_3 3 [(0, .ref a0), (1, .int a1), (2, .int x2_3)] → W p l e { frames := 0, cells := 0, slots := 0, locals := 0 } s m args below meth c H_3 k_3 0 0 QQ (F0 m 3 l_3 []) := by
    intro n
    induction n with
    | zero => intro x2_3 E_3 H_3 k_3 l_3 S_3 F_3 z1 z2 z3 z4 z5 z6 hm hl_3; exact absurd hm (Nat.not_lt_zero _)
    | succ n ih =>
      intro x2_3 E_3 H_3 k_3 l_3 S_3 F_3 z1 z2 z3 z4 z5 z6 hm hl_3
      have ih_3 := ih
      refine lv_iload_n hx hb dX5_push_3 rfl (lv_at hl_3 2 rfl) ?_
      refine lv_if_lt (tgt := 45) hx hb dX5_push_4 (by decide) (fun c7 => ?_) (fun c7 => ?_)
      · skip
        have tc7 := nu_lt c7
        have uc7 : (0 : Int32).toInt = 0 := rfl
        rw [← hQ]
        exact en_v Z S_3 F_3 ⟨(by omega), z3, (fun j hj => z4 j (by omega)), (fun k hk => (z5 k hk))⟩ dX5_push_45
      · skip
        have tc7 := nu_nlt c7
        have uc7 : (0 : Int32).toInt = 0 := rfl
        refine lv_aload_n hx hb dX5_push_7 rfl (lv_at hl_3 0 rfl) ?_
        refine tr_geti Z.1 Z.2.2.2.1 S_3.1 S_3.2 ha0 ta0 rfl rfl (fun _ h => List.mem_cons_of_mem _ (List.mem_append_right _ h)) 1 (by decide) rfl (hts _ (List.mem_of_getElem? (i := 1) rfl)) dX5_push_8 (fun v8 ev8 lv8 uv8 => ?_)
        have wv8 : v8 = (fi E_3 a0 1) := ev8.symm.trans rfl
        have xv8 : v8.toInt = (fi E_3 a0 1).toInt := by rw [wv8]
        obtain ⟨v9, ev9, tv9⟩ : ∃ v : Int32, (Int8.ofInt (120)).toInt32 = v ∧ v.toInt = 120 := ⟨_, rfl, by decide +kernel⟩
        refine lv_bipush hx hb dX5_push_11 ev9 ?_
        refine lv_icmp_ge (tgt := 39) hx hb dX5_push_13 (by decide) (fun c10 => ?_) (fun c10 => ?_)
        · skip
          have tc10 := nu_le c10
          omega
        · skip
          have tc10 := nu_nle c10
          refine lv_aload_n hx hb dX5_push_16 rfl (lv_at hl_3 0 rfl) ?_
          refine tr_getr Z.1 Z.2.2.2.1 S_3.1 S_3.2 ha0 ta0 rfl rfl (fun _ h => List.mem_cons_of_mem _ (List.mem_append_right _ h)) 0 (by decide) rfl (hts _ (List.mem_of_getElem? (i := 2) rfl)) dX5_push_17 (fun q11 eq11 hq11 tq11 => ?_)
          have tq11 : τ q11 = (32, 0) := tq11
          have uq11 : qt = q11 := S_3.2.2.2.2 _ hqt _ hq11 (tqt.trans tq11.symm) (by rw [tqt]; rfl)
          subst uq11
          refine lv_aload_n hx hb dX5_push_20 rfl (lv_at hl_3 0 rfl) ?_
          refine tr_geti Z.1 Z.2.2.2.1 S_3.1 S_3.2 ha0 ta0 rfl rfl (fun _ h => List.mem_cons_of_mem _ (List.mem_append_right _ h)) 1 (by decide) rfl (hts _ (List.mem_of_getElem? (i := 1) rfl)) dX5_push_21 (fun v12 ev12 lv12 uv12 => ?_)
          have wv12 : v12 = v8 := ev12.symm.trans ev8
          have xv12 : v12.toInt = v8.toInt := by rw [wv12]
          refine lv_iload_n hx hb dX5_push_24 rfl (lv_at hl_3 1 rfl) ?_
          refine lv_iload_n hx hb dX5_push_25 rfl (lv_at hl_3 2 rfl) ?_
          refine lv_ishr hx hb dX5_push_26 ?_
          refine lv_topi (fun v13 ev13 => ?_)
          obtain ⟨v14, ev14⟩ : ∃ y : Int32, v13.toInt8.toInt32 = y := ⟨_, rfl⟩
          refine lv_i2b hx hb dX5_push_27 ev14 ?_
          refine tr_bast Z.1 Z.2.2.2.1 S_3.1 S_3.2 hqt tqt rfl (by omega) (by omega) dX5_push_28 (fun E15 H16 k17 W15 I15 P15 => ?_)
          have S15 : Now D TB cy (va_A (va_pl L E) sz) s L τ E15 H16 k17 := ⟨W15, I15⟩
          have F15 : Fr L τ (inW [(7, 0), (32, 0)]) E E15 := Fr.set F_3 P15 tqt rfl
          refine lv_aload_n hx hb dX5_push_29 rfl (lv_at hl_3 0 rfl) ?_
          refine lv_dup hx hb dX5_push_30 rfl ?_
          refine tr_geti Z.1 Z.2.2.2.1 S15.1 S15.2 ha0 ta0 rfl rfl (fun _ h => List.mem_cons_of_mem _ (List.mem_append_right _ h)) 1 (by decide) rfl (hts _ (List.mem_of_getElem? (i := 1) rfl)) dX5_push_31 (fun v18 ev18 lv18 uv18 => ?_)
          have wv18 : v18 = v12 := ev18.symm.trans ((fi_set (k := 1) P15 (ne_ro ta0 tqt (by decide))).trans ev12)
          have xv18 : v18.toInt = v12.toInt := by rw [wv18]
          obtain ⟨v19, ev19, tv19⟩ : ∃ v : Int32, Int32.ofInt (1) = v ∧ v.toInt = 1 := ⟨_, rfl, by decide +kernel⟩
          refine lv_iconst hx hb dX5_push_34 ev19 ?_
          refine lv_iadd hx hb dX5_push_35 ?_
          refine lv_topi (fun v20 ev20 => ?_)
          have tv20 := nu_add ev20 (by omega) (by omega)
          refine tr_puti Z.1 Z.2.2.2.1 S15.1 S15.2 ha0 ta0 rfl rfl (fun _ h => List.mem_cons_of_mem _ (List.mem_append_right _ h)) tyX5_ok nmX5 1 (by decide) rfl rfl rfl (hts _ (List.mem_of_getElem? (i := 1) rfl)) dX5_push_36 (by omega) (by omega) (fun E21 H22 k23 W21 I21 P21 => ?_)
          have S21 : Now D TB cy (va_A (va_pl L E) sz) s L τ E21 H22 k23 := ⟨W21, I21⟩
          have F21 : Fr L τ (inW [(7, 0), (32, 0)]) E E21 := Fr.put F15 P21 ta0 rfl
          obtain ⟨v24, ev24⟩ : ∃ y : Int32, x2_3 + Int32.ofInt (-8) = y := ⟨_, rfl⟩
          have tv24 : v24.toInt = x2_3.toInt + (-8) := by rw [← ev24]; exact (fb_addI (by rw [show (Int32.ofInt (-8)).toInt = -8 from by decide +kernel]; omega) (by rw [show (Int32.ofInt (-8)).toInt = -8 from by decide +kernel]; omega)).trans (by rw [show (Int32.ofInt (-8)).toInt = -8 from by decide +kernel])
          refine lv_iinc (v := v24) (lv' := [(2, .int v24), (0, .ref a0), (1, .int a1)]) hx hb dX5_push_39 hl_3 (k := 2) rfl ev24 (by decide) rfl (fun l25 hl26 => ?_)
          refine lv_goto (tgt := 3) hx hb dX5_push_42 (by decide) ?_
          exact ih_3 v24 E21 H22 k23 l25 S21 F21 (by have := fb_rng a1; omega) (by have := fb_rng a1; omega) (fun i hi => ((ai_put P21 (ne_ro tqt ta0 (by decide))).trans ((ai_setk P15 (by show i ≠ v12.toInt.toNat; omega)).trans (z3 i hi)))) (fun j hj => by rcases Int.lt_or_le (j : Int) ((24 - x2_3.toInt) / 8) with cj | cj; exact ((ai_put P21 (ne_ro tqt ta0 (by decide))).trans ((ai_setk P15 (by show ((fi E a0 1).toInt.toNat + j) ≠ v12.toInt.toNat; omega)).trans (z4 j cj))); exact ((ai_put P21 (ne_ro tqt ta0 (by decide))).trans (ai_at (n := (fi E a0 1).toInt.toNat + j) P15.2.1 (by omega))).trans (btW_at (sh := x2_3) (by omega) ev13 ev14)) (fun k hk => ((fi_put P21 (Or.inr (fw_ne (by decide) hk))).trans ((fi_set P15 (ne_ro ta0 tqt (by decide))).trans (z5 k hk)))) (by rw [(fi_at P21)]; have := fb_rng a1; omega) (by omega) (lv_sub hl26 [1, 2, 0] rfl)
  obtain ⟨v27, ev27, tv27⟩ : ∃ v : Int32, (Int8.ofInt (24)).toInt32 = v ∧ v.toInt = 24 := ⟨_, rfl, by decide +kernel⟩
  refine lv_bipush hx hb dX5_push_0 ev27 ?_
  refine lv_istore_n (lv' := [(2, .int v27), (0, .ref a0), (1, .int a1)]) hx hb dX5_push_2 rfl hl (by decide) rfl (fun l28 hl29 => ?_)
  exact J3 _ v27 E s.heap [] l28 S0 F0_ (by have := fb_rng a1; omega) (by have := fb_rng a1; omega) (fun _ _ => rfl) (fun j hj => absurd hj (by omega)) (fun k hk => ((fun k hk => rfl) k hk)) (by have := fb_rng a1; omega) (Nat.lt_succ_self _) (lv_sub hl29 [1, 2, 0] rfl)

set_option maxHeartbeats 4000000 in
set_option maxRecDepth 100000 in
theorem k_X9_feed_vr (l : Launch) (D : va_G) (cy : Nat → ClassId) {L : List Nat} {τ : Nat → Ro} {E : Ec} (hI : Inv TB cy L τ E) {a0 : Nat} (ha0 : a0 ∈ L) (ta0 : τ a0 = (0, 0)) (a1 : Int32) (a2 : Int32) (a3 : Int32) (a4 : Int32) (a5 : Int32) {qr : Nat} (hqr : qr ∈ L) (tqr : τ qr = (7, 0)) {qt : Nat} (hqt : qt ∈ L) (tqt : τ qt = (32, 0)) : CtI l yX9_feed wsX9_feed { frames := 1, cells := 0, slots := 0, locals := 22 } D TB cy L τ E [.ref a0, .int a1, .int a2, .int a3, .int a4, .int a5] (inW [(7, 0), (32, 0)]) (fun r E' => (((fi E qr 1).toInt ≤ 100 ∧ r.toInt = (fi E qr 1).toInt + 20 ∧ (fi E' qr 1).toInt = (fi E qr 1).toInt + 20 ∧ Fed (ai E' qt) (ai E qt) (fi E qr 1).toInt.toNat 20 (fdB a1 a2 a3 a4 a5)) ∨ (100 < (fi E qr 1).toInt ∧ r.toInt = -1 ∧ (fi E' qr 1).toInt = (fi E qr 1).toInt ∧ ∀ i : Nat, ai E' qt i = ai E qt i)) ∧ (fi E' qr 4 = fi E qr 4 ∧ fi E' qr 5 = fi E qr 5)) := by
  intro sz
  refine sta (cc := cX9_feed) (maxL := 6) hI (by decide) rfl (Nat.le_of_ble_eq_true rfl) (fun p e s m args below meth c ls hsz Z S0 hl => ?_)
  have hx := Z.1.1
  have hb := Z.1.2.1
  have hts := Z.1.2.2.2.2
  have F0_ : Fr L τ (inW [(7, 0), (32, 0)]) E E := Fr.refl
  have hl : lv_has ls 6 [(0, .ref a0), (1, .int a1), (2, .int a2), (3, .int a3), (4, .int a4), (5, .int a5)] := hl
  generalize hQ : MQ below _ args s 0 0 _ = QQ
  have kz_qr_1 := fi_rng (k := 1) hI hqr tqr rfl rfl
  refine lv_aload_n hx hb dX9_feed_0 rfl (lv_at hl 0 rfl) ?_
  refine tr_getr Z.1 Z.2.2.2.1 S0.1 S0.2 ha0 ta0 rfl rfl (fun _ h => List.mem_cons_of_mem _ (List.mem_append_left _ (List.mem_append_right _ h))) 4 (by decide) rfl (hts _ (List.mem_of_getElem? (i := 1) rfl)) dX9_feed_1 (fun q1 eq1 hq1 tq1 => ?_)
  have tq1 : τ q1 = (7, 0) := tq1
  have uq1 : qr = q1 := S0.2.2.2.2 _ hqr _ hq1 (tqr.trans tq1.symm) (by rw [tqr]; rfl)
  subst uq1
  refine tc_vi Z.1 Z.2.2.2.1 Z.2.2.2.2.1 Z.2.2.2.2.2 S0.1 S0.2 hqr tqr rfl rfl (k_X5_hasRoom l D cy S0.2 hqr tqr) (cwV 0 hts gX9_feed_X5_hasRoom rfl rfl rfl (by decide +kernel) ⟨Nat.le_of_ble_eq_true rfl, Nat.le_of_ble_eq_true rfl⟩) rfl hl.1 rfl (Nat.le_of_ble_eq_true rfl) dX9_feed_4 ⟨Nat.zero_le _, Nat.zero_le _⟩ (fun v5 E2 H3 k4 W2 I2 G2 p2 => ?_)
  obtain ⟨q2, p2_0, p2_1, p2_2⟩ := p2
  have q2 := q2.symm
  subst q2
  have S2 : Now D TB cy (va_A (va_pl L E) sz) s L τ E H3 k4 := ⟨W2, I2⟩
  refine lv_if_ne (tgt := 12) hx hb dX9_feed_7 (by decide) (fun c6 => ?_) (fun c6 => ?_)
  · skip
    have tc6 := nu_ne c6
    have uc6 : (0 : Int32).toInt = 0 := rfl
    refine lv_aload_n hx hb dX9_feed_12 rfl (lv_at hl 0 rfl) ?_
    refine tr_getr Z.1 Z.2.2.2.1 S2.1 S2.2 ha0 ta0 rfl rfl (fun _ h => List.mem_cons_of_mem _ (List.mem_append_left _ (List.mem_append_right _ h))) 4 (by decide) rfl (hts _ (List.mem_of_getElem? (i := 1) rfl)) dX9_feed_13 (fun q7 eq7 hq7 tq7 => ?_)
    have tq7 : τ q7 = (7, 0) := tq7
    have uq7 : qr = q7 := S2.2.2.2.2 _ hqr _ hq7 (tqr.trans tq7.symm) (by rw [tqr]; rfl)
    subst uq7
    refine lv_iload_n hx hb dX9_feed_16 rfl (lv_at hl 1 rfl) ?_
    refine tc_vv Z.1 Z.2.2.2.1 Z.2.2.2.2.1 Z.2.2.2.2.2 S2.1 S2.2 hqr tqr rfl rfl (k_X5_push_vr l D cy S2.2 hqr tqr a1 hqt tqt (by omega)) (cwV 1 hts gX9_feed_X5_push rfl rfl rfl (by decide +kernel) ⟨Nat.le_of_ble_eq_true rfl, Nat.le_of_ble_eq_true rfl⟩) rfl hl.1 rfl (Nat.le_of_ble_eq_true rfl) dX9_feed_17 ⟨Nat.zero_le _, Nat.zero_le _⟩ (fun E8 H9 k10 W8 I8 G8 p8 => ?_)
    obtain ⟨p8_0, p8_1, p8_2, p8_3⟩ := p8
    have S8 : Now D TB cy (va_A (va_pl L E) sz) s L τ E8 H9 k10 := ⟨W8, I8⟩
    have F8 : Fr L τ (inW [(7, 0), (32, 0)]) E E8 := F0_.trans (G8.mono (inW_mono (by decide)))
    have fd_17 : Fed (ai E8 qt) (ai E qt) (fi E qr 1).toInt.toNat 4 (fdB a1 a2 a3 a4 a5) := Fed.push (k := 0) (Fed.zero (g := ai E qt) (n := (fi E qr 1).toInt.toNat) (B := (fdB a1 a2 a3 a4 a5))) (by omega) p8_1 (fun j hj => (p8_2 j hj).trans (fd_1 hj).symm)
    refine lv_aload_n hx hb dX9_feed_20 rfl (lv_at hl 0 rfl) ?_
    refine tr_getr Z.1 Z.2.2.2.1 S8.1 S8.2 ha0 ta0 rfl rfl (fun _ h => List.mem_cons_of_mem _ (List.mem_append_left _ (List.mem_append_right _ h))) 4 (by decide) rfl (hts _ (List.mem_of_getElem? (i := 1) rfl)) dX9_feed_21 (fun q12 eq12 hq12 tq12 => ?_)
    have tq12 : τ q12 = (7, 0) := tq12
    have uq12 : qr = q12 := S8.2.2.2.2 _ hqr _ hq12 (tqr.trans tq12.symm) (by rw [tqr]; rfl)
    subst uq12
    refine lv_iload_n hx hb dX9_feed_24 rfl (lv_at hl 2 rfl) ?_
    refine tc_vv Z.1 Z.2.2.2.1 Z.2.2.2.2.1 Z.2.2.2.2.2 S8.1 S8.2 hqr tqr rfl rfl (k_X5_push_vr l D cy S8.2 hqr tqr a2 hqt tqt (by omega)) (cwV 1 hts gX9_feed_X5_push rfl rfl rfl (by decide +kernel) ⟨Nat.le_of_ble_eq_true rfl, Nat.le_of_ble_eq_true rfl⟩) rfl hl.1 rfl (Nat.le_of_ble_eq_true rfl) dX9_feed_25 ⟨Nat.zero_le _, Nat.zero_le _⟩ (fun E13 H14 k15 W13 I13 G13 p13 => ?_)
    obtain ⟨p13_0, p13_1, p13_2, p13_3⟩ := p13
    have S13 : Now D TB cy (va_A (va_pl L E) sz) s L τ E13 H14 k15 := ⟨W13, I13⟩
    have F13 : Fr L τ (inW [(7, 0), (32, 0)]) E E13 := F8.trans (G13.mono (inW_mono (by decide)))
    have fd_25 : Fed (ai E13 qt) (ai E qt) (fi E qr 1).toInt.toNat 8 (fdB a1 a2 a3 a4 a5) := Fed.push (k := 4) fd_17 (by omega) p13_1 (fun j hj => (p13_2 j hj).trans (fd_2 hj).symm)
    refine lv_aload_n hx hb dX9_feed_28 rfl (lv_at hl 0 rfl) ?_
    refine tr_getr Z.1 Z.2.2.2.1 S13.1 S13.2 ha0 ta0 rfl rfl (fun _ h => List.mem_cons_of_mem _ (List.mem_append_left _ (List.mem_append_right _ h))) 4 (by decide) rfl (hts _ (List.mem_of_getElem? (i := 1) rfl)) dX9_feed_29 (fun q17 eq17 hq17 tq17 => ?_)
    have tq17 : τ q17 = (7, 0) := tq17
    have uq17 : qr = q17 := S13.2.2.2.2 _ hqr _ hq17 (tqr.trans tq17.symm) (by rw [tqr]; rfl)
    subst uq17
    refine lv_iload_n hx hb dX9_feed_32 rfl (lv_at hl 3 rfl) ?_
    refine tc_vv Z.1 Z.2.2.2.1 Z.2.2.2.2.1 Z.2.2.2.2.2 S13.1 S13.2 hqr tqr rfl rfl (k_X5_push_vr l D cy S13.2 hqr tqr a3 hqt tqt (by omega)) (cwV 1 hts gX9_feed_X5_push rfl rfl rfl (by decide +kernel) ⟨Nat.le_of_ble_eq_true rfl, Nat.le_of_ble_eq_true rfl⟩) rfl hl.1 rfl (Nat.le_of_ble_eq_true rfl) dX9_feed_33 ⟨Nat.zero_le _, Nat.zero_le _⟩ (fun E18 H19 k20 W18 I18 G18 p18 => ?_)
    obtain ⟨p18_0, p18_1, p18_2, p18_3⟩ := p18
    have S18 : Now D TB cy (va_A (va_pl L E) sz) s L τ E18 H19 k20 := ⟨W18, I18⟩
    have F18 : Fr L τ (inW [(7, 0), (32, 0)]) E E18 := F13.trans (G18.mono (inW_mono (by decide)))
    have fd_33 : Fed (ai E18 qt) (ai E qt) (fi E qr 1).toInt.toNat 12 (fdB a1 a2 a3 a4 a5) := Fed.push (k := 8) fd_25 (by omega) p18_1 (fun j hj => (p18_2 j hj).trans (fd_3 hj).symm)
    refine lv_aload_n hx hb dX9_feed_36 rfl (lv_at hl 0 rfl) ?_
    refine tr_getr Z.1 Z.2.2.2.1 S18.1 S18.2 ha0 ta0 rfl rfl (fun _ h => List.mem_cons_of_mem _ (List.mem_append_left _ (List.mem_append_right _ h))) 4 (by decide) rfl (hts _ (List.mem_of_getElem? (i := 1) rfl)) dX9_feed_37 (fun q22 eq22 hq22 tq22 => ?_)
    have tq22 : τ q22 = (7, 0) := tq22
    have uq22 : qr = q22 := S18.2.2.2.2 _ hqr _ hq22 (tqr.trans tq22.symm) (by rw [tqr]; rfl)
    subst uq22
    refine lv_iload hx hb dX9_feed_40 (lv_at hl 4 rfl) ?_
    refine tc_vv Z.1 Z.2.2.2.1 Z.2.2.2.2.1 Z.2.2.2.2.2 S18.1 S18.2 hqr tqr rfl rfl (k_X5_push_vr l D cy S18.2 hqr tqr a4 hqt tqt (by omega)) (cwV 1 hts gX9_feed_X5_push rfl rfl rfl (by decide +kernel) ⟨Nat.le_of_ble_eq_true rfl, Nat.le_of_ble_eq_true rfl⟩) rfl hl.1 rfl (Nat.le_of_ble_eq_true rfl) dX9_feed_42 ⟨Nat.zero_le _, Nat.zero_le _⟩ (fun E23 H24 k25 W23 I23 G23 p23 => ?_)
    obtain ⟨p23_0, p23_1, p23_2, p23_3⟩ := p23
    have S23 : Now D TB cy (va_A (va_pl L E) sz) s L τ E23 H24 k25 := ⟨W23, I23⟩
    have F23 : Fr L τ (inW [(7, 0), (32, 0)]) E E23 := F18.trans (G23.mono (inW_mono (by decide)))
    have fd_42 : Fed (ai E23 qt) (ai E qt) (fi E qr 1).toInt.toNat 16 (fdB a1 a2 a3 a4 a5) := Fed.push (k := 12) fd_33 (by omega) p23_1 (fun j hj => (p23_2 j hj).trans (fd_4 hj).symm)
    refine lv_aload_n hx hb dX9_feed_45 rfl (lv_at hl 0 rfl) ?_
    refine tr_getr Z.1 Z.2.2.2.1 S23.1 S23.2 ha0 ta0 rfl rfl (fun _ h => List.mem_cons_of_mem _ (List.mem_append_left _ (List.mem_append_right _ h))) 4 (by decide) rfl (hts _ (List.mem_of_getElem? (i := 1) rfl)) dX9_feed_46 (fun q27 eq27 hq27 tq27 => ?_)
    have tq27 : τ q27 = (7, 0) := tq27
    have uq27 : qr = q27 := S23.2.2.2.2 _ hqr _ hq27 (tqr.trans tq27.symm) (by rw [tqr]; rfl)
    subst uq27
    refine lv_iload hx hb dX9_feed_49 (lv_at hl 5 rfl) ?_
    refine tc_vv Z.1 Z.2.2.2.1 Z.2.2.2.2.1 Z.2.2.2.2.2 S23.1 S23.2 hqr tqr rfl rfl (k_X5_push_vr l D cy S23.2 hqr tqr a5 hqt tqt (by omega)) (cwV 1 hts gX9_feed_X5_push rfl rfl rfl (by decide +kernel) ⟨Nat.le_of_ble_eq_true rfl, Nat.le_of_ble_eq_true rfl⟩) rfl hl.1 rfl (Nat.le_of_ble_eq_true rfl) dX9_feed_51 ⟨Nat.zero_le _, Nat.zero_le _⟩ (fun E28 H29 k30 W28 I28 G28 p28 => ?_)
    obtain ⟨p28_0, p28_1, p28_2, p28_3⟩ := p28
    have S28 : Now D TB cy (va_A (va_pl L E) sz) s L τ E28 H29 k30 := ⟨W28, I28⟩
    have F28 : Fr L τ (inW [(7, 0), (32, 0)]) E E28 := F23.trans (G28.mono (inW_mono (by decide)))
    have fd_51 : Fed (ai E28 qt) (ai E qt) (fi E qr 1).toInt.toNat 20 (fdB a1 a2 a3 a4 a5) := Fed.push (k := 16) fd_42 (by omega) p28_1 (fun j hj => (p28_2 j hj).trans (fd_5 hj).symm)
    refine lv_aload_n hx hb dX9_feed_54 rfl (lv_at hl 0 rfl) ?_
    refine tr_getr Z.1 Z.2.2.2.1 S28.1 S28.2 ha0 ta0 rfl rfl (fun _ h => List.mem_cons_of_mem _ (List.mem_append_left _ (List.mem_append_right _ h))) 4 (by decide) rfl (hts _ (List.mem_of_getElem? (i := 1) rfl)) dX9_feed_55 (fun q32 eq32 hq32 tq32 => ?_)
    have tq32 : τ q32 = (7, 0) := tq32
    have uq32 : qr = q32 := S28.2.2.2.2 _ hqr _ hq32 (tqr.trans tq32.symm) (by rw [tqr]; rfl)
    subst uq32
    refine tr_geti Z.1 Z.2.2.2.1 S28.1 S28.2 hqr tqr rfl rfl (fun _ h => List.mem_cons_of_mem _ (List.mem_append_right _ h)) 1 (by decide) rfl (hts _ (List.mem_of_getElem? (i := 2) rfl)) dX9_feed_58 (fun v33 ev33 lv33 uv33 => ?_)
    rw [← hQ]
    exact en_i Z S28 F28 ⟨(Or.inl ⟨by omega, by have hh := congrArg Int32.toInt ev33; omega, by omega, fd_51⟩), ⟨((p28_3 4 (by decide)).trans ((p23_3 4 (by decide)).trans ((p18_3 4 (by decide)).trans ((p13_3 4 (by decide)).trans (p8_3 4 (by decide)))))), ((p28_3 5 (by decide)).trans ((p23_3 5 (by decide)).trans ((p18_3 5 (by decide)).trans ((p13_3 5 (by decide)).trans (p8_3 5 (by decide))))))⟩⟩ dX9_feed_61
  · skip
    have tc6 := nu_eq c6
    have uc6 : (0 : Int32).toInt = 0 := rfl
    obtain ⟨v34, ev34, tv34⟩ : ∃ v : Int32, Int32.ofInt (-1) = v ∧ v.toInt = -1 := ⟨_, rfl, by decide +kernel⟩
    refine lv_iconst hx hb dX9_feed_10 ev34 ?_
    rw [← hQ]
    exact en_i Z S2 F0_ ⟨(Or.inr ⟨by omega, by omega, rfl, fun _ => rfl⟩), ⟨rfl, rfl⟩⟩ dX9_feed_11

set_option maxHeartbeats 4000000 in
set_option maxRecDepth 100000 in
theorem k_X10_feed_vr (l : Launch) (D : va_G) (cy : Nat → ClassId) {L : List Nat} {τ : Nat → Ro} {E : Ec} (hI : Inv TB cy L τ E) {a0 : Nat} (ha0 : a0 ∈ L) (ta0 : τ a0 = (11, 0)) (a1 : Int32) (a2 : Int32) (a3 : Int32) (a4 : Int32) (a5 : Int32) {qv : Nat} (hqv : qv ∈ L) (tqv : τ qv = (72, 0)) : CtI l yX10_feed wsX10_feed { frames := 0, cells := 0, slots := 0, locals := 0 } D TB cy L τ E [.ref a0, .int a1, .int a2, .int a3, .int a4, .int a5] (inW [(11, 0), (72, 0)]) (fun r E' => (((fi E a0 20).toInt ≤ 100 ∧ r.toInt = (fi E a0 20).toInt + 20 ∧ (fi E' a0 20).toInt = (fi E a0 20).toInt + 20 ∧ Fed (ai E' qv) (ai E qv) (fi E a0 20).toInt.toNat 20 (fdB a1 a2 a3 a4 a5)) ∨ (100 < (fi E a0 20).toInt ∧ r.toInt = -1 ∧ (fi E' a0 20).toInt = (fi E a0 20).toInt ∧ ∀ i : Nat, ai E' qv i = ai E qv i)) ∧ (∀ k : Nat, k ∉ ([4, 20] : List Nat) → fi E' a0 k = fi E a0 k)) := by
  intro sz
  refine sta (cc := cX10_feed) (maxL := 8) hI (by decide) rfl (Nat.le_of_ble_eq_true rfl) (fun p e s m args below meth c ls hsz Z S0 hl => ?_)
  have hx := Z.1.1
  have hb := Z.1.2.1
  have hts := Z.1.2.2.2.2
  have F0_ : Fr L τ (inW [(11, 0), (72, 0)]) E E := Fr.refl
  have hl : lv_has ls 8 [(0, .ref a0), (1, .int a1), (2, .int a2), (3, .int a3), (4, .int a4), (5, .int a5)] := hl
  generalize hQ : MQ below _ args s 0 0 _ = QQ
  have kz_a0_20 := fi_rng (k := 20) hI ha0 ta0 rfl rfl
  have J22 : ∀ (n : Nat) (x6_22 : Int32) (E_22 : Ec) (H_22 : Heap) (k_22 : List Loc) (l_22 : Array Slot), Now D TB cy (va_A (va_pl L E) sz) s L τ E_22 H_22 k_22 → Fr L τ (inW [(11, 0), (72, 0)]) E E_22 → (0 ≤ x6_22.toInt) → (x6_22.toInt ≤ 20) → (Fed (ai E_22 qv) (ai E qv) (fi E a0 20).toInt.toNat x6_22.toInt.toNat (fdB a1 a2 a3 a4 a5)) → (∀ k : Nat, k ∉ ([4, 20] : List Nat) → fi E_22 a0 k = fi E a0 k) → (0 ≤ (fi E_22 a0 20).toInt ∧ (fi E_22 a0 20).toInt ≤ 120 ∧ (fi E_22 a0 20).toInt = (fi E a0 20).toInt + x6_22.toInt ∧ (fi E a0 20).toInt ≤ 100) → (20 - x6_22.toInt).toNat < n → lv_has l_22 8 [(0, .ref a0), (1, .int a1), (2, .int a2), (3, .int a3), (4, .int a4), (5, .int a5), (6, .int x6_22)] → W p l e { frames := 0, cells := 0, slots := 0, locals := 0 } s m args below meth c H_22 k_22 0 0 QQ (F0 m 22 l_22 []) := by
    intro n
    induction n with
    | zero => intro x6_22 E_22 H_22 k_22 l_22 S_22 F_22 z1 z2 z3 z4 z5 hm hl_22; exact absurd hm (Nat.not_lt_zero _)
    | succ n ih =>
      intro x6_22 E_22 H_22 k_22 l_22 S_22 F_22 z1 z2 z3 z4 z5 hm hl_22
      have ih_22 := ih
      refine lv_iload hx hb dX10_feed_22 (lv_at hl_22 6 rfl) ?_
      obtain ⟨v6, ev6, tv6⟩ : ∃ v : Int32, (Int8.ofInt (20)).toInt32 = v ∧ v.toInt = 20 := ⟨_, rfl, by decide +kernel⟩
      refine lv_bipush hx hb dX10_feed_24 ev6 ?_
      refine lv_icmp_ge (tgt := 116) hx hb dX10_feed_26 (by decide) (fun c7 => ?_) (fun c7 => ?_)
      · skip
        have tc7 := nu_le c7
        refine lv_aload_n hx hb dX10_feed_116 rfl (lv_at hl_22 0 rfl) ?_
        refine tr_geti Z.1 Z.2.2.2.1 S_22.1 S_22.2 ha0 ta0 rfl rfl (fun _ h => List.mem_cons_of_mem _ (List.mem_append_right _ h)) 20 (by decide) rfl (hts _ (List.mem_of_getElem? (i := 2) rfl)) dX10_feed_117 (fun v8 ev8 lv8 uv8 => ?_)
        have wv8 : v8 = (fi E_22 a0 20) := ev8.symm.trans rfl
        have xv8 : v8.toInt = (fi E_22 a0 20).toInt := by rw [wv8]
        rw [← hQ]
        exact en_i Z S_22 F_22 ⟨(Or.inl ⟨by omega, by omega, by rw [ev8]; omega, by have q := z3; rw [show x6_22.toInt.toNat = 20 from by omega] at q; exact q⟩), (fun k hk => (z4 k hk))⟩ dX10_feed_120
      · skip
        have tc7 := nu_nle c7
        refine lv_iload hx hb dX10_feed_29 (lv_at hl_22 6 rfl) ?_
        obtain ⟨v9, ev9, tv9⟩ : ∃ v : Int32, Int32.ofInt (4) = v ∧ v.toInt = 4 := ⟨_, rfl, by decide +kernel⟩
        refine lv_iconst hx hb dX10_feed_31 ev9 ?_
        refine lv_icmp_ge (tgt := 39) hx hb dX10_feed_32 (by decide) (fun c10 => ?_) (fun c10 => ?_)
        · skip
          have tc10 := nu_le c10
          refine lv_iload hx hb dX10_feed_39 (lv_at hl_22 6 rfl) ?_
          obtain ⟨v11, ev11, tv11⟩ : ∃ v : Int32, (Int8.ofInt (8)).toInt32 = v ∧ v.toInt = 8 := ⟨_, rfl, by decide +kernel⟩
          refine lv_bipush hx hb dX10_feed_41 ev11 ?_
          refine lv_icmp_ge (tgt := 50) hx hb dX10_feed_43 (by decide) (fun c12 => ?_) (fun c12 => ?_)
          · skip
            have tc12 := nu_le c12
            refine lv_iload hx hb dX10_feed_50 (lv_at hl_22 6 rfl) ?_
            obtain ⟨v13, ev13, tv13⟩ : ∃ v : Int32, (Int8.ofInt (12)).toInt32 = v ∧ v.toInt = 12 := ⟨_, rfl, by decide +kernel⟩
            refine lv_bipush hx hb dX10_feed_52 ev13 ?_
            refine lv_icmp_ge (tgt := 61) hx hb dX10_feed_54 (by decide) (fun c14 => ?_) (fun c14 => ?_)
            · skip
              have tc14 := nu_le c14
              refine lv_iload hx hb dX10_feed_61 (lv_at hl_22 6 rfl) ?_
              obtain ⟨v15, ev15, tv15⟩ : ∃ v : Int32, (Int8.ofInt (16)).toInt32 = v ∧ v.toInt = 16 := ⟨_, rfl, by decide +kernel⟩
              refine lv_bipush hx hb dX10_feed_63 ev15 ?_
              refine lv_icmp_ge (tgt := 73) hx hb dX10_feed_65 (by decide) (fun c16 => ?_) (fun c16 => ?_)
              · skip
                have tc16 := nu_le c16
                refine lv_iload hx hb dX10_feed_73 (lv_at hl_22 5 rfl) ?_
                refine lv_istore (lv' := [(7, .int a5), (0, .ref a0), (1, .int a1), (2, .int a2), (3, .int a3), (4, .int a4), (5, .int a5), (6, .int x6_22)]) hx hb dX10_feed_75 hl_22 (by decide) rfl (fun l17 hl18 => ?_)
                refine lv_aload_n hx hb dX10_feed_77 rfl (lv_at hl18 1 rfl) ?_
                refine tr_getr Z.1 Z.2.2.2.1 S_22.1 S_22.2 ha0 ta0 rfl rfl (fun _ h => List.mem_cons_of_mem _ (List.mem_append_right _ h)) 18 (by decide) rfl (hts _ (List.mem_of_getElem? (i := 3) rfl)) dX10_feed_78 (fun q19 eq19 hq19 tq19 => ?_)
                have tq19 : τ q19 = (72, 0) := tq19
                have uq19 : qv = q19 := S_22.2.2.2.2 _ hqv _ hq19 (tqv.trans tq19.symm) (by rw [tqv]; rfl)
                subst uq19
                refine lv_aload_n hx hb dX10_feed_81 rfl (lv_at hl18 1 rfl) ?_
                refine tr_geti Z.1 Z.2.2.2.1 S_22.1 S_22.2 ha0 ta0 rfl rfl (fun _ h => List.mem_cons_of_mem _ (List.mem_append_right _ h)) 20 (by decide) rfl (hts _ (List.mem_of_getElem? (i := 2) rfl)) dX10_feed_82 (fun v20 ev20 lv20 uv20 => ?_)
                have wv20 : v20 = (fi E_22 a0 20) := ev20.symm.trans rfl
                have xv20 : v20.toInt = (fi E_22 a0 20).toInt := by rw [wv20]
                refine lv_iload hx hb dX10_feed_85 (lv_at hl18 0 rfl) ?_
                obtain ⟨v21, ev21, tv21⟩ : ∃ v : Int32, (Int8.ofInt (24)).toInt32 = v ∧ v.toInt = 24 := ⟨_, rfl, by decide +kernel⟩
                refine lv_bipush hx hb dX10_feed_87 ev21 ?_
                obtain ⟨v22, ev22, tv22⟩ : ∃ v : Int32, (Int8.ofInt (8)).toInt32 = v ∧ v.toInt = 8 := ⟨_, rfl, by decide +kernel⟩
                refine lv_bipush hx hb dX10_feed_89 ev22 ?_
                refine lv_iload hx hb dX10_feed_91 (lv_at hl18 7 rfl) ?_
                obtain ⟨v23, ev23, tv23⟩ : ∃ v : Int32, Int32.ofInt (4) = v ∧ v.toInt = 4 := ⟨_, rfl, by decide +kernel⟩
                refine lv_iconst hx hb dX10_feed_93 ev23 ?_
                refine lv_irem hx hb dX10_feed_94 (fun q => by have := nu_eq0 q; omega) ?_
                refine lv_topi (fun v24 ev24 => ?_)
                have tv24 := nu_remc (4) ev24 (by omega) (by omega) (by omega)
                refine lv_imul hx hb dX10_feed_95 ?_
                refine lv_topi (fun v25 ev25 => ?_)
                have tv25 := nu_mulc' (8) ev25 (by omega) (by omega) (by omega)
                refine lv_isub hx hb dX10_feed_96 ?_
                refine lv_topi (fun v26 ev26 => ?_)
                have tv26 := nu_sub ev26 (by omega) (by omega)
                refine lv_ishr hx hb dX10_feed_97 ?_
                refine lv_topi (fun v27 ev27 => ?_)
                obtain ⟨v28, ev28⟩ : ∃ y : Int32, v27.toInt8.toInt32 = y := ⟨_, rfl⟩
                refine lv_i2b hx hb dX10_feed_98 ev28 ?_
                refine tr_bast Z.1 Z.2.2.2.1 S_22.1 S_22.2 hqv tqv rfl (by omega) (by omega) dX10_feed_99 (fun E29 H30 k31 W29 I29 P29 => ?_)
                have S29 : Now D TB cy (va_A (va_pl L E) sz) s L τ E29 H30 k31 := ⟨W29, I29⟩
                have F29 : Fr L τ (inW [(11, 0), (72, 0)]) E E29 := Fr.set F_22 P29 tqv rfl
                refine lv_aload_n hx hb dX10_feed_100 rfl (lv_at hl18 1 rfl) ?_
                refine lv_dup hx hb dX10_feed_101 rfl ?_
                refine tr_geti Z.1 Z.2.2.2.1 S29.1 S29.2 ha0 ta0 rfl rfl (fun _ h => List.mem_cons_of_mem _ (List.mem_append_right _ h)) 20 (by decide) rfl (hts _ (List.mem_of_getElem? (i := 2) rfl)) dX10_feed_102 (fun v32 ev32 lv32 uv32 => ?_)
                have wv32 : v32 = v20 := ev32.symm.trans ((fi_set (k := 20) P29 (ne_ro ta0 tqv (by decide))).trans ev20)
                have xv32 : v32.toInt = v20.toInt := by rw [wv32]
                obtain ⟨v33, ev33, tv33⟩ : ∃ v : Int32, Int32.ofInt (1) = v ∧ v.toInt = 1 := ⟨_, rfl, by decide +kernel⟩
                refine lv_iconst hx hb dX10_feed_105 ev33 ?_
                refine lv_iadd hx hb dX10_feed_106 ?_
                refine lv_topi (fun v34 ev34 => ?_)
                have tv34 := nu_add ev34 (by omega) (by omega)
                refine tr_puti Z.1 Z.2.2.2.1 S29.1 S29.2 ha0 ta0 rfl rfl (fun _ h => List.mem_cons_of_mem _ (List.mem_append_right _ h)) tyX10_ok nmX10 20 (by decide) rfl rfl rfl (hts _ (List.mem_of_getElem? (i := 2) rfl)) dX10_feed_107 (by omega) (by omega) (fun E35 H36 k37 W35 I35 P35 => ?_)
                have S35 : Now D TB cy (va_A (va_pl L E) sz) s L τ E35 H36 k37 := ⟨W35, I35⟩
                have F35 : Fr L τ (inW [(11, 0), (72, 0)]) E E35 := Fr.put F29 P35 ta0 rfl
                obtain ⟨v38, ev38⟩ : ∃ y : Int32, x6_22 + Int32.ofInt (1) = y := ⟨_, rfl⟩
                have tv38 : v38.toInt = x6_22.toInt + (1) := by rw [← ev38]; exact (fb_addI (by rw [show (Int32.ofInt (1)).toInt = 1 from by decide +kernel]; omega) (by rw [show (Int32.ofInt (1)).toInt = 1 from by decide +kernel]; omega)).trans (by rw [show (Int32.ofInt (1)).toInt = 1 from by decide +kernel])
                refine lv_iinc (v := v38) (lv' := [(6, .int v38), (7, .int a5), (0, .ref a0), (1, .int a1), (2, .int a2), (3, .int a3), (4, .int a4), (5, .int a5)]) hx hb dX10_feed_110 hl18 (k := 7) rfl ev38 (by decide) rfl (fun l39 hl40 => ?_)
                refine lv_goto (tgt := 22) hx hb dX10_feed_113 (by decide) ?_
                exact ih_22 v38 E35 H36 k37 l39 S35 F35 (by have := fb_rng a5; have := fb_rng a1; have := fb_rng a2; have := fb_rng a3; have := fb_rng a4; have := fb_rng a5; omega) (by have := fb_rng a5; have := fb_rng a1; have := fb_rng a2; have := fb_rng a3; have := fb_rng a4; have := fb_rng a5; omega) (by rw [show v38.toInt.toNat = x6_22.toInt.toNat + 1 from by omega]; exact Fed.one (i := v20.toInt.toNat) z3 (by omega) (fun j hj => ((ai_put P35 (ne_ro tqv ta0 (by decide))).trans (ai_setk P29 (by show j ≠ v20.toInt.toNat; omega)))) (((ai_put P35 (ne_ro tqv ta0 (by decide))).trans (ai_at (n := v20.toInt.toNat) P29.2.1 (by omega))).trans ((btW_at (a := a5) (sh := v26) (j := x6_22.toInt.toNat % 4) (by omega) ev27 ev28).trans (by show btW a5 (x6_22.toInt.toNat % 4) = btW (w5 a1 a2 a3 a4 a5 x6_22.toInt.toNat) (x6_22.toInt.toNat % 4); rw [w5_5 (by omega) (by omega) (by omega) (by omega)])))) (fun k hk => ((fi_put P35 (Or.inr (fw_ne (by decide) hk))).trans ((fi_set P29 (ne_ro ta0 tqv (by decide))).trans (z4 k hk)))) (by rw [(fi_at P35)]; have := fb_rng a5; have := fb_rng a1; have := fb_rng a2; have := fb_rng a3; have := fb_rng a4; have := fb_rng a5; omega) (by omega) (lv_sub hl40 [2, 3, 4, 5, 6, 7, 0] rfl)
              · skip
                have tc16 := nu_nle c16
                refine lv_iload hx hb dX10_feed_68 (lv_at hl_22 4 rfl) ?_
                refine lv_goto (tgt := 75) hx hb dX10_feed_70 (by decide) ?_
                refine lv_istore (lv' := [(7, .int a4), (0, .ref a0), (1, .int a1), (2, .int a2), (3, .int a3), (4, .int a4), (5, .int a5), (6, .int x6_22)]) hx hb dX10_feed_75 hl_22 (by decide) rfl (fun l41 hl42 => ?_)
                refine lv_aload_n hx hb dX10_feed_77 rfl (lv_at hl42 1 rfl) ?_
                refine tr_getr Z.1 Z.2.2.2.1 S_22.1 S_22.2 ha0 ta0 rfl rfl (fun _ h => List.mem_cons_of_mem _ (List.mem_append_right _ h)) 18 (by decide) rfl (hts _ (List.mem_of_getElem? (i := 3) rfl)) dX10_feed_78 (fun q43 eq43 hq43 tq43 => ?_)
                have tq43 : τ q43 = (72, 0) := tq43
                have uq43 : qv = q43 := S_22.2.2.2.2 _ hqv _ hq43 (tqv.trans tq43.symm) (by rw [tqv]; rfl)
                subst uq43
                refine lv_aload_n hx hb dX10_feed_81 rfl (lv_at hl42 1 rfl) ?_
                refine tr_geti Z.1 Z.2.2.2.1 S_22.1 S_22.2 ha0 ta0 rfl rfl (fun _ h => List.mem_cons_of_mem _ (List.mem_append_right _ h)) 20 (by decide) rfl (hts _ (List.mem_of_getElem? (i := 2) rfl)) dX10_feed_82 (fun v44 ev44 lv44 uv44 => ?_)
                have wv44 : v44 = (fi E_22 a0 20) := ev44.symm.trans rfl
                have xv44 : v44.toInt = (fi E_22 a0 20).toInt := by rw [wv44]
                refine lv_iload hx hb dX10_feed_85 (lv_at hl42 0 rfl) ?_
                obtain ⟨v45, ev45, tv45⟩ : ∃ v : Int32, (Int8.ofInt (24)).toInt32 = v ∧ v.toInt = 24 := ⟨_, rfl, by decide +kernel⟩
                refine lv_bipush hx hb dX10_feed_87 ev45 ?_
                obtain ⟨v46, ev46, tv46⟩ : ∃ v : Int32, (Int8.ofInt (8)).toInt32 = v ∧ v.toInt = 8 := ⟨_, rfl, by decide +kernel⟩
                refine lv_bipush hx hb dX10_feed_89 ev46 ?_
                refine lv_iload hx hb dX10_feed_91 (lv_at hl42 7 rfl) ?_
                obtain ⟨v47, ev47, tv47⟩ : ∃ v : Int32, Int32.ofInt (4) = v ∧ v.toInt = 4 := ⟨_, rfl, by decide +kernel⟩
                refine lv_iconst hx hb dX10_feed_93 ev47 ?_
                refine lv_irem hx hb dX10_feed_94 (fun q => by have := nu_eq0 q; omega) ?_
                refine lv_topi (fun v48 ev48 => ?_)
                have tv48 := nu_remc (4) ev48 (by omega) (by omega) (by omega)
                refine lv_imul hx hb dX10_feed_95 ?_
                refine lv_topi (fun v49 ev49 => ?_)
                have tv49 := nu_mulc' (8) ev49 (by omega) (by omega) (by omega)
                refine lv_isub hx hb dX10_feed_96 ?_
                refine lv_topi (fun v50 ev50 => ?_)
                have tv50 := nu_sub ev50 (by omega) (by omega)
                refine lv_ishr hx hb dX10_feed_97 ?_
                refine lv_topi (fun v51 ev51 => ?_)
                obtain ⟨v52, ev52⟩ : ∃ y : Int32, v51.toInt8.toInt32 = y := ⟨_, rfl⟩
                refine lv_i2b hx hb dX10_feed_98 ev52 ?_
                refine tr_bast Z.1 Z.2.2.2.1 S_22.1 S_22.2 hqv tqv rfl (by omega) (by omega) dX10_feed_99 (fun E53 H54 k55 W53 I53 P53 => ?_)
                have S53 : Now D TB cy (va_A (va_pl L E) sz) s L τ E53 H54 k55 := ⟨W53, I53⟩
                have F53 : Fr L τ (inW [(11, 0), (72, 0)]) E E53 := Fr.set F_22 P53 tqv rfl
                refine lv_aload_n hx hb dX10_feed_100 rfl (lv_at hl42 1 rfl) ?_
                refine lv_dup hx hb dX10_feed_101 rfl ?_
                refine tr_geti Z.1 Z.2.2.2.1 S53.1 S53.2 ha0 ta0 rfl rfl (fun _ h => List.mem_cons_of_mem _ (List.mem_append_right _ h)) 20 (by decide) rfl (hts _ (List.mem_of_getElem? (i := 2) rfl)) dX10_feed_102 (fun v56 ev56 lv56 uv56 => ?_)
                have wv56 : v56 = v44 := ev56.symm.trans ((fi_set (k := 20) P53 (ne_ro ta0 tqv (by decide))).trans ev44)
                have xv56 : v56.toInt = v44.toInt := by rw [wv56]
                obtain ⟨v57, ev57, tv57⟩ : ∃ v : Int32, Int32.ofInt (1) = v ∧ v.toInt = 1 := ⟨_, rfl, by decide +kernel⟩
                refine lv_iconst hx hb dX10_feed_105 ev57 ?_
                refine lv_iadd hx hb dX10_feed_106 ?_
                refine lv_topi (fun v58 ev58 => ?_)
                have tv58 := nu_add ev58 (by omega) (by omega)
                refine tr_puti Z.1 Z.2.2.2.1 S53.1 S53.2 ha0 ta0 rfl rfl (fun _ h => List.mem_cons_of_mem _ (List.mem_append_right _ h)) tyX10_ok nmX10 20 (by decide) rfl rfl rfl (hts _ (List.mem_of_getElem? (i := 2) rfl)) dX10_feed_107 (by omega) (by omega) (fun E59 H60 k61 W59 I59 P59 => ?_)
                have S59 : Now D TB cy (va_A (va_pl L E) sz) s L τ E59 H60 k61 := ⟨W59, I59⟩
                have F59 : Fr L τ (inW [(11, 0), (72, 0)]) E E59 := Fr.put F53 P59 ta0 rfl
                obtain ⟨v62, ev62⟩ : ∃ y : Int32, x6_22 + Int32.ofInt (1) = y := ⟨_, rfl⟩
                have tv62 : v62.toInt = x6_22.toInt + (1) := by rw [← ev62]; exact (fb_addI (by rw [show (Int32.ofInt (1)).toInt = 1 from by decide +kernel]; omega) (by rw [show (Int32.ofInt (1)).toInt = 1 from by decide +kernel]; omega)).trans (by rw [show (Int32.ofInt (1)).toInt = 1 from by decide +kernel])
                refine lv_iinc (v := v62) (lv' := [(6, .int v62), (7, .int a4), (0, .ref a0), (1, .int a1), (2, .int a2), (3, .int a3), (4, .int a4), (5, .int a5)]) hx hb dX10_feed_110 hl42 (k := 7) rfl ev62 (by decide) rfl (fun l63 hl64 => ?_)
                refine lv_goto (tgt := 22) hx hb dX10_feed_113 (by decide) ?_
                exact ih_22 v62 E59 H60 k61 l63 S59 F59 (by have := fb_rng a4; have := fb_rng a1; have := fb_rng a2; have := fb_rng a3; have := fb_rng a4; have := fb_rng a5; omega) (by have := fb_rng a4; have := fb_rng a1; have := fb_rng a2; have := fb_rng a3; have := fb_rng a4; have := fb_rng a5; omega) (by rw [show v62.toInt.toNat = x6_22.toInt.toNat + 1 from by omega]; exact Fed.one (i := v44.toInt.toNat) z3 (by omega) (fun j hj => ((ai_put P59 (ne_ro tqv ta0 (by decide))).trans (ai_setk P53 (by show j ≠ v44.toInt.toNat; omega)))) (((ai_put P59 (ne_ro tqv ta0 (by decide))).trans (ai_at (n := v44.toInt.toNat) P53.2.1 (by omega))).trans ((btW_at (a := a4) (sh := v50) (j := x6_22.toInt.toNat % 4) (by omega) ev51 ev52).trans (by show btW a4 (x6_22.toInt.toNat % 4) = btW (w5 a1 a2 a3 a4 a5 x6_22.toInt.toNat) (x6_22.toInt.toNat % 4); rw [w5_4 (by omega) (by omega) (by omega) (by omega)])))) (fun k hk => ((fi_put P59 (Or.inr (fw_ne (by decide) hk))).trans ((fi_set P53 (ne_ro ta0 tqv (by decide))).trans (z4 k hk)))) (by rw [(fi_at P59)]; have := fb_rng a4; have := fb_rng a1; have := fb_rng a2; have := fb_rng a3; have := fb_rng a4; have := fb_rng a5; omega) (by omega) (lv_sub hl64 [2, 3, 4, 5, 6, 7, 0] rfl)
            · skip
              have tc14 := nu_nle c14
              refine lv_iload_n hx hb dX10_feed_57 rfl (lv_at hl_22 3 rfl) ?_
              refine lv_goto (tgt := 75) hx hb dX10_feed_58 (by decide) ?_
              refine lv_istore (lv' := [(7, .int a3), (0, .ref a0), (1, .int a1), (2, .int a2), (3, .int a3), (4, .int a4), (5, .int a5), (6, .int x6_22)]) hx hb dX10_feed_75 hl_22 (by decide) rfl (fun l65 hl66 => ?_)
              refine lv_aload_n hx hb dX10_feed_77 rfl (lv_at hl66 1 rfl) ?_
              refine tr_getr Z.1 Z.2.2.2.1 S_22.1 S_22.2 ha0 ta0 rfl rfl (fun _ h => List.mem_cons_of_mem _ (List.mem_append_right _ h)) 18 (by decide) rfl (hts _ (List.mem_of_getElem? (i := 3) rfl)) dX10_feed_78 (fun q67 eq67 hq67 tq67 => ?_)
              have tq67 : τ q67 = (72, 0) := tq67
              have uq67 : qv = q67 := S_22.2.2.2.2 _ hqv _ hq67 (tqv.trans tq67.symm) (by rw [tqv]; rfl)
              subst uq67
              refine lv_aload_n hx hb dX10_feed_81 rfl (lv_at hl66 1 rfl) ?_
              refine tr_geti Z.1 Z.2.2.2.1 S_22.1 S_22.2 ha0 ta0 rfl rfl (fun _ h => List.mem_cons_of_mem _ (List.mem_append_right _ h)) 20 (by decide) rfl (hts _ (List.mem_of_getElem? (i := 2) rfl)) dX10_feed_82 (fun v68 ev68 lv68 uv68 => ?_)
              have wv68 : v68 = (fi E_22 a0 20) := ev68.symm.trans rfl
              have xv68 : v68.toInt = (fi E_22 a0 20).toInt := by rw [wv68]
              refine lv_iload hx hb dX10_feed_85 (lv_at hl66 0 rfl) ?_
              obtain ⟨v69, ev69, tv69⟩ : ∃ v : Int32, (Int8.ofInt (24)).toInt32 = v ∧ v.toInt = 24 := ⟨_, rfl, by decide +kernel⟩
              refine lv_bipush hx hb dX10_feed_87 ev69 ?_
              obtain ⟨v70, ev70, tv70⟩ : ∃ v : Int32, (Int8.ofInt (8)).toInt32 = v ∧ v.toInt = 8 := ⟨_, rfl, by decide +kernel⟩
              refine lv_bipush hx hb dX10_feed_89 ev70 ?_
              refine lv_iload hx hb dX10_feed_91 (lv_at hl66 7 rfl) ?_
              obtain ⟨v71, ev71, tv71⟩ : ∃ v : Int32, Int32.ofInt (4) = v ∧ v.toInt = 4 := ⟨_, rfl, by decide +kernel⟩
              refine lv_iconst hx hb dX10_feed_93 ev71 ?_
              refine lv_irem hx hb dX10_feed_94 (fun q => by have := nu_eq0 q; omega) ?_
              refine lv_topi (fun v72 ev72 => ?_)
              have tv72 := nu_remc (4) ev72 (by omega) (by omega) (by omega)
              refine lv_imul hx hb dX10_feed_95 ?_
              refine lv_topi (fun v73 ev73 => ?_)
              have tv73 := nu_mulc' (8) ev73 (by omega) (by omega) (by omega)
              refine lv_isub hx hb dX10_feed_96 ?_
              refine lv_topi (fun v74 ev74 => ?_)
              have tv74 := nu_sub ev74 (by omega) (by omega)
              refine lv_ishr hx hb dX10_feed_97 ?_
              refine lv_topi (fun v75 ev75 => ?_)
              obtain ⟨v76, ev76⟩ : ∃ y : Int32, v75.toInt8.toInt32 = y := ⟨_, rfl⟩
              refine lv_i2b hx hb dX10_feed_98 ev76 ?_
              refine tr_bast Z.1 Z.2.2.2.1 S_22.1 S_22.2 hqv tqv rfl (by omega) (by omega) dX10_feed_99 (fun E77 H78 k79 W77 I77 P77 => ?_)
              have S77 : Now D TB cy (va_A (va_pl L E) sz) s L τ E77 H78 k79 := ⟨W77, I77⟩
              have F77 : Fr L τ (inW [(11, 0), (72, 0)]) E E77 := Fr.set F_22 P77 tqv rfl
              refine lv_aload_n hx hb dX10_feed_100 rfl (lv_at hl66 1 rfl) ?_
              refine lv_dup hx hb dX10_feed_101 rfl ?_
              refine tr_geti Z.1 Z.2.2.2.1 S77.1 S77.2 ha0 ta0 rfl rfl (fun _ h => List.mem_cons_of_mem _ (List.mem_append_right _ h)) 20 (by decide) rfl (hts _ (List.mem_of_getElem? (i := 2) rfl)) dX10_feed_102 (fun v80 ev80 lv80 uv80 => ?_)
              have wv80 : v80 = v68 := ev80.symm.trans ((fi_set (k := 20) P77 (ne_ro ta0 tqv (by decide))).trans ev68)
              have xv80 : v80.toInt = v68.toInt := by rw [wv80]
              obtain ⟨v81, ev81, tv81⟩ : ∃ v : Int32, Int32.ofInt (1) = v ∧ v.toInt = 1 := ⟨_, rfl, by decide +kernel⟩
              refine lv_iconst hx hb dX10_feed_105 ev81 ?_
              refine lv_iadd hx hb dX10_feed_106 ?_
              refine lv_topi (fun v82 ev82 => ?_)
              have tv82 := nu_add ev82 (by omega) (by omega)
              refine tr_puti Z.1 Z.2.2.2.1 S77.1 S77.2 ha0 ta0 rfl rfl (fun _ h => List.mem_cons_of_mem _ (List.mem_append_right _ h)) tyX10_ok nmX10 20 (by decide) rfl rfl rfl (hts _ (List.mem_of_getElem? (i := 2) rfl)) dX10_feed_107 (by omega) (by omega) (fun E83 H84 k85 W83 I83 P83 => ?_)
              have S83 : Now D TB cy (va_A (va_pl L E) sz) s L τ E83 H84 k85 := ⟨W83, I83⟩
              have F83 : Fr L τ (inW [(11, 0), (72, 0)]) E E83 := Fr.put F77 P83 ta0 rfl
              obtain ⟨v86, ev86⟩ : ∃ y : Int32, x6_22 + Int32.ofInt (1) = y := ⟨_, rfl⟩
              have tv86 : v86.toInt = x6_22.toInt + (1) := by rw [← ev86]; exact (fb_addI (by rw [show (Int32.ofInt (1)).toInt = 1 from by decide +kernel]; omega) (by rw [show (Int32.ofInt (1)).toInt = 1 from by decide +kernel]; omega)).trans (by rw [show (Int32.ofInt (1)).toInt = 1 from by decide +kernel])
              refine lv_iinc (v := v86) (lv' := [(6, .int v86), (7, .int a3), (0, .ref a0), (1, .int a1), (2, .int a2), (3, .int a3), (4, .int a4), (5, .int a5)]) hx hb dX10_feed_110 hl66 (k := 7) rfl ev86 (by decide) rfl (fun l87 hl88 => ?_)
              refine lv_goto (tgt := 22) hx hb dX10_feed_113 (by decide) ?_
              exact ih_22 v86 E83 H84 k85 l87 S83 F83 (by have := fb_rng a3; have := fb_rng a1; have := fb_rng a2; have := fb_rng a3; have := fb_rng a4; have := fb_rng a5; omega) (by have := fb_rng a3; have := fb_rng a1; have := fb_rng a2; have := fb_rng a3; have := fb_rng a4; have := fb_rng a5; omega) (by rw [show v86.toInt.toNat = x6_22.toInt.toNat + 1 from by omega]; exact Fed.one (i := v68.toInt.toNat) z3 (by omega) (fun j hj => ((ai_put P83 (ne_ro tqv ta0 (by decide))).trans (ai_setk P77 (by show j ≠ v68.toInt.toNat; omega)))) (((ai_put P83 (ne_ro tqv ta0 (by decide))).trans (ai_at (n := v68.toInt.toNat) P77.2.1 (by omega))).trans ((btW_at (a := a3) (sh := v74) (j := x6_22.toInt.toNat % 4) (by omega) ev75 ev76).trans (by show btW a3 (x6_22.toInt.toNat % 4) = btW (w5 a1 a2 a3 a4 a5 x6_22.toInt.toNat) (x6_22.toInt.toNat % 4); rw [w5_3 (by omega) (by omega) (by omega)])))) (fun k hk => ((fi_put P83 (Or.inr (fw_ne (by decide) hk))).trans ((fi_set P77 (ne_ro ta0 tqv (by decide))).trans (z4 k hk)))) (by rw [(fi_at P83)]; have := fb_rng a3; have := fb_rng a1; have := fb_rng a2; have := fb_rng a3; have := fb_rng a4; have := fb_rng a5; omega) (by omega) (lv_sub hl88 [2, 3, 4, 5, 6, 7, 0] rfl)
          · skip
            have tc12 := nu_nle c12
            refine lv_iload_n hx hb dX10_feed_46 rfl (lv_at hl_22 2 rfl) ?_
            refine lv_goto (tgt := 75) hx hb dX10_feed_47 (by decide) ?_
            refine lv_istore (lv' := [(7, .int a2), (0, .ref a0), (1, .int a1), (2, .int a2), (3, .int a3), (4, .int a4), (5, .int a5), (6, .int x6_22)]) hx hb dX10_feed_75 hl_22 (by decide) rfl (fun l89 hl90 => ?_)
            refine lv_aload_n hx hb dX10_feed_77 rfl (lv_at hl90 1 rfl) ?_
            refine tr_getr Z.1 Z.2.2.2.1 S_22.1 S_22.2 ha0 ta0 rfl rfl (fun _ h => List.mem_cons_of_mem _ (List.mem_append_right _ h)) 18 (by decide) rfl (hts _ (List.mem_of_getElem? (i := 3) rfl)) dX10_feed_78 (fun q91 eq91 hq91 tq91 => ?_)
            have tq91 : τ q91 = (72, 0) := tq91
            have uq91 : qv = q91 := S_22.2.2.2.2 _ hqv _ hq91 (tqv.trans tq91.symm) (by rw [tqv]; rfl)
            subst uq91
            refine lv_aload_n hx hb dX10_feed_81 rfl (lv_at hl90 1 rfl) ?_
            refine tr_geti Z.1 Z.2.2.2.1 S_22.1 S_22.2 ha0 ta0 rfl rfl (fun _ h => List.mem_cons_of_mem _ (List.mem_append_right _ h)) 20 (by decide) rfl (hts _ (List.mem_of_getElem? (i := 2) rfl)) dX10_feed_82 (fun v92 ev92 lv92 uv92 => ?_)
            have wv92 : v92 = (fi E_22 a0 20) := ev92.symm.trans rfl
            have xv92 : v92.toInt = (fi E_22 a0 20).toInt := by rw [wv92]
            refine lv_iload hx hb dX10_feed_85 (lv_at hl90 0 rfl) ?_
            obtain ⟨v93, ev93, tv93⟩ : ∃ v : Int32, (Int8.ofInt (24)).toInt32 = v ∧ v.toInt = 24 := ⟨_, rfl, by decide +kernel⟩
            refine lv_bipush hx hb dX10_feed_87 ev93 ?_
            obtain ⟨v94, ev94, tv94⟩ : ∃ v : Int32, (Int8.ofInt (8)).toInt32 = v ∧ v.toInt = 8 := ⟨_, rfl, by decide +kernel⟩
            refine lv_bipush hx hb dX10_feed_89 ev94 ?_
            refine lv_iload hx hb dX10_feed_91 (lv_at hl90 7 rfl) ?_
            obtain ⟨v95, ev95, tv95⟩ : ∃ v : Int32, Int32.ofInt (4) = v ∧ v.toInt = 4 := ⟨_, rfl, by decide +kernel⟩
            refine lv_iconst hx hb dX10_feed_93 ev95 ?_
            refine lv_irem hx hb dX10_feed_94 (fun q => by have := nu_eq0 q; omega) ?_
            refine lv_topi (fun v96 ev96 => ?_)
            have tv96 := nu_remc (4) ev96 (by omega) (by omega) (by omega)
            refine lv_imul hx hb dX10_feed_95 ?_
            refine lv_topi (fun v97 ev97 => ?_)
            have tv97 := nu_mulc' (8) ev97 (by omega) (by omega) (by omega)
            refine lv_isub hx hb dX10_feed_96 ?_
            refine lv_topi (fun v98 ev98 => ?_)
            have tv98 := nu_sub ev98 (by omega) (by omega)
            refine lv_ishr hx hb dX10_feed_97 ?_
            refine lv_topi (fun v99 ev99 => ?_)
            obtain ⟨v100, ev100⟩ : ∃ y : Int32, v99.toInt8.toInt32 = y := ⟨_, rfl⟩
            refine lv_i2b hx hb dX10_feed_98 ev100 ?_
            refine tr_bast Z.1 Z.2.2.2.1 S_22.1 S_22.2 hqv tqv rfl (by omega) (by omega) dX10_feed_99 (fun E101 H102 k103 W101 I101 P101 => ?_)
            have S101 : Now D TB cy (va_A (va_pl L E) sz) s L τ E101 H102 k103 := ⟨W101, I101⟩
            have F101 : Fr L τ (inW [(11, 0), (72, 0)]) E E101 := Fr.set F_22 P101 tqv rfl
            refine lv_aload_n hx hb dX10_feed_100 rfl (lv_at hl90 1 rfl) ?_
            refine lv_dup hx hb dX10_feed_101 rfl ?_
            refine tr_geti Z.1 Z.2.2.2.1 S101.1 S101.2 ha0 ta0 rfl rfl (fun _ h => List.mem_cons_of_mem _ (List.mem_append_right _ h)) 20 (by decide) rfl (hts _ (List.mem_of_getElem? (i := 2) rfl)) dX10_feed_102 (fun v104 ev104 lv104 uv104 => ?_)
            have wv104 : v104 = v92 := ev104.symm.trans ((fi_set (k := 20) P101 (ne_ro ta0 tqv (by decide))).trans ev92)
            have xv104 : v104.toInt = v92.toInt := by rw [wv104]
            obtain ⟨v105, ev105, tv105⟩ : ∃ v : Int32, Int32.ofInt (1) = v ∧ v.toInt = 1 := ⟨_, rfl, by decide +kernel⟩
            refine lv_iconst hx hb dX10_feed_105 ev105 ?_
            refine lv_iadd hx hb dX10_feed_106 ?_
            refine lv_topi (fun v106 ev106 => ?_)
            have tv106 := nu_add ev106 (by omega) (by omega)
            refine tr_puti Z.1 Z.2.2.2.1 S101.1 S101.2 ha0 ta0 rfl rfl (fun _ h => List.mem_cons_of_mem _ (List.mem_append_right _ h)) tyX10_ok nmX10 20 (by decide) rfl rfl rfl (hts _ (List.mem_of_getElem? (i := 2) rfl)) dX10_feed_107 (by omega) (by omega) (fun E107 H108 k109 W107 I107 P107 => ?_)
            have S107 : Now D TB cy (va_A (va_pl L E) sz) s L τ E107 H108 k109 := ⟨W107, I107⟩
            have F107 : Fr L τ (inW [(11, 0), (72, 0)]) E E107 := Fr.put F101 P107 ta0 rfl
            obtain ⟨v110, ev110⟩ : ∃ y : Int32, x6_22 + Int32.ofInt (1) = y := ⟨_, rfl⟩
            have tv110 : v110.toInt = x6_22.toInt + (1) := by rw [← ev110]; exact (fb_addI (by rw [show (Int32.ofInt (1)).toInt = 1 from by decide +kernel]; omega) (by rw [show (Int32.ofInt (1)).toInt = 1 from by decide +kernel]; omega)).trans (by rw [show (Int32.ofInt (1)).toInt = 1 from by decide +kernel])
            refine lv_iinc (v := v110) (lv' := [(6, .int v110), (7, .int a2), (0, .ref a0), (1, .int a1), (2, .int a2), (3, .int a3), (4, .int a4), (5, .int a5)]) hx hb dX10_feed_110 hl90 (k := 7) rfl ev110 (by decide) rfl (fun l111 hl112 => ?_)
            refine lv_goto (tgt := 22) hx hb dX10_feed_113 (by decide) ?_
            exact ih_22 v110 E107 H108 k109 l111 S107 F107 (by have := fb_rng a2; have := fb_rng a1; have := fb_rng a2; have := fb_rng a3; have := fb_rng a4; have := fb_rng a5; omega) (by have := fb_rng a2; have := fb_rng a1; have := fb_rng a2; have := fb_rng a3; have := fb_rng a4; have := fb_rng a5; omega) (by rw [show v110.toInt.toNat = x6_22.toInt.toNat + 1 from by omega]; exact Fed.one (i := v92.toInt.toNat) z3 (by omega) (fun j hj => ((ai_put P107 (ne_ro tqv ta0 (by decide))).trans (ai_setk P101 (by show j ≠ v92.toInt.toNat; omega)))) (((ai_put P107 (ne_ro tqv ta0 (by decide))).trans (ai_at (n := v92.toInt.toNat) P101.2.1 (by omega))).trans ((btW_at (a := a2) (sh := v98) (j := x6_22.toInt.toNat % 4) (by omega) ev99 ev100).trans (by show btW a2 (x6_22.toInt.toNat % 4) = btW (w5 a1 a2 a3 a4 a5 x6_22.toInt.toNat) (x6_22.toInt.toNat % 4); rw [w5_2 (by omega) (by omega)])))) (fun k hk => ((fi_put P107 (Or.inr (fw_ne (by decide) hk))).trans ((fi_set P101 (ne_ro ta0 tqv (by decide))).trans (z4 k hk)))) (by rw [(fi_at P107)]; have := fb_rng a2; have := fb_rng a1; have := fb_rng a2; have := fb_rng a3; have := fb_rng a4; have := fb_rng a5; omega) (by omega) (lv_sub hl112 [2, 3, 4, 5, 6, 7, 0] rfl)
        · skip
          have tc10 := nu_nle c10
          refine lv_iload_n hx hb dX10_feed_35 rfl (lv_at hl_22 1 rfl) ?_
          refine lv_goto (tgt := 75) hx hb dX10_feed_36 (by decide) ?_
          refine lv_istore (lv' := [(7, .int a1), (0, .ref a0), (1, .int a1), (2, .int a2), (3, .int a3), (4, .int a4), (5, .int a5), (6, .int x6_22)]) hx hb dX10_feed_75 hl_22 (by decide) rfl (fun l113 hl114 => ?_)
          refine lv_aload_n hx hb dX10_feed_77 rfl (lv_at hl114 1 rfl) ?_
          refine tr_getr Z.1 Z.2.2.2.1 S_22.1 S_22.2 ha0 ta0 rfl rfl (fun _ h => List.mem_cons_of_mem _ (List.mem_append_right _ h)) 18 (by decide) rfl (hts _ (List.mem_of_getElem? (i := 3) rfl)) dX10_feed_78 (fun q115 eq115 hq115 tq115 => ?_)
          have tq115 : τ q115 = (72, 0) := tq115
          have uq115 : qv = q115 := S_22.2.2.2.2 _ hqv _ hq115 (tqv.trans tq115.symm) (by rw [tqv]; rfl)
          subst uq115
          refine lv_aload_n hx hb dX10_feed_81 rfl (lv_at hl114 1 rfl) ?_
          refine tr_geti Z.1 Z.2.2.2.1 S_22.1 S_22.2 ha0 ta0 rfl rfl (fun _ h => List.mem_cons_of_mem _ (List.mem_append_right _ h)) 20 (by decide) rfl (hts _ (List.mem_of_getElem? (i := 2) rfl)) dX10_feed_82 (fun v116 ev116 lv116 uv116 => ?_)
          have wv116 : v116 = (fi E_22 a0 20) := ev116.symm.trans rfl
          have xv116 : v116.toInt = (fi E_22 a0 20).toInt := by rw [wv116]
          refine lv_iload hx hb dX10_feed_85 (lv_at hl114 0 rfl) ?_
          obtain ⟨v117, ev117, tv117⟩ : ∃ v : Int32, (Int8.ofInt (24)).toInt32 = v ∧ v.toInt = 24 := ⟨_, rfl, by decide +kernel⟩
          refine lv_bipush hx hb dX10_feed_87 ev117 ?_
          obtain ⟨v118, ev118, tv118⟩ : ∃ v : Int32, (Int8.ofInt (8)).toInt32 = v ∧ v.toInt = 8 := ⟨_, rfl, by decide +kernel⟩
          refine lv_bipush hx hb dX10_feed_89 ev118 ?_
          refine lv_iload hx hb dX10_feed_91 (lv_at hl114 7 rfl) ?_
          obtain ⟨v119, ev119, tv119⟩ : ∃ v : Int32, Int32.ofInt (4) = v ∧ v.toInt = 4 := ⟨_, rfl, by decide +kernel⟩
          refine lv_iconst hx hb dX10_feed_93 ev119 ?_
          refine lv_irem hx hb dX10_feed_94 (fun q => by have := nu_eq0 q; omega) ?_
          refine lv_topi (fun v120 ev120 => ?_)
          have tv120 := nu_remc (4) ev120 (by omega) (by omega) (by omega)
          refine lv_imul hx hb dX10_feed_95 ?_
          refine lv_topi (fun v121 ev121 => ?_)
          have tv121 := nu_mulc' (8) ev121 (by omega) (by omega) (by omega)
          refine lv_isub hx hb dX10_feed_96 ?_
          refine lv_topi (fun v122 ev122 => ?_)
          have tv122 := nu_sub ev122 (by omega) (by omega)
          refine lv_ishr hx hb dX10_feed_97 ?_
          refine lv_topi (fun v123 ev123 => ?_)
          obtain ⟨v124, ev124⟩ : ∃ y : Int32, v123.toInt8.toInt32 = y := ⟨_, rfl⟩
          refine lv_i2b hx hb dX10_feed_98 ev124 ?_
          refine tr_bast Z.1 Z.2.2.2.1 S_22.1 S_22.2 hqv tqv rfl (by omega) (by omega) dX10_feed_99 (fun E125 H126 k127 W125 I125 P125 => ?_)
          have S125 : Now D TB cy (va_A (va_pl L E) sz) s L τ E125 H126 k127 := ⟨W125, I125⟩
          have F125 : Fr L τ (inW [(11, 0), (72, 0)]) E E125 := Fr.set F_22 P125 tqv rfl
          refine lv_aload_n hx hb dX10_feed_100 rfl (lv_at hl114 1 rfl) ?_
          refine lv_dup hx hb dX10_feed_101 rfl ?_
          refine tr_geti Z.1 Z.2.2.2.1 S125.1 S125.2 ha0 ta0 rfl rfl (fun _ h => List.mem_cons_of_mem _ (List.mem_append_right _ h)) 20 (by decide) rfl (hts _ (List.mem_of_getElem? (i := 2) rfl)) dX10_feed_102 (fun v128 ev128 lv128 uv128 => ?_)
          have wv128 : v128 = v116 := ev128.symm.trans ((fi_set (k := 20) P125 (ne_ro ta0 tqv (by decide))).trans ev116)
          have xv128 : v128.toInt = v116.toInt := by rw [wv128]
          obtain ⟨v129, ev129, tv129⟩ : ∃ v : Int32, Int32.ofInt (1) = v ∧ v.toInt = 1 := ⟨_, rfl, by decide +kernel⟩
          refine lv_iconst hx hb dX10_feed_105 ev129 ?_
          refine lv_iadd hx hb dX10_feed_106 ?_
          refine lv_topi (fun v130 ev130 => ?_)
          have tv130 := nu_add ev130 (by omega) (by omega)
          refine tr_puti Z.1 Z.2.2.2.1 S125.1 S125.2 ha0 ta0 rfl rfl (fun _ h => List.mem_cons_of_mem _ (List.mem_append_right _ h)) tyX10_ok nmX10 20 (by decide) rfl rfl rfl (hts _ (List.mem_of_getElem? (i := 2) rfl)) dX10_feed_107 (by omega) (by omega) (fun E131 H132 k133 W131 I131 P131 => ?_)
          have S131 : Now D TB cy (va_A (va_pl L E) sz) s L τ E131 H132 k133 := ⟨W131, I131⟩
          have F131 : Fr L τ (inW [(11, 0), (72, 0)]) E E131 := Fr.put F125 P131 ta0 rfl
          obtain ⟨v134, ev134⟩ : ∃ y : Int32, x6_22 + Int32.ofInt (1) = y := ⟨_, rfl⟩
          have tv134 : v134.toInt = x6_22.toInt + (1) := by rw [← ev134]; exact (fb_addI (by rw [show (Int32.ofInt (1)).toInt = 1 from by decide +kernel]; omega) (by rw [show (Int32.ofInt (1)).toInt = 1 from by decide +kernel]; omega)).trans (by rw [show (Int32.ofInt (1)).toInt = 1 from by decide +kernel])
          refine lv_iinc (v := v134) (lv' := [(6, .int v134), (7, .int a1), (0, .ref a0), (1, .int a1), (2, .int a2), (3, .int a3), (4, .int a4), (5, .int a5)]) hx hb dX10_feed_110 hl114 (k := 7) rfl ev134 (by decide) rfl (fun l135 hl136 => ?_)
          refine lv_goto (tgt := 22) hx hb dX10_feed_113 (by decide) ?_
          exact ih_22 v134 E131 H132 k133 l135 S131 F131 (by have := fb_rng a1; have := fb_rng a1; have := fb_rng a2; have := fb_rng a3; have := fb_rng a4; have := fb_rng a5; omega) (by have := fb_rng a1; have := fb_rng a1; have := fb_rng a2; have := fb_rng a3; have := fb_rng a4; have := fb_rng a5; omega) (by rw [show v134.toInt.toNat = x6_22.toInt.toNat + 1 from by omega]; exact Fed.one (i := v116.toInt.toNat) z3 (by omega) (fun j hj => ((ai_put P131 (ne_ro tqv ta0 (by decide))).trans (ai_setk P125 (by show j ≠ v116.toInt.toNat; omega)))) (((ai_put P131 (ne_ro tqv ta0 (by decide))).trans (ai_at (n := v116.toInt.toNat) P125.2.1 (by omega))).trans ((btW_at (a := a1) (sh := v122) (j := x6_22.toInt.toNat % 4) (by omega) ev123 ev124).trans (by show btW a1 (x6_22.toInt.toNat % 4) = btW (w5 a1 a2 a3 a4 a5 x6_22.toInt.toNat) (x6_22.toInt.toNat % 4); rw [w5_1 (by omega)])))) (fun k hk => ((fi_put P131 (Or.inr (fw_ne (by decide) hk))).trans ((fi_set P125 (ne_ro ta0 tqv (by decide))).trans (z4 k hk)))) (by rw [(fi_at P131)]; have := fb_rng a1; have := fb_rng a1; have := fb_rng a2; have := fb_rng a3; have := fb_rng a4; have := fb_rng a5; omega) (by omega) (lv_sub hl136 [2, 3, 4, 5, 6, 7, 0] rfl)
  refine lv_aload_n hx hb dX10_feed_0 rfl (lv_at hl 0 rfl) ?_
  obtain ⟨v137, ev137, tv137⟩ : ∃ v : Int32, Int32.ofInt (0) = v ∧ v.toInt = 0 := ⟨_, rfl, by decide +kernel⟩
  refine lv_iconst hx hb dX10_feed_1 ev137 ?_
  refine tr_puti Z.1 Z.2.2.2.1 S0.1 S0.2 ha0 ta0 rfl rfl (fun _ h => List.mem_cons_of_mem _ (List.mem_append_right _ h)) tyX10_ok nmX10 4 (by decide) rfl rfl rfl (hts _ (List.mem_of_getElem? (i := 1) rfl)) dX10_feed_2 (by omega) (by omega) (fun E138 H139 k140 W138 I138 P138 => ?_)
  have S138 : Now D TB cy (va_A (va_pl L E) sz) s L τ E138 H139 k140 := ⟨W138, I138⟩
  have F138 : Fr L τ (inW [(11, 0), (72, 0)]) E E138 := Fr.put F0_ P138 ta0 rfl
  refine lv_aload_n hx hb dX10_feed_5 rfl (lv_at hl 0 rfl) ?_
  refine tr_geti Z.1 Z.2.2.2.1 S138.1 S138.2 ha0 ta0 rfl rfl (fun _ h => List.mem_cons_of_mem _ (List.mem_append_right _ h)) 20 (by decide) rfl (hts _ (List.mem_of_getElem? (i := 2) rfl)) dX10_feed_6 (fun v141 ev141 lv141 uv141 => ?_)
  have wv141 : v141 = (fi E a0 20) := ev141.symm.trans ((fi_put (k := 20) P138 (Or.inr (by decide))).trans rfl)
  have xv141 : v141.toInt = (fi E a0 20).toInt := by rw [wv141]
  obtain ⟨v142, ev142, tv142⟩ : ∃ v : Int32, (Int8.ofInt (20)).toInt32 = v ∧ v.toInt = 20 := ⟨_, rfl, by decide +kernel⟩
  refine lv_bipush hx hb dX10_feed_9 ev142 ?_
  refine lv_iadd hx hb dX10_feed_11 ?_
  refine lv_topi (fun v143 ev143 => ?_)
  have tv143 := nu_add ev143 (by omega) (by omega)
  obtain ⟨v144, ev144, tv144⟩ : ∃ v : Int32, (Int8.ofInt (120)).toInt32 = v ∧ v.toInt = 120 := ⟨_, rfl, by decide +kernel⟩
  refine lv_bipush hx hb dX10_feed_12 ev144 ?_
  refine lv_icmp_le (tgt := 19) hx hb dX10_feed_14 (by decide) (fun c145 => ?_) (fun c145 => ?_)
  · skip
    have tc145 := nu_le c145
    obtain ⟨v146, ev146, tv146⟩ : ∃ v : Int32, Int32.ofInt (0) = v ∧ v.toInt = 0 := ⟨_, rfl, by decide +kernel⟩
    refine lv_iconst hx hb dX10_feed_19 ev146 ?_
    refine lv_istore (lv' := [(6, .int v146), (0, .ref a0), (1, .int a1), (2, .int a2), (3, .int a3), (4, .int a4), (5, .int a5)]) hx hb dX10_feed_20 hl (by decide) rfl (fun l147 hl148 => ?_)
    exact J22 _ v146 E138 H139 k140 l147 S138 F138 (by have := fb_rng a1; have := fb_rng a2; have := fb_rng a3; have := fb_rng a4; have := fb_rng a5; omega) (by have := fb_rng a1; have := fb_rng a2; have := fb_rng a3; have := fb_rng a4; have := fb_rng a5; omega) (by rw [show v146.toInt.toNat = 0 from by omega, ai_cell (P138.1 qv (ne_ro tqv ta0 (by decide)))]; exact Fed.zero) (fun k hk => ((fi_put P138 (Or.inr (fw_ne (by decide) hk))).trans ((fun k hk => rfl) k hk))) (by rw [ev141]; have := fb_rng a1; have := fb_rng a2; have := fb_rng a3; have := fb_rng a4; have := fb_rng a5; omega) (Nat.lt_succ_self _) (lv_sub hl148 [1, 2, 3, 4, 5, 6, 0] rfl)
  · skip
    have tc145 := nu_nle c145
    obtain ⟨v149, ev149, tv149⟩ : ∃ v : Int32, Int32.ofInt (-1) = v ∧ v.toInt = -1 := ⟨_, rfl, by decide +kernel⟩
    refine lv_iconst hx hb dX10_feed_17 ev149 ?_
    rw [← hQ]
    exact en_i Z S138 F138 ⟨(Or.inr ⟨by omega, by omega, by rw [ev141]; omega, fun i => (ai_put P138 (ne_ro tqv ta0 (by decide)))⟩), (fun k hk => ((fi_put P138 (Or.inr (fw_ne (by decide) hk))).trans ((fun k hk => rfl) k hk)))⟩ dX10_feed_18

set_option maxHeartbeats 4000000 in
set_option maxRecDepth 100000 in
theorem k_X9_fault_vr (l : Launch) (D : va_G) (cy : Nat → ClassId) {L : List Nat} {τ : Nat → Ro} {E : Ec} (hI : Inv TB cy L τ E) {a0 : Nat} (ha0 : a0 ∈ L) (ta0 : τ a0 = (0, 0)) {qr : Nat} (hqr : qr ∈ L) (tqr : τ qr = (7, 0)) : CtI l yX9_fault wsX9_fault { frames := 0, cells := 0, slots := 0, locals := 0 } D TB cy L τ E [.ref a0] (inW []) (fun r E' => E' = E ∧ (r.toInt = (fi E qr 4).toInt)) := by
  intro sz
  refine sta (cc := cX9_fault) (maxL := 1) hI (by decide) rfl (Nat.le_of_ble_eq_true rfl) (fun p e s m args below meth c ls hsz Z S0 hl => ?_)
  have hx := Z.1.1
  have hb := Z.1.2.1
  have hts := Z.1.2.2.2.2
  have F0_ : Fr L τ (inW []) E E := Fr.refl
  have hl : lv_has ls 1 [(0, .ref a0)] := hl
  generalize hQ : MQ below _ args s 0 0 _ = QQ
  have kz_qr_4 := fi_rng (k := 4) hI hqr tqr rfl rfl
  refine lv_aload_n hx hb dX9_fault_0 rfl (lv_at hl 0 rfl) ?_
  refine tr_getr Z.1 Z.2.2.2.1 S0.1 S0.2 ha0 ta0 rfl rfl (fun _ h => List.mem_cons_of_mem _ (List.mem_append_left _ (List.mem_append_right _ h))) 4 (by decide) rfl (hts _ (List.mem_of_getElem? (i := 1) rfl)) dX9_fault_1 (fun q1 eq1 hq1 tq1 => ?_)
  have tq1 : τ q1 = (7, 0) := tq1
  have uq1 : qr = q1 := S0.2.2.2.2 _ hqr _ hq1 (tqr.trans tq1.symm) (by rw [tqr]; rfl)
  subst uq1
  refine tr_geti Z.1 Z.2.2.2.1 S0.1 S0.2 hqr tqr rfl rfl (fun _ h => List.mem_cons_of_mem _ (List.mem_append_right _ h)) 4 (by decide) rfl (hts _ (List.mem_of_getElem? (i := 2) rfl)) dX9_fault_4 (fun v2 ev2 lv2 uv2 => ?_)
  have wv2 : v2 = (fi E qr 4) := ev2.symm.trans rfl
  have xv2 : v2.toInt = (fi E qr 4).toInt := by rw [wv2]
  rw [← hQ]
  exact en_i Z S0 F0_ ⟨rfl, (by omega)⟩ dX9_fault_7

set_option maxHeartbeats 4000000 in
set_option maxRecDepth 100000 in
theorem k_X10_fault_vr (l : Launch) (D : va_G) (cy : Nat → ClassId) {L : List Nat} {τ : Nat → Ro} {E : Ec} (hI : Inv TB cy L τ E) {a0 : Nat} (ha0 : a0 ∈ L) (ta0 : τ a0 = (11, 0)) : CtI l yX10_fault wsX10_fault { frames := 0, cells := 0, slots := 0, locals := 0 } D TB cy L τ E [.ref a0] (inW [(11, 0)]) (fun r E' => (r.toInt = (fi E a0 5).toInt) ∧ (∀ k : Nat, k ∉ ([4] : List Nat) → fi E' a0 k = fi E a0 k)) := by
  intro sz
  refine sta (cc := cX10_fault) (maxL := 1) hI (by decide) rfl (Nat.le_of_ble_eq_true rfl) (fun p e s m args below meth c ls hsz Z S0 hl => ?_)
  have hx := Z.1.1
  have hb := Z.1.2.1
  have hts := Z.1.2.2.2.2
  have F0_ : Fr L τ (inW [(11, 0)]) E E := Fr.refl
  have hl : lv_has ls 1 [(0, .ref a0)] := hl
  generalize hQ : MQ below _ args s 0 0 _ = QQ
  have kz_a0_5 := fi_rng (k := 5) hI ha0 ta0 rfl rfl
  refine lv_aload_n hx hb dX10_fault_0 rfl (lv_at hl 0 rfl) ?_
  obtain ⟨v1, ev1, tv1⟩ : ∃ v : Int32, Int32.ofInt (0) = v ∧ v.toInt = 0 := ⟨_, rfl, by decide +kernel⟩
  refine lv_iconst hx hb dX10_fault_1 ev1 ?_
  refine tr_puti Z.1 Z.2.2.2.1 S0.1 S0.2 ha0 ta0 rfl rfl (fun _ h => List.mem_cons_of_mem _ (List.mem_append_right _ h)) tyX10_ok nmX10 4 (by decide) rfl rfl rfl (hts _ (List.mem_of_getElem? (i := 1) rfl)) dX10_fault_2 (by omega) (by omega) (fun E2 H3 k4 W2 I2 P2 => ?_)
  have S2 : Now D TB cy (va_A (va_pl L E) sz) s L τ E2 H3 k4 := ⟨W2, I2⟩
  have F2 : Fr L τ (inW [(11, 0)]) E E2 := Fr.put F0_ P2 ta0 rfl
  refine lv_aload_n hx hb dX10_fault_5 rfl (lv_at hl 0 rfl) ?_
  refine tr_geti Z.1 Z.2.2.2.1 S2.1 S2.2 ha0 ta0 rfl rfl (fun _ h => List.mem_cons_of_mem _ (List.mem_append_right _ h)) 5 (by decide) rfl (hts _ (List.mem_of_getElem? (i := 2) rfl)) dX10_fault_6 (fun v5 ev5 lv5 uv5 => ?_)
  have wv5 : v5 = (fi E a0 5) := ev5.symm.trans ((fi_put (k := 5) P2 (Or.inr (by decide))).trans rfl)
  have xv5 : v5.toInt = (fi E a0 5).toInt := by rw [wv5]
  rw [← hQ]
  exact en_i Z S2 F2 ⟨(by omega), (fun k hk => ((fi_put P2 (Or.inr (fw_ne (by decide) hk))).trans ((fun k hk => rfl) k hk)))⟩ dX10_fault_9

