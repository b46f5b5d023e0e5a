set_option maxHeartbeats 4000000 in
set_option maxRecDepth 100000 in
theorem k_X5_peek_vr (l : Launch) (D : va_G) (cy : Nat → ClassId) {L : List Nat} {τ : Nat → Ro} {E : Ec} (hI : Inv TB cy L τ E) {a0 : Nat} (ha0 : a0 ∈ L) (ta0 : τ a0 = (7, 0)) {qt : Nat} (hqt : qt ∈ L) (tqt : τ qt = (32, 0)) : CtI l yX5_peek wsX5_peek { frames := 0, cells := 0, slots := 0, locals := 0 } D TB cy L τ E [.ref a0] (inW []) (fun r E' => E' = E ∧ (r.toInt = -1 ∨ ((fi E a0 3).toInt < (fi E a0 2).toInt ∧ (fi E a0 3).toInt ≤ 119)) ∧ (r.toInt = pkI (tx E qt a0 2) (fi E a0 2).toInt.toNat (fi E a0 3).toInt.toNat) ∧ -1 ≤ r.toInt ∧ r.toInt ≤ 255) := by
  intro sz
  refine sta (cc := cX5_peek) (maxL := 1) hI (by decide) rfl (Nat.le_of_ble_eq_true rfl) (fun p e s m args below meth c ls hsz Z S0 hl => ?_)
  have hx := Z.1.1
  have hb := Z.1.2.1
  have hts := Z.1.2.2.2.2
  have F0_ : Fr L τ (inW []) E E := Fr.refl
  have hl : lv_has ls 1 [(0, .ref a0)] := hl
  generalize hQ : MQ below _ args s 0 0 _ = QQ
  have kz_a0_3 := fi_rng (k := 3) hI ha0 ta0 rfl rfl
  have kz_a0_2 := fi_rng (k := 2) hI ha0 ta0 rfl rfl
  refine lv_aload_n hx hb dX5_peek_0 rfl (lv_at hl 0 rfl) ?_
  refine tr_geti Z.1 Z.2.2.2.1 S0.1 S0.2 ha0 ta0 rfl rfl (fun _ h => List.mem_cons_of_mem _ (List.mem_append_right _ h)) 3 (by decide) rfl (hts _ (List.mem_of_getElem? (i := 1) rfl)) dX5_peek_1 (fun v1 ev1 lv1 uv1 => ?_)
  have wv1 : v1 = (fi E a0 3) := ev1.symm.trans rfl
  have xv1 : v1.toInt = (fi E a0 3).toInt := by rw [wv1]
  refine lv_aload_n hx hb dX5_peek_4 rfl (lv_at hl 0 rfl) ?_
  refine tr_geti Z.1 Z.2.2.2.1 S0.1 S0.2 ha0 ta0 rfl rfl (fun _ h => List.mem_cons_of_mem _ (List.mem_append_right _ h)) 2 (by decide) rfl (hts _ (List.mem_of_getElem? (i := 2) rfl)) dX5_peek_5 (fun v2 ev2 lv2 uv2 => ?_)
  have wv2 : v2 = (fi E a0 2) := ev2.symm.trans rfl
  have xv2 : v2.toInt = (fi E a0 2).toInt := by rw [wv2]
  refine lv_icmp_ge (tgt := 27) hx hb dX5_peek_8 (by decide) (fun c3 => ?_) (fun c3 => ?_)
  · skip
    have tc3 := nu_le c3
    obtain ⟨v4, ev4, tv4⟩ : ∃ v : Int32, Int32.ofInt (-1) = v ∧ v.toInt = -1 := ⟨_, rfl, by decide +kernel⟩
    refine lv_iconst hx hb dX5_peek_27 ev4 ?_
    rw [← hQ]
    exact en_i Z S0 F0_ ⟨rfl, (by rw [ev1]; first | done | omega), (by rw [pkI_out (by omega)]; omega), (by omega), (by omega)⟩ dX5_peek_28
  · skip
    have tc3 := nu_nle c3
    refine lv_aload_n hx hb dX5_peek_11 rfl (lv_at hl 0 rfl) ?_
    refine tr_getr Z.1 Z.2.2.2.1 S0.1 S0.2 ha0 ta0 rfl rfl (fun _ h => List.mem_cons_of_mem _ (List.mem_append_right _ h)) 0 (by decide) rfl (hts _ (List.mem_of_getElem? (i := 3) rfl)) dX5_peek_12 (fun q5 eq5 hq5 tq5 => ?_)
    have tq5 : τ q5 = (32, 0) := tq5
    have uq5 : qt = q5 := S0.2.2.2.2 _ hqt _ hq5 (tqt.trans tq5.symm) (by rw [tqt]; rfl)
    subst uq5
    refine lv_aload_n hx hb dX5_peek_15 rfl (lv_at hl 0 rfl) ?_
    refine tr_geti Z.1 Z.2.2.2.1 S0.1 S0.2 ha0 ta0 rfl rfl (fun _ h => List.mem_cons_of_mem _ (List.mem_append_right _ h)) 3 (by decide) rfl (hts _ (List.mem_of_getElem? (i := 1) rfl)) dX5_peek_16 (fun v6 ev6 lv6 uv6 => ?_)
    have wv6 : v6 = v1 := ev6.symm.trans ev1
    have xv6 : v6.toInt = v1.toInt := by rw [wv6]
    refine tr_bald Z.1 Z.2.2.2.1 S0.1 S0.2 hqt tqt rfl (by omega) (by omega) dX5_peek_19 (fun v7 ev7 lv7 uv7 => ?_)
    obtain ⟨v8, ev8, tv8⟩ : ∃ v : Int32, (Int16.ofInt (255)).toInt32 = v ∧ v.toInt = 255 := ⟨_, rfl, by decide +kernel⟩
    refine lv_sipush hx hb dX5_peek_20 ev8 ?_
    refine lv_iand hx hb dX5_peek_23 ?_
    refine lv_topi (fun v9 ev9 => ?_)
    have tv9 := nu_and255 ev9 (by omega)
    refine lv_goto (tgt := 28) hx hb dX5_peek_24 (by decide) ?_
    rw [← hQ]
    exact en_i Z S0 F0_ ⟨rfl, (by rw [ev6]; first | done | omega), (pkI_at (x := v6) (p := (fi E a0 3).toInt.toNat) (by omega) (by omega) ev7 ev9 (by omega) (by omega) (by omega)), (by omega), (by omega)⟩ dX5_peek_28

set_option maxHeartbeats 4000000 in
set_option maxRecDepth 100000 in
theorem k_X5_isDigit_vr (l : Launch) (D : va_G) (cy : Nat → ClassId) {L : List Nat} {τ : Nat → Ro} {E : Ec} (hI : Inv TB cy L τ E) (a0 : Int32) : CtI l yX5_isDigit wsX5_isDigit { frames := 0, cells := 0, slots := 0, locals := 0 } D TB cy L τ E [.int a0] (inW []) (fun r E' => E' = E ∧ ((r.toInt = 1 ∧ 48 ≤ a0.toInt ∧ a0.toInt ≤ 57) ∨ (r.toInt = 0 ∧ ¬ (48 ≤ a0.toInt ∧ a0.toInt ≤ 57))) ∧ 0 ≤ r.toInt ∧ r.toInt ≤ 1) := by
  intro sz
  refine sta (cc := cX5_isDigit) (maxL := 1) hI (by decide) rfl (Nat.le_of_ble_eq_true rfl) (fun p e s m args below meth c ls hsz Z S0 hl => ?_)
  have hx := Z.1.1
  have hb := Z.1.2.1
  have hts := Z.1.2.2.2.2
  have F0_ : Fr L τ (inW []) E E := Fr.refl
  have hl : lv_has ls 1 [(0, .int a0)] := hl
  generalize hQ : MQ below _ args s 0 0 _ = QQ
  refine lv_iload_n hx hb dX5_isDigit_0 rfl (lv_at hl 0 rfl) ?_
  obtain ⟨v1, ev1, tv1⟩ : ∃ v : Int32, (Int8.ofInt (48)).toInt32 = v ∧ v.toInt = 48 := ⟨_, rfl, by decide +kernel⟩
  refine lv_bipush hx hb dX5_isDigit_1 ev1 ?_
  refine lv_icmp_lt (tgt := 16) hx hb dX5_isDigit_3 (by decide) (fun c2 => ?_) (fun c2 => ?_)
  · skip
    have tc2 := nu_lt c2
    obtain ⟨v3, ev3, tv3⟩ : ∃ v : Int32, Int32.ofInt (0) = v ∧ v.toInt = 0 := ⟨_, rfl, by decide +kernel⟩
    refine lv_iconst hx hb dX5_isDigit_16 ev3 ?_
    rw [← hQ]
    exact en_z Z S0 F0_ (zo v3 (by omega)) ⟨rfl, (by omega), (by omega), (by omega)⟩ dX5_isDigit_17
  · skip
    have tc2 := nu_nlt c2
    refine lv_iload_n hx hb dX5_isDigit_6 rfl (lv_at hl 0 rfl) ?_
    obtain ⟨v4, ev4, tv4⟩ : ∃ v : Int32, (Int8.ofInt (57)).toInt32 = v ∧ v.toInt = 57 := ⟨_, rfl, by decide +kernel⟩
    refine lv_bipush hx hb dX5_isDigit_7 ev4 ?_
    refine lv_icmp_gt (tgt := 16) hx hb dX5_isDigit_9 (by decide) (fun c5 => ?_) (fun c5 => ?_)
    · skip
      have tc5 := nu_lt c5
      obtain ⟨v6, ev6, tv6⟩ : ∃ v : Int32, Int32.ofInt (0) = v ∧ v.toInt = 0 := ⟨_, rfl, by decide +kernel⟩
      refine lv_iconst hx hb dX5_isDigit_16 ev6 ?_
      rw [← hQ]
      exact en_z Z S0 F0_ (zo v6 (by omega)) ⟨rfl, (by omega), (by omega), (by omega)⟩ dX5_isDigit_17
    · skip
      have tc5 := nu_nlt c5
      obtain ⟨v7, ev7, tv7⟩ : ∃ v : Int32, Int32.ofInt (1) = v ∧ v.toInt = 1 := ⟨_, rfl, by decide +kernel⟩
      refine lv_iconst hx hb dX5_isDigit_12 ev7 ?_
      refine lv_goto (tgt := 17) hx hb dX5_isDigit_13 (by decide) ?_
      rw [← hQ]
      exact en_z Z S0 F0_ (zo v7 (by omega)) ⟨rfl, (by omega), (by omega), (by omega)⟩ dX5_isDigit_17

set_option maxHeartbeats 4000000 in
set_option maxRecDepth 100000 in
theorem k_X5_fail_vr (l : Launch) (D : va_G) (cy : Nat → ClassId) {L : List Nat} {τ : Nat → Ro} {E : Ec} (hI : Inv TB cy L τ E) {a0 : Nat} (ha0 : a0 ∈ L) (ta0 : τ a0 = (7, 0)) (a1 : Int32) (la1 : 1 ≤ a1.toInt) (ua1 : a1.toInt ≤ 3) (a2 : Int32) : CtV l yX5_fail wsX5_fail { frames := 0, cells := 0, slots := 0, locals := 0 } D TB cy L τ E [.ref a0, .int a1, .int a2] (inW [(7, 0)]) (fun E' => (((fi E a0 4).toInt ≠ 0 ∧ (fi E' a0 4).toInt = (fi E a0 4).toInt ∧ (fi E' a0 5).toInt = (fi E a0 5).toInt) ∨ ((fi E a0 4).toInt = 0 ∧ (fi E' a0 4).toInt = a1.toInt ∧ (fi E' a0 5).toInt = a2.toInt)) ∧ (∀ k : Nat, k ∉ ([4, 5] : List Nat) → fi E' a0 k = fi E a0 k)) := by
  intro sz
  refine sta (cc := cX5_fail) (maxL := 3) hI (by decide) rfl (Nat.le_of_ble_eq_true rfl) (fun p e s m args below meth c ls hsz Z S0 hl => ?_)
  have hx := Z.1.1
  have hb := Z.1.2.1
  have hts := Z.1.2.2.2.2
  have F0_ : Fr L τ (inW [(7, 0)]) E E := Fr.refl
  have hl : lv_has ls 3 [(0, .ref a0), (1, .int a1), (2, .int a2)] := hl
  generalize hQ : MQ below _ args s 0 0 _ = QQ
  have kz_a0_4 := fi_rng (k := 4) hI ha0 ta0 rfl rfl
  have kz_a0_5 := fi_rng (k := 5) hI ha0 ta0 rfl rfl
  refine lv_aload_n hx hb dX5_fail_0 rfl (lv_at hl 0 rfl) ?_
  refine tr_geti Z.1 Z.2.2.2.1 S0.1 S0.2 ha0 ta0 rfl rfl (fun _ h => List.mem_cons_of_mem _ (List.mem_append_right _ h)) 4 (by decide) rfl (hts _ (List.mem_of_getElem? (i := 1) rfl)) dX5_fail_1 (fun v1 ev1 lv1 uv1 => ?_)
  have wv1 : v1 = (fi E a0 4) := ev1.symm.trans rfl
  have xv1 : v1.toInt = (fi E a0 4).toInt := by rw [wv1]
  refine lv_if_ne (tgt := 17) hx hb dX5_fail_4 (by decide) (fun c2 => ?_) (fun c2 => ?_)
  · skip
    have tc2 := nu_ne c2
    have uc2 : (0 : Int32).toInt = 0 := rfl
    rw [← hQ]
    exact en_v Z S0 F0_ ⟨(by rw [ev1]; omega), (fun k hk => ((fun k hk => rfl) k hk))⟩ dX5_fail_17
  · skip
    have tc2 := nu_eq c2
    have uc2 : (0 : Int32).toInt = 0 := rfl
    refine lv_aload_n hx hb dX5_fail_7 rfl (lv_at hl 0 rfl) ?_
    refine lv_iload_n hx hb dX5_fail_8 rfl (lv_at hl 1 rfl) ?_
    refine tr_puti Z.1 Z.2.2.2.1 S0.1 S0.2 ha0 ta0 rfl rfl (fun _ h => List.mem_cons_of_mem _ (List.mem_append_right _ h)) tyX5_ok nmX5 4 (by decide) rfl rfl rfl (hts _ (List.mem_of_getElem? (i := 1) rfl)) dX5_fail_9 (by have := fb_rng a1; omega) (by have := fb_rng a1; omega) (fun E3 H4 k5 W3 I3 P3 => ?_)
    have S3 : Now D TB cy (va_A (va_pl L E) sz) s L τ E3 H4 k5 := ⟨W3, I3⟩
    have F3 : Fr L τ (inW [(7, 0)]) E E3 := Fr.put F0_ P3 ta0 rfl
    refine lv_aload_n hx hb dX5_fail_12 rfl (lv_at hl 0 rfl) ?_
    refine lv_iload_n hx hb dX5_fail_13 rfl (lv_at hl 2 rfl) ?_
    refine tr_puti Z.1 Z.2.2.2.1 S3.1 S3.2 ha0 ta0 rfl rfl (fun _ h => List.mem_cons_of_mem _ (List.mem_append_right _ h)) tyX5_ok nmX5 5 (by decide) rfl rfl rfl (hts _ (List.mem_of_getElem? (i := 2) rfl)) dX5_fail_14 (by have := fb_rng a2; omega) (by have := fb_rng a2; omega) (fun E6 H7 k8 W6 I6 P6 => ?_)
    have S6 : Now D TB cy (va_A (va_pl L E) sz) s L τ E6 H7 k8 := ⟨W6, I6⟩
    have F6 : Fr L τ (inW [(7, 0)]) E E6 := Fr.put F3 P6 ta0 rfl
    rw [← hQ]
    exact en_v Z S6 F6 ⟨(by rw [((fi_put (k := 4) P6 (Or.inr (by decide))).trans (fi_at P3)), (fi_at P6)]; omega), (fun k hk => ((fi_put P6 (Or.inr (fw_ne (by decide) hk))).trans ((fi_put P3 (Or.inr (fw_ne (by decide) hk))).trans ((fun k hk => rfl) k hk))))⟩ dX5_fail_17

set_option maxHeartbeats 4000000 in
set_option maxRecDepth 100000 in
theorem k_X5_skipBlanks_vr (l : Launch) (D : va_G) (cy : Nat → ClassId) {L : List Nat} {τ : Nat → Ro} {E : Ec} (hI : Inv TB cy L τ E) {a0 : Nat} (ha0 : a0 ∈ L) (ta0 : τ a0 = (7, 0)) {qt : Nat} (hqt : qt ∈ L) (tqt : τ qt = (32, 0)) : CtV l yX5_skipBlanks wsX5_skipBlanks { frames := 0, cells := 0, slots := 0, locals := 0 } D TB cy L τ E [.ref a0] (inW [(7, 0)]) (fun E' => ((fi E' a0 3).toInt = ((skI (tx E qt a0 2) (fi E a0 2).toInt.toNat (fi E a0 3).toInt.toNat : Nat) : Int)) ∧ (∀ k : Nat, k ∉ ([3] : List Nat) → fi E' a0 k = fi E a0 k)) := by
  intro sz
  refine sta (cc := cX5_skipBlanks) (maxL := 1) hI (by decide) rfl (Nat.le_of_ble_eq_true rfl) (fun p e s m args below meth c ls hsz Z S0 hl => ?_)
  have hx := Z.1.1
  have hb := Z.1.2.1
  have hts := Z.1.2.2.2.2
  have F0_ : Fr L τ (inW [(7, 0)]) E E := Fr.refl
  have hl : lv_has ls 1 [(0, .ref a0)] := hl
  generalize hQ : MQ below _ args s 0 0 _ = QQ
  have kz_a0_3 := fi_rng (k := 3) hI ha0 ta0 rfl rfl
  have kz_a0_2 := fi_rng (k := 2) hI ha0 ta0 rfl rfl
  have hTr : ∀ p : Nat, -128 ≤ (tx E qt a0 2) p ∧ (tx E qt a0 2) p ≤ 127 := tx_rng hI hqt tqt rfl (by omega)
  have J0 : ∀ (n : Nat)  (E_0 : Ec) (H_0 : Heap) (k_0 : List Loc) (l_0 : Array Slot), Now D TB cy (va_A (va_pl L E) sz) s L τ E_0 H_0 k_0 → Fr L τ (inW [(7, 0)]) E E_0 → (skI (tx E qt a0 2) (fi E a0 2).toInt.toNat (fi E_0 a0 3).toInt.toNat = skI (tx E qt a0 2) (fi E a0 2).toInt.toNat (fi E a0 3).toInt.toNat) → (∀ k : Nat, k ∉ ([3] : List Nat) → fi E_0 a0 k = fi E a0 k) → (0 ≤ (fi E_0 a0 3).toInt ∧ (fi E_0 a0 3).toInt ≤ 120) → (0 ≤ (fi E_0 a0 2).toInt ∧ (fi E_0 a0 2).toInt ≤ 120 ∧ (fi E_0 a0 2).toInt = (fi E a0 2).toInt) → (120 - (fi E_0 a0 3).toInt).toNat < n → lv_has l_0 1 [(0, .ref a0)] → W p l e { frames := 0, cells := 0, slots := 0, locals := 0 } s m args below meth c H_0 k_0 0 0 QQ (F0 m 0 l_0 []) := by
    intro n
    induction n with
    | zero => intro  E_0 H_0 k_0 l_0 S_0 F_0 z1 z2 z3 z4 hm hl_0; exact absurd hm (Nat.not_lt_zero _)
    | succ n ih =>
      intro  E_0 H_0 k_0 l_0 S_0 F_0 z1 z2 z3 z4 hm hl_0
      have ih_0 := ih
      refine lv_aload_n hx hb dX5_skipBlanks_0 rfl (lv_at hl_0 0 rfl) ?_
      refine tr_geti Z.1 Z.2.2.2.1 S_0.1 S_0.2 ha0 ta0 rfl rfl (fun _ h => List.mem_cons_of_mem _ (List.mem_append_right _ h)) 3 (by decide) rfl (hts _ (List.mem_of_getElem? (i := 1) rfl)) dX5_skipBlanks_1 (fun v5 ev5 lv5 uv5 => ?_)
      have wv5 : v5 = (fi E_0 a0 3) := ev5.symm.trans rfl
      have xv5 : v5.toInt = (fi E_0 a0 3).toInt := by rw [wv5]
      refine lv_aload_n hx hb dX5_skipBlanks_4 rfl (lv_at hl_0 0 rfl) ?_
      refine tr_geti Z.1 Z.2.2.2.1 S_0.1 S_0.2 ha0 ta0 rfl rfl (fun _ h => List.mem_cons_of_mem _ (List.mem_append_right _ h)) 2 (by decide) rfl (hts _ (List.mem_of_getElem? (i := 2) rfl)) dX5_skipBlanks_5 (fun v6 ev6 lv6 uv6 => ?_)
      have wv6 : v6 = (fi E_0 a0 2) := ev6.symm.trans rfl
      have xv6 : v6.toInt = (fi E_0 a0 2).toInt := by rw [wv6]
      refine lv_icmp_ge (tgt := 38) hx hb dX5_skipBlanks_8 (by decide) (fun c7 => ?_) (fun c7 => ?_)
      · skip
        have tc7 := nu_le c7
        rw [← hQ]
        exact en_v Z S_0 F_0 ⟨(by rw [← z1, show skI (tx E qt a0 2) (fi E a0 2).toInt.toNat (fi E_0 a0 3).toInt.toNat = (fi E_0 a0 3).toInt.toNat from run_stop (fun z => absurd z.1 (by omega))]; omega), (fun k hk => (z2 k hk))⟩ dX5_skipBlanks_38
      · skip
        have tc7 := nu_nle c7
        refine lv_aload_n hx hb dX5_skipBlanks_11 rfl (lv_at hl_0 0 rfl) ?_
        refine tr_getr Z.1 Z.2.2.2.1 S_0.1 S_0.2 ha0 ta0 rfl rfl (fun _ h => List.mem_cons_of_mem _ (List.mem_append_right _ h)) 0 (by decide) rfl (hts _ (List.mem_of_getElem? (i := 3) rfl)) dX5_skipBlanks_12 (fun q8 eq8 hq8 tq8 => ?_)
        have tq8 : τ q8 = (32, 0) := tq8
        have uq8 : qt = q8 := S_0.2.2.2.2 _ hqt _ hq8 (tqt.trans tq8.symm) (by rw [tqt]; rfl)
        subst uq8
        refine lv_aload_n hx hb dX5_skipBlanks_15 rfl (lv_at hl_0 0 rfl) ?_
        refine tr_geti Z.1 Z.2.2.2.1 S_0.1 S_0.2 ha0 ta0 rfl rfl (fun _ h => List.mem_cons_of_mem _ (List.mem_append_right _ h)) 3 (by decide) rfl (hts _ (List.mem_of_getElem? (i := 1) rfl)) dX5_skipBlanks_16 (fun v9 ev9 lv9 uv9 => ?_)
        have wv9 : v9 = v5 := ev9.symm.trans ev5
        have xv9 : v9.toInt = v5.toInt := by rw [wv9]
        refine tr_bald Z.1 Z.2.2.2.1 S_0.1 S_0.2 hqt tqt rfl (by omega) (by omega) dX5_skipBlanks_19 (fun v10 ev10 lv10 uv10 => ?_)
        have fe_19 : fi E_0 a0 2 = fi E a0 2 := (z2 2 (by decide))
        have tq_19 : tx E_0 qt a0 2 = (tx E qt a0 2) := tx_same (F_0 qt hqt (by rw [tqt]; rfl)) fe_19
        have b19 : (tx E qt a0 2) v9.toInt.toNat = v10.toInt := by rw [← tq_19]; exact tx_at (x := v9) (by omega) (by omega) ev10
        obtain ⟨v11, ev11, tv11⟩ : ∃ v : Int32, (Int8.ofInt (32)).toInt32 = v ∧ v.toInt = 32 := ⟨_, rfl, by decide +kernel⟩
        refine lv_bipush hx hb dX5_skipBlanks_20 ev11 ?_
        refine lv_icmp_ne (tgt := 38) hx hb dX5_skipBlanks_22 (by decide) (fun c12 => ?_) (fun c12 => ?_)
        · skip
          have tc12 := nu_ne c12
          rw [← hQ]
          exact en_v Z S_0 F_0 ⟨(by rw [← z1, show skI (tx E qt a0 2) (fi E a0 2).toInt.toNat (fi E_0 a0 3).toInt.toNat = (fi E_0 a0 3).toInt.toNat from run_stop (fun z => absurd (qB_iff.mp z.2) (by rw [show (fi E_0 a0 3).toInt.toNat = v9.toInt.toNat from by omega, b19]; omega))]; omega), (fun k hk => (z2 k hk))⟩ dX5_skipBlanks_38
        · skip
          have tc12 := nu_eq c12
          refine lv_aload_n hx hb dX5_skipBlanks_25 rfl (lv_at hl_0 0 rfl) ?_
          refine lv_dup hx hb dX5_skipBlanks_26 rfl ?_
          refine tr_geti Z.1 Z.2.2.2.1 S_0.1 S_0.2 ha0 ta0 rfl rfl (fun _ h => List.mem_cons_of_mem _ (List.mem_append_right _ h)) 3 (by decide) rfl (hts _ (List.mem_of_getElem? (i := 1) rfl)) dX5_skipBlanks_27 (fun v13 ev13 lv13 uv13 => ?_)
          have wv13 : v13 = v9 := ev13.symm.trans ev9
          have xv13 : v13.toInt = v9.toInt := by rw [wv13]
          obtain ⟨v14, ev14, tv14⟩ : ∃ v : Int32, Int32.ofInt (1) = v ∧ v.toInt = 1 := ⟨_, rfl, by decide +kernel⟩
          refine lv_iconst hx hb dX5_skipBlanks_30 ev14 ?_
          refine lv_iadd hx hb dX5_skipBlanks_31 ?_
          refine lv_topi (fun v15 ev15 => ?_)
          have tv15 := nu_add ev15 (by omega) (by omega)
          refine tr_puti Z.1 Z.2.2.2.1 S_0.1 S_0.2 ha0 ta0 rfl rfl (fun _ h => List.mem_cons_of_mem _ (List.mem_append_right _ h)) tyX5_ok nmX5 3 (by decide) rfl rfl rfl (hts _ (List.mem_of_getElem? (i := 1) rfl)) dX5_skipBlanks_32 (by omega) (by omega) (fun E16 H17 k18 W16 I16 P16 => ?_)
          have S16 : Now D TB cy (va_A (va_pl L E) sz) s L τ E16 H17 k18 := ⟨W16, I16⟩
          have F16 : Fr L τ (inW [(7, 0)]) E E16 := Fr.put F_0 P16 ta0 rfl
          refine lv_goto (tgt := 0) hx hb dX5_skipBlanks_35 (by decide) ?_
          exact ih_0 E16 H17 k18 l_0 S16 F16 ((show skI (tx E qt a0 2) (fi E a0 2).toInt.toNat (fi E16 a0 3).toInt.toNat = skI (tx E qt a0 2) (fi E a0 2).toInt.toNat (fi E_0 a0 3).toInt.toNat from by rw [show (fi E16 a0 3).toInt.toNat = (fi E_0 a0 3).toInt.toNat + 1 from by rw [(fi_at P16)]; omega]; exact (run_go (by omega) (qB_iff.mpr (by rw [show (fi E_0 a0 3).toInt.toNat = v9.toInt.toNat from by omega, b19]; omega))).symm).trans z1) (fun k hk => ((fi_put P16 (Or.inr (fw_ne (by decide) hk))).trans (z2 k hk))) (by rw [(fi_at P16)]; omega) (by rw [((fi_put (k := 2) P16 (Or.inr (by decide))).trans ev6)]; omega) (by rw [(fi_at P16)]; omega) (lv_sub hl_0 [0] rfl)
  exact J0 _ E s.heap [] ls S0 F0_ rfl (fun k hk => ((fun k hk => rfl) k hk)) (by omega) (by omega) (Nat.lt_succ_self _) (lv_sub hl [0] rfl)

set_option maxHeartbeats 4000000 in
set_option maxRecDepth 100000 in
theorem k_X5_letters_vr (l : Launch) (D : va_G) (cy : Nat → ClassId) {L : List Nat} {τ : Nat → Ro} {E : Ec} (hI : Inv TB cy L τ E) {a0 : Nat} (ha0 : a0 ∈ L) (ta0 : τ a0 = (7, 0)) {qt : Nat} (hqt : qt ∈ L) (tqt : τ qt = (32, 0)) : CtI l yX5_letters wsX5_letters { frames := 0, cells := 0, slots := 0, locals := 0 } D TB cy L τ E [.ref a0] (inW []) (fun r E' => E' = E ∧ (r.toInt + (fi E a0 3).toInt ≤ 120) ∧ (r.toInt = ((ltI (tx E qt a0 2) (fi E a0 2).toInt.toNat (fi E a0 3).toInt.toNat : Nat) : Int) - (fi E a0 3).toInt) ∧ 0 ≤ r.toInt ∧ r.toInt ≤ 120) := by
  intro sz
  refine sta (cc := cX5_letters) (maxL := 3) hI (by decide) rfl (Nat.le_of_ble_eq_true rfl) (fun p e s m args below meth c ls hsz Z S0 hl => ?_)
  have hx := Z.1.1
  have hb := Z.1.2.1
  have hts := Z.1.2.2.2.2
  have F0_ : Fr L τ (inW []) E E := Fr.refl
  have hl : lv_has ls 3 [(0, .ref a0)] := hl
  generalize hQ : MQ below _ args s 0 0 _ = QQ
  have kz_a0_3 := fi_rng (k := 3) hI ha0 ta0 rfl rfl
  have kz_a0_2 := fi_rng (k := 2) hI ha0 ta0 rfl rfl
  have J7 : ∀ (n : Nat) (x1_7 : Int32) (x2_7 : Int32) (H_7 : Heap) (k_7 : List Loc) (l_7 : Array Slot), Now D TB cy (va_A (va_pl L E) sz) s L τ E H_7 k_7 → (0 ≤ x1_7.toInt) → (x1_7.toInt ≤ 120) → (0 ≤ x2_7.toInt) → (x2_7.toInt ≤ 120) → (x1_7.toInt + (fi E a0 3).toInt = x2_7.toInt) → (ltI (tx E qt a0 2) (fi E a0 2).toInt.toNat x2_7.toInt.toNat = ltI (tx E qt a0 2) (fi E a0 2).toInt.toNat (fi E a0 3).toInt.toNat) → (120 - x1_7.toInt).toNat < n → lv_has l_7 3 [(0, .ref a0), (1, .int x1_7), (2, .int x2_7)] → W p l e { frames := 0, cells := 0, slots := 0, locals := 0 } s m args below meth c H_7 k_7 0 0 QQ (F0 m 7 l_7 []) := by
    intro n
    induction n with
    | zero => intro x1_7 x2_7 H_7 k_7 l_7 S_7 z1 z2 z3 z4 z5 z6 hm hl_7; exact absurd hm (Nat.not_lt_zero _)
    | succ n ih =>
      intro x1_7 x2_7 H_7 k_7 l_7 S_7 z1 z2 z3 z4 z5 z6 hm hl_7
      have ih_7 := ih
      refine lv_iload_n hx hb dX5_letters_7 rfl (lv_at hl_7 2 rfl) ?_
      refine lv_aload_n hx hb dX5_letters_8 rfl (lv_at hl_7 0 rfl) ?_
      refine tr_geti Z.1 Z.2.2.2.1 S_7.1 S_7.2 ha0 ta0 rfl rfl (fun _ h => List.mem_cons_of_mem _ (List.mem_append_right _ h)) 2 (by decide) rfl (hts _ (List.mem_of_getElem? (i := 2) rfl)) dX5_letters_9 (fun v7 ev7 lv7 uv7 => ?_)
      have wv7 : v7 = (fi E a0 2) := ev7.symm.trans rfl
      have xv7 : v7.toInt = (fi E a0 2).toInt := by rw [wv7]
      refine lv_icmp_ge (tgt := 46) hx hb dX5_letters_12 (by decide) (fun c8 => ?_) (fun c8 => ?_)
      · skip
        have tc8 := nu_le c8
        refine lv_iload_n hx hb dX5_letters_46 rfl (lv_at hl_7 1 rfl) ?_
        rw [← hQ]
        exact en_i Z S_7 F0_ ⟨rfl, (by omega), (by rw [← z6, show ltI (tx E qt a0 2) (fi E a0 2).toInt.toNat x2_7.toInt.toNat = x2_7.toInt.toNat from run_stop (fun z => absurd z.1 (by omega))]; omega), (by omega), (by omega)⟩ dX5_letters_47
      · skip
        have tc8 := nu_nle c8
        refine lv_aload_n hx hb dX5_letters_15 rfl (lv_at hl_7 0 rfl) ?_
        refine tr_getr Z.1 Z.2.2.2.1 S_7.1 S_7.2 ha0 ta0 rfl rfl (fun _ h => List.mem_cons_of_mem _ (List.mem_append_right _ h)) 0 (by decide) rfl (hts _ (List.mem_of_getElem? (i := 3) rfl)) dX5_letters_16 (fun q9 eq9 hq9 tq9 => ?_)
        have tq9 : τ q9 = (32, 0) := tq9
        have uq9 : qt = q9 := S_7.2.2.2.2 _ hqt _ hq9 (tqt.trans tq9.symm) (by rw [tqt]; rfl)
        subst uq9
        refine lv_iload_n hx hb dX5_letters_19 rfl (lv_at hl_7 2 rfl) ?_
        refine tr_bald Z.1 Z.2.2.2.1 S_7.1 S_7.2 hqt tqt rfl (by omega) (by omega) dX5_letters_20 (fun v10 ev10 lv10 uv10 => ?_)
        have fe_20 : fi E a0 2 = fi E a0 2 := rfl
        have tq_20 : (tx E qt a0 2) = (tx E qt a0 2) := rfl
        have b20 : (tx E qt a0 2) x2_7.toInt.toNat = v10.toInt := tx_at (x := x2_7) (by omega) (by omega) ev10
        obtain ⟨v11, ev11, tv11⟩ : ∃ v : Int32, (Int8.ofInt (97)).toInt32 = v ∧ v.toInt = 97 := ⟨_, rfl, by decide +kernel⟩
        refine lv_bipush hx hb dX5_letters_21 ev11 ?_
        refine lv_icmp_lt (tgt := 46) hx hb dX5_letters_23 (by decide) (fun c12 => ?_) (fun c12 => ?_)
        · skip
          have tc12 := nu_lt c12
          refine lv_iload_n hx hb dX5_letters_46 rfl (lv_at hl_7 1 rfl) ?_
          rw [← hQ]
          exact en_i Z S_7 F0_ ⟨rfl, (by omega), (by rw [← z6, show ltI (tx E qt a0 2) (fi E a0 2).toInt.toNat x2_7.toInt.toNat = x2_7.toInt.toNat from run_stop (fun z => absurd (qS_iff.mp z.2).1 (by rw [b20]; omega))]; omega), (by omega), (by omega)⟩ dX5_letters_47
        · skip
          have tc12 := nu_nlt c12
          refine lv_aload_n hx hb dX5_letters_26 rfl (lv_at hl_7 0 rfl) ?_
          refine tr_getr Z.1 Z.2.2.2.1 S_7.1 S_7.2 ha0 ta0 rfl rfl (fun _ h => List.mem_cons_of_mem _ (List.mem_append_right _ h)) 0 (by decide) rfl (hts _ (List.mem_of_getElem? (i := 3) rfl)) dX5_letters_27 (fun q13 eq13 hq13 tq13 => ?_)
          have tq13 : τ q13 = (32, 0) := tq13
          have uq13 : qt = q13 := S_7.2.2.2.2 _ hqt _ hq13 (tqt.trans tq13.symm) (by rw [tqt]; rfl)
          subst uq13
          refine lv_iload_n hx hb dX5_letters_30 rfl (lv_at hl_7 2 rfl) ?_
          refine tr_bald Z.1 Z.2.2.2.1 S_7.1 S_7.2 hqt tqt rfl (by omega) (by omega) dX5_letters_31 (fun v14 ev14 lv14 uv14 => ?_)
          have fe_31 : fi E a0 2 = fi E a0 2 := rfl
          have tq_31 : (tx E qt a0 2) = (tx E qt a0 2) := rfl
          have b31 : (tx E qt a0 2) x2_7.toInt.toNat = v14.toInt := tx_at (x := x2_7) (by omega) (by omega) ev14
          obtain ⟨v15, ev15, tv15⟩ : ∃ v : Int32, (Int8.ofInt (122)).toInt32 = v ∧ v.toInt = 122 := ⟨_, rfl, by decide +kernel⟩
          refine lv_bipush hx hb dX5_letters_32 ev15 ?_
          refine lv_icmp_gt (tgt := 46) hx hb dX5_letters_34 (by decide) (fun c16 => ?_) (fun c16 => ?_)
          · skip
            have tc16 := nu_lt c16
            refine lv_iload_n hx hb dX5_letters_46 rfl (lv_at hl_7 1 rfl) ?_
            rw [← hQ]
            exact en_i Z S_7 F0_ ⟨rfl, (by omega), (by rw [← z6, show ltI (tx E qt a0 2) (fi E a0 2).toInt.toNat x2_7.toInt.toNat = x2_7.toInt.toNat from run_stop (fun z => absurd (qS_iff.mp z.2).2 (by rw [b31]; omega))]; omega), (by omega), (by omega)⟩ dX5_letters_47
          · skip
            have tc16 := nu_nlt c16
            obtain ⟨v17, ev17⟩ : ∃ y : Int32, x1_7 + Int32.ofInt (1) = y := ⟨_, rfl⟩
            have tv17 : v17.toInt = x1_7.toInt + (1) := by rw [← ev17]; exact (fb_addI (by rw [show (Int32.ofInt (1)).toInt = 1 from by decide +kernel]; omega) (by rw [show (Int32.ofInt (1)).toInt = 1 from by decide +kernel]; omega)).trans (by rw [show (Int32.ofInt (1)).toInt = 1 from by decide +kernel])
            refine lv_iinc (v := v17) (lv' := [(1, .int v17), (0, .ref a0), (2, .int x2_7)]) hx hb dX5_letters_37 hl_7 (k := 1) rfl ev17 (by decide) rfl (fun l18 hl19 => ?_)
            obtain ⟨v20, ev20⟩ : ∃ y : Int32, x2_7 + Int32.ofInt (1) = y := ⟨_, rfl⟩
            have tv20 : v20.toInt = x2_7.toInt + (1) := by rw [← ev20]; exact (fb_addI (by rw [show (Int32.ofInt (1)).toInt = 1 from by decide +kernel]; omega) (by rw [show (Int32.ofInt (1)).toInt = 1 from by decide +kernel]; omega)).trans (by rw [show (Int32.ofInt (1)).toInt = 1 from by decide +kernel])
            refine lv_iinc (v := v20) (lv' := [(2, .int v20), (1, .int v17), (0, .ref a0)]) hx hb dX5_letters_40 hl19 (k := 2) rfl ev20 (by decide) rfl (fun l21 hl22 => ?_)
            refine lv_goto (tgt := 7) hx hb dX5_letters_43 (by decide) ?_
            exact ih_7 v17 v20 H_7 k_7 l21 S_7 (by omega) (by omega) (by omega) (by omega) (by omega) ((show ltI (tx E qt a0 2) (fi E a0 2).toInt.toNat v20.toInt.toNat = ltI (tx E qt a0 2) (fi E a0 2).toInt.toNat x2_7.toInt.toNat from by rw [show v20.toInt.toNat = x2_7.toInt.toNat + 1 from by omega]; exact (run_go (by omega) (qS_iff.mpr ⟨by rw [b20]; omega, by rw [b31]; omega⟩)).symm).trans z6) (by omega) (lv_sub hl22 [2, 1, 0] rfl)
  obtain ⟨v23, ev23, tv23⟩ : ∃ v : Int32, Int32.ofInt (0) = v ∧ v.toInt = 0 := ⟨_, rfl, by decide +kernel⟩
  refine lv_iconst hx hb dX5_letters_0 ev23 ?_
  refine lv_istore_n (lv' := [(1, .int v23), (0, .ref a0)]) hx hb dX5_letters_1 rfl hl (by decide) rfl (fun l24 hl25 => ?_)
  refine lv_aload_n hx hb dX5_letters_2 rfl (lv_at hl25 1 rfl) ?_
  refine tr_geti Z.1 Z.2.2.2.1 S0.1 S0.2 ha0 ta0 rfl rfl (fun _ h => List.mem_cons_of_mem _ (List.mem_append_right _ h)) 3 (by decide) rfl (hts _ (List.mem_of_getElem? (i := 1) rfl)) dX5_letters_3 (fun v26 ev26 lv26 uv26 => ?_)
  have wv26 : v26 = (fi E a0 3) := ev26.symm.trans rfl
  have xv26 : v26.toInt = (fi E a0 3).toInt := by rw [wv26]
  refine lv_istore_n (lv' := [(2, .int v26), (1, .int v23), (0, .ref a0)]) hx hb dX5_letters_6 rfl hl25 (by decide) rfl (fun l27 hl28 => ?_)
  exact J7 _ v23 v26 s.heap [] l27 S0 (by omega) (by omega) (by omega) (by omega) (by omega) (by rw [show v26.toInt.toNat = (fi E a0 3).toInt.toNat from by omega]) (Nat.lt_succ_self _) (lv_sub hl28 [2, 1, 0] rfl)

set_option maxHeartbeats 4000000 in
set_option maxRecDepth 100000 in
theorem k_X5_readNumber_vr (l : Launch) (D : va_G) (cy : Nat → ClassId) {L : List Nat} {τ : Nat → Ro} {E : Ec} (hI : Inv TB cy L τ E) {a0 : Nat} (ha0 : a0 ∈ L) (ta0 : τ a0 = (7, 0)) {qt : Nat} (hqt : qt ∈ L) (tqt : τ qt = (32, 0)) : CtI l yX5_readNumber wsX5_readNumber { frames := 1, cells := 0, slots := 0, locals := 21 } D TB cy L τ E [.ref a0] (inW [(7, 0)]) (fun r E' => (r.toInt = dvI (tx E qt a0 2) (fi E a0 2).toInt.toNat (fi E a0 3).toInt.toNat 0) ∧ ((fi E' a0 3).toInt = ((dgI (tx E qt a0 2) (fi E a0 2).toInt.toNat (fi E a0 3).toInt.toNat : Nat) : Int)) ∧ 0 ≤ r.toInt ∧ r.toInt ≤ 10000 ∧ (∀ k : Nat, k ∉ ([3] : List Nat) → fi E' a0 k = fi E a0 k)) := by
  intro sz
  refine sta (cc := cX5_readNumber) (maxL := 2) hI (by decide) rfl (Nat.le_of_ble_eq_true rfl) (fun p e s m args below meth c ls hsz Z S0 hl => ?_)
  have hx := Z.1.1
  have hb := Z.1.2.1
  have hts := Z.1.2.2.2.2
  have F0_ : Fr L τ (inW [(7, 0)]) E E := Fr.refl
  have hl : lv_has ls 2 [(0, .ref a0)] := hl
  generalize hQ : MQ below _ args s 0 0 _ = QQ
  have kz_a0_3 := fi_rng (k := 3) hI ha0 ta0 rfl rfl
  have kz_a0_2 := fi_rng (k := 2) hI ha0 ta0 rfl rfl
  have hTr : ∀ p : Nat, -128 ≤ (tx E qt a0 2) p ∧ (tx E qt a0 2) p ≤ 127 := tx_rng hI hqt tqt rfl (by omega)
  have J2 : ∀ (n : Nat) (x1_2 : Int32) (E_2 : Ec) (H_2 : Heap) (k_2 : List Loc) (l_2 : Array Slot), Now D TB cy (va_A (va_pl L E) sz) s L τ E_2 H_2 k_2 → Fr L τ (inW [(7, 0)]) E E_2 → (0 ≤ x1_2.toInt) → (x1_2.toInt ≤ 10000) → (dvI (tx E qt a0 2) (fi E a0 2).toInt.toNat (fi E_2 a0 3).toInt.toNat x1_2.toInt = dvI (tx E qt a0 2) (fi E a0 2).toInt.toNat (fi E a0 3).toInt.toNat 0) → (dgI (tx E qt a0 2) (fi E a0 2).toInt.toNat (fi E_2 a0 3).toInt.toNat = dgI (tx E qt a0 2) (fi E a0 2).toInt.toNat (fi E a0 3).toInt.toNat) → (∀ k : Nat, k ∉ ([3] : List Nat) → fi E_2 a0 k = fi E a0 k) → (0 ≤ (fi E_2 a0 3).toInt ∧ (fi E_2 a0 3).toInt ≤ 120) → (0 ≤ (fi E_2 a0 2).toInt ∧ (fi E_2 a0 2).toInt ≤ 120 ∧ (fi E_2 a0 2).toInt = (fi E a0 2).toInt) → (120 - (fi E_2 a0 3).toInt).toNat < n → lv_has l_2 2 [(0, .ref a0), (1, .int x1_2)] → W p l e { frames := 1, cells := 0, slots := 0, locals := 21 } s m args below meth c H_2 k_2 0 0 QQ (F0 m 2 l_2 []) := by
    intro n
    induction n with
    | zero => intro x1_2 E_2 H_2 k_2 l_2 S_2 F_2 z1 z2 z3 z4 z5 z6 z7 hm hl_2; exact absurd hm (Nat.not_lt_zero _)
    | succ n ih =>
      intro x1_2 E_2 H_2 k_2 l_2 S_2 F_2 z1 z2 z3 z4 z5 z6 z7 hm hl_2
      have ih_2 := ih
      refine lv_aload_n hx hb dX5_readNumber_2 rfl (lv_at hl_2 0 rfl) ?_
      refine tr_geti Z.1 Z.2.2.2.1 S_2.1 S_2.2 ha0 ta0 rfl rfl (fun _ h => List.mem_cons_of_mem _ (List.mem_append_right _ h)) 3 (by decide) rfl (hts _ (List.mem_of_getElem? (i := 1) rfl)) dX5_readNumber_3 (fun v8 ev8 lv8 uv8 => ?_)
      have wv8 : v8 = (fi E_2 a0 3) := ev8.symm.trans rfl
      have xv8 : v8.toInt = (fi E_2 a0 3).toInt := by rw [wv8]
      refine lv_aload_n hx hb dX5_readNumber_6 rfl (lv_at hl_2 0 rfl) ?_
      refine tr_geti Z.1 Z.2.2.2.1 S_2.1 S_2.2 ha0 ta0 rfl rfl (fun _ h => List.mem_cons_of_mem _ (List.mem_append_right _ h)) 2 (by decide) rfl (hts _ (List.mem_of_getElem? (i := 2) rfl)) dX5_readNumber_7 (fun v9 ev9 lv9 uv9 => ?_)
      have wv9 : v9 = (fi E_2 a0 2) := ev9.symm.trans rfl
      have xv9 : v9.toInt = (fi E_2 a0 2).toInt := by rw [wv9]
      refine lv_icmp_ge (tgt := 55) hx hb dX5_readNumber_10 (by decide) (fun c10 => ?_) (fun c10 => ?_)
      · skip
        have tc10 := nu_le c10
        refine lv_iload_n hx hb dX5_readNumber_55 rfl (lv_at hl_2 1 rfl) ?_
        rw [← hQ]
        exact en_i Z S_2 F_2 ⟨(by rw [← z3, dv_stop (fun z => absurd z.1 (by omega))]), (by rw [← z4, show dgI (tx E qt a0 2) (fi E a0 2).toInt.toNat (fi E_2 a0 3).toInt.toNat = (fi E_2 a0 3).toInt.toNat from run_stop (fun z => absurd z.1 (by omega))]; omega), (by omega), (by omega), (fun k hk => (z5 k hk))⟩ dX5_readNumber_56
      · skip
        have tc10 := nu_nle c10
        refine lv_aload_n hx hb dX5_readNumber_13 rfl (lv_at hl_2 0 rfl) ?_
        refine tc_vi Z.1 Z.2.2.2.1 Z.2.2.2.2.1 Z.2.2.2.2.2 S_2.1 S_2.2 ha0 ta0 rfl rfl (k_X5_peek_vr l D cy S_2.2 ha0 ta0 hqt tqt) (cwV 0 hts gX5_readNumber_X5_peek rfl rfl rfl (by decide +kernel) ⟨Nat.le_of_ble_eq_true rfl, Nat.le_of_ble_eq_true rfl⟩) rfl hl_2.1 rfl (Nat.le_of_ble_eq_true rfl) dX5_readNumber_14 ⟨Nat.zero_le _, Nat.zero_le _⟩ (fun v14 E11 H12 k13 W11 I11 G11 p11 => ?_)
        obtain ⟨q11, p11_0, p11_1, p11_2, p11_3⟩ := p11
        have q11 := q11.symm
        subst q11
        have S11 : Now D TB cy (va_A (va_pl L E) sz) s L τ E_2 H12 k13 := ⟨W11, I11⟩
        try rw [ev8] at p11_0
        have fe_14 : fi E_2 a0 2 = fi E a0 2 := (z5 2 (by decide))
        have tq_14 : tx E_2 qt a0 2 = (tx E qt a0 2) := tx_same (F_2 qt hqt (by rw [tqt]; rfl)) fe_14
        have pk14 : v14.toInt = pkI (tx E qt a0 2) (fi E a0 2).toInt.toNat (fi E_2 a0 3).toInt.toNat := by have q := p11_1; rw [tq_14, fe_14] at q; exact q
        refine tc_si Z.1 Z.2.2.2.1 Z.2.2.2.2.1 Z.2.2.2.2.2 S11.1 (k_X5_isDigit_vr l D cy S11.2 v14) (va_cwS 1 hts gX5_readNumber_X5_isDigit rfl rfl rfl (by decide +kernel) ⟨Nat.le_of_ble_eq_true rfl, Nat.le_of_ble_eq_true rfl⟩) rfl hl_2.1 rfl (Nat.le_of_ble_eq_true rfl) dX5_readNumber_17 ⟨Nat.zero_le _, Nat.zero_le _⟩ (fun v18 E15 H16 k17 W15 I15 G15 p15 => ?_)
        obtain ⟨q15, p15_0, p15_1, p15_2⟩ := p15
        have q15 := q15.symm
        subst q15
        have S15 : Now D TB cy (va_A (va_pl L E) sz) s L τ E_2 H16 k17 := ⟨W15, I15⟩
        refine lv_if_eq (tgt := 55) hx hb dX5_readNumber_20 (by decide) (fun c19 => ?_) (fun c19 => ?_)
        · skip
          have tc19 := nu_eq c19
          have uc19 : (0 : Int32).toInt = 0 := rfl
          refine lv_iload_n hx hb dX5_readNumber_55 rfl (lv_at hl_2 1 rfl) ?_
          rw [← hQ]
          exact en_i Z S15 F_2 ⟨(by rw [← z3, dv_stop (fun z => absurd ((pkD (n := (fi E a0 2).toInt.toNat) (hTr _)).mpr z) (by rw [← pk14]; omega))]), (by rw [← z4, show dgI (tx E qt a0 2) (fi E a0 2).toInt.toNat (fi E_2 a0 3).toInt.toNat = (fi E_2 a0 3).toInt.toNat from run_stop (fun z => absurd ((pkD (n := (fi E a0 2).toInt.toNat) (hTr _)).mpr z) (by rw [← pk14]; omega))]; omega), (by omega), (by omega), (fun k hk => (z5 k hk))⟩ dX5_readNumber_56
        · skip
          have tc19 := nu_ne c19
          have uc19 : (0 : Int32).toInt = 0 := rfl
          refine lv_iload_n hx hb dX5_readNumber_23 rfl (lv_at hl_2 1 rfl) ?_
          obtain ⟨v20, ev20, tv20⟩ : ∃ v : Int32, (Int8.ofInt (10)).toInt32 = v ∧ v.toInt = 10 := ⟨_, rfl, by decide +kernel⟩
          refine lv_bipush hx hb dX5_readNumber_24 ev20 ?_
          refine lv_imul hx hb dX5_readNumber_26 ?_
          refine lv_topi (fun v21 ev21 => ?_)
          have tv21 := nu_mulc (10) ev21 (by omega) (by omega) (by omega)
          refine lv_aload_n hx hb dX5_readNumber_27 rfl (lv_at hl_2 0 rfl) ?_
          refine tc_vi Z.1 Z.2.2.2.1 Z.2.2.2.2.1 Z.2.2.2.2.2 S15.1 S15.2 ha0 ta0 rfl rfl (k_X5_peek_vr l D cy S15.2 ha0 ta0 hqt tqt) (cwV 0 hts gX5_readNumber_X5_peek rfl rfl rfl (by decide +kernel) ⟨Nat.le_of_ble_eq_true rfl, Nat.le_of_ble_eq_true rfl⟩) rfl hl_2.1 rfl (Nat.le_of_ble_eq_true rfl) dX5_readNumber_28 ⟨Nat.zero_le _, Nat.zero_le _⟩ (fun v25 E22 H23 k24 W22 I22 G22 p22 => ?_)
          obtain ⟨q22, p22_0, p22_1, p22_2, p22_3⟩ := p22
          have q22 := q22.symm
          subst q22
          have S22 : Now D TB cy (va_A (va_pl L E) sz) s L τ E_2 H23 k24 := ⟨W22, I22⟩
          try rw [ev8] at p22_0
          have fe_28 : fi E_2 a0 2 = fi E a0 2 := (z5 2 (by decide))
          have tq_28 : tx E_2 qt a0 2 = (tx E qt a0 2) := tx_same (F_2 qt hqt (by rw [tqt]; rfl)) fe_28
          have pk28 : v25.toInt = pkI (tx E qt a0 2) (fi E a0 2).toInt.toNat (fi E_2 a0 3).toInt.toNat := by have q := p22_1; rw [tq_28, fe_28] at q; exact q
          have dg14 : qD ((tx E qt a0 2) (fi E_2 a0 3).toInt.toNat) = true := ((pkD (n := (fi E a0 2).toInt.toNat) (hTr _)).mp (by rw [← pk14]; omega)).2
          have vb28 : (tx E qt a0 2) (fi E_2 a0 3).toInt.toNat = v25.toInt := (pkI_val (n := (fi E a0 2).toInt.toNat) (hTr _) (by rw [← pk14]; omega) (by rw [← pk14]; omega)).symm.trans pk28.symm
          refine lv_iadd hx hb dX5_readNumber_31 ?_
          refine lv_topi (fun v26 ev26 => ?_)
          have tv26 := nu_add ev26 (by omega) (by omega)
          obtain ⟨v27, ev27, tv27⟩ : ∃ v : Int32, (Int8.ofInt (48)).toInt32 = v ∧ v.toInt = 48 := ⟨_, rfl, by decide +kernel⟩
          refine lv_bipush hx hb dX5_readNumber_32 ev27 ?_
          refine lv_isub hx hb dX5_readNumber_34 ?_
          refine lv_topi (fun v28 ev28 => ?_)
          have tv28 := nu_sub ev28 (by omega) (by omega)
          obtain ⟨v29, ev29, tv29⟩ : ∃ v : Int32, (Int16.ofInt (10000)).toInt32 = v ∧ v.toInt = 10000 := ⟨_, rfl, by decide +kernel⟩
          refine lv_sipush hx hb dX5_readNumber_35 ev29 ?_
          refine va_mmin hx hb (Z.1.2.2.1.trans hl_2.1.symm) Z.1.2.2.2.1 (hts _ (List.mem_of_getElem? (i := 3) rfl)) (hts _ (List.mem_of_getElem? (i := 4) rfl)) (hts _ (List.mem_of_getElem? (i := 5) rfl)) (hts _ (List.mem_of_getElem? (i := 6) rfl)) (Nat.le_of_ble_eq_true rfl) (Nat.le_of_ble_eq_true rfl) (Nat.zero_le _) (Nat.zero_le _) dX5_readNumber_38 ?_
          refine lv_topi (fun v30 ev30 => ?_)
          have tv30 := nu_min ev30
          refine lv_istore_n (lv' := [(1, .int v30), (0, .ref a0)]) hx hb dX5_readNumber_41 rfl hl_2 (by decide) rfl (fun l31 hl32 => ?_)
          refine lv_aload_n hx hb dX5_readNumber_42 rfl (lv_at hl32 1 rfl) ?_
          refine lv_dup hx hb dX5_readNumber_43 rfl ?_
          refine tr_geti Z.1 Z.2.2.2.1 S22.1 S22.2 ha0 ta0 rfl rfl (fun _ h => List.mem_cons_of_mem _ (List.mem_append_right _ h)) 3 (by decide) rfl (hts _ (List.mem_of_getElem? (i := 1) rfl)) dX5_readNumber_44 (fun v33 ev33 lv33 uv33 => ?_)
          have wv33 : v33 = v8 := ev33.symm.trans ev8
          have xv33 : v33.toInt = v8.toInt := by rw [wv33]
          obtain ⟨v34, ev34, tv34⟩ : ∃ v : Int32, Int32.ofInt (1) = v ∧ v.toInt = 1 := ⟨_, rfl, by decide +kernel⟩
          refine lv_iconst hx hb dX5_readNumber_47 ev34 ?_
          refine lv_iadd hx hb dX5_readNumber_48 ?_
          refine lv_topi (fun v35 ev35 => ?_)
          have tv35 := nu_add ev35 (by omega) (by omega)
          refine tr_puti Z.1 Z.2.2.2.1 S22.1 S22.2 ha0 ta0 rfl rfl (fun _ h => List.mem_cons_of_mem _ (List.mem_append_right _ h)) tyX5_ok nmX5 3 (by decide) rfl rfl rfl (hts _ (List.mem_of_getElem? (i := 1) rfl)) dX5_readNumber_49 (by omega) (by omega) (fun E36 H37 k38 W36 I36 P36 => ?_)
          have S36 : Now D TB cy (va_A (va_pl L E) sz) s L τ E36 H37 k38 := ⟨W36, I36⟩
          have F36 : Fr L τ (inW [(7, 0)]) E E36 := Fr.put F_2 P36 ta0 rfl
          refine lv_goto (tgt := 2) hx hb dX5_readNumber_52 (by decide) ?_
          exact ih_2 v30 E36 H37 k38 l31 S36 F36 (by omega) (by omega) ((show dvI (tx E qt a0 2) (fi E a0 2).toInt.toNat (fi E36 a0 3).toInt.toNat v30.toInt = dvI (tx E qt a0 2) (fi E a0 2).toInt.toNat (fi E_2 a0 3).toInt.toNat x1_2.toInt from by rw [show (fi E36 a0 3).toInt.toNat = (fi E_2 a0 3).toInt.toNat + 1 from by rw [(fi_at P36)]; omega, show v30.toInt = min (x1_2.toInt * 10 + (tx E qt a0 2) (fi E_2 a0 3).toInt.toNat - 48) 10000 from by rw [vb28]; omega]; exact (dv_go (by omega) dg14).symm).trans z3) ((show dgI (tx E qt a0 2) (fi E a0 2).toInt.toNat (fi E36 a0 3).toInt.toNat = dgI (tx E qt a0 2) (fi E a0 2).toInt.toNat (fi E_2 a0 3).toInt.toNat from by rw [show (fi E36 a0 3).toInt.toNat = (fi E_2 a0 3).toInt.toNat + 1 from by rw [(fi_at P36)]; omega]; exact (run_go (by omega) dg14).symm).trans z4) (fun k hk => ((fi_put P36 (Or.inr (fw_ne (by decide) hk))).trans (z5 k hk))) (by rw [(fi_at P36)]; omega) (by rw [((fi_put (k := 2) P36 (Or.inr (by decide))).trans ev9)]; omega) (by rw [(fi_at P36)]; omega) (lv_sub hl32 [1, 0] rfl)
  obtain ⟨v39, ev39, tv39⟩ : ∃ v : Int32, Int32.ofInt (0) = v ∧ v.toInt = 0 := ⟨_, rfl, by decide +kernel⟩
  refine lv_iconst hx hb dX5_readNumber_0 ev39 ?_
  refine lv_istore_n (lv' := [(1, .int v39), (0, .ref a0)]) hx hb dX5_readNumber_1 rfl hl (by decide) rfl (fun l40 hl41 => ?_)
  exact J2 _ v39 E s.heap [] l40 S0 F0_ (by omega) (by omega) (by rw [show v39.toInt = 0 from by omega]) rfl (fun k hk => ((fun k hk => rfl) k hk)) (by omega) (by omega) (Nat.lt_succ_self _) (lv_sub hl41 [1, 0] rfl)

set_option maxHeartbeats 4000000 in
set_option maxRecDepth 100000 in
theorem k_J1_charAt_3b067_vr (l : Launch) (D : va_G) (cy : Nat → ClassId) {L : List Nat} {τ : Nat → Ro} {E : Ec} (hI : Inv TB cy L τ E) {G : Sg} {i0 : Nat} (hi0 : i0 < 11) (a1 : Int32) (la1 : 0 ≤ a1.toInt) (h : a1.toInt < ((lenS.getD i0 0 : Nat) : Int)) : CtI1 G l yJ1_charAt_3b067 wsJ1_charAt_3b067 { frames := 2, cells := 0, slots := 0, locals := 43 } D TB cy L τ E [.ref (G.2.2.2.2 i0), .int a1] (inW []) (fun r E' => E' = E ∧ (narrow .char (.int r) = .int r) ∧ (r = ((bytS.getD i0 []).getD a1.toInt.toNat 0))) := by
  intro sz
  refine sta1 (cc := cJ1_charAt_3b067) (maxL := 2) hI (by decide) rfl (Nat.le_of_ble_eq_true rfl) (fun p e s m args below meth c ls hsz Z SZ S0 hl => ?_)
  have hx := Z.1.1
  have hb := Z.1.2.1
  have hts := Z.1.2.2.2.2
  have F0_ : Fr L τ (inW []) E E := Fr.refl
  have hl : lv_has ls 2 [(0, .ref (G.2.2.2.2 i0)), (1, .int a1)] := hl
  generalize hQ : MQ below _ args s 0 0 _ = QQ
  refine lv_iload_n hx hb dJ1_charAt_3b067_0 rfl (lv_at hl 1 rfl) ?_
  refine lv_aload_n hx hb dJ1_charAt_3b067_1 rfl (lv_at hl 0 rfl) ?_
  obtain ⟨v1, ev1, tv1⟩ : ∃ v : Int32, Int32.ofNat (lenS.getD (i0) 0) = v ∧ (v.toInt = ((lenS.getD (i0) 0 : Nat) : Int) ∧ 0 ≤ v.toInt ∧ v.toInt ≤ 6) := ⟨_, rfl, lenS_int hi0⟩
  refine va_tlen hx hb (SZ.2.2.2.1.1 (i0) hi0).2.2.2 S0.1.2.2 ev1 dJ1_charAt_3b067_2 ?_
  refine tc1_sv Z.1 Z.2.2.2.1 Z.2.2.2.2.1 Z.2.2.2.2.2 SZ S0.1 (k_J0_checkIndex_df160 l D cy S0.2 a1 (by omega) v1 (by omega)) (va_cwS 2 hts gJ1_charAt_3b067_J0_checkIndex_df160 rfl rfl rfl (by decide +kernel) ⟨Nat.le_of_ble_eq_true rfl, Nat.le_of_ble_eq_true rfl⟩) rfl hl.1 rfl (Nat.le_of_ble_eq_true rfl) dJ1_charAt_3b067_3 ⟨Nat.zero_le _, Nat.zero_le _⟩ (fun E2 H3 k4 W2 I2 G2 p2 => ?_)
  have q2 := p2
  have q2 := q2.symm
  subst q2
  have S2 : Now D TB cy (va_A (va_pl L E) sz) s L τ E H3 k4 := ⟨W2, I2⟩
  refine lv_aload_n hx hb dJ1_charAt_3b067_6 rfl (lv_at hl 0 rfl) ?_
  refine lv_iload_n hx hb dJ1_charAt_3b067_7 rfl (lv_at hl 1 rfl) ?_
  refine va_tb hx hb (SZ.2.2.2.1.1 (i0) hi0).2.2.2 S2.1.2.2 (tr_in (by omega) (by omega)) rfl dJ1_charAt_3b067_8 ?_
  refine lv_topi (fun v6 ev6 => ?_)
  obtain ⟨v7, ev7, tv7⟩ : ∃ v : Int32, (Int16.ofInt (255)).toInt32 = v ∧ v.toInt = 255 := ⟨_, rfl, by decide +kernel⟩
  refine lv_sipush hx hb dJ1_charAt_3b067_9 ev7 ?_
  refine lv_iand hx hb dJ1_charAt_3b067_12 ?_
  refine lv_topi (fun v8 ev8 => ?_)
  have tv8 := nu_and255 ev8 (by omega)
  refine lv_i2c hx hb dJ1_charAt_3b067_13 rfl ?_
  refine lv_topi (fun v10 ev10 => ?_)
  rw [← hQ]
  exact en_t Z S2 F0_ (chr_ok ev10 ev8 (by omega)) ⟨rfl, (chr_ok ev10 ev8 (by omega)), (chr_val ev6 (by omega) ev8 ev10 hi0 (by have q := lenS_le hi0; omega))⟩ dJ1_charAt_3b067_14

set_option maxHeartbeats 4000000 in
set_option maxRecDepth 100000 in
theorem k_J0_charAt_5068e_vr (l : Launch) (D : va_G) (cy : Nat → ClassId) {L : List Nat} {τ : Nat → Ro} {E : Ec} (hI : Inv TB cy L τ E) {G : Sg} {i0 : Nat} (hi0 : i0 < 11) (a1 : Int32) (la1 : 0 ≤ a1.toInt) (h : a1.toInt < ((lenS.getD i0 0 : Nat) : Int)) : CtI1 G l yJ0_charAt_5068e wsJ0_charAt_5068e { frames := 4, cells := 0, slots := 0, locals := 85 } D TB cy L τ E [.ref (G.2.2.2.1 i0), .int a1] (inW []) (fun r E' => E' = E ∧ (narrow .char (.int r) = .int r) ∧ (r = ((bytS.getD i0 []).getD a1.toInt.toNat 0))) := by
  intro sz
  refine sta1 (cc := cJ0_charAt_5068e) (maxL := 2) hI (by decide) rfl (Nat.le_of_ble_eq_true rfl) (fun p e s m args below meth c ls hsz Z SZ S0 hl => ?_)
  have hx := Z.1.1
  have hb := Z.1.2.1
  have hts := Z.1.2.2.2.2
  have F0_ : Fr L τ (inW []) E E := Fr.refl
  have hl : lv_has ls 2 [(0, .ref (G.2.2.2.1 i0)), (1, .int a1)] := hl
  generalize hQ : MQ below _ args s 0 0 _ = QQ
  refine lv_aload_n hx hb dJ0_charAt_5068e_0 rfl (lv_at hl 0 rfl) ?_
  refine tcS_vi Z.1 Z.2.2.2.1 Z.2.2.2.2.1 Z.2.2.2.2.2 SZ S0.1 hi0 (k_J0_isLatin1_aae02 l D cy S0.2 hi0) (cwV 0 hts gJ0_charAt_5068e_J0_isLatin1_aae02 rfl rfl rfl (by decide +kernel) ⟨Nat.le_of_ble_eq_true rfl, Nat.le_of_ble_eq_true rfl⟩) rfl hl.1 rfl (Nat.le_of_ble_eq_true rfl) dJ0_charAt_5068e_1 ⟨Nat.zero_le _, Nat.zero_le _⟩ (fun v4 E1 H2 k3 W1 I1 G1 p1 => ?_)
  obtain ⟨q1, p1_0, p1_1⟩ := p1
  have q1 := q1.symm
  subst q1
  have S1 : Now D TB cy (va_A (va_pl L E) sz) s L τ E H2 k3 := ⟨W1, I1⟩
  refine lv_if_eq (tgt := 16) hx hb dJ0_charAt_5068e_4 (by decide) (fun c5 => ?_) (fun c5 => ?_)
  · skip
    have tc5 := nu_eq c5
    have uc5 : (0 : Int32).toInt = 0 := rfl
    omega
  · skip
    have tc5 := nu_ne c5
    have uc5 : (0 : Int32).toInt = 0 := rfl
    refine lv_aload_n hx hb dJ0_charAt_5068e_7 rfl (lv_at hl 0 rfl) ?_
    refine vk_getf hx hb (SZ.2.2.2.1.1 (i0) hi0).2.2.1 S1.1.2.2 Z.1.2.2.2.1 (hts _ (List.mem_of_getElem? (i := 1) rfl)) (fun _ h => h) dJ0_charAt_5068e_8 ?_
    refine lv_iload_n hx hb dJ0_charAt_5068e_11 rfl (lv_at hl 1 rfl) ?_
    refine tc1_si Z.1 Z.2.2.2.1 Z.2.2.2.2.1 Z.2.2.2.2.2 SZ S1.1 (k_J1_charAt_3b067_vr l D cy S1.2 hi0 a1 (by omega) (by omega)) (va_cwS 2 hts gJ0_charAt_5068e_J1_charAt_3b067 rfl rfl rfl (by decide +kernel) ⟨Nat.le_of_ble_eq_true rfl, Nat.le_of_ble_eq_true rfl⟩) rfl hl.1 rfl (Nat.le_of_ble_eq_true rfl) dJ0_charAt_5068e_12 ⟨Nat.zero_le _, Nat.zero_le _⟩ (fun v9 E6 H7 k8 W6 I6 G6 p6 => ?_)
    obtain ⟨q6, p6_0, p6_1⟩ := p6
    have q6 := q6.symm
    subst q6
    have S6 : Now D TB cy (va_A (va_pl L E) sz) s L τ E H7 k8 := ⟨W6, I6⟩
    rw [← hQ]
    exact en_t Z S6 F0_ p6_0 ⟨rfl, p6_0, p6_1⟩ dJ0_charAt_5068e_15

set_option maxHeartbeats 4000000 in
set_option maxRecDepth 100000 in
theorem k_X5_stands_vr (l : Launch) (D : va_G) (cy : Nat → ClassId) {L : List Nat} {τ : Nat → Ro} {E : Ec} (hI : Inv TB cy L τ E) {G : Sg} {a0 : Nat} (ha0 : a0 ∈ L) (ta0 : τ a0 = (7, 0)) {i1 : Nat} (hi1 : i1 < 11) (a2 : Int32) {qt : Nat} (hqt : qt ∈ L) (tqt : τ qt = (32, 0)) (hl0 : a2.toInt = ((ltI (tx E qt a0 2) (fi E a0 2).toInt.toNat (fi E a0 3).toInt.toNat : Nat) : Int) - (fi E a0 3).toInt) : CtI1 G l yX5_stands wsX5_stands { frames := 5, cells := 0, slots := 0, locals := 106 } D TB cy L τ E [.ref a0, .ref (G.2.2.2.1 i1), .int a2] (inW []) (fun r E' => E' = E ∧ ((r.toInt = 1 ∧ wdI (tx E qt a0 2) (fi E a0 2).toInt.toNat (fi E a0 3).toInt.toNat = wV i1 ∧ a2.toInt = ((lenS.getD i1 0 : Nat) : Int)) ∨ (r.toInt = 0 ∧ wdI (tx E qt a0 2) (fi E a0 2).toInt.toNat (fi E a0 3).toInt.toNat ≠ wV i1)) ∧ 0 ≤ r.toInt ∧ r.toInt ≤ 1) := by
  intro sz
  refine sta1 (cc := cX5_stands) (maxL := 4) hI (by decide) rfl (Nat.le_of_ble_eq_true rfl) (fun p e s m args below meth c ls hsz Z SZ S0 hl => ?_)
  have hx := Z.1.1
  have hb := Z.1.2.1
  have hts := Z.1.2.2.2.2
  have F0_ : Fr L τ (inW []) E E := Fr.refl
  have hl : lv_has ls 4 [(0, .ref a0), (1, .ref (G.2.2.2.1 i1)), (2, .int a2)] := hl
  generalize hQ : MQ below _ args s 0 0 _ = QQ
  have kz_a0_3 := fi_rng (k := 3) hI ha0 ta0 rfl rfl
  have kz_a0_2 := fi_rng (k := 2) hI ha0 ta0 rfl rfl
  have J25 : ∀ (n : Nat) (x3_25 : Int32) (H_25 : Heap) (k_25 : List Loc) (l_25 : Array Slot), Now D TB cy (va_A (va_pl L E) sz) s L τ E H_25 k_25 → (0 ≤ a2.toInt) → (a2.toInt ≤ 6) → (0 ≤ x3_25.toInt) → (x3_25.toInt ≤ 6) → (a2.toInt = ((lenS.getD i1 0 : Nat) : Int)) → (a2.toInt + (fi E a0 3).toInt ≤ (fi E a0 2).toInt) → (a2.toInt ≤ 6) → (∀ j : Nat, j < x3_25.toInt.toNat → (tx E qt a0 2) ((fi E a0 3).toInt.toNat + j) = ((bytS.getD i1 []).getD j 0).toInt) → (6 - x3_25.toInt).toNat < n → lv_has l_25 4 [(0, .ref a0), (1, .ref (G.2.2.2.1 i1)), (2, .int a2), (3, .int x3_25)] → W p l e { frames := 5, cells := 0, slots := 0, locals := 106 } s m args below meth c H_25 k_25 0 0 QQ (F0 m 25 l_25 []) := by
    intro n
    induction n with
    | zero => intro x3_25 H_25 k_25 l_25 S_25 z1 z2 z3 z4 z5 z6 z7 z8 hm hl_25; exact absurd hm (Nat.not_lt_zero _)
    | succ n ih =>
      intro x3_25 H_25 k_25 l_25 S_25 z1 z2 z3 z4 z5 z6 z7 z8 hm hl_25
      have ih_25 := ih
      refine lv_iload_n hx hb dX5_stands_25 rfl (lv_at hl_25 3 rfl) ?_
      refine lv_iload_n hx hb dX5_stands_26 rfl (lv_at hl_25 2 rfl) ?_
      refine lv_icmp_ge (tgt := 57) hx hb dX5_stands_27 (by decide) (fun c9 => ?_) (fun c9 => ?_)
      · skip
        have tc9 := nu_le c9
        obtain ⟨v10, ev10, tv10⟩ : ∃ v : Int32, Int32.ofInt (1) = v ∧ v.toInt = 1 := ⟨_, rfl, by decide +kernel⟩
        refine lv_iconst hx hb dX5_stands_57 ev10 ?_
        rw [← hQ]
        exact en_z Z S_25 F0_ (zo v10 (by omega)) ⟨rfl, (Or.inl ⟨by omega, (stand_iff (a := a2.toInt) hi1 (by omega)).mp ⟨by omega, by omega, fun j hj => z8 j (by omega)⟩, by omega⟩), (by omega), (by omega)⟩ dX5_stands_58
      · skip
        have tc9 := nu_nle c9
        refine lv_aload_n hx hb dX5_stands_30 rfl (lv_at hl_25 0 rfl) ?_
        refine tr_getr Z.1 Z.2.2.2.1 S_25.1 S_25.2 ha0 ta0 rfl rfl (fun _ h => List.mem_cons_of_mem _ (List.mem_append_right _ h)) 0 (by decide) rfl (hts _ (List.mem_of_getElem? (i := 3) rfl)) dX5_stands_31 (fun q11 eq11 hq11 tq11 => ?_)
        have tq11 : τ q11 = (32, 0) := tq11
        have uq11 : qt = q11 := S_25.2.2.2.2 _ hqt _ hq11 (tqt.trans tq11.symm) (by rw [tqt]; rfl)
        subst uq11
        refine lv_aload_n hx hb dX5_stands_34 rfl (lv_at hl_25 0 rfl) ?_
        refine tr_geti Z.1 Z.2.2.2.1 S_25.1 S_25.2 ha0 ta0 rfl rfl (fun _ h => List.mem_cons_of_mem _ (List.mem_append_right _ h)) 3 (by decide) rfl (hts _ (List.mem_of_getElem? (i := 2) rfl)) dX5_stands_35 (fun v12 ev12 lv12 uv12 => ?_)
        have wv12 : v12 = (fi E a0 3) := ev12.symm.trans rfl
        have xv12 : v12.toInt = (fi E a0 3).toInt := by rw [wv12]
        refine lv_iload_n hx hb dX5_stands_38 rfl (lv_at hl_25 3 rfl) ?_
        refine lv_iadd hx hb dX5_stands_39 ?_
        refine lv_topi (fun v13 ev13 => ?_)
        have tv13 := nu_add ev13 (by omega) (by omega)
        refine tr_bald Z.1 Z.2.2.2.1 S_25.1 S_25.2 hqt tqt rfl (by omega) (by omega) dX5_stands_40 (fun v14 ev14 lv14 uv14 => ?_)
        have fe_40 : fi E a0 2 = fi E a0 2 := rfl
        have tq_40 : (tx E qt a0 2) = (tx E qt a0 2) := rfl
        have b40 : (tx E qt a0 2) ((fi E a0 3).toInt.toNat + x3_25.toInt.toNat) = v14.toInt := tx_at (x := v13) (by omega) (by omega) ev14
        refine lv_aload_n hx hb dX5_stands_41 rfl (lv_at hl_25 1 rfl) ?_
        refine lv_iload_n hx hb dX5_stands_42 rfl (lv_at hl_25 3 rfl) ?_
        refine tcS_vi Z.1 Z.2.2.2.1 Z.2.2.2.2.1 Z.2.2.2.2.2 SZ S_25.1 hi1 (k_J0_charAt_5068e_vr l D cy S_25.2 hi1 x3_25 (by omega) (by omega)) (cwV 1 hts gX5_stands_J0_charAt_5068e rfl rfl rfl (by decide +kernel) ⟨Nat.le_of_ble_eq_true rfl, Nat.le_of_ble_eq_true rfl⟩) rfl hl_25.1 rfl (Nat.le_of_ble_eq_true rfl) dX5_stands_43 ⟨Nat.zero_le _, Nat.zero_le _⟩ (fun v18 E15 H16 k17 W15 I15 G15 p15 => ?_)
        obtain ⟨q15, p15_0, p15_1⟩ := p15
        have q15 := q15.symm
        subst q15
        have S15 : Now D TB cy (va_A (va_pl L E) sz) s L τ E H16 k17 := ⟨W15, I15⟩
        have c43 : v18.toInt = ((bytS.getD i1 []).getD x3_25.toInt.toNat 0).toInt := nu_eq p15_1
        refine lv_icmp_eq (tgt := 51) hx hb dX5_stands_46 (by decide) (fun c19 => ?_) (fun c19 => ?_)
        · skip
          have tc19 := nu_eq c19
          obtain ⟨v20, ev20⟩ : ∃ y : Int32, x3_25 + Int32.ofInt (1) = y := ⟨_, rfl⟩
          have tv20 : v20.toInt = x3_25.toInt + (1) := by rw [← ev20]; exact (fb_addI (by rw [show (Int32.ofInt (1)).toInt = 1 from by decide +kernel]; omega) (by rw [show (Int32.ofInt (1)).toInt = 1 from by decide +kernel]; omega)).trans (by rw [show (Int32.ofInt (1)).toInt = 1 from by decide +kernel])
          refine lv_iinc (v := v20) (lv' := [(3, .int v20), (0, .ref a0), (1, .ref (G.2.2.2.1 i1)), (2, .int a2)]) hx hb dX5_stands_51 hl_25 (k := 3) rfl ev20 (by decide) rfl (fun l21 hl22 => ?_)
          refine lv_goto (tgt := 25) hx hb dX5_stands_54 (by decide) ?_
          exact ih_25 v20 H16 k17 l21 S15 (by omega) (by omega) (by omega) (by omega) (by omega) (by omega) (by omega) (ck_all z8 (by omega) (by omega) (by show (tx E qt a0 2) ((fi E a0 3).toInt.toNat + x3_25.toInt.toNat) = ((bytS.getD i1 []).getD x3_25.toInt.toNat 0).toInt; rw [b40, ← c43]; omega)) (by omega) (lv_sub hl22 [1, 2, 3, 0] rfl)
        · skip
          have tc19 := nu_ne c19
          obtain ⟨v23, ev23, tv23⟩ : ∃ v : Int32, Int32.ofInt (0) = v ∧ v.toInt = 0 := ⟨_, rfl, by decide +kernel⟩
          refine lv_iconst hx hb dX5_stands_49 ev23 ?_
          rw [← hQ]
          exact en_z Z S15 F0_ (zo v23 (by omega)) ⟨rfl, (Or.inr ⟨by omega, fun z => have w := (stand_iff (a := a2.toInt) hi1 (by omega)).mpr z; absurd (w.2.2 x3_25.toInt.toNat (by omega)) (by rw [b40, ← c43]; omega)⟩), (by omega), (by omega)⟩ dX5_stands_50
  refine lv_aload_n hx hb dX5_stands_0 rfl (lv_at hl 1 rfl) ?_
  refine tcS_vi Z.1 Z.2.2.2.1 Z.2.2.2.2.1 Z.2.2.2.2.2 SZ S0.1 hi1 (k_J0_length_8abf5 l D cy S0.2 hi1) (cwV 0 hts gX5_stands_J0_length_8abf5 rfl rfl rfl (by decide +kernel) ⟨Nat.le_of_ble_eq_true rfl, Nat.le_of_ble_eq_true rfl⟩) rfl hl.1 rfl (Nat.le_of_ble_eq_true rfl) dX5_stands_1 ⟨Nat.zero_le _, Nat.zero_le _⟩ (fun v27 E24 H25 k26 W24 I24 G24 p24 => ?_)
  obtain ⟨q24, p24_0, p24_1, p24_2⟩ := p24
  have q24 := q24.symm
  subst q24
  have S24 : Now D TB cy (va_A (va_pl L E) sz) s L τ E H25 k26 := ⟨W24, I24⟩
  refine lv_iload_n hx hb dX5_stands_4 rfl (lv_at hl 2 rfl) ?_
  refine lv_icmp_ne (tgt := 21) hx hb dX5_stands_5 (by decide) (fun c28 => ?_) (fun c28 => ?_)
  · skip
    have tc28 := nu_ne c28
    obtain ⟨v29, ev29, tv29⟩ : ∃ v : Int32, Int32.ofInt (0) = v ∧ v.toInt = 0 := ⟨_, rfl, by decide +kernel⟩
    refine lv_iconst hx hb dX5_stands_21 ev29 ?_
    rw [← hQ]
    exact en_z Z S24 F0_ (zo v29 (by omega)) ⟨rfl, (Or.inr ⟨by omega, fun z => have w := (stand_iff (a := a2.toInt) hi1 (by omega)).mpr z; absurd w.1 (by omega)⟩), (by omega), (by omega)⟩ dX5_stands_22
  · skip
    have tc28 := nu_eq c28
    refine lv_iload_n hx hb dX5_stands_8 rfl (lv_at hl 2 rfl) ?_
    refine lv_aload_n hx hb dX5_stands_9 rfl (lv_at hl 0 rfl) ?_
    refine tr_geti Z.1 Z.2.2.2.1 S24.1 S24.2 ha0 ta0 rfl rfl (fun _ h => List.mem_cons_of_mem _ (List.mem_append_right _ h)) 2 (by decide) rfl (hts _ (List.mem_of_getElem? (i := 1) rfl)) dX5_stands_10 (fun v30 ev30 lv30 uv30 => ?_)
    have wv30 : v30 = (fi E a0 2) := ev30.symm.trans rfl
    have xv30 : v30.toInt = (fi E a0 2).toInt := by rw [wv30]
    refine lv_aload_n hx hb dX5_stands_13 rfl (lv_at hl 0 rfl) ?_
    refine tr_geti Z.1 Z.2.2.2.1 S24.1 S24.2 ha0 ta0 rfl rfl (fun _ h => List.mem_cons_of_mem _ (List.mem_append_right _ h)) 3 (by decide) rfl (hts _ (List.mem_of_getElem? (i := 2) rfl)) dX5_stands_14 (fun v31 ev31 lv31 uv31 => ?_)
    have wv31 : v31 = (fi E a0 3) := ev31.symm.trans rfl
    have xv31 : v31.toInt = (fi E a0 3).toInt := by rw [wv31]
    refine lv_isub hx hb dX5_stands_17 ?_
    refine lv_topi (fun v32 ev32 => ?_)
    have tv32 := nu_sub ev32 (by omega) (by omega)
    refine lv_icmp_le (tgt := 23) hx hb dX5_stands_18 (by decide) (fun c33 => ?_) (fun c33 => ?_)
    · skip
      have tc33 := nu_le c33
      obtain ⟨v34, ev34, tv34⟩ : ∃ v : Int32, Int32.ofInt (0) = v ∧ v.toInt = 0 := ⟨_, rfl, by decide +kernel⟩
      refine lv_iconst hx hb dX5_stands_23 ev34 ?_
      refine lv_istore_n (lv' := [(3, .int v34), (0, .ref a0), (1, .ref (G.2.2.2.1 i1)), (2, .int a2)]) hx hb dX5_stands_24 rfl hl (by decide) rfl (fun l35 hl36 => ?_)
      exact J25 _ v34 H25 k26 l35 S24 (by omega) (by omega) (by omega) (by omega) (by omega) (by omega) (by omega) (fun j hj => absurd hj (by omega)) (Nat.lt_succ_self _) (lv_sub hl36 [1, 2, 3, 0] rfl)
    · skip
      have tc33 := nu_nle c33
      obtain ⟨v37, ev37, tv37⟩ : ∃ v : Int32, Int32.ofInt (0) = v ∧ v.toInt = 0 := ⟨_, rfl, by decide +kernel⟩
      refine lv_iconst hx hb dX5_stands_21 ev37 ?_
      rw [← hQ]
      exact en_z Z S24 F0_ (zo v37 (by omega)) ⟨rfl, (Or.inr ⟨by omega, fun z => have w := (stand_iff (a := a2.toInt) hi1 (by omega)).mpr z; absurd w.2.1 (by omega)⟩), (by omega), (by omega)⟩ dX5_stands_22

set_option maxHeartbeats 4000000 in
set_option maxRecDepth 100000 in
theorem k_X5_nameHere_vr (l : Launch) (D : va_G) (cy : Nat → ClassId) {L : List Nat} {τ : Nat → Ro} {E : Ec} (hI : Inv TB cy L τ E) {G : Sg} {a0 : Nat} (ha0 : a0 ∈ L) (ta0 : τ a0 = (7, 0)) {qt : Nat} (hqt : qt ∈ L) (tqt : τ qt = (32, 0)) : CtQ1 G l yX5_nameHere wsX5_nameHere { frames := 6, cells := 0, slots := 0, locals := 129 } D TB cy L τ E [.ref a0] (inW []) (fun r E' => E' = E ∧ (r = none → nmV (wdI (tx E qt a0 2) (fi E a0 2).toInt.toNat (fi E a0 3).toInt.toNat) = -1) ∧ (∀ q : Nat, r = some q → ∃ i : Nat, i < 8 ∧ q = G.2.2.1 i ∧ (fi E a0 3).toInt + ((lenS.getD i 0 : Nat) : Int) ≤ 120 ∧ nmV (wdI (tx E qt a0 2) (fi E a0 2).toInt.toNat (fi E a0 3).toInt.toNat) = (i : Int) ∧ (fi E a0 3).toInt + ((lenS.getD i 0 : Nat) : Int) = ((ltI (tx E qt a0 2) (fi E a0 2).toInt.toNat (fi E a0 3).toInt.toNat : Nat) : Int))) := by
  intro sz
  refine sta1 (cc := cX5_nameHere) (maxL := 3) hI (by decide) rfl (Nat.le_of_ble_eq_true rfl) (fun p e s m args below meth c ls hsz Z SZ S0 hl => ?_)
  have hx := Z.1.1
  have hb := Z.1.2.1
  have hts := Z.1.2.2.2.2
  have F0_ : Fr L τ (inW []) E E := Fr.refl
  have hl : lv_has ls 3 [(0, .ref a0)] := hl
  generalize hQ : MQ below _ args s 0 0 _ = QQ
  have kz_a0_3 := fi_rng (k := 3) hI ha0 ta0 rfl rfl
  have kz_a0_2 := fi_rng (k := 2) hI ha0 ta0 rfl rfl
  have J7 : ∀ (n : Nat) (x1_7 : Int32) (x2_7 : Int32) (H_7 : Heap) (k_7 : List Loc) (l_7 : Array Slot), Now D TB cy (va_A (va_pl L E) sz) s L τ E H_7 k_7 → (0 ≤ x1_7.toInt) → (x1_7.toInt ≤ 120) → (0 ≤ x2_7.toInt) → (x2_7.toInt ≤ 8) → (x1_7.toInt + (fi E a0 3).toInt ≤ 120) → (x1_7.toInt = ((ltI (tx E qt a0 2) (fi E a0 2).toInt.toNat (fi E a0 3).toInt.toNat : Nat) : Int) - (fi E a0 3).toInt) → (∀ j : Nat, j < x2_7.toInt.toNat → wdI (tx E qt a0 2) (fi E a0 2).toInt.toNat (fi E a0 3).toInt.toNat ≠ wV j) → (8 - x2_7.toInt).toNat < n → lv_has l_7 3 [(0, .ref a0), (1, .int x1_7), (2, .int x2_7)] → W p l e { frames := 6, cells := 0, slots := 0, locals := 129 } s m args below meth c H_7 k_7 0 0 QQ (F0 m 7 l_7 []) := by
    intro n
    induction n with
    | zero => intro x1_7 x2_7 H_7 k_7 l_7 S_7 z1 z2 z3 z4 z5 z6 z7 hm hl_7; exact absurd hm (Nat.not_lt_zero _)
    | succ n ih =>
      intro x1_7 x2_7 H_7 k_7 l_7 S_7 z1 z2 z3 z4 z5 z6 z7 hm hl_7
      have ih_7 := ih
      refine lv_iload_n hx hb dX5_nameHere_7 rfl (lv_at hl_7 2 rfl) ?_
      refine va_getsN hx hb SZ.2.1.1 S_7.1.2.2 Z.1.2.2.2.1 (va_Nw.use rfl SZ.2.2.2.2.2.2.2.1) (fun _ h => h) dX5_nameHere_8 ?_
      obtain ⟨v8, ev8, tv8⟩ : ∃ v : Int32, Int32.ofNat 8 = v ∧ v.toInt = 8 := ⟨_, rfl, by decide +kernel⟩
      refine va_tlen hx hb SZ.2.1.2 S_7.1.2.2 ev8 dX5_nameHere_11 ?_
      refine lv_icmp_ge (tgt := 43) hx hb dX5_nameHere_12 (by decide) (fun c9 => ?_) (fun c9 => ?_)
      · skip
        have tc9 := nu_le c9
        refine lv_null hx hb dX5_nameHere_43 ?_
        rw [← hQ]
        exact en_q (x := none) Z (by first | exact Or.inl ⟨_, rfl⟩ | exact Or.inr ⟨_, rfl⟩) S_7 F0_ ⟨rfl, (fun _ => nmV_none (fun j hj => z7 j (by omega))), (fun _ h => nomatch h)⟩ dX5_nameHere_44
      · skip
        have tc9 := nu_nle c9
        refine lv_aload_n hx hb dX5_nameHere_15 rfl (lv_at hl_7 0 rfl) ?_
        refine va_getsN hx hb SZ.2.1.1 S_7.1.2.2 Z.1.2.2.2.1 (va_Nw.use rfl SZ.2.2.2.2.2.2.2.1) (fun _ h => h) dX5_nameHere_16 ?_
        refine lv_iload_n hx hb dX5_nameHere_19 rfl (lv_at hl_7 2 rfl) ?_
        refine vb_tq hx hb SZ.2.1.2 S_7.1.2.2 (tr_in (by omega) (by omega)) rfl dX5_nameHere_20 ?_
        refine vk_getf hx hb (SZ.2.2.1 (x2_7.toNatClampNeg) (tr_cl (n := 8) (by omega) (by omega))).2 S_7.1.2.2 Z.1.2.2.2.1 (hts _ (List.mem_of_getElem? (i := 1) rfl)) (fun _ h => h) dX5_nameHere_21 ?_
        refine lv_iload_n hx hb dX5_nameHere_24 rfl (lv_at hl_7 1 rfl) ?_
        refine tc1_vi Z.1 Z.2.2.2.1 Z.2.2.2.2.1 Z.2.2.2.2.2 SZ S_7.1 S_7.2 ha0 ta0 rfl rfl (k_X5_stands_vr l D cy S_7.2 ha0 ta0 (Nat.lt_trans (tr_cl (n := 8) (by omega) (by omega)) (by decide)) x1_7 hqt tqt (by omega)) (cwV 2 hts gX5_nameHere_X5_stands rfl rfl rfl (by decide +kernel) ⟨Nat.le_of_ble_eq_true rfl, Nat.le_of_ble_eq_true rfl⟩) rfl hl_7.1 rfl (Nat.le_of_ble_eq_true rfl) dX5_nameHere_25 ⟨Nat.zero_le _, Nat.zero_le _⟩ (fun v13 E10 H11 k12 W10 I10 G10 p10 => ?_)
        obtain ⟨q10, p10_0, p10_1, p10_2⟩ := p10
        have q10 := q10.symm
        subst q10
        have S10 : Now D TB cy (va_A (va_pl L E) sz) s L τ E H11 k12 := ⟨W10, I10⟩
        refine lv_if_eq (tgt := 37) hx hb dX5_nameHere_28 (by decide) (fun c14 => ?_) (fun c14 => ?_)
        · skip
          have tc14 := nu_eq c14
          have uc14 : (0 : Int32).toInt = 0 := rfl
          obtain ⟨v15, ev15⟩ : ∃ y : Int32, x2_7 + Int32.ofInt (1) = y := ⟨_, rfl⟩
          have tv15 : v15.toInt = x2_7.toInt + (1) := by rw [← ev15]; exact (fb_addI (by rw [show (Int32.ofInt (1)).toInt = 1 from by decide +kernel]; omega) (by rw [show (Int32.ofInt (1)).toInt = 1 from by decide +kernel]; omega)).trans (by rw [show (Int32.ofInt (1)).toInt = 1 from by decide +kernel])
          refine lv_iinc (v := v15) (lv' := [(2, .int v15), (0, .ref a0), (1, .int x1_7)]) hx hb dX5_nameHere_37 hl_7 (k := 2) rfl ev15 (by decide) rfl (fun l16 hl17 => ?_)
          refine lv_goto (tgt := 7) hx hb dX5_nameHere_40 (by decide) ?_
          exact ih_7 x1_7 v15 H11 k12 l16 S10 (by omega) (by omega) (by omega) (by omega) (by omega) (by omega) (ne_step z7 (by omega) (by omega) (by rcases p10_0 with q | q; omega; exact q.2)) (by omega) (lv_sub hl17 [1, 2, 0] rfl)
        · skip
          have tc14 := nu_ne c14
          have uc14 : (0 : Int32).toInt = 0 := rfl
          refine va_getsN hx hb SZ.2.1.1 S10.1.2.2 Z.1.2.2.2.1 (va_Nw.use rfl SZ.2.2.2.2.2.2.2.1) (fun _ h => h) dX5_nameHere_31 ?_
          refine lv_iload_n hx hb dX5_nameHere_34 rfl (lv_at hl_7 2 rfl) ?_
          refine vb_tq hx hb SZ.2.1.2 S10.1.2.2 (tr_in (by omega) (by omega)) rfl dX5_nameHere_35 ?_
          rw [← hQ]
          exact en_q (x := some (G.2.2.1 x2_7.toNatClampNeg)) Z (by first | exact Or.inl ⟨_, rfl⟩ | exact Or.inr ⟨_, rfl⟩) S10 F0_ ⟨rfl, (fun h => nomatch h), (fun y h => by cases h; exact ⟨_, (tr_cl (n := 8) (by omega) (by omega)), rfl, by omega, (by rcases p10_0 with q | q; exact ⟨nmV_hit (tr_cl (n := 8) (by omega) (by omega)) z7 q.2.1, by have w := q.2.2; omega⟩; omega)⟩)⟩ dX5_nameHere_36
  refine lv_aload_n hx hb dX5_nameHere_0 rfl (lv_at hl 0 rfl) ?_
  refine tc_vi Z.1 Z.2.2.2.1 Z.2.2.2.2.1 Z.2.2.2.2.2 S0.1 S0.2 ha0 ta0 rfl rfl (k_X5_letters_vr l D cy S0.2 ha0 ta0 hqt tqt) (cwV 0 hts gX5_nameHere_X5_letters rfl rfl rfl (by decide +kernel) ⟨Nat.le_of_ble_eq_true rfl, Nat.le_of_ble_eq_true rfl⟩) rfl hl.1 rfl (Nat.le_of_ble_eq_true rfl) dX5_nameHere_1 ⟨Nat.zero_le _, Nat.zero_le _⟩ (fun v21 E18 H19 k20 W18 I18 G18 p18 => ?_)
  obtain ⟨q18, p18_0, p18_1, p18_2, p18_3⟩ := p18
  have q18 := q18.symm
  subst q18
  have S18 : Now D TB cy (va_A (va_pl L E) sz) s L τ E H19 k20 := ⟨W18, I18⟩
  refine lv_istore_n (lv' := [(1, .int v21), (0, .ref a0)]) hx hb dX5_nameHere_4 rfl hl (by decide) rfl (fun l22 hl23 => ?_)
  obtain ⟨v24, ev24, tv24⟩ : ∃ v : Int32, Int32.ofInt (0) = v ∧ v.toInt = 0 := ⟨_, rfl, by decide +kernel⟩
  refine lv_iconst hx hb dX5_nameHere_5 ev24 ?_
  refine lv_istore_n (lv' := [(2, .int v24), (1, .int v21), (0, .ref a0)]) hx hb dX5_nameHere_6 rfl hl23 (by decide) rfl (fun l25 hl26 => ?_)
  exact J7 _ v21 v24 H19 k20 l25 S18 (by omega) (by omega) (by omega) (by omega) (by omega) (by omega) (fun j hj => absurd hj (by omega)) (Nat.lt_succ_self _) (lv_sub hl26 [2, 1, 0] rfl)

set_option maxHeartbeats 4000000 in
set_option maxRecDepth 100000 in
theorem k_X5_readTimes_vr (l : Launch) (D : va_G) (cy : Nat → ClassId) {L : List Nat} {τ : Nat → Ro} {E : Ec} (hI : Inv TB cy L τ E) {a0 : Nat} (ha0 : a0 ∈ L) (ta0 : τ a0 = (7, 0)) {qt : Nat} (hqt : qt ∈ L) (tqt : τ qt = (32, 0)) : CtI l yX5_readTimes wsX5_readTimes { frames := 1, cells := 0, slots := 0, locals := 20 } D TB cy L τ E [.ref a0] (inW [(7, 0)]) (fun r E' => ((r.toInt = 1 ∧ pkI (tx E qt a0 2) (fi E a0 2).toInt.toNat (skI (tx E qt a0 2) (fi E a0 2).toInt.toNat (fi E a0 3).toInt.toNat) = 42 ∧ (fi E' a0 3).toInt = ((skI (tx E qt a0 2) (fi E a0 2).toInt.toNat (skI (tx E qt a0 2) (fi E a0 2).toInt.toNat (fi E a0 3).toInt.toNat + 1) : Nat) : Int)) ∨ (r.toInt = 0 ∧ pkI (tx E qt a0 2) (fi E a0 2).toInt.toNat (skI (tx E qt a0 2) (fi E a0 2).toInt.toNat (fi E a0 3).toInt.toNat) ≠ 42 ∧ (fi E' a0 3).toInt = ((skI (tx E qt a0 2) (fi E a0 2).toInt.toNat (fi E a0 3).toInt.toNat : Nat) : Int))) ∧ 0 ≤ r.toInt ∧ r.toInt ≤ 1 ∧ (∀ k : Nat, k ∉ ([3] : List Nat) → fi E' a0 k = fi E a0 k)) := by
  intro sz
  refine sta (cc := cX5_readTimes) (maxL := 1) hI (by decide) rfl (Nat.le_of_ble_eq_true rfl) (fun p e s m args below meth c ls hsz Z S0 hl => ?_)
  have hx := Z.1.1
  have hb := Z.1.2.1
  have hts := Z.1.2.2.2.2
  have F0_ : Fr L τ (inW [(7, 0)]) E E := Fr.refl
  have hl : lv_has ls 1 [(0, .ref a0)] := hl
  generalize hQ : MQ below _ args s 0 0 _ = QQ
  have kz_a0_3 := fi_rng (k := 3) hI ha0 ta0 rfl rfl
  have kz_a0_2 := fi_rng (k := 2) hI ha0 ta0 rfl rfl
  have hTr : ∀ p : Nat, -128 ≤ (tx E qt a0 2) p ∧ (tx E qt a0 2) p ≤ 127 := tx_rng hI hqt tqt rfl (by omega)
  refine lv_aload_n hx hb dX5_readTimes_0 rfl (lv_at hl 0 rfl) ?_
  have fe_1a : fi E a0 2 = fi E a0 2 := rfl
  have tq_1a : (tx E qt a0 2) = (tx E qt a0 2) := rfl
  have pz_1a : (fi E a0 3).toInt = (((fi E a0 3).toInt.toNat : Nat) : Int) := by omega
  have po_1a : (fi E a0 3).toInt = (((fi E a0 3).toInt.toNat : Nat) : Int) := pz_1a
  refine tc_vv Z.1 Z.2.2.2.1 Z.2.2.2.2.1 Z.2.2.2.2.2 S0.1 S0.2 ha0 ta0 rfl rfl (k_X5_skipBlanks_vr l D cy S0.2 ha0 ta0 hqt tqt) (cwV 0 hts gX5_readTimes_X5_skipBlanks rfl rfl rfl (by decide +kernel) ⟨Nat.le_of_ble_eq_true rfl, Nat.le_of_ble_eq_true rfl⟩) rfl hl.1 rfl (Nat.le_of_ble_eq_true rfl) dX5_readTimes_1 ⟨Nat.zero_le _, Nat.zero_le _⟩ (fun E1 H2 k3 W1 I1 G1 p1 => ?_)
  obtain ⟨p1_0, p1_1⟩ := p1
  have S1 : Now D TB cy (va_A (va_pl L E) sz) s L τ E1 H2 k3 := ⟨W1, I1⟩
  have F1 : Fr L τ (inW [(7, 0)]) E E1 := F0_.trans (G1.mono (inW_mono (by decide)))
  have po_1 : (fi E1 a0 3).toInt = (((skI (tx E qt a0 2) (fi E a0 2).toInt.toNat (fi E a0 3).toInt.toNat) : Nat) : Int) := by have q := p1_0; skip; exact q
  have kp_1 := fi_rng (k := 3) S1.2 ha0 ta0 rfl rfl
  refine lv_aload_n hx hb dX5_readTimes_4 rfl (lv_at hl 0 rfl) ?_
  have fe_5a : fi E1 a0 2 = fi E a0 2 := (p1_1 2 (by decide))
  have tq_5a : tx E1 qt a0 2 = (tx E qt a0 2) := tx_same (F1 qt hqt (by rw [tqt]; rfl)) fe_5a
  have po_5a : (fi E1 a0 3).toInt = (((skI (tx E qt a0 2) (fi E a0 2).toInt.toNat (fi E a0 3).toInt.toNat) : Nat) : Int) := po_1
  refine tc_vi Z.1 Z.2.2.2.1 Z.2.2.2.2.1 Z.2.2.2.2.2 S1.1 S1.2 ha0 ta0 rfl rfl (k_X5_peek_vr l D cy S1.2 ha0 ta0 hqt tqt) (cwV 0 hts gX5_readTimes_X5_peek rfl rfl rfl (by decide +kernel) ⟨Nat.le_of_ble_eq_true rfl, Nat.le_of_ble_eq_true rfl⟩) rfl hl.1 rfl (Nat.le_of_ble_eq_true rfl) dX5_readTimes_5 ⟨Nat.zero_le _, Nat.zero_le _⟩ (fun v8 E5 H6 k7 W5 I5 G5 p5 => ?_)
  obtain ⟨q5, p5_0, p5_1, p5_2, p5_3⟩ := p5
  have q5 := q5.symm
  subst q5
  have S5 : Now D TB cy (va_A (va_pl L E) sz) s L τ E1 H6 k7 := ⟨W5, I5⟩
  have pk_5 : v8.toInt = pkI (tx E qt a0 2) (fi E a0 2).toInt.toNat (skI (tx E qt a0 2) (fi E a0 2).toInt.toNat (fi E a0 3).toInt.toNat) := by have q := p5_1; rw [tq_5a, fe_5a, show (fi E1 a0 3).toInt.toNat = (skI (tx E qt a0 2) (fi E a0 2).toInt.toNat (fi E a0 3).toInt.toNat) from by omega] at q; exact q
  obtain ⟨v9, ev9, tv9⟩ : ∃ v : Int32, (Int8.ofInt (42)).toInt32 = v ∧ v.toInt = 42 := ⟨_, rfl, by decide +kernel⟩
  refine lv_bipush hx hb dX5_readTimes_8 ev9 ?_
  refine lv_icmp_eq (tgt := 15) hx hb dX5_readTimes_10 (by decide) (fun c10 => ?_) (fun c10 => ?_)
  · skip
    have tc10 := nu_eq c10
    refine lv_aload_n hx hb dX5_readTimes_15 rfl (lv_at hl 0 rfl) ?_
    refine lv_dup hx hb dX5_readTimes_16 rfl ?_
    refine tr_geti Z.1 Z.2.2.2.1 S5.1 S5.2 ha0 ta0 rfl rfl (fun _ h => List.mem_cons_of_mem _ (List.mem_append_right _ h)) 3 (by decide) rfl (hts _ (List.mem_of_getElem? (i := 1) rfl)) dX5_readTimes_17 (fun v11 ev11 lv11 uv11 => ?_)
    have wv11 : v11 = (fi E1 a0 3) := ev11.symm.trans rfl
    have xv11 : v11.toInt = (fi E1 a0 3).toInt := by rw [wv11]
    obtain ⟨v12, ev12, tv12⟩ : ∃ v : Int32, Int32.ofInt (1) = v ∧ v.toInt = 1 := ⟨_, rfl, by decide +kernel⟩
    refine lv_iconst hx hb dX5_readTimes_20 ev12 ?_
    refine lv_iadd hx hb dX5_readTimes_21 ?_
    refine lv_topi (fun v13 ev13 => ?_)
    have tv13 := nu_add ev13 (by omega) (by omega)
    refine tr_puti Z.1 Z.2.2.2.1 S5.1 S5.2 ha0 ta0 rfl rfl (fun _ h => List.mem_cons_of_mem _ (List.mem_append_right _ h)) tyX5_ok nmX5 3 (by decide) rfl rfl rfl (hts _ (List.mem_of_getElem? (i := 1) rfl)) dX5_readTimes_22 (by omega) (by omega) (fun E14 H15 k16 W14 I14 P14 => ?_)
    have S14 : Now D TB cy (va_A (va_pl L E) sz) s L τ E14 H15 k16 := ⟨W14, I14⟩
    have F14 : Fr L τ (inW [(7, 0)]) E E14 := Fr.put F1 P14 ta0 rfl
    have po_22 : (fi E14 a0 3).toInt = ((((skI (tx E qt a0 2) (fi E a0 2).toInt.toNat (fi E a0 3).toInt.toNat) + 1) : Nat) : Int) := by have q : (fi E1 a0 3).toInt = (((skI (tx E qt a0 2) (fi E a0 2).toInt.toNat (fi E a0 3).toInt.toNat) : Nat) : Int) := po_1; rw [(fi_at P14)]; omega
    refine lv_aload_n hx hb dX5_readTimes_25 rfl (lv_at hl 0 rfl) ?_
    have fe_26a : fi E14 a0 2 = fi E a0 2 := ((fi_put (k := 2) P14 (Or.inr (by decide))).trans (p1_1 2 (by decide)))
    have tq_26a : tx E14 qt a0 2 = (tx E qt a0 2) := tx_same (F14 qt hqt (by rw [tqt]; rfl)) fe_26a
    have po_26a : (fi E14 a0 3).toInt = ((((skI (tx E qt a0 2) (fi E a0 2).toInt.toNat (fi E a0 3).toInt.toNat) + 1) : Nat) : Int) := po_22
    refine tc_vv Z.1 Z.2.2.2.1 Z.2.2.2.2.1 Z.2.2.2.2.2 S14.1 S14.2 ha0 ta0 rfl rfl (k_X5_skipBlanks_vr l D cy S14.2 ha0 ta0 hqt tqt) (cwV 0 hts gX5_readTimes_X5_skipBlanks rfl rfl rfl (by decide +kernel) ⟨Nat.le_of_ble_eq_true rfl, Nat.le_of_ble_eq_true rfl⟩) rfl hl.1 rfl (Nat.le_of_ble_eq_true rfl) dX5_readTimes_26 ⟨Nat.zero_le _, Nat.zero_le _⟩ (fun E17 H18 k19 W17 I17 G17 p17 => ?_)
    obtain ⟨p17_0, p17_1⟩ := p17
    have S17 : Now D TB cy (va_A (va_pl L E) sz) s L τ E17 H18 k19 := ⟨W17, I17⟩
    have F17 : Fr L τ (inW [(7, 0)]) E E17 := F14.trans (G17.mono (inW_mono (by decide)))
    have po_26 : (fi E17 a0 3).toInt = (((skI (tx E qt a0 2) (fi E a0 2).toInt.toNat ((skI (tx E qt a0 2) (fi E a0 2).toInt.toNat (fi E a0 3).toInt.toNat) + 1)) : Nat) : Int) := by have q := p17_0; rw [tq_26a, fe_26a, show (fi E14 a0 3).toInt.toNat = ((skI (tx E qt a0 2) (fi E a0 2).toInt.toNat (fi E a0 3).toInt.toNat) + 1) from by omega] at q; exact q
    have kp_26 := fi_rng (k := 3) S17.2 ha0 ta0 rfl rfl
    obtain ⟨v21, ev21, tv21⟩ : ∃ v : Int32, Int32.ofInt (1) = v ∧ v.toInt = 1 := ⟨_, rfl, by decide +kernel⟩
    refine lv_iconst hx hb dX5_readTimes_29 ev21 ?_
    rw [← hQ]
    exact en_z Z S17 F17 (zo v21 (by omega)) ⟨(Or.inl ⟨by omega, by rw [← pk_5]; omega, po_26⟩), (by omega), (by omega), (fun k hk => ((p17_1 k (fw_sub (by decide) hk)).trans ((fi_put P14 (Or.inr (fw_ne (by decide) hk))).trans ((p1_1 k (fw_sub (by decide) hk)).trans ((fun k hk => rfl) k hk)))))⟩ dX5_readTimes_30
  · skip
    have tc10 := nu_ne c10
    obtain ⟨v22, ev22, tv22⟩ : ∃ v : Int32, Int32.ofInt (0) = v ∧ v.toInt = 0 := ⟨_, rfl, by decide +kernel⟩
    refine lv_iconst hx hb dX5_readTimes_13 ev22 ?_
    rw [← hQ]
    exact en_z Z S5 F1 (zo v22 (by omega)) ⟨(Or.inr ⟨by omega, by rw [← pk_5]; omega, po_1⟩), (by omega), (by omega), (fun k hk => ((p1_1 k (fw_sub (by decide) hk)).trans ((fun k hk => rfl) k hk)))⟩ dX5_readTimes_14

set_option maxHeartbeats 4000000 in
set_option maxRecDepth 100000 in
theorem k_X5_keepPart_vrN (l : Launch) (D : va_G) (cy : Nat → ClassId) {L : List Nat} {τ : Nat → Ro} {E : Ec} (hI : Inv TB cy L τ E) {G : Sg} {a0 : Nat} (ha0 : a0 ∈ L) (ta0 : τ a0 = (7, 0)) (a1 : Int32) {i2 : Nat} (hi2 : i2 < 8) {qe : Nat} (hqe : qe ∈ L) (tqe : τ qe = (33, 0)) {qs : Nat} (hqs : qs ∈ L) (tqs : τ qs = (36, 0)) {qt : Nat} (hqt : qt ∈ L) (tqt : τ qt = (32, 0)) (hp : (fi E a0 9).toInt ≤ 63) (hl : (fi E a0 3).toInt + ((lenS.getD i2 0 : Nat) : Int) ≤ 120) (hx : (fi E a0 3).toInt + ((lenS.getD i2 0 : Nat) : Int) = ((ltI (tx E qt a0 2) (fi E a0 2).toInt.toNat (fi E a0 3).toInt.toNat : Nat) : Int)) (hR : RdW E a0 qe qs) : CtV1 G l yX5_keepPart wsX5_keepPart { frames := 2, cells := 0, slots := 0, locals := 40 } D TB cy L τ E [.ref a0, .int a1, .ref (G.2.2.1 i2)] (inW [(7, 0), (34, 0), (35, 0), (36, 0)]) (fun E' => ((fi E' a0 3).toInt = ((nameE (tx E qt a0 2) (fi E a0 2).toInt.toNat (fi E a0 3).toInt.toNat : Nat) : Int)) ∧ ((fi E' a0 9).toInt = (fi E a0 9).toInt + 1) ∧ (∀ k : Nat, k ∉ ([3, 7, 9] : List Nat) → fi E' a0 k = fi E a0 k) ∧ RdW E' a0 qe qs) := by
  intro sz
  refine sta1 (cc := cX5_keepPart) (maxL := 3) hI (by decide) rfl (Nat.le_of_ble_eq_true rfl) (fun p e s m args below meth c ls hsz Z SZ S0 hl => ?_)
  have hx := Z.1.1
  have hb := Z.1.2.1
  have hts := Z.1.2.2.2.2
  have F0_ : Fr L τ (inW [(7, 0), (34, 0), (35, 0), (36, 0)]) E E := Fr.refl
  have hl : lv_has ls 3 [(0, .ref a0), (1, .int a1), (2, .ref (G.2.2.1 i2))] := hl
  generalize hQ : MQ below _ args s 0 0 _ = QQ
  have kz_a0_9 := fi_rng (k := 9) hI ha0 ta0 rfl rfl
  have kz_a0_7 := fi_rng (k := 7) hI ha0 ta0 rfl rfl
  have kz_a0_3 := fi_rng (k := 3) hI ha0 ta0 rfl rfl
  have kz_a0_2 := fi_rng (k := 2) hI ha0 ta0 rfl rfl
  refine lv_aload_n hx hb dX5_keepPart_0 rfl (lv_at hl 0 rfl) ?_
  refine tr_getr Z.1 Z.2.2.2.1 S0.1 S0.2 ha0 ta0 rfl rfl (fun _ h => List.mem_cons_of_mem _ (List.mem_append_right _ h)) 11 (by decide) rfl (hts _ (List.mem_of_getElem? (i := 1) rfl)) dX5_keepPart_1 (fun q1 eq1 hq1 tq1 => ?_)
  have tq1 : τ q1 = (34, 0) := tq1
  refine lv_aload_n hx hb dX5_keepPart_4 rfl (lv_at hl 0 rfl) ?_
  refine tr_geti Z.1 Z.2.2.2.1 S0.1 S0.2 ha0 ta0 rfl rfl (fun _ h => List.mem_cons_of_mem _ (List.mem_append_right _ h)) 9 (by decide) rfl (hts _ (List.mem_of_getElem? (i := 2) rfl)) dX5_keepPart_5 (fun v2 ev2 lv2 uv2 => ?_)
  have wv2 : v2 = (fi E a0 9) := ev2.symm.trans rfl
  have xv2 : v2.toInt = (fi E a0 9).toInt := by rw [wv2]
  refine lv_iload_n hx hb dX5_keepPart_8 rfl (lv_at hl 1 rfl) ?_
  refine tr_iast Z.1 Z.2.2.2.1 S0.1 S0.2 hq1 tq1 rfl (by omega) (by omega) (by have := fb_rng a1; omega) (by have := fb_rng a1; omega) dX5_keepPart_9 (fun E3 H4 k5 W3 I3 P3 => ?_)
  have S3 : Now D TB cy (va_A (va_pl L E) sz) s L τ E3 H4 k5 := ⟨W3, I3⟩
  have F3 : Fr L τ (inW [(7, 0), (34, 0), (35, 0), (36, 0)]) E E3 := Fr.set F0_ P3 tq1 rfl
  refine lv_aload_n hx hb dX5_keepPart_10 rfl (lv_at hl 0 rfl) ?_
  refine tr_getr Z.1 Z.2.2.2.1 S3.1 S3.2 ha0 ta0 rfl rfl (fun _ h => List.mem_cons_of_mem _ (List.mem_append_right _ h)) 12 (by decide) rfl (hts _ (List.mem_of_getElem? (i := 3) rfl)) dX5_keepPart_11 (fun q6 eq6 hq6 tq6 => ?_)
  have tq6 : τ q6 = (35, 0) := tq6
  refine lv_aload_n hx hb dX5_keepPart_14 rfl (lv_at hl 0 rfl) ?_
  refine tr_geti Z.1 Z.2.2.2.1 S3.1 S3.2 ha0 ta0 rfl rfl (fun _ h => List.mem_cons_of_mem _ (List.mem_append_right _ h)) 9 (by decide) rfl (hts _ (List.mem_of_getElem? (i := 2) rfl)) dX5_keepPart_15 (fun v7 ev7 lv7 uv7 => ?_)
  have wv7 : v7 = v2 := ev7.symm.trans ((fi_set (k := 9) P3 (ne_ro ta0 tq1 (by decide))).trans ev2)
  have xv7 : v7.toInt = v2.toInt := by rw [wv7]
  obtain ⟨v8, ev8, tv8⟩ : ∃ v : Int32, (Int8.ofInt (12)).toInt32 = v ∧ v.toInt = 12 := ⟨_, rfl, by decide +kernel⟩
  refine lv_bipush hx hb dX5_keepPart_18 ev8 ?_
  refine tr_iast Z.1 Z.2.2.2.1 S3.1 S3.2 hq6 tq6 rfl (by omega) (by omega) (by omega) (by omega) dX5_keepPart_20 (fun E9 H10 k11 W9 I9 P9 => ?_)
  have S9 : Now D TB cy (va_A (va_pl L E) sz) s L τ E9 H10 k11 := ⟨W9, I9⟩
  have F9 : Fr L τ (inW [(7, 0), (34, 0), (35, 0), (36, 0)]) E E9 := Fr.set F3 P9 tq6 rfl
  refine lv_aload_n hx hb dX5_keepPart_21 rfl (lv_at hl 0 rfl) ?_
  refine tr_getr Z.1 Z.2.2.2.1 S9.1 S9.2 ha0 ta0 rfl rfl (fun _ h => List.mem_cons_of_mem _ (List.mem_append_right _ h)) 13 (by decide) rfl (hts _ (List.mem_of_getElem? (i := 4) rfl)) dX5_keepPart_22 (fun q12 eq12 hq12 tq12 => ?_)
  have tq12 : τ q12 = (36, 0) := tq12
  have uq12 : qs = q12 := S9.2.2.2.2 _ hqs _ hq12 (tqs.trans tq12.symm) (by rw [tqs]; rfl)
  subst uq12
  refine lv_aload_n hx hb dX5_keepPart_25 rfl (lv_at hl 0 rfl) ?_
  refine tr_geti Z.1 Z.2.2.2.1 S9.1 S9.2 ha0 ta0 rfl rfl (fun _ h => List.mem_cons_of_mem _ (List.mem_append_right _ h)) 9 (by decide) rfl (hts _ (List.mem_of_getElem? (i := 2) rfl)) dX5_keepPart_26 (fun v13 ev13 lv13 uv13 => ?_)
  have wv13 : v13 = v7 := ev13.symm.trans ((fi_set (k := 9) P9 (ne_ro ta0 tq6 (by decide))).trans ev7)
  have xv13 : v13.toInt = v7.toInt := by rw [wv13]
  obtain ⟨v14, ev14, tv14⟩ : ∃ v : Int32, Int32.ofInt (0) = v ∧ v.toInt = 0 := ⟨_, rfl, by decide +kernel⟩
  refine lv_iconst hx hb dX5_keepPart_29 ev14 ?_
  refine tr_iast Z.1 Z.2.2.2.1 S9.1 S9.2 hqs tqs rfl (by omega) (by omega) (by omega) (by omega) dX5_keepPart_30 (fun E15 H16 k17 W15 I15 P15 => ?_)
  have S15 : Now D TB cy (va_A (va_pl L E) sz) s L τ E15 H16 k17 := ⟨W15, I15⟩
  have F15 : Fr L τ (inW [(7, 0), (34, 0), (35, 0), (36, 0)]) E E15 := Fr.set F9 P15 tqs rfl
  refine lv_aload_n hx hb dX5_keepPart_31 rfl (lv_at hl 2 rfl) ?_
  refine lv_ifnull hx hb dX5_keepPart_32 ?_
  refine lv_aload_n hx hb dX5_keepPart_35 rfl (lv_at hl 0 rfl) ?_
  refine lv_dup hx hb dX5_keepPart_36 rfl ?_
  refine tr_geti Z.1 Z.2.2.2.1 S15.1 S15.2 ha0 ta0 rfl rfl (fun _ h => List.mem_cons_of_mem _ (List.mem_append_right _ h)) 3 (by decide) rfl (hts _ (List.mem_of_getElem? (i := 5) rfl)) dX5_keepPart_37 (fun v18 ev18 lv18 uv18 => ?_)
  have wv18 : v18 = (fi E a0 3) := ev18.symm.trans ((fi_set (k := 3) P15 (ne_ro ta0 tqs (by decide))).trans ((fi_set (k := 3) P9 (ne_ro ta0 tq6 (by decide))).trans ((fi_set (k := 3) P3 (ne_ro ta0 tq1 (by decide))).trans rfl)))
  have xv18 : v18.toInt = (fi E a0 3).toInt := by rw [wv18]
  refine lv_aload_n hx hb dX5_keepPart_40 rfl (lv_at hl 2 rfl) ?_
  refine vk_getf hx hb (SZ.2.2.1 (i2) hi2).2 S15.1.2.2 Z.1.2.2.2.1 (hts _ (List.mem_of_getElem? (i := 6) rfl)) (fun _ h => h) dX5_keepPart_41 ?_
  refine tcS_vi Z.1 Z.2.2.2.1 Z.2.2.2.2.1 Z.2.2.2.2.2 SZ S15.1 (Nat.lt_trans hi2 (by decide)) (k_J0_length_8abf5 l D cy S15.2 (Nat.lt_trans hi2 (by decide))) (cwV 0 hts gX5_keepPart_J0_length_8abf5 rfl rfl rfl (by decide +kernel) ⟨Nat.le_of_ble_eq_true rfl, Nat.le_of_ble_eq_true rfl⟩) rfl hl.1 rfl (Nat.le_of_ble_eq_true rfl) dX5_keepPart_44 ⟨Nat.zero_le _, Nat.zero_le _⟩ (fun v22 E19 H20 k21 W19 I19 G19 p19 => ?_)
  obtain ⟨q19, p19_0, p19_1, p19_2⟩ := p19
  have q19 := q19.symm
  subst q19
  have S19 : Now D TB cy (va_A (va_pl L E) sz) s L τ E15 H20 k21 := ⟨W19, I19⟩
  refine lv_iadd hx hb dX5_keepPart_47 ?_
  refine lv_topi (fun v23 ev23 => ?_)
  have tv23 := nu_add ev23 (by omega) (by omega)
  refine tr_puti Z.1 Z.2.2.2.1 S19.1 S19.2 ha0 ta0 rfl rfl (fun _ h => List.mem_cons_of_mem _ (List.mem_append_right _ h)) tyX5_ok nmX5 3 (by decide) rfl rfl rfl (hts _ (List.mem_of_getElem? (i := 5) rfl)) dX5_keepPart_48 (by omega) (by omega) (fun E24 H25 k26 W24 I24 P24 => ?_)
  have S24 : Now D TB cy (va_A (va_pl L E) sz) s L τ E24 H25 k26 := ⟨W24, I24⟩
  have F24 : Fr L τ (inW [(7, 0), (34, 0), (35, 0), (36, 0)]) E E24 := Fr.put F15 P24 ta0 rfl
  have po_48 : (fi E24 a0 3).toInt = (((ltI (tx E qt a0 2) (fi E a0 2).toInt.toNat (fi E a0 3).toInt.toNat) : Nat) : Int) := by rw [(fi_at P24)]; omega
  refine lv_aload_n hx hb dX5_keepPart_51 rfl (lv_at hl 0 rfl) ?_
  refine tr_getr Z.1 Z.2.2.2.1 S24.1 S24.2 ha0 ta0 rfl rfl (fun _ h => List.mem_cons_of_mem _ (List.mem_append_right _ h)) 12 (by decide) rfl (hts _ (List.mem_of_getElem? (i := 3) rfl)) dX5_keepPart_52 (fun q27 eq27 hq27 tq27 => ?_)
  have tq27 : τ q27 = (35, 0) := tq27
  have uq27 : q6 = q27 := S24.2.2.2.2 _ hq6 _ hq27 (tq6.trans tq27.symm) (by rw [tq6]; rfl)
  subst uq27
  refine lv_aload_n hx hb dX5_keepPart_55 rfl (lv_at hl 0 rfl) ?_
  refine tr_geti Z.1 Z.2.2.2.1 S24.1 S24.2 ha0 ta0 rfl rfl (fun _ h => List.mem_cons_of_mem _ (List.mem_append_right _ h)) 9 (by decide) rfl (hts _ (List.mem_of_getElem? (i := 2) rfl)) dX5_keepPart_56 (fun v28 ev28 lv28 uv28 => ?_)
  have wv28 : v28 = v13 := ev28.symm.trans ((fi_put (k := 9) P24 (Or.inr (by decide))).trans ((fi_set (k := 9) P15 (ne_ro ta0 tqs (by decide))).trans ev13))
  have xv28 : v28.toInt = v13.toInt := by rw [wv28]
  refine lv_aload_n hx hb dX5_keepPart_59 rfl (lv_at hl 2 rfl) ?_
  refine vk_getf hx hb (SZ.2.2.1 (i2) hi2).1 S24.1.2.2 Z.1.2.2.2.1 (hts _ (List.mem_of_getElem? (i := 7) rfl)) (fun _ h => h) dX5_keepPart_60 ?_
  refine lv_topi (fun v29 ev29 => ?_)
  have tv29 := (show 0 ≤ v29.toInt ∧ v29.toInt ≤ 12 by rw [ev29]; exact rowS_rng hi2)
  refine tr_iast Z.1 Z.2.2.2.1 S24.1 S24.2 hq6 tq6 rfl (by omega) (by omega) (by omega) (by omega) dX5_keepPart_63 (fun E30 H31 k32 W30 I30 P30 => ?_)
  have S30 : Now D TB cy (va_A (va_pl L E) sz) s L τ E30 H31 k32 := ⟨W30, I30⟩
  have F30 : Fr L τ (inW [(7, 0), (34, 0), (35, 0), (36, 0)]) E E30 := Fr.set F24 P30 tq6 rfl
  refine lv_aload_n hx hb dX5_keepPart_64 rfl (lv_at hl 0 rfl) ?_
  have fe_65a : fi E30 a0 2 = fi E a0 2 := ((fi_set (k := 2) P30 (ne_ro ta0 tq6 (by decide))).trans ((fi_put (k := 2) P24 (Or.inr (by decide))).trans ((fi_set (k := 2) P15 (ne_ro ta0 tqs (by decide))).trans ((fi_set (k := 2) P9 (ne_ro ta0 tq6 (by decide))).trans (fi_set (k := 2) P3 (ne_ro ta0 tq1 (by decide)))))))
  have tq_65a : tx E30 qt a0 2 = (tx E qt a0 2) := tx_same (F30 qt hqt (by rw [tqt]; rfl)) fe_65a
  have po_65a : (fi E30 a0 3).toInt = (((ltI (tx E qt a0 2) (fi E a0 2).toInt.toNat (fi E a0 3).toInt.toNat) : Nat) : Int) := by rw [(fi_set (k := 3) P30 (ne_ro ta0 tq6 (by decide)))]; exact po_48
  refine tc_vv Z.1 Z.2.2.2.1 Z.2.2.2.2.1 Z.2.2.2.2.2 S30.1 S30.2 ha0 ta0 rfl rfl (k_X5_skipBlanks_vr l D cy S30.2 ha0 ta0 hqt tqt) (cwV 0 hts gX5_keepPart_X5_skipBlanks rfl rfl rfl (by decide +kernel) ⟨Nat.le_of_ble_eq_true rfl, Nat.le_of_ble_eq_true rfl⟩) rfl hl.1 rfl (Nat.le_of_ble_eq_true rfl) dX5_keepPart_65 ⟨Nat.zero_le _, Nat.zero_le _⟩ (fun E33 H34 k35 W33 I33 G33 p33 => ?_)
  obtain ⟨p33_0, p33_1⟩ := p33
  have S33 : Now D TB cy (va_A (va_pl L E) sz) s L τ E33 H34 k35 := ⟨W33, I33⟩
  have F33 : Fr L τ (inW [(7, 0), (34, 0), (35, 0), (36, 0)]) E E33 := F30.trans (G33.mono (inW_mono (by decide)))
  have po_65 : (fi E33 a0 3).toInt = (((skI (tx E qt a0 2) (fi E a0 2).toInt.toNat (ltI (tx E qt a0 2) (fi E a0 2).toInt.toNat (fi E a0 3).toInt.toNat)) : Nat) : Int) := by have q := p33_0; rw [tq_65a, fe_65a, show (fi E30 a0 3).toInt.toNat = (ltI (tx E qt a0 2) (fi E a0 2).toInt.toNat (fi E a0 3).toInt.toNat) from by omega] at q; exact q
  have kp_65 := fi_rng (k := 3) S33.2 ha0 ta0 rfl rfl
  refine lv_aload_n hx hb dX5_keepPart_68 rfl (lv_at hl 0 rfl) ?_
  have fe_69a : fi E33 a0 2 = fi E a0 2 := ((p33_1 2 (by decide)).trans ((fi_set (k := 2) P30 (ne_ro ta0 tq6 (by decide))).trans ((fi_put (k := 2) P24 (Or.inr (by decide))).trans ((fi_set (k := 2) P15 (ne_ro ta0 tqs (by decide))).trans ((fi_set (k := 2) P9 (ne_ro ta0 tq6 (by decide))).trans (fi_set (k := 2) P3 (ne_ro ta0 tq1 (by decide))))))))
  have tq_69a : tx E33 qt a0 2 = (tx E qt a0 2) := tx_same (F33 qt hqt (by rw [tqt]; rfl)) fe_69a
  have po_69a : (fi E33 a0 3).toInt = (((skI (tx E qt a0 2) (fi E a0 2).toInt.toNat (ltI (tx E qt a0 2) (fi E a0 2).toInt.toNat (fi E a0 3).toInt.toNat)) : Nat) : Int) := po_65
  refine tc_vi Z.1 Z.2.2.2.1 Z.2.2.2.2.1 Z.2.2.2.2.2 S33.1 S33.2 ha0 ta0 rfl rfl (k_X5_peek_vr l D cy S33.2 ha0 ta0 hqt tqt) (cwV 0 hts gX5_keepPart_X5_peek rfl rfl rfl (by decide +kernel) ⟨Nat.le_of_ble_eq_true rfl, Nat.le_of_ble_eq_true rfl⟩) rfl hl.1 rfl (Nat.le_of_ble_eq_true rfl) dX5_keepPart_69 ⟨Nat.zero_le _, Nat.zero_le _⟩ (fun v40 E37 H38 k39 W37 I37 G37 p37 => ?_)
  obtain ⟨q37, p37_0, p37_1, p37_2, p37_3⟩ := p37
  have q37 := q37.symm
  subst q37
  have S37 : Now D TB cy (va_A (va_pl L E) sz) s L τ E33 H38 k39 := ⟨W37, I37⟩
  have pk_69 : v40.toInt = pkI (tx E qt a0 2) (fi E a0 2).toInt.toNat (skI (tx E qt a0 2) (fi E a0 2).toInt.toNat (ltI (tx E qt a0 2) (fi E a0 2).toInt.toNat (fi E a0 3).toInt.toNat)) := by have q := p37_1; rw [tq_69a, fe_69a, show (fi E33 a0 3).toInt.toNat = (skI (tx E qt a0 2) (fi E a0 2).toInt.toNat (ltI (tx E qt a0 2) (fi E a0 2).toInt.toNat (fi E a0 3).toInt.toNat)) from by omega] at q; exact q
  obtain ⟨v41, ev41, tv41⟩ : ∃ v : Int32, (Int8.ofInt (39)).toInt32 = v ∧ v.toInt = 39 := ⟨_, rfl, by decide +kernel⟩
  refine lv_bipush hx hb dX5_keepPart_72 ev41 ?_
  refine lv_icmp_ne (tgt := 102) hx hb dX5_keepPart_74 (by decide) (fun c42 => ?_) (fun c42 => ?_)
  · skip
    have tc42 := nu_ne c42
    refine lv_aload_n hx hb dX5_keepPart_102 rfl (lv_at hl 0 rfl) ?_
    refine lv_dup hx hb dX5_keepPart_103 rfl ?_
    refine tr_geti Z.1 Z.2.2.2.1 S37.1 S37.2 ha0 ta0 rfl rfl (fun _ h => List.mem_cons_of_mem _ (List.mem_append_right _ h)) 9 (by decide) rfl (hts _ (List.mem_of_getElem? (i := 2) rfl)) dX5_keepPart_104 (fun v43 ev43 lv43 uv43 => ?_)
    have wv43 : v43 = v28 := ev43.symm.trans ((p33_1 9 (by decide)).trans ((fi_set (k := 9) P30 (ne_ro ta0 tq6 (by decide))).trans ev28))
    have xv43 : v43.toInt = v28.toInt := by rw [wv43]
    obtain ⟨v44, ev44, tv44⟩ : ∃ v : Int32, Int32.ofInt (1) = v ∧ v.toInt = 1 := ⟨_, rfl, by decide +kernel⟩
    refine lv_iconst hx hb dX5_keepPart_107 ev44 ?_
    refine lv_iadd hx hb dX5_keepPart_108 ?_
    refine lv_topi (fun v45 ev45 => ?_)
    have tv45 := nu_add ev45 (by omega) (by omega)
    refine tr_puti Z.1 Z.2.2.2.1 S37.1 S37.2 ha0 ta0 rfl rfl (fun _ h => List.mem_cons_of_mem _ (List.mem_append_right _ h)) tyX5_ok nmX5 9 (by decide) rfl rfl rfl (hts _ (List.mem_of_getElem? (i := 2) rfl)) dX5_keepPart_109 (by omega) (by omega) (fun E46 H47 k48 W46 I46 P46 => ?_)
    have S46 : Now D TB cy (va_A (va_pl L E) sz) s L τ E46 H47 k48 := ⟨W46, I46⟩
    have F46 : Fr L τ (inW [(7, 0), (34, 0), (35, 0), (36, 0)]) E E46 := Fr.put F33 P46 ta0 rfl
    rw [← hQ]
    exact en_v Z S46 F46 ⟨(by rw [nameE_p (by rw [← pk_69]; omega)]; exact (by rw [(fi_put (k := 3) P46 (Or.inr (by decide)))]; exact po_65)), (by rw [(fi_at P46)]; omega), (fun k hk => ((fi_put P46 (Or.inr (fw_ne (by decide) hk))).trans ((p33_1 k (fw_sub (by decide) hk)).trans ((fi_set P30 (ne_ro ta0 tq6 (by decide))).trans ((fi_put P24 (Or.inr (fw_ne (by decide) hk))).trans ((fi_set P15 (ne_ro ta0 tqs (by decide))).trans ((fi_set P9 (ne_ro ta0 tq6 (by decide))).trans ((fi_set P3 (ne_ro ta0 tq1 (by decide))).trans ((fun k hk => rfl) k hk))))))))), (RdW.push hR (n := v2) ev2 (by omega) (by rw [(fi_at P46)]; omega) ((fi_put (k := 8) P46 (Or.inr (by decide))).trans ((p33_1 8 (by decide)).trans ((fi_set (k := 8) P30 (ne_ro ta0 tq6 (by decide))).trans ((fi_put (k := 8) P24 (Or.inr (by decide))).trans ((fi_set (k := 8) P15 (ne_ro ta0 tqs (by decide))).trans ((fi_set (k := 8) P9 (ne_ro ta0 tq6 (by decide))).trans (fi_set (k := 8) P3 (ne_ro ta0 tq1 (by decide))))))))) ((P46.1 qe (ne_ro tqe ta0 (by decide))).trans ((G33 qe hqe (by rw [tqe]; rfl)).trans ((P30.1 qe (ne_ro tqe tq6 (by decide))).trans ((P24.1 qe (ne_ro tqe ta0 (by decide))).trans ((P15.1 qe (ne_ro tqe tqs (by decide))).trans ((P9.1 qe (ne_ro tqe tq6 (by decide))).trans (P3.1 qe (ne_ro tqe tq1 (by decide))))))))) (by rw [((fi_put (k := 7) P46 (Or.inr (by decide))).trans ((p33_1 7 (by decide)).trans ((fi_set (k := 7) P30 (ne_ro ta0 tq6 (by decide))).trans ((fi_put (k := 7) P24 (Or.inr (by decide))).trans ((fi_set (k := 7) P15 (ne_ro ta0 tqs (by decide))).trans ((fi_set (k := 7) P9 (ne_ro ta0 tq6 (by decide))).trans ((fi_set (k := 7) P3 (ne_ro ta0 tq1 (by decide))).trans rfl)))))))]; omega) (fun j hj => ((ai_put P46 (ne_ro tqs ta0 (by decide))).trans ((ai_fr G33 hqs (by rw [tqs]; rfl)).trans ((ai_set P30 (ne_ro tqs tq6 (by decide))).trans ((ai_put P24 (ne_ro tqs ta0 (by decide))).trans ((ai_setk P15 (by show j ≠ v13.toInt.toNat; omega)).trans ((ai_set P9 (ne_ro tqs tq6 (by decide))).trans (ai_set P3 (ne_ro tqs tq1 (by decide)))))))))) (by have q : ai E46 qs v13.toNatClampNeg = v14 := (((ai_put P46 (ne_ro tqs ta0 (by decide))).trans ((ai_fr G33 hqs (by rw [tqs]; rfl)).trans ((ai_set P30 (ne_ro tqs tq6 (by decide))).trans (ai_put P24 (ne_ro tqs ta0 (by decide)))))).trans P15.2.1); rw [show v2.toInt.toNat = v13.toNatClampNeg from by show _ = v13.toInt.toNat; omega, q, ((fi_put (k := 7) P46 (Or.inr (by decide))).trans ((p33_1 7 (by decide)).trans ((fi_set (k := 7) P30 (ne_ro ta0 tq6 (by decide))).trans ((fi_put (k := 7) P24 (Or.inr (by decide))).trans ((fi_set (k := 7) P15 (ne_ro ta0 tqs (by decide))).trans ((fi_set (k := 7) P9 (ne_ro ta0 tq6 (by decide))).trans ((fi_set (k := 7) P3 (ne_ro ta0 tq1 (by decide))).trans rfl)))))))]; omega))⟩ dX5_keepPart_112
  · skip
    have tc42 := nu_eq c42
    refine lv_aload_n hx hb dX5_keepPart_77 rfl (lv_at hl 0 rfl) ?_
    refine lv_dup hx hb dX5_keepPart_78 rfl ?_
    refine tr_geti Z.1 Z.2.2.2.1 S37.1 S37.2 ha0 ta0 rfl rfl (fun _ h => List.mem_cons_of_mem _ (List.mem_append_right _ h)) 3 (by decide) rfl (hts _ (List.mem_of_getElem? (i := 5) rfl)) dX5_keepPart_79 (fun v49 ev49 lv49 uv49 => ?_)
    have wv49 : v49 = (fi E33 a0 3) := ev49.symm.trans rfl
    have xv49 : v49.toInt = (fi E33 a0 3).toInt := by rw [wv49]
    obtain ⟨v50, ev50, tv50⟩ : ∃ v : Int32, Int32.ofInt (1) = v ∧ v.toInt = 1 := ⟨_, rfl, by decide +kernel⟩
    refine lv_iconst hx hb dX5_keepPart_82 ev50 ?_
    refine lv_iadd hx hb dX5_keepPart_83 ?_
    refine lv_topi (fun v51 ev51 => ?_)
    have tv51 := nu_add ev51 (by omega) (by omega)
    refine tr_puti Z.1 Z.2.2.2.1 S37.1 S37.2 ha0 ta0 rfl rfl (fun _ h => List.mem_cons_of_mem _ (List.mem_append_right _ h)) tyX5_ok nmX5 3 (by decide) rfl rfl rfl (hts _ (List.mem_of_getElem? (i := 5) rfl)) dX5_keepPart_84 (by omega) (by omega) (fun E52 H53 k54 W52 I52 P52 => ?_)
    have S52 : Now D TB cy (va_A (va_pl L E) sz) s L τ E52 H53 k54 := ⟨W52, I52⟩
    have F52 : Fr L τ (inW [(7, 0), (34, 0), (35, 0), (36, 0)]) E E52 := Fr.put F33 P52 ta0 rfl
    have po_84 : (fi E52 a0 3).toInt = ((((skI (tx E qt a0 2) (fi E a0 2).toInt.toNat (ltI (tx E qt a0 2) (fi E a0 2).toInt.toNat (fi E a0 3).toInt.toNat)) + 1) : Nat) : Int) := by have q : (fi E33 a0 3).toInt = (((skI (tx E qt a0 2) (fi E a0 2).toInt.toNat (ltI (tx E qt a0 2) (fi E a0 2).toInt.toNat (fi E a0 3).toInt.toNat)) : Nat) : Int) := po_65; rw [(fi_at P52)]; omega
    refine lv_aload_n hx hb dX5_keepPart_87 rfl (lv_at hl 0 rfl) ?_
    refine tr_getr Z.1 Z.2.2.2.1 S52.1 S52.2 ha0 ta0 rfl rfl (fun _ h => List.mem_cons_of_mem _ (List.mem_append_right _ h)) 13 (by decide) rfl (hts _ (List.mem_of_getElem? (i := 4) rfl)) dX5_keepPart_88 (fun q55 eq55 hq55 tq55 => ?_)
    have tq55 : τ q55 = (36, 0) := tq55
    have uq55 : qs = q55 := S52.2.2.2.2 _ hqs _ hq55 (tqs.trans tq55.symm) (by rw [tqs]; rfl)
    subst uq55
    refine lv_aload_n hx hb dX5_keepPart_91 rfl (lv_at hl 0 rfl) ?_
    refine tr_geti Z.1 Z.2.2.2.1 S52.1 S52.2 ha0 ta0 rfl rfl (fun _ h => List.mem_cons_of_mem _ (List.mem_append_right _ h)) 9 (by decide) rfl (hts _ (List.mem_of_getElem? (i := 2) rfl)) dX5_keepPart_92 (fun v56 ev56 lv56 uv56 => ?_)
    have wv56 : v56 = v28 := ev56.symm.trans ((fi_put (k := 9) P52 (Or.inr (by decide))).trans ((p33_1 9 (by decide)).trans ((fi_set (k := 9) P30 (ne_ro ta0 tq6 (by decide))).trans ev28)))
    have xv56 : v56.toInt = v28.toInt := by rw [wv56]
    obtain ⟨v57, ev57, tv57⟩ : ∃ v : Int32, Int32.ofInt (1) = v ∧ v.toInt = 1 := ⟨_, rfl, by decide +kernel⟩
    refine lv_iconst hx hb dX5_keepPart_95 ev57 ?_
    refine tr_iast Z.1 Z.2.2.2.1 S52.1 S52.2 hqs tqs rfl (by omega) (by omega) (by omega) (by omega) dX5_keepPart_96 (fun E58 H59 k60 W58 I58 P58 => ?_)
    have S58 : Now D TB cy (va_A (va_pl L E) sz) s L τ E58 H59 k60 := ⟨W58, I58⟩
    have F58 : Fr L τ (inW [(7, 0), (34, 0), (35, 0), (36, 0)]) E E58 := Fr.set F52 P58 tqs rfl
    refine lv_aload_n hx hb dX5_keepPart_97 rfl (lv_at hl 0 rfl) ?_
    obtain ⟨v61, ev61, tv61⟩ : ∃ v : Int32, Int32.ofInt (1) = v ∧ v.toInt = 1 := ⟨_, rfl, by decide +kernel⟩
    refine lv_iconst hx hb dX5_keepPart_98 ev61 ?_
    refine tr_putz Z.1 Z.2.2.2.1 S58.1 S58.2 ha0 ta0 rfl rfl (fun _ h => List.mem_cons_of_mem _ (List.mem_append_right _ h)) tyX5_ok nmX5 7 (by decide) rfl rfl rfl (hts _ (List.mem_of_getElem? (i := 8) rfl)) dX5_keepPart_99 (by omega) (by omega) (fun E62 H63 k64 W62 I62 P62 => ?_)
    have S62 : Now D TB cy (va_A (va_pl L E) sz) s L τ E62 H63 k64 := ⟨W62, I62⟩
    have F62 : Fr L τ (inW [(7, 0), (34, 0), (35, 0), (36, 0)]) E E62 := Fr.put F58 P62 ta0 rfl
    refine lv_aload_n hx hb dX5_keepPart_102 rfl (lv_at hl 0 rfl) ?_
    refine lv_dup hx hb dX5_keepPart_103 rfl ?_
    refine tr_geti Z.1 Z.2.2.2.1 S62.1 S62.2 ha0 ta0 rfl rfl (fun _ h => List.mem_cons_of_mem _ (List.mem_append_right _ h)) 9 (by decide) rfl (hts _ (List.mem_of_getElem? (i := 2) rfl)) dX5_keepPart_104 (fun v65 ev65 lv65 uv65 => ?_)
    have wv65 : v65 = v56 := ev65.symm.trans ((fi_put (k := 9) P62 (Or.inr (by decide))).trans ((fi_set (k := 9) P58 (ne_ro ta0 tqs (by decide))).trans ev56))
    have xv65 : v65.toInt = v56.toInt := by rw [wv65]
    obtain ⟨v66, ev66, tv66⟩ : ∃ v : Int32, Int32.ofInt (1) = v ∧ v.toInt = 1 := ⟨_, rfl, by decide +kernel⟩
    refine lv_iconst hx hb dX5_keepPart_107 ev66 ?_
    refine lv_iadd hx hb dX5_keepPart_108 ?_
    refine lv_topi (fun v67 ev67 => ?_)
    have tv67 := nu_add ev67 (by omega) (by omega)
    refine tr_puti Z.1 Z.2.2.2.1 S62.1 S62.2 ha0 ta0 rfl rfl (fun _ h => List.mem_cons_of_mem _ (List.mem_append_right _ h)) tyX5_ok nmX5 9 (by decide) rfl rfl rfl (hts _ (List.mem_of_getElem? (i := 2) rfl)) dX5_keepPart_109 (by omega) (by omega) (fun E68 H69 k70 W68 I68 P68 => ?_)
    have S68 : Now D TB cy (va_A (va_pl L E) sz) s L τ E68 H69 k70 := ⟨W68, I68⟩
    have F68 : Fr L τ (inW [(7, 0), (34, 0), (35, 0), (36, 0)]) E E68 := Fr.put F62 P68 ta0 rfl
    rw [← hQ]
    exact en_v Z S68 F68 ⟨(by rw [nameE_q (by rw [← pk_69]; omega)]; exact (by rw [((fi_put (k := 3) P68 (Or.inr (by decide))).trans ((fi_put (k := 3) P62 (Or.inr (by decide))).trans (fi_set (k := 3) P58 (ne_ro ta0 tqs (by decide)))))]; exact po_84)), (by rw [(fi_at P68)]; omega), (fun k hk => ((fi_put P68 (Or.inr (fw_ne (by decide) hk))).trans ((fi_put P62 (Or.inr (fw_ne (by decide) hk))).trans ((fi_set P58 (ne_ro ta0 tqs (by decide))).trans ((fi_put P52 (Or.inr (fw_ne (by decide) hk))).trans ((p33_1 k (fw_sub (by decide) hk)).trans ((fi_set P30 (ne_ro ta0 tq6 (by decide))).trans ((fi_put P24 (Or.inr (fw_ne (by decide) hk))).trans ((fi_set P15 (ne_ro ta0 tqs (by decide))).trans ((fi_set P9 (ne_ro ta0 tq6 (by decide))).trans ((fi_set P3 (ne_ro ta0 tq1 (by decide))).trans ((fun k hk => rfl) k hk)))))))))))), (RdW.push hR (n := v2) ev2 (by omega) (by rw [(fi_at P68)]; omega) ((fi_put (k := 8) P68 (Or.inr (by decide))).trans ((fi_put (k := 8) P62 (Or.inr (by decide))).trans ((fi_set (k := 8) P58 (ne_ro ta0 tqs (by decide))).trans ((fi_put (k := 8) P52 (Or.inr (by decide))).trans ((p33_1 8 (by decide)).trans ((fi_set (k := 8) P30 (ne_ro ta0 tq6 (by decide))).trans ((fi_put (k := 8) P24 (Or.inr (by decide))).trans ((fi_set (k := 8) P15 (ne_ro ta0 tqs (by decide))).trans ((fi_set (k := 8) P9 (ne_ro ta0 tq6 (by decide))).trans (fi_set (k := 8) P3 (ne_ro ta0 tq1 (by decide)))))))))))) ((P68.1 qe (ne_ro tqe ta0 (by decide))).trans ((P62.1 qe (ne_ro tqe ta0 (by decide))).trans ((P58.1 qe (ne_ro tqe tqs (by decide))).trans ((P52.1 qe (ne_ro tqe ta0 (by decide))).trans ((G33 qe hqe (by rw [tqe]; rfl)).trans ((P30.1 qe (ne_ro tqe tq6 (by decide))).trans ((P24.1 qe (ne_ro tqe ta0 (by decide))).trans ((P15.1 qe (ne_ro tqe tqs (by decide))).trans ((P9.1 qe (ne_ro tqe tq6 (by decide))).trans (P3.1 qe (ne_ro tqe tq1 (by decide)))))))))))) (by rw [((fi_put (k := 7) P68 (Or.inr (by decide))).trans (fi_at P62))]; omega) (fun j hj => ((ai_put P68 (ne_ro tqs ta0 (by decide))).trans ((ai_put P62 (ne_ro tqs ta0 (by decide))).trans ((ai_setk P58 (by show j ≠ v56.toInt.toNat; omega)).trans ((ai_put P52 (ne_ro tqs ta0 (by decide))).trans ((ai_fr G33 hqs (by rw [tqs]; rfl)).trans ((ai_set P30 (ne_ro tqs tq6 (by decide))).trans ((ai_put P24 (ne_ro tqs ta0 (by decide))).trans ((ai_setk P15 (by show j ≠ v13.toInt.toNat; omega)).trans ((ai_set P9 (ne_ro tqs tq6 (by decide))).trans (ai_set P3 (ne_ro tqs tq1 (by decide))))))))))))) (by have q : ai E68 qs v56.toNatClampNeg = v57 := (((ai_put P68 (ne_ro tqs ta0 (by decide))).trans (ai_put P62 (ne_ro tqs ta0 (by decide)))).trans P58.2.1); rw [show v2.toInt.toNat = v56.toNatClampNeg from by show _ = v56.toInt.toNat; omega, q, ((fi_put (k := 7) P68 (Or.inr (by decide))).trans (fi_at P62))]; omega))⟩ dX5_keepPart_112

set_option maxHeartbeats 4000000 in
set_option maxRecDepth 100000 in
theorem k_X5_keepPart_vrnull (l : Launch) (D : va_G) (cy : Nat → ClassId) {L : List Nat} {τ : Nat → Ro} {E : Ec} (hI : Inv TB cy L τ E) {a0 : Nat} (ha0 : a0 ∈ L) (ta0 : τ a0 = (7, 0)) (a1 : Int32) {qe : Nat} (hqe : qe ∈ L) (tqe : τ qe = (33, 0)) {qs : Nat} (hqs : qs ∈ L) (tqs : τ qs = (36, 0)) (hp : (fi E a0 9).toInt ≤ 63) (hR : RdW E a0 qe qs) : CtV l yX5_keepPart wsX5_keepPart { frames := 2, cells := 0, slots := 0, locals := 40 } D TB cy L τ E [.ref a0, .int a1, .null] (inW [(7, 0), (34, 0), (35, 0), (36, 0)]) (fun E' => ((fi E' a0 3).toInt = (fi E a0 3).toInt) ∧ ((fi E' a0 9).toInt = (fi E a0 9).toInt + 1) ∧ (∀ k : Nat, k ∉ ([3, 7, 9] : List Nat) → fi E' a0 k = fi E a0 k) ∧ RdW E' a0 qe qs) := by
  intro sz
  refine sta (cc := cX5_keepPart) (maxL := 3) hI (by decide) rfl (Nat.le_of_ble_eq_true rfl) (fun p e s m args below meth c ls hsz Z S0 hl => ?_)
  have hx := Z.1.1
  have hb := Z.1.2.1
  have hts := Z.1.2.2.2.2
  have F0_ : Fr L τ (inW [(7, 0), (34, 0), (35, 0), (36, 0)]) E E := Fr.refl
  have hl : lv_has ls 3 [(0, .ref a0), (1, .int a1), (2, .null)] := hl
  generalize hQ : MQ below _ args s 0 0 _ = QQ
  have kz_a0_9 := fi_rng (k := 9) hI ha0 ta0 rfl rfl
  have kz_a0_7 := fi_rng (k := 7) hI ha0 ta0 rfl rfl
  have kz_a0_3 := fi_rng (k := 3) hI ha0 ta0 rfl rfl
  refine lv_aload_n hx hb dX5_keepPart_0 rfl (lv_at hl 0 rfl) ?_
  refine tr_getr Z.1 Z.2.2.2.1 S0.1 S0.2 ha0 ta0 rfl rfl (fun _ h => List.mem_cons_of_mem _ (List.mem_append_right _ h)) 11 (by decide) rfl (hts _ (List.mem_of_getElem? (i := 1) rfl)) dX5_keepPart_1 (fun q1 eq1 hq1 tq1 => ?_)
  have tq1 : τ q1 = (34, 0) := tq1
  refine lv_aload_n hx hb dX5_keepPart_4 rfl (lv_at hl 0 rfl) ?_
  refine tr_geti Z.1 Z.2.2.2.1 S0.1 S0.2 ha0 ta0 rfl rfl (fun _ h => List.mem_cons_of_mem _ (List.mem_append_right _ h)) 9 (by decide) rfl (hts _ (List.mem_of_getElem? (i := 2) rfl)) dX5_keepPart_5 (fun v2 ev2 lv2 uv2 => ?_)
  have wv2 : v2 = (fi E a0 9) := ev2.symm.trans rfl
  have xv2 : v2.toInt = (fi E a0 9).toInt := by rw [wv2]
  refine lv_iload_n hx hb dX5_keepPart_8 rfl (lv_at hl 1 rfl) ?_
  refine tr_iast Z.1 Z.2.2.2.1 S0.1 S0.2 hq1 tq1 rfl (by omega) (by omega) (by have := fb_rng a1; omega) (by have := fb_rng a1; omega) dX5_keepPart_9 (fun E3 H4 k5 W3 I3 P3 => ?_)
  have S3 : Now D TB cy (va_A (va_pl L E) sz) s L τ E3 H4 k5 := ⟨W3, I3⟩
  have F3 : Fr L τ (inW [(7, 0), (34, 0), (35, 0), (36, 0)]) E E3 := Fr.set F0_ P3 tq1 rfl
  refine lv_aload_n hx hb dX5_keepPart_10 rfl (lv_at hl 0 rfl) ?_
  refine tr_getr Z.1 Z.2.2.2.1 S3.1 S3.2 ha0 ta0 rfl rfl (fun _ h => List.mem_cons_of_mem _ (List.mem_append_right _ h)) 12 (by decide) rfl (hts _ (List.mem_of_getElem? (i := 3) rfl)) dX5_keepPart_11 (fun q6 eq6 hq6 tq6 => ?_)
  have tq6 : τ q6 = (35, 0) := tq6
  refine lv_aload_n hx hb dX5_keepPart_14 rfl (lv_at hl 0 rfl) ?_
  refine tr_geti Z.1 Z.2.2.2.1 S3.1 S3.2 ha0 ta0 rfl rfl (fun _ h => List.mem_cons_of_mem _ (List.mem_append_right _ h)) 9 (by decide) rfl (hts _ (List.mem_of_getElem? (i := 2) rfl)) dX5_keepPart_15 (fun v7 ev7 lv7 uv7 => ?_)
  have wv7 : v7 = v2 := ev7.symm.trans ((fi_set (k := 9) P3 (ne_ro ta0 tq1 (by decide))).trans ev2)
  have xv7 : v7.toInt = v2.toInt := by rw [wv7]
  obtain ⟨v8, ev8, tv8⟩ : ∃ v : Int32, (Int8.ofInt (12)).toInt32 = v ∧ v.toInt = 12 := ⟨_, rfl, by decide +kernel⟩
  refine lv_bipush hx hb dX5_keepPart_18 ev8 ?_
  refine tr_iast Z.1 Z.2.2.2.1 S3.1 S3.2 hq6 tq6 rfl (by omega) (by omega) (by omega) (by omega) dX5_keepPart_20 (fun E9 H10 k11 W9 I9 P9 => ?_)
  have S9 : Now D TB cy (va_A (va_pl L E) sz) s L τ E9 H10 k11 := ⟨W9, I9⟩
  have F9 : Fr L τ (inW [(7, 0), (34, 0), (35, 0), (36, 0)]) E E9 := Fr.set F3 P9 tq6 rfl
  refine lv_aload_n hx hb dX5_keepPart_21 rfl (lv_at hl 0 rfl) ?_
  refine tr_getr Z.1 Z.2.2.2.1 S9.1 S9.2 ha0 ta0 rfl rfl (fun _ h => List.mem_cons_of_mem _ (List.mem_append_right _ h)) 13 (by decide) rfl (hts _ (List.mem_of_getElem? (i := 4) rfl)) dX5_keepPart_22 (fun q12 eq12 hq12 tq12 => ?_)
  have tq12 : τ q12 = (36, 0) := tq12
  have uq12 : qs = q12 := S9.2.2.2.2 _ hqs _ hq12 (tqs.trans tq12.symm) (by rw [tqs]; rfl)
  subst uq12
  refine lv_aload_n hx hb dX5_keepPart_25 rfl (lv_at hl 0 rfl) ?_
  refine tr_geti Z.1 Z.2.2.2.1 S9.1 S9.2 ha0 ta0 rfl rfl (fun _ h => List.mem_cons_of_mem _ (List.mem_append_right _ h)) 9 (by decide) rfl (hts _ (List.mem_of_getElem? (i := 2) rfl)) dX5_keepPart_26 (fun v13 ev13 lv13 uv13 => ?_)
  have wv13 : v13 = v7 := ev13.symm.trans ((fi_set (k := 9) P9 (ne_ro ta0 tq6 (by decide))).trans ev7)
  have xv13 : v13.toInt = v7.toInt := by rw [wv13]
  obtain ⟨v14, ev14, tv14⟩ : ∃ v : Int32, Int32.ofInt (0) = v ∧ v.toInt = 0 := ⟨_, rfl, by decide +kernel⟩
  refine lv_iconst hx hb dX5_keepPart_29 ev14 ?_
  refine tr_iast Z.1 Z.2.2.2.1 S9.1 S9.2 hqs tqs rfl (by omega) (by omega) (by omega) (by omega) dX5_keepPart_30 (fun E15 H16 k17 W15 I15 P15 => ?_)
  have S15 : Now D TB cy (va_A (va_pl L E) sz) s L τ E15 H16 k17 := ⟨W15, I15⟩
  have F15 : Fr L τ (inW [(7, 0), (34, 0), (35, 0), (36, 0)]) E E15 := Fr.set F9 P15 tqs rfl
  refine lv_aload_nN hx hb dX5_keepPart_31 rfl (lv_at hl 2 rfl) ?_
  refine lv_ifnullN (tgt := 102) hx hb dX5_keepPart_32 (by decide) ?_
  refine lv_aload_n hx hb dX5_keepPart_102 rfl (lv_at hl 0 rfl) ?_
  refine lv_dup hx hb dX5_keepPart_103 rfl ?_
  refine tr_geti Z.1 Z.2.2.2.1 S15.1 S15.2 ha0 ta0 rfl rfl (fun _ h => List.mem_cons_of_mem _ (List.mem_append_right _ h)) 9 (by decide) rfl (hts _ (List.mem_of_getElem? (i := 2) rfl)) dX5_keepPart_104 (fun v18 ev18 lv18 uv18 => ?_)
  have wv18 : v18 = v13 := ev18.symm.trans ((fi_set (k := 9) P15 (ne_ro ta0 tqs (by decide))).trans ev13)
  have xv18 : v18.toInt = v13.toInt := by rw [wv18]
  obtain ⟨v19, ev19, tv19⟩ : ∃ v : Int32, Int32.ofInt (1) = v ∧ v.toInt = 1 := ⟨_, rfl, by decide +kernel⟩
  refine lv_iconst hx hb dX5_keepPart_107 ev19 ?_
  refine lv_iadd hx hb dX5_keepPart_108 ?_
  refine lv_topi (fun v20 ev20 => ?_)
  have tv20 := nu_add ev20 (by omega) (by omega)
  refine tr_puti Z.1 Z.2.2.2.1 S15.1 S15.2 ha0 ta0 rfl rfl (fun _ h => List.mem_cons_of_mem _ (List.mem_append_right _ h)) tyX5_ok nmX5 9 (by decide) rfl rfl rfl (hts _ (List.mem_of_getElem? (i := 2) rfl)) dX5_keepPart_109 (by omega) (by omega) (fun E21 H22 k23 W21 I21 P21 => ?_)
  have S21 : Now D TB cy (va_A (va_pl L E) sz) s L τ E21 H22 k23 := ⟨W21, I21⟩
  have F21 : Fr L τ (inW [(7, 0), (34, 0), (35, 0), (36, 0)]) E E21 := Fr.put F15 P21 ta0 rfl
  rw [← hQ]
  exact en_v Z S21 F21 ⟨(by rw [((fi_put (k := 3) P21 (Or.inr (by decide))).trans ((fi_set (k := 3) P15 (ne_ro ta0 tqs (by decide))).trans ((fi_set (k := 3) P9 (ne_ro ta0 tq6 (by decide))).trans ((fi_set (k := 3) P3 (ne_ro ta0 tq1 (by decide))).trans rfl))))]), (by rw [(fi_at P21)]; omega), (fun k hk => ((fi_put P21 (Or.inr (fw_ne (by decide) hk))).trans ((fi_set P15 (ne_ro ta0 tqs (by decide))).trans ((fi_set P9 (ne_ro ta0 tq6 (by decide))).trans ((fi_set P3 (ne_ro ta0 tq1 (by decide))).trans ((fun k hk => rfl) k hk)))))), (RdW.push hR (n := v2) ev2 (by omega) (by rw [(fi_at P21)]; omega) ((fi_put (k := 8) P21 (Or.inr (by decide))).trans ((fi_set (k := 8) P15 (ne_ro ta0 tqs (by decide))).trans ((fi_set (k := 8) P9 (ne_ro ta0 tq6 (by decide))).trans (fi_set (k := 8) P3 (ne_ro ta0 tq1 (by decide)))))) ((P21.1 qe (ne_ro tqe ta0 (by decide))).trans ((P15.1 qe (ne_ro tqe tqs (by decide))).trans ((P9.1 qe (ne_ro tqe tq6 (by decide))).trans (P3.1 qe (ne_ro tqe tq1 (by decide)))))) (by rw [((fi_put (k := 7) P21 (Or.inr (by decide))).trans ((fi_set (k := 7) P15 (ne_ro ta0 tqs (by decide))).trans ((fi_set (k := 7) P9 (ne_ro ta0 tq6 (by decide))).trans ((fi_set (k := 7) P3 (ne_ro ta0 tq1 (by decide))).trans rfl))))]; omega) (fun j hj => ((ai_put P21 (ne_ro tqs ta0 (by decide))).trans ((ai_setk P15 (by show j ≠ v13.toInt.toNat; omega)).trans ((ai_set P9 (ne_ro tqs tq6 (by decide))).trans (ai_set P3 (ne_ro tqs tq1 (by decide))))))) (by have q : ai E21 qs v13.toNatClampNeg = v14 := ((ai_put P21 (ne_ro tqs ta0 (by decide))).trans P15.2.1); rw [show v2.toInt.toNat = v13.toNatClampNeg from by show _ = v13.toInt.toNat; omega, q, ((fi_put (k := 7) P21 (Or.inr (by decide))).trans ((fi_set (k := 7) P15 (ne_ro ta0 tqs (by decide))).trans ((fi_set (k := 7) P9 (ne_ro ta0 tq6 (by decide))).trans ((fi_set (k := 7) P3 (ne_ro ta0 tq1 (by decide))).trans rfl))))]; omega))⟩ dX5_keepPart_112

