set_option maxHeartbeats 4000000 in
set_option maxRecDepth 100000 in
theorem k_X0_cutNext_vb (l : Launch) (D : va_G) (cy : Nat → ClassId) {L : List Nat} {τ : Nat → Ro} {E : Ec} (hI : Inv TB cy L τ E) (a0 : Int32) (la0 : 0 ≤ a0.toInt) (ua0 : a0.toInt ≤ 300000) (a1 : Int32) (la1 : 0 ≤ a1.toInt) (ua1 : a1.toInt ≤ 10000) (a2 : Int32) (la2 : 1 ≤ a2.toInt) (ua2 : a2.toInt ≤ 10000) : CtI l yX0_cutNext wsX0_cutNext { frames := 0, cells := 0, slots := 0, locals := 0 } D TB cy L τ E [.int a0, .int a1, .int a2] (inW []) (fun r E' => E' = E ∧ (r.toInt = cutI a2.toInt a0.toInt a1.toInt) ∧ 0 ≤ r.toInt ∧ r.toInt ≤ 320000) := by
  intro sz
  refine sta (cc := cX0_cutNext) (maxL := 4) hI (by decide) rfl (Nat.le_of_ble_eq_true rfl) (fun p e s m args below meth c ls hsz Z S0 hl => ?_)
  have hx := Z.1.1
  have hb := Z.1.2.1
  have hts := Z.1.2.2.2.2
  have F0_ : Fr L τ (inW []) E E := Fr.refl
  have hl : lv_has ls 4 [(0, .int a0), (1, .int a1), (2, .int a2)] := hl
  generalize hQ : MQ below _ args s 0 0 _ = QQ
  refine lv_iload_n hx hb dX0_cutNext_0 rfl (lv_at hl 2 rfl) ?_
  refine lv_if_gt (tgt := 6) hx hb dX0_cutNext_1 (by decide) (fun c1 => ?_) (fun c1 => ?_)
  · skip
    have tc1 := nu_lt c1
    have uc1 : (0 : Int32).toInt = 0 := rfl
    refine lv_iload_n hx hb dX0_cutNext_6 rfl (lv_at hl 2 rfl) ?_
    refine lv_iload_n hx hb dX0_cutNext_7 rfl (lv_at hl 0 rfl) ?_
    refine lv_iload_n hx hb dX0_cutNext_8 rfl (lv_at hl 2 rfl) ?_
    refine lv_irem hx hb dX0_cutNext_9 (fun q => by have := nu_eq0 q; omega) ?_
    refine lv_topi (fun v2 ev2 => ?_)
    have tv2 := nu_remv ev2 (by omega) (by omega)
    refine lv_isub hx hb dX0_cutNext_10 ?_
    refine lv_topi (fun v3 ev3 => ?_)
    have tv3 := nu_sub ev3 (by omega) (by omega)
    refine lv_istore_n (lv' := [(3, .int v3), (0, .int a0), (1, .int a1), (2, .int a2)]) hx hb dX0_cutNext_11 rfl hl (by decide) rfl (fun l4 hl5 => ?_)
    refine lv_iload_n hx hb dX0_cutNext_12 rfl (lv_at hl5 2 rfl) ?_
    refine lv_iload_n hx hb dX0_cutNext_13 rfl (lv_at hl5 0 rfl) ?_
    refine lv_icmp_gt (tgt := 23) hx hb dX0_cutNext_14 (by decide) (fun c6 => ?_) (fun c6 => ?_)
    · skip
      have tc6 := nu_lt c6
      refine lv_iload_n hx hb dX0_cutNext_23 rfl (lv_at hl5 1 rfl) ?_
      refine lv_iload_n hx hb dX0_cutNext_24 rfl (lv_at hl5 0 rfl) ?_
      refine lv_iadd hx hb dX0_cutNext_25 ?_
      refine lv_topi (fun v7 ev7 => ?_)
      have tv7 := nu_add ev7 (by omega) (by omega)
      refine lv_iload_n hx hb dX0_cutNext_26 rfl (lv_at hl5 2 rfl) ?_
      refine lv_iadd hx hb dX0_cutNext_27 ?_
      refine lv_topi (fun v8 ev8 => ?_)
      have tv8 := nu_add ev8 (by omega) (by omega)
      rw [← hQ]
      exact en_i Z S0 F0_ ⟨rfl, (by first | (rw [cutI_a (by omega)]; omega) | (rw [cutI_b (by omega)]; omega)), (by omega), (by omega)⟩ dX0_cutNext_28
    · skip
      have tc6 := nu_nlt c6
      refine lv_iload_n hx hb dX0_cutNext_17 rfl (lv_at hl5 1 rfl) ?_
      refine lv_iload_n hx hb dX0_cutNext_18 rfl (lv_at hl5 2 rfl) ?_
      refine lv_iadd hx hb dX0_cutNext_19 ?_
      refine lv_topi (fun v9 ev9 => ?_)
      have tv9 := nu_add ev9 (by omega) (by omega)
      refine lv_goto (tgt := 28) hx hb dX0_cutNext_20 (by decide) ?_
      rw [← hQ]
      exact en_i Z S0 F0_ ⟨rfl, (by first | (rw [cutI_a (by omega)]; omega) | (rw [cutI_b (by omega)]; omega)), (by omega), (by omega)⟩ dX0_cutNext_28
  · skip
    have tc1 := nu_nlt c1
    have uc1 : (0 : Int32).toInt = 0 := rfl
    omega

set_option maxHeartbeats 4000000 in
set_option maxRecDepth 100000 in
theorem k_X0_longest_vb (l : Launch) (D : va_G) (cy : Nat → ClassId) {L : List Nat} {τ : Nat → Ro} {E : Ec} (hI : Inv TB cy L τ E) {a0 : Nat} (ha0 : a0 ∈ L) (ta0 : τ a0 = (9, 0)) {qp : Nat} (hqp : qp ∈ L) (tqp : τ qp = (39, 0)) : CtI l yX0_longest wsX0_longest { frames := 1, cells := 0, slots := 0, locals := 21 } D TB cy L τ E [.ref a0] (inW []) (fun r E' => E' = E ∧ (r.toInt = maxI (fun k => (ai E qp k).toInt) (fi E a0 2).toInt.toNat)) := by
  intro sz
  refine sta (cc := cX0_longest) (maxL := 3) hI (by decide) rfl (Nat.le_of_ble_eq_true rfl) (fun p e s m args below meth c ls hsz Z S0 hl => ?_)
  have hx := Z.1.1
  have hb := Z.1.2.1
  have hts := Z.1.2.2.2.2
  have F0_ : Fr L τ (inW []) E E := Fr.refl
  have hl : lv_has ls 3 [(0, .ref a0)] := hl
  generalize hQ : MQ below _ args s 0 0 _ = QQ
  have kz_a0_2 := fi_rng (k := 2) hI ha0 ta0 rfl rfl
  have J4 : ∀ (n : Nat) (x1_4 : Int32) (x2_4 : Int32) (H_4 : Heap) (k_4 : List Loc) (l_4 : Array Slot), Now D TB cy (va_A (va_pl L E) sz) s L τ E H_4 k_4 → (0 ≤ x1_4.toInt) → (x1_4.toInt ≤ 10000) → (0 ≤ x2_4.toInt) → (x2_4.toInt ≤ 12) → (x1_4.toInt = maxI (fun k => (ai E qp k).toInt) x2_4.toInt.toNat) → (x2_4.toInt ≤ (fi E a0 2).toInt) → (12 - x2_4.toInt).toNat < n → lv_has l_4 3 [(0, .ref a0), (1, .int x1_4), (2, .int x2_4)] → W p l e { frames := 1, cells := 0, slots := 0, locals := 21 } s m args below meth c H_4 k_4 0 0 QQ (F0 m 4 l_4 []) := by
    intro n
    induction n with
    | zero => intro x1_4 x2_4 H_4 k_4 l_4 S_4 z1 z2 z3 z4 z5 z6 hm hl_4; exact absurd hm (Nat.not_lt_zero _)
    | succ n ih =>
      intro x1_4 x2_4 H_4 k_4 l_4 S_4 z1 z2 z3 z4 z5 z6 hm hl_4
      have ih_4 := ih
      refine lv_iload_n hx hb dX0_longest_4 rfl (lv_at hl_4 2 rfl) ?_
      refine lv_aload_n hx hb dX0_longest_5 rfl (lv_at hl_4 0 rfl) ?_
      refine tr_geti Z.1 Z.2.2.2.1 S_4.1 S_4.2 ha0 ta0 rfl rfl (fun _ h => List.mem_cons_of_mem _ (List.mem_append_right _ h)) 2 (by decide) rfl (hts _ (List.mem_of_getElem? (i := 1) rfl)) dX0_longest_6 (fun v7 ev7 lv7 uv7 => ?_)
      have wv7 : v7 = (fi E a0 2) := ev7.symm.trans rfl
      have xv7 : v7.toInt = (fi E a0 2).toInt := by rw [wv7]
      refine lv_icmp_ge (tgt := 29) hx hb dX0_longest_9 (by decide) (fun c8 => ?_) (fun c8 => ?_)
      · skip
        have tc8 := nu_le c8
        refine lv_iload_n hx hb dX0_longest_29 rfl (lv_at hl_4 1 rfl) ?_
        rw [← hQ]
        exact en_i Z S_4 F0_ ⟨rfl, (by rw [show (fi E a0 2).toInt.toNat = x2_4.toInt.toNat from by omega]; exact z5)⟩ dX0_longest_30
      · skip
        have tc8 := nu_nle c8
        refine lv_iload_n hx hb dX0_longest_12 rfl (lv_at hl_4 1 rfl) ?_
        refine lv_aload_n hx hb dX0_longest_13 rfl (lv_at hl_4 0 rfl) ?_
        refine tr_getr Z.1 Z.2.2.2.1 S_4.1 S_4.2 ha0 ta0 rfl rfl (fun _ h => List.mem_cons_of_mem _ (List.mem_append_right _ h)) 0 (by decide) rfl (hts _ (List.mem_of_getElem? (i := 2) rfl)) dX0_longest_14 (fun q9 eq9 hq9 tq9 => ?_)
        have tq9 : τ q9 = (39, 0) := tq9
        have uq9 : qp = q9 := S_4.2.2.2.2 _ hqp _ hq9 (tqp.trans tq9.symm) (by rw [tqp]; rfl)
        subst uq9
        refine lv_iload_n hx hb dX0_longest_17 rfl (lv_at hl_4 2 rfl) ?_
        refine tr_iald Z.1 Z.2.2.2.1 S_4.1 S_4.2 hqp tqp rfl (by omega) (by omega) dX0_longest_18 (fun v10 ev10 lv10 uv10 => ?_)
        refine va_mmax hx hb (Z.1.2.2.1.trans hl_4.1.symm) Z.1.2.2.2.1 (hts _ (List.mem_of_getElem? (i := 3) rfl)) (hts _ (List.mem_of_getElem? (i := 4) rfl)) (hts _ (List.mem_of_getElem? (i := 5) rfl)) (hts _ (List.mem_of_getElem? (i := 6) rfl)) (Nat.le_of_ble_eq_true rfl) (Nat.le_of_ble_eq_true rfl) (Nat.zero_le _) (Nat.zero_le _) dX0_longest_19 ?_
        refine lv_topi (fun v11 ev11 => ?_)
        have tv11 := nu_max ev11
        refine lv_istore_n (lv' := [(1, .int v11), (0, .ref a0), (2, .int x2_4)]) hx hb dX0_longest_22 rfl hl_4 (by decide) rfl (fun l12 hl13 => ?_)
        obtain ⟨v14, ev14⟩ : ∃ y : Int32, x2_4 + Int32.ofInt (1) = y := ⟨_, rfl⟩
        have tv14 : v14.toInt = x2_4.toInt + (1) := by rw [← ev14]; exact (fb_addI (by rw [show (Int32.ofInt (1)).toInt = 1 from by decide +kernel]; omega) (by rw [show (Int32.ofInt (1)).toInt = 1 from by decide +kernel]; omega)).trans (by rw [show (Int32.ofInt (1)).toInt = 1 from by decide +kernel])
        refine lv_iinc (v := v14) (lv' := [(2, .int v14), (1, .int v11), (0, .ref a0)]) hx hb dX0_longest_23 hl13 (k := 2) rfl ev14 (by decide) rfl (fun l15 hl16 => ?_)
        refine lv_goto (tgt := 4) hx hb dX0_longest_26 (by decide) ?_
        exact ih_4 v11 v14 H_4 k_4 l15 S_4 (by omega) (by omega) (by omega) (by omega) (maxI_step z5 (nu_eq ev10) tv11 (by omega) (by omega)) (by omega) (by omega) (lv_sub hl16 [2, 1, 0] rfl)
  obtain ⟨v17, ev17, tv17⟩ : ∃ v : Int32, Int32.ofInt (0) = v ∧ v.toInt = 0 := ⟨_, rfl, by decide +kernel⟩
  refine lv_iconst hx hb dX0_longest_0 ev17 ?_
  refine lv_istore_n (lv' := [(1, .int v17), (0, .ref a0)]) hx hb dX0_longest_1 rfl hl (by decide) rfl (fun l18 hl19 => ?_)
  obtain ⟨v20, ev20, tv20⟩ : ∃ v : Int32, Int32.ofInt (0) = v ∧ v.toInt = 0 := ⟨_, rfl, by decide +kernel⟩
  refine lv_iconst hx hb dX0_longest_2 ev20 ?_
  refine lv_istore_n (lv' := [(2, .int v20), (1, .int v17), (0, .ref a0)]) hx hb dX0_longest_3 rfl hl19 (by decide) rfl (fun l21 hl22 => ?_)
  exact J4 _ v17 v20 s.heap [] l21 S0 (by omega) (by omega) (by omega) (by omega) (by rw [show v20.toInt.toNat = 0 from by omega]; show v17.toInt = 0; omega) (by omega) (Nat.lt_succ_self _) (lv_sub hl22 [2, 1, 0] rfl)

set_option maxHeartbeats 4000000 in
set_option maxRecDepth 100000 in
theorem k_X0_fewest_vb (l : Launch) (D : va_G) (cy : Nat → ClassId) {L : List Nat} {τ : Nat → Ro} {E : Ec} (hI : Inv TB cy L τ E) {a0 : Nat} (ha0 : a0 ∈ L) (ta0 : τ a0 = (9, 0)) (a1 : Int32) (la1 : 1 ≤ a1.toInt) (ua1 : a1.toInt ≤ 10000) {qp : Nat} (hqp : qp ∈ L) (tqp : τ qp = (39, 0)) {qu : Nat} (hqu : qu ∈ L) (tqu : τ qu = (31, 0)) : CtI l yX0_fewest wsX0_fewest { frames := 1, cells := 0, slots := 0, locals := 23 } D TB cy L τ E [.ref a0, .int a1] (inW [(31, 0)]) (fun r E' => (r.toInt = (tabI (fun k => (ai E qp k).toInt) a1.toInt (fi E a0 2).toInt.toNat (2 ^ (fi E a0 2).toInt.toNat) (2 ^ (fi E a0 2).toInt.toNat - 1) + a1.toInt - 1) / a1.toInt)) := by
  intro sz
  refine sta (cc := cX0_fewest) (maxL := 6) hI (by decide) rfl (Nat.le_of_ble_eq_true rfl) (fun p e s m args below meth c ls hsz Z S0 hl => ?_)
  have hx := Z.1.1
  have hb := Z.1.2.1
  have hts := Z.1.2.2.2.2
  have F0_ : Fr L τ (inW [(31, 0)]) E E := Fr.refl
  have hl : lv_has ls 6 [(0, .ref a0), (1, .int a1)] := hl
  generalize hQ : MQ below _ args s 0 0 _ = QQ
  have kz_a0_2 := fi_rng (k := 2) hI ha0 ta0 rfl rfl
  obtain ⟨N, hN⟩ : ∃ N : Nat, N = 2 ^ (fi E a0 2).toInt.toNat := ⟨_, rfl⟩
  have hn12 : (fi E a0 2).toInt.toNat ≤ 12 := by omega
  have hN1 : 1 ≤ N := by rw [hN]; exact Nat.one_le_two_pow
  have hN2 : N ≤ 4096 := by rw [hN]; exact Nat.pow_le_pow_right (by decide) hn12
  have hPr : ∀ k : Nat, k < 12 → 0 ≤ (ai E qp k).toInt ∧ (ai E qp k).toInt ≤ 10000 := ai_bnd (j := 0) (n := 12) (w := fun _ => (0, 10000)) hI hqp tqp rfl
  have hPn : ∀ k : Nat, k < (fi E a0 2).toInt.toNat → 0 ≤ (fun k => (ai E qp k).toInt) k ∧ (fun k => (ai E qp k).toInt) k ≤ 10000 := fun k hk => hPr k (by omega)
  have J17 : ∀ (n : Nat) (x2_17 : Int32) (x3_17 : Int32) (E_17 : Ec) (H_17 : Heap) (k_17 : List Loc) (l_17 : Array Slot), Now D TB cy (va_A (va_pl L E) sz) s L τ E_17 H_17 k_17 → Fr L τ (inW [(31, 0)]) E E_17 → (1 ≤ a1.toInt) → (a1.toInt ≤ 10000) → (0 ≤ x2_17.toInt) → (x2_17.toInt ≤ 4095) → (1 ≤ x3_17.toInt) → (x3_17.toInt ≤ 4096) → (x2_17.toInt = (N : Int) - 1) → (∀ t : Nat, t < x3_17.toInt.toNat → (ai E_17 qu t).toInt = tabI (fun k => (ai E qp k).toInt) a1.toInt (fi E a0 2).toInt.toNat x3_17.toInt.toNat t) → (x3_17.toInt ≤ (N : Int)) → (0 ≤ (fi E_17 a0 2).toInt ∧ (fi E_17 a0 2).toInt ≤ 12 ∧ (fi E_17 a0 2).toInt = (fi E a0 2).toInt) → (4096 - x3_17.toInt).toNat < n → lv_has l_17 6 [(0, .ref a0), (1, .int a1), (2, .int x2_17), (3, .int x3_17)] → W p l e { frames := 1, cells := 0, slots := 0, locals := 23 } s m args below meth c H_17 k_17 0 0 QQ (F0 m 17 l_17 []) := by
    intro n
    induction n with
    | zero => intro x2_17 x3_17 E_17 H_17 k_17 l_17 S_17 F_17 z1 z2 z3 z4 z5 z6 z7 z8 z9 z10 hm hl_17; exact absurd hm (Nat.not_lt_zero _)
    | succ n ih =>
      intro x2_17 x3_17 E_17 H_17 k_17 l_17 S_17 F_17 z1 z2 z3 z4 z5 z6 z7 z8 z9 z10 hm hl_17
      have ih_17 := ih
      have J29 : ∀ (n : Nat) (x4_29 : Int32) (x5_29 : Int32) (H_29 : Heap) (k_29 : List Loc) (l_29 : Array Slot), Now D TB cy (va_A (va_pl L E) sz) s L τ E_17 H_29 k_29 → (1 ≤ a1.toInt) → (a1.toInt ≤ 10000) → (1 ≤ x2_17.toInt) → (x2_17.toInt ≤ 4095) → (1 ≤ x3_17.toInt) → (x3_17.toInt ≤ 4095) → (0 ≤ x4_29.toInt) → (0 ≤ x5_29.toInt) → (x5_29.toInt ≤ 12) → (x4_29.toInt = foldI (fun k => (ai E qp k).toInt) a1.toInt (tabI (fun k => (ai E qp k).toInt) a1.toInt (fi E a0 2).toInt.toNat x3_17.toInt.toNat) x3_17.toInt.toNat x5_29.toInt.toNat) → (x5_29.toInt ≤ (fi E a0 2).toInt) → (x3_17.toInt ≤ x2_17.toInt) → (12 - x5_29.toInt).toNat < n → lv_has l_29 6 [(0, .ref a0), (1, .int a1), (2, .int x2_17), (3, .int x3_17), (4, .int x4_29), (5, .int x5_29)] → W p l e { frames := 1, cells := 0, slots := 0, locals := 23 } s m args below meth c H_29 k_29 0 0 QQ (F0 m 29 l_29 []) := by
        intro n
        induction n with
        | zero => intro x4_29 x5_29 H_29 k_29 l_29 S_29 z11 z12 z13 z14 z15 z16 z17 z18 z19 z20 z21 z22 hm hl_29; exact absurd hm (Nat.not_lt_zero _)
        | succ n ih =>
          intro x4_29 x5_29 H_29 k_29 l_29 S_29 z11 z12 z13 z14 z15 z16 z17 z18 z19 z20 z21 z22 hm hl_29
          have ih_29 := ih
          refine lv_iload hx hb dX0_fewest_29 (lv_at hl_29 5 rfl) ?_
          refine lv_aload_n hx hb dX0_fewest_31 rfl (lv_at hl_29 0 rfl) ?_
          refine tr_geti Z.1 Z.2.2.2.1 S_29.1 S_29.2 ha0 ta0 rfl rfl (fun _ h => List.mem_cons_of_mem _ (List.mem_append_right _ h)) 2 (by decide) rfl (hts _ (List.mem_of_getElem? (i := 1) rfl)) dX0_fewest_32 (fun v23 ev23 lv23 uv23 => ?_)
          have wv23 : v23 = (fi E_17 a0 2) := ev23.symm.trans rfl
          have xv23 : v23.toInt = (fi E_17 a0 2).toInt := by rw [wv23]
          refine lv_icmp_ge (tgt := 83) hx hb dX0_fewest_35 (by decide) (fun c24 => ?_) (fun c24 => ?_)
          · skip
            have tc24 := nu_le c24
            refine lv_aload_n hx hb dX0_fewest_83 rfl (lv_at hl_29 0 rfl) ?_
            refine tr_getr Z.1 Z.2.2.2.1 S_29.1 S_29.2 ha0 ta0 rfl rfl (fun _ h => List.mem_cons_of_mem _ (List.mem_append_right _ h)) 1 (by decide) rfl (hts _ (List.mem_of_getElem? (i := 3) rfl)) dX0_fewest_84 (fun q25 eq25 hq25 tq25 => ?_)
            have tq25 : τ q25 = (31, 0) := tq25
            have uq25 : qu = q25 := S_29.2.2.2.2 _ hqu _ hq25 (tqu.trans tq25.symm) (by rw [tqu]; rfl)
            subst uq25
            refine lv_iload_n hx hb dX0_fewest_87 rfl (lv_at hl_29 3 rfl) ?_
            refine lv_iload hx hb dX0_fewest_88 (lv_at hl_29 4 rfl) ?_
            have b26 : usedB x3_17.toNatClampNeg = (-2147483648, 2147483647) := ub_o (by show x3_17.toInt.toNat ≠ 0; omega)
            have b26 : (usedB x3_17.toNatClampNeg).1 ≤ x4_29.toInt ∧ x4_29.toInt ≤ (usedB x3_17.toNatClampNeg).2 := by rw [b26]; have := fb_rng x4_29; show -2147483648 ≤ x4_29.toInt ∧ x4_29.toInt ≤ 2147483647; omega
            refine tr_iastx Z.1 Z.2.2.2.1 S_29.1 S_29.2 hqu tqu rfl (by omega) (by omega) b26.1 b26.2 dX0_fewest_90 (fun E26 H27 k28 W26 I26 P26 => ?_)
            have S26 : Now D TB cy (va_A (va_pl L E) sz) s L τ E26 H27 k28 := ⟨W26, I26⟩
            have F26 : Fr L τ (inW [(31, 0)]) E E26 := Fr.set F_17 P26 tqu rfl
            obtain ⟨v29, ev29⟩ : ∃ y : Int32, x3_17 + Int32.ofInt (1) = y := ⟨_, rfl⟩
            have tv29 : v29.toInt = x3_17.toInt + (1) := by rw [← ev29]; exact (fb_addI (by rw [show (Int32.ofInt (1)).toInt = 1 from by decide +kernel]; omega) (by rw [show (Int32.ofInt (1)).toInt = 1 from by decide +kernel]; omega)).trans (by rw [show (Int32.ofInt (1)).toInt = 1 from by decide +kernel])
            refine lv_iinc (v := v29) (lv' := [(3, .int v29), (0, .ref a0), (1, .int a1), (2, .int x2_17), (4, .int x4_29), (5, .int x5_29)]) hx hb dX0_fewest_91 hl_29 (k := 3) rfl ev29 (by decide) rfl (fun l30 hl31 => ?_)
            refine lv_goto (tgt := 17) hx hb dX0_fewest_94 (by decide) ?_
            exact ih_17 x2_17 v29 E26 H27 k28 l30 S26 F26 (by have := fb_rng x4_29; omega) (by have := fb_rng x4_29; omega) (by have := fb_rng x4_29; omega) (by have := fb_rng x4_29; omega) (by have := fb_rng x4_29; omega) (by have := fb_rng x4_29; omega) z7 (by rw [show v29.toInt.toNat = x3_17.toInt.toNat + 1 from by omega]; exact tab_step (f := fun t => (ai E_17 qu t).toInt) (g := fun t => (ai E26 qu t).toInt) z8 (z20.trans (by rw [show x5_29.toInt.toNat = (fi E a0 2).toInt.toNat from by omega])) (by omega) (nu_eq P26.2.1) (fun j hj => nu_eq (P26.2.2 j hj))) (by have := fb_rng x4_29; omega) (by rw [((fi_set (k := 2) P26 (ne_ro ta0 tqu (by decide))).trans ev23)]; have := fb_rng x4_29; omega) (by omega) (lv_sub hl31 [1, 2, 3, 0] rfl)
          · skip
            have tc24 := nu_nle c24
            refine lv_iload_n hx hb dX0_fewest_38 rfl (lv_at hl_29 3 rfl) ?_
            refine lv_iload hx hb dX0_fewest_39 (lv_at hl_29 5 rfl) ?_
            refine lv_ishr hx hb dX0_fewest_41 ?_
            refine lv_topi (fun v32 ev32 => ?_)
            obtain ⟨v33, ev33, tv33⟩ : ∃ v : Int32, Int32.ofInt (1) = v ∧ v.toInt = 1 := ⟨_, rfl, by decide +kernel⟩
            refine lv_iconst hx hb dX0_fewest_42 ev33 ?_
            refine lv_iand hx hb dX0_fewest_43 ?_
            refine lv_topi (fun v34 ev34 => ?_)
            have tv34 := nu_bitO ev32 ev34 (by omega) (by omega) (by omega) (by omega) (by omega)
            obtain ⟨v35, ev35, tv35⟩ : ∃ v : Int32, Int32.ofInt (1) = v ∧ v.toInt = 1 := ⟨_, rfl, by decide +kernel⟩
            refine lv_iconst hx hb dX0_fewest_44 ev35 ?_
            refine lv_icmp_ne (tgt := 77) hx hb dX0_fewest_45 (by decide) (fun c36 => ?_) (fun c36 => ?_)
            · skip
              have tc36 := nu_ne c36
              obtain ⟨v37, ev37⟩ : ∃ y : Int32, x5_29 + Int32.ofInt (1) = y := ⟨_, rfl⟩
              have tv37 : v37.toInt = x5_29.toInt + (1) := by rw [← ev37]; exact (fb_addI (by rw [show (Int32.ofInt (1)).toInt = 1 from by decide +kernel]; omega) (by rw [show (Int32.ofInt (1)).toInt = 1 from by decide +kernel]; omega)).trans (by rw [show (Int32.ofInt (1)).toInt = 1 from by decide +kernel])
              refine lv_iinc (v := v37) (lv' := [(5, .int v37), (0, .ref a0), (1, .int a1), (2, .int x2_17), (3, .int x3_17), (4, .int x4_29)]) hx hb dX0_fewest_77 hl_29 (k := 5) rfl ev37 (by decide) rfl (fun l38 hl39 => ?_)
              refine lv_goto (tgt := 29) hx hb dX0_fewest_80 (by decide) ?_
              exact ih_29 x4_29 v37 H_29 k_29 l38 S_29 (by have := fb_rng x4_29; omega) (by have := fb_rng x4_29; omega) (by have := fb_rng x4_29; omega) (by have := fb_rng x4_29; omega) (by have := fb_rng x4_29; omega) (by have := fb_rng x4_29; omega) (by have := fb_rng x4_29; omega) (by have := fb_rng x4_29; omega) (by have := fb_rng x4_29; omega) (fold_no z20 (by omega) (by omega) (bit_no tv34 (by omega))) (by have := fb_rng x4_29; omega) (by have := fb_rng x4_29; omega) (by omega) (lv_sub hl39 [1, 2, 3, 4, 5, 0] rfl)
            · skip
              have tc36 := nu_eq c36
              refine lv_iload hx hb dX0_fewest_48 (lv_at hl_29 4 rfl) ?_
              refine lv_aload_n hx hb dX0_fewest_50 rfl (lv_at hl_29 0 rfl) ?_
              refine tr_getr Z.1 Z.2.2.2.1 S_29.1 S_29.2 ha0 ta0 rfl rfl (fun _ h => List.mem_cons_of_mem _ (List.mem_append_right _ h)) 1 (by decide) rfl (hts _ (List.mem_of_getElem? (i := 3) rfl)) dX0_fewest_51 (fun q40 eq40 hq40 tq40 => ?_)
              have tq40 : τ q40 = (31, 0) := tq40
              have uq40 : qu = q40 := S_29.2.2.2.2 _ hqu _ hq40 (tqu.trans tq40.symm) (by rw [tqu]; rfl)
              subst uq40
              refine lv_iload_n hx hb dX0_fewest_54 rfl (lv_at hl_29 3 rfl) ?_
              obtain ⟨v41, ev41, tv41⟩ : ∃ v : Int32, Int32.ofInt (1) = v ∧ v.toInt = 1 := ⟨_, rfl, by decide +kernel⟩
              refine lv_iconst hx hb dX0_fewest_55 ev41 ?_
              refine lv_iload hx hb dX0_fewest_56 (lv_at hl_29 5 rfl) ?_
              refine lv_ishl hx hb dX0_fewest_58 ?_
              refine lv_topi (fun v42 ev42 => ?_)
              have tv42 := nu_powS ev42 (by omega) (by omega) (by omega)
              refine lv_ixor hx hb dX0_fewest_59 ?_
              refine lv_topi (fun v43 ev43 => ?_)
              have tv43 := nu_xorP ev43 tv42.1 (by omega) (by omega) (by omega) (by omega)
              refine tr_ialdx Z.1 Z.2.2.2.1 S_29.1 S_29.2 hqu tqu rfl (by omega) (by omega) dX0_fewest_60 (fun v44 ev44 lv44 uv44 => ?_)
              have by29 : x3_17.toInt.toNat.testBit x5_29.toInt.toNat = true := bit_yes tv34 (by omega)
              have lt29 : (x3_17.toInt.toNat ^^^ 2 ^ x5_29.toInt.toNat) < x3_17.toInt.toNat := x_lt (by omega) (by omega) by29
              have u29 : tabI (fun k => (ai E qp k).toInt) a1.toInt (fi E a0 2).toInt.toNat x3_17.toInt.toNat (x3_17.toInt.toNat ^^^ 2 ^ x5_29.toInt.toNat) = v44.toInt := (z8 _ lt29).symm.trans (at_idx (f := fun t => (ai E_17 qu t).toInt) tv43.1 (nu_eq ev44))
              have b29 : 0 ≤ v44.toInt ∧ v44.toInt ≤ 240000 := by rw [← u29]; exact tabI_b2 (by omega) (by omega) hn12 hPn (by rw [← hN]; omega) lt29
              refine lv_aload_n hx hb dX0_fewest_61 rfl (lv_at hl_29 0 rfl) ?_
              refine tr_getr Z.1 Z.2.2.2.1 S_29.1 S_29.2 ha0 ta0 rfl rfl (fun _ h => List.mem_cons_of_mem _ (List.mem_append_right _ h)) 0 (by decide) rfl (hts _ (List.mem_of_getElem? (i := 4) rfl)) dX0_fewest_62 (fun q45 eq45 hq45 tq45 => ?_)
              have tq45 : τ q45 = (39, 0) := tq45
              have uq45 : qp = q45 := S_29.2.2.2.2 _ hqp _ hq45 (tqp.trans tq45.symm) (by rw [tqp]; rfl)
              subst uq45
              refine lv_iload hx hb dX0_fewest_65 (lv_at hl_29 5 rfl) ?_
              refine tr_iald Z.1 Z.2.2.2.1 S_29.1 S_29.2 hqp tqp rfl (by omega) (by omega) dX0_fewest_67 (fun v46 ev46 lv46 uv46 => ?_)
              have p29 : (fun k => (ai E qp k).toInt) x5_29.toInt.toNat = v46.toInt := by show (ai E qp x5_29.toNatClampNeg).toInt = v46.toInt; rw [← ai_cell (F_17 qp hqp (by rw [tqp]; rfl)), ev46]
              refine lv_iload_n hx hb dX0_fewest_68 rfl (lv_at hl_29 1 rfl) ?_
              refine tc_si Z.1 Z.2.2.2.1 Z.2.2.2.2.1 Z.2.2.2.2.2 S_29.1 (k_X0_cutNext_vb l D cy S_29.2 v44 (by omega) (by omega) v46 (by omega) (by omega) a1 (by omega) (by omega)) (va_cwS 3 hts gX0_fewest_X0_cutNext rfl rfl rfl (by decide +kernel) ⟨Nat.le_of_ble_eq_true rfl, Nat.le_of_ble_eq_true rfl⟩) rfl hl_29.1 rfl (Nat.le_of_ble_eq_true rfl) dX0_fewest_69 ⟨Nat.zero_le _, Nat.zero_le _⟩ (fun v50 E47 H48 k49 W47 I47 G47 p47 => ?_)
              obtain ⟨q47, p47_0, p47_1, p47_2⟩ := p47
              have q47 := q47.symm
              subst q47
              have S47 : Now D TB cy (va_A (va_pl L E) sz) s L τ E_17 H48 k49 := ⟨W47, I47⟩
              refine va_mmin hx hb (Z.1.2.2.1.trans hl_29.1.symm) Z.1.2.2.2.1 (hts _ (List.mem_of_getElem? (i := 5) rfl)) (hts _ (List.mem_of_getElem? (i := 6) rfl)) (hts _ (List.mem_of_getElem? (i := 7) rfl)) (hts _ (List.mem_of_getElem? (i := 8) rfl)) (Nat.le_of_ble_eq_true rfl) (Nat.le_of_ble_eq_true rfl) (Nat.zero_le _) (Nat.zero_le _) dX0_fewest_72 ?_
              refine lv_topi (fun v51 ev51 => ?_)
              have tv51 := nu_min ev51
              refine lv_istore (lv' := [(4, .int v51), (0, .ref a0), (1, .int a1), (2, .int x2_17), (3, .int x3_17), (5, .int x5_29)]) hx hb dX0_fewest_75 hl_29 (by decide) rfl (fun l52 hl53 => ?_)
              obtain ⟨v54, ev54⟩ : ∃ y : Int32, x5_29 + Int32.ofInt (1) = y := ⟨_, rfl⟩
              have tv54 : v54.toInt = x5_29.toInt + (1) := by rw [← ev54]; exact (fb_addI (by rw [show (Int32.ofInt (1)).toInt = 1 from by decide +kernel]; omega) (by rw [show (Int32.ofInt (1)).toInt = 1 from by decide +kernel]; omega)).trans (by rw [show (Int32.ofInt (1)).toInt = 1 from by decide +kernel])
              refine lv_iinc (v := v54) (lv' := [(5, .int v54), (4, .int v51), (0, .ref a0), (1, .int a1), (2, .int x2_17), (3, .int x3_17)]) hx hb dX0_fewest_77 hl53 (k := 5) rfl ev54 (by decide) rfl (fun l55 hl56 => ?_)
              refine lv_goto (tgt := 29) hx hb dX0_fewest_80 (by decide) ?_
              exact ih_29 v51 v54 H48 k49 l55 S47 (by omega) (by omega) (by omega) (by omega) (by omega) (by omega) (by omega) (by omega) (by omega) (fold_yes z20 (by omega) (by omega) by29 u29 p29 p47_0 (by omega)) (by omega) (by omega) (by omega) (lv_sub hl56 [2, 3, 4, 5, 1, 0] rfl)
      refine lv_iload_n hx hb dX0_fewest_17 rfl (lv_at hl_17 3 rfl) ?_
      refine lv_iload_n hx hb dX0_fewest_18 rfl (lv_at hl_17 2 rfl) ?_
      refine lv_icmp_gt (tgt := 97) hx hb dX0_fewest_19 (by decide) (fun c57 => ?_) (fun c57 => ?_)
      · skip
        have tc57 := nu_lt c57
        refine lv_aload_n hx hb dX0_fewest_97 rfl (lv_at hl_17 0 rfl) ?_
        refine tr_getr Z.1 Z.2.2.2.1 S_17.1 S_17.2 ha0 ta0 rfl rfl (fun _ h => List.mem_cons_of_mem _ (List.mem_append_right _ h)) 1 (by decide) rfl (hts _ (List.mem_of_getElem? (i := 3) rfl)) dX0_fewest_98 (fun q58 eq58 hq58 tq58 => ?_)
        have tq58 : τ q58 = (31, 0) := tq58
        have uq58 : qu = q58 := S_17.2.2.2.2 _ hqu _ hq58 (tqu.trans tq58.symm) (by rw [tqu]; rfl)
        subst uq58
        refine lv_iload_n hx hb dX0_fewest_101 rfl (lv_at hl_17 2 rfl) ?_
        refine tr_ialdx Z.1 Z.2.2.2.1 S_17.1 S_17.2 hqu tqu rfl (by omega) (by omega) dX0_fewest_102 (fun v59 ev59 lv59 uv59 => ?_)
        have s102 : x3_17.toInt.toNat = N := by omega
        have u102 : v59.toInt = tabI (fun k => (ai E qp k).toInt) a1.toInt (fi E a0 2).toInt.toNat N (N - 1) := by have q := z8 (N - 1) (by omega); rw [s102] at q; rw [← q]; exact (at_idx (f := fun t => (ai E_17 qu t).toInt) (x := x2_17) (t := N - 1) (by omega) (nu_eq ev59)).symm
        have b102 : 0 ≤ v59.toInt ∧ v59.toInt ≤ 240000 := by rw [u102]; exact tabI_b2 (by omega) (by omega) hn12 hPn (Nat.le_of_eq hN) (by omega)
        refine lv_iload_n hx hb dX0_fewest_103 rfl (lv_at hl_17 1 rfl) ?_
        refine lv_iadd hx hb dX0_fewest_104 ?_
        refine lv_topi (fun v60 ev60 => ?_)
        have tv60 := nu_add ev60 (by omega) (by omega)
        obtain ⟨v61, ev61, tv61⟩ : ∃ v : Int32, Int32.ofInt (1) = v ∧ v.toInt = 1 := ⟨_, rfl, by decide +kernel⟩
        refine lv_iconst hx hb dX0_fewest_105 ev61 ?_
        refine lv_isub hx hb dX0_fewest_106 ?_
        refine lv_topi (fun v62 ev62 => ?_)
        have tv62 := nu_sub ev62 (by omega) (by omega)
        refine lv_iload_n hx hb dX0_fewest_107 rfl (lv_at hl_17 1 rfl) ?_
        refine lv_idiv hx hb dX0_fewest_108 (fun q => by have := nu_eq0 q; omega) ?_
        refine lv_topi (fun v63 ev63 => ?_)
        have tv63 := nu_divv ev63 (by omega) (by omega)
        rw [← hQ]
        exact en_i Z S_17 F_17 (by rw [← hN, ← u102, tv63, show v62.toInt = v59.toInt + a1.toInt - 1 from by omega]) dX0_fewest_109
      · skip
        have tc57 := nu_nlt c57
        refine lv_ldc (v := (2147483647)) hx hb Z.1.2.2.2.1 (hts _ (List.mem_of_getElem? (i := 2) rfl)) dX0_fewest_22 ?_
        refine lv_topi (fun v64 ev64 => ?_)
        have tv64 := (show v64.toInt = 2147483647 by rw [ev64]; decide +kernel)
        refine lv_istore (lv' := [(4, .int v64), (0, .ref a0), (1, .int a1), (2, .int x2_17), (3, .int x3_17)]) hx hb dX0_fewest_24 hl_17 (by decide) rfl (fun l65 hl66 => ?_)
        obtain ⟨v67, ev67, tv67⟩ : ∃ v : Int32, Int32.ofInt (0) = v ∧ v.toInt = 0 := ⟨_, rfl, by decide +kernel⟩
        refine lv_iconst hx hb dX0_fewest_26 ev67 ?_
        refine lv_istore (lv' := [(5, .int v67), (4, .int v64), (0, .ref a0), (1, .int a1), (2, .int x2_17), (3, .int x3_17)]) hx hb dX0_fewest_27 hl66 (by decide) rfl (fun l68 hl69 => ?_)
        exact J29 _ v64 v67 H_17 k_17 l68 S_17 (by have := fb_rng v64; omega) (by have := fb_rng v64; omega) (by have := fb_rng v64; omega) (by have := fb_rng v64; omega) (by have := fb_rng v64; omega) (by have := fb_rng v64; omega) (by have := fb_rng v64; omega) (by have := fb_rng v64; omega) (by have := fb_rng v64; omega) (by rw [show v67.toInt.toNat = 0 from by omega]; show v64.toInt = 2147483647; omega) (by have := fb_rng v64; omega) (by have := fb_rng v64; omega) (Nat.lt_succ_self _) (lv_sub hl69 [2, 3, 4, 5, 1, 0] rfl)
  refine lv_iload_n hx hb dX0_fewest_0 rfl (lv_at hl 1 rfl) ?_
  refine lv_if_gt (tgt := 6) hx hb dX0_fewest_1 (by decide) (fun c70 => ?_) (fun c70 => ?_)
  · skip
    have tc70 := nu_lt c70
    have uc70 : (0 : Int32).toInt = 0 := rfl
    obtain ⟨v71, ev71, tv71⟩ : ∃ v : Int32, Int32.ofInt (1) = v ∧ v.toInt = 1 := ⟨_, rfl, by decide +kernel⟩
    refine lv_iconst hx hb dX0_fewest_6 ev71 ?_
    refine lv_aload_n hx hb dX0_fewest_7 rfl (lv_at hl 0 rfl) ?_
    refine tr_geti Z.1 Z.2.2.2.1 S0.1 S0.2 ha0 ta0 rfl rfl (fun _ h => List.mem_cons_of_mem _ (List.mem_append_right _ h)) 2 (by decide) rfl (hts _ (List.mem_of_getElem? (i := 1) rfl)) dX0_fewest_8 (fun v72 ev72 lv72 uv72 => ?_)
    have wv72 : v72 = (fi E a0 2) := ev72.symm.trans rfl
    have xv72 : v72.toInt = (fi E a0 2).toInt := by rw [wv72]
    refine lv_ishl hx hb dX0_fewest_11 ?_
    refine lv_topi (fun v73 ev73 => ?_)
    have tv73 := nu_powS ev73 (by omega) (by omega) (by omega)
    have nv73 : v73.toInt = (N : Int) := by have q := tv73.1; rw [show v72.toInt.toNat = (fi E a0 2).toInt.toNat from by omega, ← hN] at q; exact q
    obtain ⟨v74, ev74, tv74⟩ : ∃ v : Int32, Int32.ofInt (1) = v ∧ v.toInt = 1 := ⟨_, rfl, by decide +kernel⟩
    refine lv_iconst hx hb dX0_fewest_12 ev74 ?_
    refine lv_isub hx hb dX0_fewest_13 ?_
    refine lv_topi (fun v75 ev75 => ?_)
    have tv75 := nu_sub ev75 (by omega) (by omega)
    refine lv_istore_n (lv' := [(2, .int v75), (0, .ref a0), (1, .int a1)]) hx hb dX0_fewest_14 rfl hl (by decide) rfl (fun l76 hl77 => ?_)
    obtain ⟨v78, ev78, tv78⟩ : ∃ v : Int32, Int32.ofInt (1) = v ∧ v.toInt = 1 := ⟨_, rfl, by decide +kernel⟩
    refine lv_iconst hx hb dX0_fewest_15 ev78 ?_
    refine lv_istore_n (lv' := [(3, .int v78), (2, .int v75), (0, .ref a0), (1, .int a1)]) hx hb dX0_fewest_16 rfl hl77 (by decide) rfl (fun l79 hl80 => ?_)
    exact J17 _ v75 v78 E s.heap [] l79 S0 F0_ (by omega) (by omega) (by omega) (by omega) (by omega) (by omega) (by omega) (by rw [show v78.toInt.toNat = 1 from by omega]; exact tab_one (f := fun t => (ai E qu t).toInt) (used0 hI hqu tqu)) (by omega) (by rw [ev72]; omega) (Nat.lt_succ_self _) (lv_sub hl80 [2, 3, 1, 0] rfl)
  · skip
    have tc70 := nu_nlt c70
    have uc70 : (0 : Int32).toInt = 0 := rfl
    omega

set_option maxHeartbeats 4000000 in
set_option maxRecDepth 100000 in
theorem k_X9_boards_vb (l : Launch) (D : va_G) (cy : Nat → ClassId) {L : List Nat} {τ : Nat → Ro} {E : Ec} (hI : Inv TB cy L τ E) {a0 : Nat} (ha0 : a0 ∈ L) (ta0 : τ a0 = (0, 0)) (a1 : Int32) {qb : Nat} (hqb : qb ∈ L) (tqb : τ qb = (9, 0)) {qp : Nat} (hqp : qp ∈ L) (tqp : τ qp = (39, 0)) {qu : Nat} (hqu : qu ∈ L) (tqu : τ qu = (31, 0)) : CtI l yX9_boards wsX9_boards { frames := 2, cells := 0, slots := 0, locals := 48 } D TB cy L τ E [.ref a0, .int a1] (inW [(0, 0), (31, 0)]) (fun r E' => (AnsB (fun k => (ai E qp k).toInt) a1.toInt (fi E qb 2).toInt.toNat r.toInt)) := by
  intro sz
  refine sta (cc := cX9_boards) (maxL := 2) hI (by decide) rfl (Nat.le_of_ble_eq_true rfl) (fun p e s m args below meth c ls hsz Z S0 hl => ?_)
  have hx := Z.1.1
  have hb := Z.1.2.1
  have hts := Z.1.2.2.2.2
  have F0_ : Fr L τ (inW [(0, 0), (31, 0)]) E E := Fr.refl
  have hl : lv_has ls 2 [(0, .ref a0), (1, .int a1)] := hl
  generalize hQ : MQ below _ args s 0 0 _ = QQ
  refine lv_iload_n hx hb dX9_boards_0 rfl (lv_at hl 1 rfl) ?_
  obtain ⟨v1, ev1, tv1⟩ : ∃ v : Int32, Int32.ofInt (1) = v ∧ v.toInt = 1 := ⟨_, rfl, by decide +kernel⟩
  refine lv_iconst hx hb dX9_boards_1 ev1 ?_
  obtain ⟨v2, ev2, tv2⟩ : ∃ v : Int32, (Int16.ofInt (10000)).toInt32 = v ∧ v.toInt = 10000 := ⟨_, rfl, by decide +kernel⟩
  refine lv_sipush hx hb dX9_boards_2 ev2 ?_
  refine tc_si Z.1 Z.2.2.2.1 Z.2.2.2.2.1 Z.2.2.2.2.2 S0.1 (k_X9_within l D cy S0.2 a1 v1 v2) (va_cwS 3 hts gX9_boards_X9_within rfl rfl rfl (by decide +kernel) ⟨Nat.le_of_ble_eq_true rfl, Nat.le_of_ble_eq_true rfl⟩) rfl hl.1 rfl (Nat.le_of_ble_eq_true rfl) dX9_boards_5 ⟨Nat.zero_le _, Nat.zero_le _⟩ (fun v6 E3 H4 k5 W3 I3 G3 p3 => ?_)
  obtain ⟨q3, p3_0, p3_1, p3_2⟩ := p3
  have q3 := q3.symm
  subst q3
  have S3 : Now D TB cy (va_A (va_pl L E) sz) s L τ E H4 k5 := ⟨W3, I3⟩
  refine lv_if_ne (tgt := 17) hx hb dX9_boards_8 (by decide) (fun c7 => ?_) (fun c7 => ?_)
  · skip
    have tc7 := nu_ne c7
    have uc7 : (0 : Int32).toInt = 0 := rfl
    refine lv_aload_n hx hb dX9_boards_17 rfl (lv_at hl 0 rfl) ?_
    obtain ⟨v8, ev8, tv8⟩ : ∃ v : Int32, Int32.ofInt (0) = v ∧ v.toInt = 0 := ⟨_, rfl, by decide +kernel⟩
    refine lv_iconst hx hb dX9_boards_18 ev8 ?_
    refine tr_puti Z.1 Z.2.2.2.1 S3.1 S3.2 ha0 ta0 rfl rfl (fun _ h => List.mem_cons_of_mem _ (List.mem_append_left _ (List.mem_append_right _ h))) tyX9_ok nmX9 9 (by decide) rfl rfl rfl (hts _ (List.mem_of_getElem? (i := 1) rfl)) dX9_boards_19 (by have := fb_rng v8; omega) (by have := fb_rng v8; omega) (fun E9 H10 k11 W9 I9 P9 => ?_)
    have S9 : Now D TB cy (va_A (va_pl L E) sz) s L τ E9 H10 k11 := ⟨W9, I9⟩
    have F9 : Fr L τ (inW [(0, 0), (31, 0)]) E E9 := Fr.put F0_ P9 ta0 rfl
    refine lv_aload_n hx hb dX9_boards_22 rfl (lv_at hl 0 rfl) ?_
    refine tr_getr Z.1 Z.2.2.2.1 S9.1 S9.2 ha0 ta0 rfl rfl (fun _ h => List.mem_cons_of_mem _ (List.mem_append_left _ (List.mem_append_right _ h))) 6 (by decide) rfl (hts _ (List.mem_of_getElem? (i := 2) rfl)) dX9_boards_23 (fun q12 eq12 hq12 tq12 => ?_)
    have tq12 : τ q12 = (9, 0) := tq12
    have uq12 : qb = q12 := S9.2.2.2.2 _ hqb _ hq12 (tqb.trans tq12.symm) (by rw [tqb]; rfl)
    subst uq12
    refine tc_vi Z.1 Z.2.2.2.1 Z.2.2.2.2.1 Z.2.2.2.2.2 S9.1 S9.2 hqb tqb rfl rfl (k_X0_longest_vb l D cy S9.2 hqb tqb hqp tqp) (cwV 0 hts gX9_boards_X0_longest rfl rfl rfl (by decide +kernel) ⟨Nat.le_of_ble_eq_true rfl, Nat.le_of_ble_eq_true rfl⟩) rfl hl.1 rfl (Nat.le_of_ble_eq_true rfl) dX9_boards_26 ⟨Nat.zero_le _, Nat.zero_le _⟩ (fun v16 E13 H14 k15 W13 I13 G13 p13 => ?_)
    obtain ⟨q13, p13_0⟩ := p13
    have q13 := q13.symm
    subst q13
    have S13 : Now D TB cy (va_A (va_pl L E) sz) s L τ E9 H14 k15 := ⟨W13, I13⟩
    refine lv_iload_n hx hb dX9_boards_29 rfl (lv_at hl 1 rfl) ?_
    refine lv_icmp_le (tgt := 38) hx hb dX9_boards_30 (by decide) (fun c17 => ?_) (fun c17 => ?_)
    · skip
      have tc17 := nu_le c17
      refine lv_aload_n hx hb dX9_boards_38 rfl (lv_at hl 0 rfl) ?_
      refine tr_getr Z.1 Z.2.2.2.1 S13.1 S13.2 ha0 ta0 rfl rfl (fun _ h => List.mem_cons_of_mem _ (List.mem_append_left _ (List.mem_append_right _ h))) 6 (by decide) rfl (hts _ (List.mem_of_getElem? (i := 2) rfl)) dX9_boards_39 (fun q18 eq18 hq18 tq18 => ?_)
      have tq18 : τ q18 = (9, 0) := tq18
      have uq18 : qb = q18 := S13.2.2.2.2 _ hqb _ hq18 (tqb.trans tq18.symm) (by rw [tqb]; rfl)
      subst uq18
      refine lv_iload_n hx hb dX9_boards_42 rfl (lv_at hl 1 rfl) ?_
      refine tc_vi Z.1 Z.2.2.2.1 Z.2.2.2.2.1 Z.2.2.2.2.2 S13.1 S13.2 hqb tqb rfl rfl (k_X0_fewest_vb l D cy S13.2 hqb tqb a1 (by omega) (by omega) hqp tqp hqu tqu) (cwV 1 hts gX9_boards_X0_fewest rfl rfl rfl (by decide +kernel) ⟨Nat.le_of_ble_eq_true rfl, Nat.le_of_ble_eq_true rfl⟩) rfl hl.1 rfl (Nat.le_of_ble_eq_true rfl) dX9_boards_43 ⟨Nat.zero_le _, Nat.zero_le _⟩ (fun v22 E19 H20 k21 W19 I19 G19 p19 => ?_)
      have p19_0 := p19
      have S19 : Now D TB cy (va_A (va_pl L E) sz) s L τ E19 H20 k21 := ⟨W19, I19⟩
      have F19 : Fr L τ (inW [(0, 0), (31, 0)]) E E19 := F9.trans (G19.mono (inW_mono (by decide)))
      rw [← hQ]
      exact en_i Z S19 F19 (by have q := p13_0; rw [ai_cell (P9.1 qp (ne_ro tqp ta0 (by decide))), fi_cell (P9.1 qb (ne_ro tqb ta0 (by decide)))] at q; have q2 := p19; rw [ai_cell (P9.1 qp (ne_ro tqp ta0 (by decide))), fi_cell (P9.1 qb (ne_ro tqb ta0 (by decide)))] at q2; exact Or.inr (Or.inr ⟨⟨by omega, by omega⟩, maxI_le (P := fun k => (ai E qp k).toInt) (S := a1.toInt) _ (by omega), q2⟩)) dX9_boards_46
    · skip
      have tc17 := nu_nle c17
      obtain ⟨v23, ev23, tv23⟩ : ∃ v : Int32, (Int8.ofInt (-2)).toInt32 = v ∧ v.toInt = -2 := ⟨_, rfl, by decide +kernel⟩
      refine lv_bipush hx hb dX9_boards_33 ev23 ?_
      refine lv_goto (tgt := 46) hx hb dX9_boards_35 (by decide) ?_
      rw [← hQ]
      exact en_i Z S13 F9 (by have q := p13_0; rw [ai_cell (P9.1 qp (ne_ro tqp ta0 (by decide))), fi_cell (P9.1 qb (ne_ro tqb ta0 (by decide)))] at q; exact Or.inr (Or.inl ⟨⟨by omega, by omega⟩, maxI_lt (P := fun k => (ai E qp k).toInt) (S := a1.toInt) (by omega) _ (by omega), by omega⟩)) dX9_boards_46
  · skip
    have tc7 := nu_eq c7
    have uc7 : (0 : Int32).toInt = 0 := rfl
    refine lv_aload_n hx hb dX9_boards_11 rfl (lv_at hl 0 rfl) ?_
    obtain ⟨v24, ev24, tv24⟩ : ∃ v : Int32, Int32.ofInt (1) = v ∧ v.toInt = 1 := ⟨_, rfl, by decide +kernel⟩
    refine lv_iconst hx hb dX9_boards_12 ev24 ?_
    refine tc_vi Z.1 Z.2.2.2.1 Z.2.2.2.2.1 Z.2.2.2.2.2 S3.1 S3.2 ha0 ta0 rfl rfl (k_X9_refuse l D cy S3.2 ha0 ta0 v24) (cwV 1 hts gX9_boards_X9_refuse rfl rfl rfl (by decide +kernel) ⟨Nat.le_of_ble_eq_true rfl, Nat.le_of_ble_eq_true rfl⟩) rfl hl.1 rfl (Nat.le_of_ble_eq_true rfl) dX9_boards_13 ⟨Nat.zero_le _, Nat.zero_le _⟩ (fun v28 E25 H26 k27 W25 I25 G25 p25 => ?_)
    obtain ⟨p25_0, p25_1⟩ := p25
    have S25 : Now D TB cy (va_A (va_pl L E) sz) s L τ E25 H26 k27 := ⟨W25, I25⟩
    have F25 : Fr L τ (inW [(0, 0), (31, 0)]) E E25 := F0_.trans (G25.mono (inW_mono (by decide)))
    rw [← hQ]
    exact en_i Z S25 F25 (Or.inl ⟨by omega, by omega⟩) dX9_boards_16

set_option maxHeartbeats 4000000 in
set_option maxRecDepth 100000 in
theorem k_X10_boards_vb (l : Launch) (D : va_G) (cy : Nat → ClassId) {L : List Nat} {τ : Nat → Ro} {E : Ec} (hI : Inv TB cy L τ E) {a0 : Nat} (ha0 : a0 ∈ L) (ta0 : τ a0 = (11, 0)) (a1 : Int32) {qk : Nat} (hqk : qk ∈ L) (tqk : τ qk = (83, 0)) {qo : Nat} (hqo : qo ∈ L) (tqo : τ qo = (84, 0)) {qf : Nat} (hqf : qf ∈ L) (tqf : τ qf = (85, 0)) : CtI l yX10_boards wsX10_boards { frames := 1, cells := 0, slots := 0, locals := 23 } D TB cy L τ E [.ref a0, .int a1] (inW [(11, 0), (84, 0), (85, 0)]) (fun r E' => (AnsB (fun k => (ai E qk k).toInt) a1.toInt (fi E a0 45).toInt.toNat r.toInt) ∧ (∀ k : Nat, k ∉ ([3, 4, 6] : List Nat) → fi E' a0 k = fi E a0 k)) := by
  intro sz
  refine sta (cc := cX10_boards) (maxL := 8) hI (by decide) rfl (Nat.le_of_ble_eq_true rfl) (fun p e s m args below meth c ls hsz Z S0 hl => ?_)
  have hx := Z.1.1
  have hb := Z.1.2.1
  have hts := Z.1.2.2.2.2
  have F0_ : Fr L τ (inW [(11, 0), (84, 0), (85, 0)]) E E := Fr.refl
  have hl : lv_has ls 8 [(0, .ref a0), (1, .int a1)] := hl
  generalize hQ : MQ below _ args s 0 0 _ = QQ
  have kz_a0_45 := fi_rng (k := 45) hI ha0 ta0 rfl rfl
  obtain ⟨N, hN⟩ : ∃ N : Nat, N = 2 ^ (fi E a0 45).toInt.toNat := ⟨_, rfl⟩
  have hn12 : (fi E a0 45).toInt.toNat ≤ 12 := by omega
  have hN1 : 1 ≤ N := by rw [hN]; exact Nat.one_le_two_pow
  have hN2 : N ≤ 4096 := by rw [hN]; exact Nat.pow_le_pow_right (by decide) hn12
  have hPr : ∀ k : Nat, k < 12 → 0 ≤ (ai E qk k).toInt ∧ (ai E qk k).toInt ≤ 10000 := ai_bnd (j := 0) (n := 12) (w := fun _ => (0, 10000)) hI hqk tqk rfl
  have hPn : ∀ k : Nat, k < (fi E a0 45).toInt.toNat → 0 ≤ (fun k => (ai E qk k).toInt) k ∧ (fun k => (ai E qk k).toInt) k ≤ 10000 := fun k hk => hPr k (by omega)
  have J72 : ∀ (n : Nat) (x2_72 : Int32) (E_72 : Ec) (H_72 : Heap) (k_72 : List Loc) (l_72 : Array Slot), Now D TB cy (va_A (va_pl L E) sz) s L τ E_72 H_72 k_72 → Fr L τ (inW [(11, 0), (84, 0), (85, 0)]) E E_72 → (1 ≤ a1.toInt) → (a1.toInt ≤ 10000) → (1 ≤ x2_72.toInt) → (x2_72.toInt ≤ 4096) → (RowsI (fun k => (ai E qk k).toInt) a1.toInt (fi E a0 45).toInt.toNat (fun t => (ai E_72 qo t).toInt) (fun t => (ai E_72 qf t).toInt) x2_72.toInt.toNat) → (x2_72.toInt ≤ (N : Int)) → (∀ j : Nat, j < (fi E a0 45).toInt.toNat → (ai E qk j).toInt ≤ a1.toInt) → (∀ k : Nat, k ∉ ([3, 4, 6] : List Nat) → fi E_72 a0 k = fi E a0 k) → (0 ≤ (fi E_72 a0 45).toInt ∧ (fi E_72 a0 45).toInt ≤ 12 ∧ (fi E_72 a0 45).toInt = (fi E a0 45).toInt) → (4096 - x2_72.toInt).toNat < n → lv_has l_72 8 [(0, .ref a0), (1, .int a1), (2, .int x2_72)] → W p l e { frames := 1, cells := 0, slots := 0, locals := 23 } s m args below meth c H_72 k_72 0 0 QQ (F0 m 72 l_72 []) := by
    intro n
    induction n with
    | zero => intro x2_72 E_72 H_72 k_72 l_72 S_72 F_72 z1 z2 z3 z4 z5 z6 z7 z8 z9 hm hl_72; exact absurd hm (Nat.not_lt_zero _)
    | succ n ih =>
      intro x2_72 E_72 H_72 k_72 l_72 S_72 F_72 z1 z2 z3 z4 z5 z6 z7 z8 z9 hm hl_72
      have ih_72 := ih
      have J99 : ∀ (n : Nat) (x3_99 : Int32) (E_99 : Ec) (H_99 : Heap) (k_99 : List Loc) (l_99 : Array Slot), Now D TB cy (va_A (va_pl L E) sz) s L τ E_99 H_99 k_99 → Fr L τ (inW [(11, 0), (84, 0), (85, 0)]) E E_99 → (1 ≤ a1.toInt) → (a1.toInt ≤ 10000) → (1 ≤ x2_72.toInt) → (x2_72.toInt ≤ 4095) → (0 ≤ x3_99.toInt) → (x3_99.toInt ≤ 12) → (StI a1.toInt (foldI (fun k => (ai E qk k).toInt) a1.toInt (tabI (fun k => (ai E qk k).toInt) a1.toInt (fi E a0 45).toInt.toNat x2_72.toInt.toNat) x2_72.toInt.toNat x3_99.toInt.toNat) (ai E_99 qo x2_72.toInt.toNat).toInt (ai E_99 qf x2_72.toInt.toNat).toInt (cntI x2_72.toInt.toNat (fi E a0 45).toInt.toNat)) → (RowsI (fun k => (ai E qk k).toInt) a1.toInt (fi E a0 45).toInt.toNat (fun t => (ai E_99 qo t).toInt) (fun t => (ai E_99 qf t).toInt) x2_72.toInt.toNat) → (x3_99.toInt ≤ (fi E a0 45).toInt) → (x2_72.toInt < (N : Int)) → (∀ k : Nat, k ∉ ([3, 4, 6] : List Nat) → fi E_99 a0 k = fi E a0 k) → (0 ≤ (fi E_99 a0 45).toInt ∧ (fi E_99 a0 45).toInt ≤ 12 ∧ (fi E_99 a0 45).toInt = (fi E a0 45).toInt) → (12 - x3_99.toInt).toNat < n → lv_has l_99 8 [(0, .ref a0), (1, .int a1), (2, .int x2_72), (3, .int x3_99)] → W p l e { frames := 1, cells := 0, slots := 0, locals := 23 } s m args below meth c H_99 k_99 0 0 QQ (F0 m 99 l_99 []) := by
        intro n
        induction n with
        | zero => intro x3_99 E_99 H_99 k_99 l_99 S_99 F_99 z10 z11 z12 z13 z14 z15 z16 z17 z18 z19 z20 z21 hm hl_99; exact absurd hm (Nat.not_lt_zero _)
        | succ n ih =>
          intro x3_99 E_99 H_99 k_99 l_99 S_99 F_99 z10 z11 z12 z13 z14 z15 z16 z17 z18 z19 z20 z21 hm hl_99
          have ih_99 := ih
          refine lv_iload_n hx hb dX10_boards_99 rfl (lv_at hl_99 3 rfl) ?_
          refine lv_aload_n hx hb dX10_boards_100 rfl (lv_at hl_99 0 rfl) ?_
          refine tr_geti Z.1 Z.2.2.2.1 S_99.1 S_99.2 ha0 ta0 rfl rfl (fun _ h => List.mem_cons_of_mem _ (List.mem_append_right _ h)) 45 (by decide) rfl (hts _ (List.mem_of_getElem? (i := 2) rfl)) dX10_boards_101 (fun v22 ev22 lv22 uv22 => ?_)
          have wv22 : v22 = (fi E_99 a0 45) := ev22.symm.trans rfl
          have xv22 : v22.toInt = (fi E_99 a0 45).toInt := by rw [wv22]
          refine lv_icmp_ge (tgt := 264) hx hb dX10_boards_104 (by decide) (fun c23 => ?_) (fun c23 => ?_)
          · skip
            have tc23 := nu_le c23
            obtain ⟨v24, ev24⟩ : ∃ y : Int32, x2_72 + Int32.ofInt (1) = y := ⟨_, rfl⟩
            have tv24 : v24.toInt = x2_72.toInt + (1) := by rw [← ev24]; exact (fb_addI (by rw [show (Int32.ofInt (1)).toInt = 1 from by decide +kernel]; omega) (by rw [show (Int32.ofInt (1)).toInt = 1 from by decide +kernel]; omega)).trans (by rw [show (Int32.ofInt (1)).toInt = 1 from by decide +kernel])
            refine lv_iinc (v := v24) (lv' := [(2, .int v24), (0, .ref a0), (1, .int a1), (3, .int x3_99)]) hx hb dX10_boards_264 hl_99 (k := 2) rfl ev24 (by decide) rfl (fun l25 hl26 => ?_)
            refine lv_goto (tgt := 72) hx hb dX10_boards_267 (by decide) ?_
            exact ih_72 v24 E_99 H_99 k_99 l25 S_99 F_99 (by omega) (by omega) (by omega) (by omega) (by rw [show v24.toInt.toNat = x2_72.toInt.toNat + 1 from by omega]; exact RowsI.next z17 (by omega) hn12 (by rw [← hN]; omega) (by omega) (fun k hk => ⟨(hPn k hk).1, z7 k hk⟩) (by have q := z16; rw [show x3_99.toInt.toNat = (fi E a0 45).toInt.toNat from by omega] at q; exact q) (fun t _ => ⟨rfl, rfl⟩)) (by omega) z7 (fun k hk => (z20 k hk)) (by rw [ev22]; omega) (by omega) (lv_sub hl26 [1, 2, 0] rfl)
          · skip
            have tc23 := nu_nle c23
            refine lv_iload_n hx hb dX10_boards_107 rfl (lv_at hl_99 2 rfl) ?_
            refine lv_iload_n hx hb dX10_boards_108 rfl (lv_at hl_99 3 rfl) ?_
            refine lv_ishr hx hb dX10_boards_109 ?_
            refine lv_topi (fun v27 ev27 => ?_)
            obtain ⟨v28, ev28, tv28⟩ : ∃ v : Int32, Int32.ofInt (1) = v ∧ v.toInt = 1 := ⟨_, rfl, by decide +kernel⟩
            refine lv_iconst hx hb dX10_boards_110 ev28 ?_
            refine lv_iand hx hb dX10_boards_111 ?_
            refine lv_topi (fun v29 ev29 => ?_)
            have tv29 := nu_bitO ev27 ev29 (by omega) (by omega) (by omega) (by omega) (by omega)
            refine lv_if_ne (tgt := 118) hx hb dX10_boards_112 (by decide) (fun c30 => ?_) (fun c30 => ?_)
            · skip
              have tc30 := nu_ne c30
              have uc30 : (0 : Int32).toInt = 0 := rfl
              refine lv_iload_n hx hb dX10_boards_118 rfl (lv_at hl_99 2 rfl) ?_
              obtain ⟨v31, ev31, tv31⟩ : ∃ v : Int32, Int32.ofInt (1) = v ∧ v.toInt = 1 := ⟨_, rfl, by decide +kernel⟩
              refine lv_iconst hx hb dX10_boards_119 ev31 ?_
              refine lv_iload_n hx hb dX10_boards_120 rfl (lv_at hl_99 3 rfl) ?_
              refine lv_ishl hx hb dX10_boards_121 ?_
              refine lv_topi (fun v32 ev32 => ?_)
              have tv32 := nu_powS ev32 (by omega) (by omega) (by omega)
              refine lv_ixor hx hb dX10_boards_122 ?_
              refine lv_topi (fun v33 ev33 => ?_)
              have tv33 := nu_xorP ev33 tv32.1 (by omega) (by omega) (by omega) (by omega)
              refine lv_istore (lv' := [(4, .int v33), (0, .ref a0), (1, .int a1), (2, .int x2_72), (3, .int x3_99)]) hx hb dX10_boards_123 hl_99 (by decide) rfl (fun l34 hl35 => ?_)
              refine lv_aload_n hx hb dX10_boards_125 rfl (lv_at hl35 1 rfl) ?_
              refine tr_getr Z.1 Z.2.2.2.1 S_99.1 S_99.2 ha0 ta0 rfl rfl (fun _ h => List.mem_cons_of_mem _ (List.mem_append_right _ h)) 44 (by decide) rfl (hts _ (List.mem_of_getElem? (i := 5) rfl)) dX10_boards_126 (fun q36 eq36 hq36 tq36 => ?_)
              have tq36 : τ q36 = (85, 0) := tq36
              have uq36 : qf = q36 := S_99.2.2.2.2 _ hqf _ hq36 (tqf.trans tq36.symm) (by rw [tqf]; rfl)
              subst uq36
              refine lv_iload hx hb dX10_boards_129 (lv_at hl35 0 rfl) ?_
              refine tr_iald Z.1 Z.2.2.2.1 S_99.1 S_99.2 hqf tqf rfl (by omega) (by omega) dX10_boards_131 (fun v37 ev37 lv37 uv37 => ?_)
              have by99 : x2_72.toInt.toNat.testBit x3_99.toInt.toNat = true := bit_yes0 tv29 (by omega)
              obtain ⟨⟨-, g131a, g131b⟩, c131a, c131b⟩ := z17 _ (x_lt (s := x2_72.toInt.toNat) (k := x3_99.toInt.toNat) (by omega) (by omega) by99)
              have g131a : 1 ≤ (ai E_99 qf (x2_72.toInt.toNat ^^^ 2 ^ x3_99.toInt.toNat)).toInt := g131a
              have g131b : (ai E_99 qf (x2_72.toInt.toNat ^^^ 2 ^ x3_99.toInt.toNat)).toInt ≤ a1.toInt := g131b
              have c131a : 0 ≤ (ai E_99 qo (x2_72.toInt.toNat ^^^ 2 ^ x3_99.toInt.toNat)).toInt := c131a
              have c131b : (ai E_99 qo (x2_72.toInt.toNat ^^^ 2 ^ x3_99.toInt.toNat)).toInt ≤ cntI (x2_72.toInt.toNat ^^^ 2 ^ x3_99.toInt.toNat) (fi E a0 45).toInt.toNat := c131b
              have c131c := (cntI_le (x2_72.toInt.toNat ^^^ 2 ^ x3_99.toInt.toNat) (fi E a0 45).toInt.toNat).2
              have f131 : (ai E_99 qf (x2_72.toInt.toNat ^^^ 2 ^ x3_99.toInt.toNat)).toInt = v37.toInt := at_idx (f := (fun t => (ai E_99 qf t).toInt)) tv33.1 (nu_eq ev37)
              have l131 : 1 ≤ v37.toInt ∧ v37.toInt ≤ 10000 := by omega
              refine lv_aload_n hx hb dX10_boards_132 rfl (lv_at hl35 1 rfl) ?_
              refine tr_getr Z.1 Z.2.2.2.1 S_99.1 S_99.2 ha0 ta0 rfl rfl (fun _ h => List.mem_cons_of_mem _ (List.mem_append_right _ h)) 42 (by decide) rfl (hts _ (List.mem_of_getElem? (i := 3) rfl)) dX10_boards_133 (fun q38 eq38 hq38 tq38 => ?_)
              have tq38 : τ q38 = (83, 0) := tq38
              have uq38 : qk = q38 := S_99.2.2.2.2 _ hqk _ hq38 (tqk.trans tq38.symm) (by rw [tqk]; rfl)
              subst uq38
              refine lv_iload_n hx hb dX10_boards_136 rfl (lv_at hl35 4 rfl) ?_
              refine tr_iald Z.1 Z.2.2.2.1 S_99.1 S_99.2 hqk tqk rfl (by omega) (by omega) dX10_boards_137 (fun v39 ev39 lv39 uv39 => ?_)
              have f137 : (fun k => (ai E qk k).toInt) x3_99.toInt.toNat = v39.toInt := by show (ai E qk x3_99.toNatClampNeg).toInt = v39.toInt; rw [← ai_cell (F_99 qk hqk (by rw [tqk]; rfl)), ev39]
              refine lv_iadd hx hb dX10_boards_138 ?_
              refine lv_topi (fun v40 ev40 => ?_)
              have tv40 := nu_add ev40 (by omega) (by omega)
              refine lv_iload_n hx hb dX10_boards_139 rfl (lv_at hl35 2 rfl) ?_
              refine lv_icmp_gt (tgt := 147) hx hb dX10_boards_140 (by decide) (fun c41 => ?_) (fun c41 => ?_)
              · skip
                have tc41 := nu_lt c41
                obtain ⟨v42, ev42, tv42⟩ : ∃ v : Int32, Int32.ofInt (0) = v ∧ v.toInt = 0 := ⟨_, rfl, by decide +kernel⟩
                refine lv_iconst hx hb dX10_boards_147 ev42 ?_
                refine lv_istore (lv' := [(5, .int v42), (4, .int v33), (0, .ref a0), (1, .int a1), (2, .int x2_72), (3, .int x3_99)]) hx hb dX10_boards_148 hl35 (by decide) rfl (fun l43 hl44 => ?_)
                refine lv_iload hx hb dX10_boards_150 (lv_at hl44 0 rfl) ?_
                refine lv_if_eq (tgt := 165) hx hb dX10_boards_152 (by decide) (fun c45 => ?_) (fun c45 => ?_)
                · skip
                  have tc45 := nu_eq c45
                  have uc45 : (0 : Int32).toInt = 0 := rfl
                  refine lv_aload_n hx hb dX10_boards_165 rfl (lv_at hl44 2 rfl) ?_
                  refine tr_getr Z.1 Z.2.2.2.1 S_99.1 S_99.2 ha0 ta0 rfl rfl (fun _ h => List.mem_cons_of_mem _ (List.mem_append_right _ h)) 43 (by decide) rfl (hts _ (List.mem_of_getElem? (i := 4) rfl)) dX10_boards_166 (fun q46 eq46 hq46 tq46 => ?_)
                  have tq46 : τ q46 = (84, 0) := tq46
                  have uq46 : qo = q46 := S_99.2.2.2.2 _ hqo _ hq46 (tqo.trans tq46.symm) (by rw [tqo]; rfl)
                  subst uq46
                  refine lv_iload hx hb dX10_boards_169 (lv_at hl44 1 rfl) ?_
                  refine tr_iald Z.1 Z.2.2.2.1 S_99.1 S_99.2 hqo tqo rfl (by omega) (by omega) dX10_boards_171 (fun v47 ev47 lv47 uv47 => ?_)
                  have fv47 : (ai E_99 qo (x2_72.toInt.toNat ^^^ 2 ^ x3_99.toInt.toNat)).toInt = v47.toInt := at_idx (f := (fun t => (ai E_99 qo t).toInt)) tv33.1 (nu_eq ev47)
                  have lv47 : 0 ≤ v47.toInt ∧ v47.toInt ≤ 12 := by omega
                  obtain ⟨v48, ev48, tv48⟩ : ∃ v : Int32, Int32.ofInt (1) = v ∧ v.toInt = 1 := ⟨_, rfl, by decide +kernel⟩
                  refine lv_iconst hx hb dX10_boards_172 ev48 ?_
                  refine lv_iadd hx hb dX10_boards_173 ?_
                  refine lv_topi (fun v49 ev49 => ?_)
                  have tv49 := nu_add ev49 (by omega) (by omega)
                  refine lv_istore (lv' := [(6, .int v49), (5, .int v42), (4, .int v33), (0, .ref a0), (1, .int a1), (2, .int x2_72), (3, .int x3_99)]) hx hb dX10_boards_174 hl44 (by decide) rfl (fun l50 hl51 => ?_)
                  refine lv_iload hx hb dX10_boards_176 (lv_at hl51 1 rfl) ?_
                  refine lv_if_eq (tgt := 198) hx hb dX10_boards_178 (by decide) (fun c52 => ?_) (fun c52 => ?_)
                  · skip
                    have tc52 := nu_eq c52
                    have uc52 : (0 : Int32).toInt = 0 := rfl
                    refine lv_aload_n hx hb dX10_boards_198 rfl (lv_at hl51 3 rfl) ?_
                    refine tr_getr Z.1 Z.2.2.2.1 S_99.1 S_99.2 ha0 ta0 rfl rfl (fun _ h => List.mem_cons_of_mem _ (List.mem_append_right _ h)) 42 (by decide) rfl (hts _ (List.mem_of_getElem? (i := 3) rfl)) dX10_boards_199 (fun q53 eq53 hq53 tq53 => ?_)
                    have tq53 : τ q53 = (83, 0) := tq53
                    have uq53 : qk = q53 := S_99.2.2.2.2 _ hqk _ hq53 (tqk.trans tq53.symm) (by rw [tqk]; rfl)
                    subst uq53
                    refine lv_iload_n hx hb dX10_boards_202 rfl (lv_at hl51 6 rfl) ?_
                    refine tr_iald Z.1 Z.2.2.2.1 S_99.1 S_99.2 hqk tqk rfl (by omega) (by omega) dX10_boards_203 (fun v54 ev54 lv54 uv54 => ?_)
                    have fv54 : v54.toInt = v39.toInt := nu_eq (ev54.symm.trans ev39)
                    refine lv_istore (lv' := [(7, .int v54), (6, .int v49), (5, .int v42), (4, .int v33), (0, .ref a0), (1, .int a1), (2, .int x2_72), (3, .int x3_99)]) hx hb dX10_boards_204 hl51 (by decide) rfl (fun l55 hl56 => ?_)
                    refine lv_iload hx hb dX10_boards_206 (lv_at hl56 1 rfl) ?_
                    refine lv_aload_n hx hb dX10_boards_208 rfl (lv_at hl56 4 rfl) ?_
                    refine tr_getr Z.1 Z.2.2.2.1 S_99.1 S_99.2 ha0 ta0 rfl rfl (fun _ h => List.mem_cons_of_mem _ (List.mem_append_right _ h)) 43 (by decide) rfl (hts _ (List.mem_of_getElem? (i := 4) rfl)) dX10_boards_209 (fun q57 eq57 hq57 tq57 => ?_)
                    have tq57 : τ q57 = (84, 0) := tq57
                    have uq57 : qo = q57 := S_99.2.2.2.2 _ hqo _ hq57 (tqo.trans tq57.symm) (by rw [tqo]; rfl)
                    subst uq57
                    refine lv_iload_n hx hb dX10_boards_212 rfl (lv_at hl56 6 rfl) ?_
                    refine tr_iald Z.1 Z.2.2.2.1 S_99.1 S_99.2 hqo tqo rfl (by omega) (by omega) dX10_boards_213 (fun v58 ev58 lv58 uv58 => ?_)
                    refine lv_icmp_gt (tgt := 258) hx hb dX10_boards_214 (by decide) (fun c59 => ?_) (fun c59 => ?_)
                    · skip
                      have tc59 := nu_lt c59
                      obtain ⟨v60, ev60⟩ : ∃ y : Int32, x3_99 + Int32.ofInt (1) = y := ⟨_, rfl⟩
                      have tv60 : v60.toInt = x3_99.toInt + (1) := by rw [← ev60]; exact (fb_addI (by rw [show (Int32.ofInt (1)).toInt = 1 from by decide +kernel]; omega) (by rw [show (Int32.ofInt (1)).toInt = 1 from by decide +kernel]; omega)).trans (by rw [show (Int32.ofInt (1)).toInt = 1 from by decide +kernel])
                      refine lv_iinc (v := v60) (lv' := [(3, .int v60), (7, .int v54), (6, .int v49), (5, .int v42), (4, .int v33), (0, .ref a0), (1, .int a1), (2, .int x2_72)]) hx hb dX10_boards_258 hl56 (k := 7) rfl ev60 (by decide) rfl (fun l61 hl62 => ?_)
                      refine lv_goto (tgt := 99) hx hb dX10_boards_261 (by decide) ?_
                      exact ih_99 v60 E_99 H_99 k_99 l61 S_99 F_99 (by omega) (by omega) (by omega) (by omega) (by omega) (by omega) ((brd_step (B := (fun t => (ai E_99 qo t).toInt)) (F := (fun t => (ai E_99 qf t).toInt)) (u := v37.toInt) (v := v47.toInt) (p := v39.toInt) (b := v49.toInt) (f := v54.toInt) (b0 := v58.toInt) z17 (by omega) hn12 (by omega) z16 (by omega) (by omega) (by omega) (hPn _ (by omega)).1 (z7 _ (by omega)) by99 f131 fv47 f137 (nu_eq ev58) rfl (Or.inr ⟨by omega, by omega, by omega⟩)).2 (by omega)) z17 (by omega) (by omega) (fun k hk => (z20 k hk)) (by rw [ev22]; omega) (by omega) (lv_sub hl62 [5, 6, 7, 0] rfl)
                    · skip
                      have tc59 := nu_nlt c59
                      refine lv_iload hx hb dX10_boards_217 (lv_at hl56 1 rfl) ?_
                      refine lv_aload_n hx hb dX10_boards_219 rfl (lv_at hl56 4 rfl) ?_
                      refine tr_getr Z.1 Z.2.2.2.1 S_99.1 S_99.2 ha0 ta0 rfl rfl (fun _ h => List.mem_cons_of_mem _ (List.mem_append_right _ h)) 43 (by decide) rfl (hts _ (List.mem_of_getElem? (i := 4) rfl)) dX10_boards_220 (fun q63 eq63 hq63 tq63 => ?_)
                      have tq63 : τ q63 = (84, 0) := tq63
                      have uq63 : qo = q63 := S_99.2.2.2.2 _ hqo _ hq63 (tqo.trans tq63.symm) (by rw [tqo]; rfl)
                      subst uq63
                      refine lv_iload_n hx hb dX10_boards_223 rfl (lv_at hl56 6 rfl) ?_
                      refine tr_iald Z.1 Z.2.2.2.1 S_99.1 S_99.2 hqo tqo rfl (by omega) (by omega) dX10_boards_224 (fun v64 ev64 lv64 uv64 => ?_)
                      have fv64 : v64.toInt = v58.toInt := nu_eq (ev64.symm.trans ev58)
                      refine lv_icmp_ne (tgt := 242) hx hb dX10_boards_225 (by decide) (fun c65 => ?_) (fun c65 => ?_)
                      · skip
                        have tc65 := nu_ne c65
                        refine lv_aload_n hx hb dX10_boards_242 rfl (lv_at hl56 4 rfl) ?_
                        refine tr_getr Z.1 Z.2.2.2.1 S_99.1 S_99.2 ha0 ta0 rfl rfl (fun _ h => List.mem_cons_of_mem _ (List.mem_append_right _ h)) 43 (by decide) rfl (hts _ (List.mem_of_getElem? (i := 4) rfl)) dX10_boards_243 (fun q66 eq66 hq66 tq66 => ?_)
                        have tq66 : τ q66 = (84, 0) := tq66
                        have uq66 : qo = q66 := S_99.2.2.2.2 _ hqo _ hq66 (tqo.trans tq66.symm) (by rw [tqo]; rfl)
                        subst uq66
                        refine lv_iload_n hx hb dX10_boards_246 rfl (lv_at hl56 6 rfl) ?_
                        refine lv_iload hx hb dX10_boards_247 (lv_at hl56 1 rfl) ?_
                        refine tr_iast Z.1 Z.2.2.2.1 S_99.1 S_99.2 hqo tqo rfl (by omega) (by omega) (by have := fb_rng v49; omega) (by have := fb_rng v49; omega) dX10_boards_249 (fun E67 H68 k69 W67 I67 P67 => ?_)
                        have S67 : Now D TB cy (va_A (va_pl L E) sz) s L τ E67 H68 k69 := ⟨W67, I67⟩
                        have F67 : Fr L τ (inW [(11, 0), (84, 0), (85, 0)]) E E67 := Fr.set F_99 P67 tqo rfl
                        refine lv_aload_n hx hb dX10_boards_250 rfl (lv_at hl56 4 rfl) ?_
                        refine tr_getr Z.1 Z.2.2.2.1 S67.1 S67.2 ha0 ta0 rfl rfl (fun _ h => List.mem_cons_of_mem _ (List.mem_append_right _ h)) 44 (by decide) rfl (hts _ (List.mem_of_getElem? (i := 5) rfl)) dX10_boards_251 (fun q70 eq70 hq70 tq70 => ?_)
                        have tq70 : τ q70 = (85, 0) := tq70
                        have uq70 : qf = q70 := S67.2.2.2.2 _ hqf _ hq70 (tqf.trans tq70.symm) (by rw [tqf]; rfl)
                        subst uq70
                        refine lv_iload_n hx hb dX10_boards_254 rfl (lv_at hl56 6 rfl) ?_
                        refine lv_iload hx hb dX10_boards_255 (lv_at hl56 0 rfl) ?_
                        refine tr_iast Z.1 Z.2.2.2.1 S67.1 S67.2 hqf tqf rfl (by omega) (by omega) (by have := fb_rng v54; omega) (by have := fb_rng v54; omega) dX10_boards_257 (fun E71 H72 k73 W71 I71 P71 => ?_)
                        have S71 : Now D TB cy (va_A (va_pl L E) sz) s L τ E71 H72 k73 := ⟨W71, I71⟩
                        have F71 : Fr L τ (inW [(11, 0), (84, 0), (85, 0)]) E E71 := Fr.set F67 P71 tqf rfl
                        obtain ⟨v74, ev74⟩ : ∃ y : Int32, x3_99 + Int32.ofInt (1) = y := ⟨_, rfl⟩
                        have tv74 : v74.toInt = x3_99.toInt + (1) := by rw [← ev74]; exact (fb_addI (by rw [show (Int32.ofInt (1)).toInt = 1 from by decide +kernel]; omega) (by rw [show (Int32.ofInt (1)).toInt = 1 from by decide +kernel]; omega)).trans (by rw [show (Int32.ofInt (1)).toInt = 1 from by decide +kernel])
                        refine lv_iinc (v := v74) (lv' := [(3, .int v74), (7, .int v54), (6, .int v49), (5, .int v42), (4, .int v33), (0, .ref a0), (1, .int a1), (2, .int x2_72)]) hx hb dX10_boards_258 hl56 (k := 7) rfl ev74 (by decide) rfl (fun l75 hl76 => ?_)
                        refine lv_goto (tgt := 99) hx hb dX10_boards_261 (by decide) ?_
                        exact ih_99 v74 E71 H72 k73 l75 S71 F71 (by omega) (by omega) (by omega) (by omega) (by omega) (by omega) (by rw [show ai E71 qo x2_72.toInt.toNat = v49 from (ai_set P71 (ne_ro tqo tqf (by decide))).trans P67.2.1, show ai E71 qf x2_72.toInt.toNat = v54 from P71.2.1]; exact (brd_step (B := (fun t => (ai E_99 qo t).toInt)) (F := (fun t => (ai E_99 qf t).toInt)) (u := v37.toInt) (v := v47.toInt) (p := v39.toInt) (b := v49.toInt) (f := v54.toInt) (b0 := v58.toInt) z17 (by omega) hn12 (by omega) z16 (by omega) (by omega) (by omega) (hPn _ (by omega)).1 (z7 _ (by omega)) by99 f131 fv47 f137 (nu_eq ev58) rfl (Or.inr ⟨by omega, by omega, by omega⟩)).1 (by omega)) (RowsI.cong z17 (fun t ht => ⟨(show (ai E71 qo t).toInt = (ai E_99 qo t).toInt from nu_eq ((ai_set P71 (ne_ro tqo tqf (by decide))).trans (P67.2.2 t (by show t ≠ x2_72.toInt.toNat; omega)))), (show (ai E71 qf t).toInt = (ai E_99 qf t).toInt from nu_eq ((P71.2.2 t (by show t ≠ x2_72.toInt.toNat; omega)).trans (ai_set P67 (ne_ro tqf tqo (by decide)))))⟩)) (by omega) (by omega) (fun k hk => ((fi_set P71 (ne_ro ta0 tqf (by decide))).trans ((fi_set P67 (ne_ro ta0 tqo (by decide))).trans (z20 k hk)))) (by rw [((fi_set (k := 45) P71 (ne_ro ta0 tqf (by decide))).trans ((fi_set (k := 45) P67 (ne_ro ta0 tqo (by decide))).trans ev22))]; omega) (by omega) (lv_sub hl76 [5, 6, 7, 0] rfl)
                      · skip
                        have tc65 := nu_eq c65
                        refine lv_iload hx hb dX10_boards_228 (lv_at hl56 0 rfl) ?_
                        refine lv_aload_n hx hb dX10_boards_230 rfl (lv_at hl56 4 rfl) ?_
                        refine tr_getr Z.1 Z.2.2.2.1 S_99.1 S_99.2 ha0 ta0 rfl rfl (fun _ h => List.mem_cons_of_mem _ (List.mem_append_right _ h)) 44 (by decide) rfl (hts _ (List.mem_of_getElem? (i := 5) rfl)) dX10_boards_231 (fun q77 eq77 hq77 tq77 => ?_)
                        have tq77 : τ q77 = (85, 0) := tq77
                        have uq77 : qf = q77 := S_99.2.2.2.2 _ hqf _ hq77 (tqf.trans tq77.symm) (by rw [tqf]; rfl)
                        subst uq77
                        refine lv_iload_n hx hb dX10_boards_234 rfl (lv_at hl56 6 rfl) ?_
                        refine tr_iald Z.1 Z.2.2.2.1 S_99.1 S_99.2 hqf tqf rfl (by omega) (by omega) dX10_boards_235 (fun v78 ev78 lv78 uv78 => ?_)
                        refine lv_icmp_lt (tgt := 242) hx hb dX10_boards_236 (by decide) (fun c79 => ?_) (fun c79 => ?_)
                        · skip
                          have tc79 := nu_lt c79
                          refine lv_aload_n hx hb dX10_boards_242 rfl (lv_at hl56 4 rfl) ?_
                          refine tr_getr Z.1 Z.2.2.2.1 S_99.1 S_99.2 ha0 ta0 rfl rfl (fun _ h => List.mem_cons_of_mem _ (List.mem_append_right _ h)) 43 (by decide) rfl (hts _ (List.mem_of_getElem? (i := 4) rfl)) dX10_boards_243 (fun q80 eq80 hq80 tq80 => ?_)
                          have tq80 : τ q80 = (84, 0) := tq80
                          have uq80 : qo = q80 := S_99.2.2.2.2 _ hqo _ hq80 (tqo.trans tq80.symm) (by rw [tqo]; rfl)
                          subst uq80
                          refine lv_iload_n hx hb dX10_boards_246 rfl (lv_at hl56 6 rfl) ?_
                          refine lv_iload hx hb dX10_boards_247 (lv_at hl56 1 rfl) ?_
                          refine tr_iast Z.1 Z.2.2.2.1 S_99.1 S_99.2 hqo tqo rfl (by omega) (by omega) (by have := fb_rng v49; omega) (by have := fb_rng v49; omega) dX10_boards_249 (fun E81 H82 k83 W81 I81 P81 => ?_)
                          have S81 : Now D TB cy (va_A (va_pl L E) sz) s L τ E81 H82 k83 := ⟨W81, I81⟩
                          have F81 : Fr L τ (inW [(11, 0), (84, 0), (85, 0)]) E E81 := Fr.set F_99 P81 tqo rfl
                          refine lv_aload_n hx hb dX10_boards_250 rfl (lv_at hl56 4 rfl) ?_
                          refine tr_getr Z.1 Z.2.2.2.1 S81.1 S81.2 ha0 ta0 rfl rfl (fun _ h => List.mem_cons_of_mem _ (List.mem_append_right _ h)) 44 (by decide) rfl (hts _ (List.mem_of_getElem? (i := 5) rfl)) dX10_boards_251 (fun q84 eq84 hq84 tq84 => ?_)
                          have tq84 : τ q84 = (85, 0) := tq84
                          have uq84 : qf = q84 := S81.2.2.2.2 _ hqf _ hq84 (tqf.trans tq84.symm) (by rw [tqf]; rfl)
                          subst uq84
                          refine lv_iload_n hx hb dX10_boards_254 rfl (lv_at hl56 6 rfl) ?_
                          refine lv_iload hx hb dX10_boards_255 (lv_at hl56 0 rfl) ?_
                          refine tr_iast Z.1 Z.2.2.2.1 S81.1 S81.2 hqf tqf rfl (by omega) (by omega) (by have := fb_rng v54; omega) (by have := fb_rng v54; omega) dX10_boards_257 (fun E85 H86 k87 W85 I85 P85 => ?_)
                          have S85 : Now D TB cy (va_A (va_pl L E) sz) s L τ E85 H86 k87 := ⟨W85, I85⟩
                          have F85 : Fr L τ (inW [(11, 0), (84, 0), (85, 0)]) E E85 := Fr.set F81 P85 tqf rfl
                          obtain ⟨v88, ev88⟩ : ∃ y : Int32, x3_99 + Int32.ofInt (1) = y := ⟨_, rfl⟩
                          have tv88 : v88.toInt = x3_99.toInt + (1) := by rw [← ev88]; exact (fb_addI (by rw [show (Int32.ofInt (1)).toInt = 1 from by decide +kernel]; omega) (by rw [show (Int32.ofInt (1)).toInt = 1 from by decide +kernel]; omega)).trans (by rw [show (Int32.ofInt (1)).toInt = 1 from by decide +kernel])
                          refine lv_iinc (v := v88) (lv' := [(3, .int v88), (7, .int v54), (6, .int v49), (5, .int v42), (4, .int v33), (0, .ref a0), (1, .int a1), (2, .int x2_72)]) hx hb dX10_boards_258 hl56 (k := 7) rfl ev88 (by decide) rfl (fun l89 hl90 => ?_)
                          refine lv_goto (tgt := 99) hx hb dX10_boards_261 (by decide) ?_
                          exact ih_99 v88 E85 H86 k87 l89 S85 F85 (by omega) (by omega) (by omega) (by omega) (by omega) (by omega) (by rw [show ai E85 qo x2_72.toInt.toNat = v49 from (ai_set P85 (ne_ro tqo tqf (by decide))).trans P81.2.1, show ai E85 qf x2_72.toInt.toNat = v54 from P85.2.1]; exact (brd_step (B := (fun t => (ai E_99 qo t).toInt)) (F := (fun t => (ai E_99 qf t).toInt)) (u := v37.toInt) (v := v47.toInt) (p := v39.toInt) (b := v49.toInt) (f := v54.toInt) (b0 := v58.toInt) z17 (by omega) hn12 (by omega) z16 (by omega) (by omega) (by omega) (hPn _ (by omega)).1 (z7 _ (by omega)) by99 f131 fv47 f137 (nu_eq ev58) (nu_eq ev78) (Or.inr ⟨by omega, by omega, by omega⟩)).1 (by omega)) (RowsI.cong z17 (fun t ht => ⟨(show (ai E85 qo t).toInt = (ai E_99 qo t).toInt from nu_eq ((ai_set P85 (ne_ro tqo tqf (by decide))).trans (P81.2.2 t (by show t ≠ x2_72.toInt.toNat; omega)))), (show (ai E85 qf t).toInt = (ai E_99 qf t).toInt from nu_eq ((P85.2.2 t (by show t ≠ x2_72.toInt.toNat; omega)).trans (ai_set P81 (ne_ro tqf tqo (by decide)))))⟩)) (by omega) (by omega) (fun k hk => ((fi_set P85 (ne_ro ta0 tqf (by decide))).trans ((fi_set P81 (ne_ro ta0 tqo (by decide))).trans (z20 k hk)))) (by rw [((fi_set (k := 45) P85 (ne_ro ta0 tqf (by decide))).trans ((fi_set (k := 45) P81 (ne_ro ta0 tqo (by decide))).trans ev22))]; omega) (by omega) (lv_sub hl90 [5, 6, 7, 0] rfl)
                        · skip
                          have tc79 := nu_nlt c79
                          refine lv_goto (tgt := 258) hx hb dX10_boards_239 (by decide) ?_
                          obtain ⟨v91, ev91⟩ : ∃ y : Int32, x3_99 + Int32.ofInt (1) = y := ⟨_, rfl⟩
                          have tv91 : v91.toInt = x3_99.toInt + (1) := by rw [← ev91]; exact (fb_addI (by rw [show (Int32.ofInt (1)).toInt = 1 from by decide +kernel]; omega) (by rw [show (Int32.ofInt (1)).toInt = 1 from by decide +kernel]; omega)).trans (by rw [show (Int32.ofInt (1)).toInt = 1 from by decide +kernel])
                          refine lv_iinc (v := v91) (lv' := [(3, .int v91), (7, .int v54), (6, .int v49), (5, .int v42), (4, .int v33), (0, .ref a0), (1, .int a1), (2, .int x2_72)]) hx hb dX10_boards_258 hl56 (k := 7) rfl ev91 (by decide) rfl (fun l92 hl93 => ?_)
                          refine lv_goto (tgt := 99) hx hb dX10_boards_261 (by decide) ?_
                          exact ih_99 v91 E_99 H_99 k_99 l92 S_99 F_99 (by omega) (by omega) (by omega) (by omega) (by omega) (by omega) ((brd_step (B := (fun t => (ai E_99 qo t).toInt)) (F := (fun t => (ai E_99 qf t).toInt)) (u := v37.toInt) (v := v47.toInt) (p := v39.toInt) (b := v49.toInt) (f := v54.toInt) (b0 := v58.toInt) z17 (by omega) hn12 (by omega) z16 (by omega) (by omega) (by omega) (hPn _ (by omega)).1 (z7 _ (by omega)) by99 f131 fv47 f137 (nu_eq ev58) (nu_eq ev78) (Or.inr ⟨by omega, by omega, by omega⟩)).2 (by omega)) z17 (by omega) (by omega) (fun k hk => (z20 k hk)) (by rw [ev22]; omega) (by omega) (lv_sub hl93 [5, 6, 7, 0] rfl)
                  · skip
                    have tc52 := nu_ne c52
                    have uc52 : (0 : Int32).toInt = 0 := rfl
                    omega
                · skip
                  have tc45 := nu_ne c45
                  have uc45 : (0 : Int32).toInt = 0 := rfl
                  omega
              · skip
                have tc41 := nu_nlt c41
                obtain ⟨v94, ev94, tv94⟩ : ∃ v : Int32, Int32.ofInt (1) = v ∧ v.toInt = 1 := ⟨_, rfl, by decide +kernel⟩
                refine lv_iconst hx hb dX10_boards_143 ev94 ?_
                refine lv_goto (tgt := 148) hx hb dX10_boards_144 (by decide) ?_
                refine lv_istore (lv' := [(5, .int v94), (4, .int v33), (0, .ref a0), (1, .int a1), (2, .int x2_72), (3, .int x3_99)]) hx hb dX10_boards_148 hl35 (by decide) rfl (fun l95 hl96 => ?_)
                refine lv_iload hx hb dX10_boards_150 (lv_at hl96 0 rfl) ?_
                refine lv_if_eq (tgt := 165) hx hb dX10_boards_152 (by decide) (fun c97 => ?_) (fun c97 => ?_)
                · skip
                  have tc97 := nu_eq c97
                  have uc97 : (0 : Int32).toInt = 0 := rfl
                  omega
                · skip
                  have tc97 := nu_ne c97
                  have uc97 : (0 : Int32).toInt = 0 := rfl
                  refine lv_aload_n hx hb dX10_boards_155 rfl (lv_at hl96 2 rfl) ?_
                  refine tr_getr Z.1 Z.2.2.2.1 S_99.1 S_99.2 ha0 ta0 rfl rfl (fun _ h => List.mem_cons_of_mem _ (List.mem_append_right _ h)) 43 (by decide) rfl (hts _ (List.mem_of_getElem? (i := 4) rfl)) dX10_boards_156 (fun q98 eq98 hq98 tq98 => ?_)
                  have tq98 : τ q98 = (84, 0) := tq98
                  have uq98 : qo = q98 := S_99.2.2.2.2 _ hqo _ hq98 (tqo.trans tq98.symm) (by rw [tqo]; rfl)
                  subst uq98
                  refine lv_iload hx hb dX10_boards_159 (lv_at hl96 1 rfl) ?_
                  refine tr_iald Z.1 Z.2.2.2.1 S_99.1 S_99.2 hqo tqo rfl (by omega) (by omega) dX10_boards_161 (fun v99 ev99 lv99 uv99 => ?_)
                  have fv99 : (ai E_99 qo (x2_72.toInt.toNat ^^^ 2 ^ x3_99.toInt.toNat)).toInt = v99.toInt := at_idx (f := (fun t => (ai E_99 qo t).toInt)) tv33.1 (nu_eq ev99)
                  have lv99 : 0 ≤ v99.toInt ∧ v99.toInt ≤ 12 := by omega
                  refine lv_goto (tgt := 174) hx hb dX10_boards_162 (by decide) ?_
                  refine lv_istore (lv' := [(6, .int v99), (5, .int v94), (4, .int v33), (0, .ref a0), (1, .int a1), (2, .int x2_72), (3, .int x3_99)]) hx hb dX10_boards_174 hl96 (by decide) rfl (fun l100 hl101 => ?_)
                  refine lv_iload hx hb dX10_boards_176 (lv_at hl101 1 rfl) ?_
                  refine lv_if_eq (tgt := 198) hx hb dX10_boards_178 (by decide) (fun c102 => ?_) (fun c102 => ?_)
                  · skip
                    have tc102 := nu_eq c102
                    have uc102 : (0 : Int32).toInt = 0 := rfl
                    omega
                  · skip
                    have tc102 := nu_ne c102
                    have uc102 : (0 : Int32).toInt = 0 := rfl
                    refine lv_aload_n hx hb dX10_boards_181 rfl (lv_at hl101 3 rfl) ?_
                    refine tr_getr Z.1 Z.2.2.2.1 S_99.1 S_99.2 ha0 ta0 rfl rfl (fun _ h => List.mem_cons_of_mem _ (List.mem_append_right _ h)) 44 (by decide) rfl (hts _ (List.mem_of_getElem? (i := 5) rfl)) dX10_boards_182 (fun q103 eq103 hq103 tq103 => ?_)
                    have tq103 : τ q103 = (85, 0) := tq103
                    have uq103 : qf = q103 := S_99.2.2.2.2 _ hqf _ hq103 (tqf.trans tq103.symm) (by rw [tqf]; rfl)
                    subst uq103
                    refine lv_iload hx hb dX10_boards_185 (lv_at hl101 2 rfl) ?_
                    refine tr_iald Z.1 Z.2.2.2.1 S_99.1 S_99.2 hqf tqf rfl (by omega) (by omega) dX10_boards_187 (fun v104 ev104 lv104 uv104 => ?_)
                    have fv104 : v104.toInt = v37.toInt := nu_eq (ev104.symm.trans ev37)
                    refine lv_aload_n hx hb dX10_boards_188 rfl (lv_at hl101 3 rfl) ?_
                    refine tr_getr Z.1 Z.2.2.2.1 S_99.1 S_99.2 ha0 ta0 rfl rfl (fun _ h => List.mem_cons_of_mem _ (List.mem_append_right _ h)) 42 (by decide) rfl (hts _ (List.mem_of_getElem? (i := 3) rfl)) dX10_boards_189 (fun q105 eq105 hq105 tq105 => ?_)
                    have tq105 : τ q105 = (83, 0) := tq105
                    have uq105 : qk = q105 := S_99.2.2.2.2 _ hqk _ hq105 (tqk.trans tq105.symm) (by rw [tqk]; rfl)
                    subst uq105
                    refine lv_iload_n hx hb dX10_boards_192 rfl (lv_at hl101 6 rfl) ?_
                    refine tr_iald Z.1 Z.2.2.2.1 S_99.1 S_99.2 hqk tqk rfl (by omega) (by omega) dX10_boards_193 (fun v106 ev106 lv106 uv106 => ?_)
                    have fv106 : v106.toInt = v39.toInt := nu_eq (ev106.symm.trans ev39)
                    refine lv_iadd hx hb dX10_boards_194 ?_
                    refine lv_topi (fun v107 ev107 => ?_)
                    have tv107 := nu_add ev107 (by omega) (by omega)
                    refine lv_goto (tgt := 204) hx hb dX10_boards_195 (by decide) ?_
                    refine lv_istore (lv' := [(7, .int v107), (6, .int v99), (5, .int v94), (4, .int v33), (0, .ref a0), (1, .int a1), (2, .int x2_72), (3, .int x3_99)]) hx hb dX10_boards_204 hl101 (by decide) rfl (fun l108 hl109 => ?_)
                    refine lv_iload hx hb dX10_boards_206 (lv_at hl109 1 rfl) ?_
                    refine lv_aload_n hx hb dX10_boards_208 rfl (lv_at hl109 4 rfl) ?_
                    refine tr_getr Z.1 Z.2.2.2.1 S_99.1 S_99.2 ha0 ta0 rfl rfl (fun _ h => List.mem_cons_of_mem _ (List.mem_append_right _ h)) 43 (by decide) rfl (hts _ (List.mem_of_getElem? (i := 4) rfl)) dX10_boards_209 (fun q110 eq110 hq110 tq110 => ?_)
                    have tq110 : τ q110 = (84, 0) := tq110
                    have uq110 : qo = q110 := S_99.2.2.2.2 _ hqo _ hq110 (tqo.trans tq110.symm) (by rw [tqo]; rfl)
                    subst uq110
                    refine lv_iload_n hx hb dX10_boards_212 rfl (lv_at hl109 6 rfl) ?_
                    refine tr_iald Z.1 Z.2.2.2.1 S_99.1 S_99.2 hqo tqo rfl (by omega) (by omega) dX10_boards_213 (fun v111 ev111 lv111 uv111 => ?_)
                    refine lv_icmp_gt (tgt := 258) hx hb dX10_boards_214 (by decide) (fun c112 => ?_) (fun c112 => ?_)
                    · skip
                      have tc112 := nu_lt c112
                      obtain ⟨v113, ev113⟩ : ∃ y : Int32, x3_99 + Int32.ofInt (1) = y := ⟨_, rfl⟩
                      have tv113 : v113.toInt = x3_99.toInt + (1) := by rw [← ev113]; exact (fb_addI (by rw [show (Int32.ofInt (1)).toInt = 1 from by decide +kernel]; omega) (by rw [show (Int32.ofInt (1)).toInt = 1 from by decide +kernel]; omega)).trans (by rw [show (Int32.ofInt (1)).toInt = 1 from by decide +kernel])
                      refine lv_iinc (v := v113) (lv' := [(3, .int v113), (7, .int v107), (6, .int v99), (5, .int v94), (4, .int v33), (0, .ref a0), (1, .int a1), (2, .int x2_72)]) hx hb dX10_boards_258 hl109 (k := 7) rfl ev113 (by decide) rfl (fun l114 hl115 => ?_)
                      refine lv_goto (tgt := 99) hx hb dX10_boards_261 (by decide) ?_
                      exact ih_99 v113 E_99 H_99 k_99 l114 S_99 F_99 (by omega) (by omega) (by omega) (by omega) (by omega) (by omega) ((brd_step (B := (fun t => (ai E_99 qo t).toInt)) (F := (fun t => (ai E_99 qf t).toInt)) (u := v37.toInt) (v := v99.toInt) (p := v39.toInt) (b := v99.toInt) (f := v107.toInt) (b0 := v111.toInt) z17 (by omega) hn12 (by omega) z16 (by omega) (by omega) (by omega) (hPn _ (by omega)).1 (z7 _ (by omega)) by99 f131 fv99 f137 (nu_eq ev111) rfl (Or.inl ⟨by omega, by omega, by omega⟩)).2 (by omega)) z17 (by omega) (by omega) (fun k hk => (z20 k hk)) (by rw [ev22]; omega) (by omega) (lv_sub hl115 [5, 6, 7, 0] rfl)
                    · skip
                      have tc112 := nu_nlt c112
                      refine lv_iload hx hb dX10_boards_217 (lv_at hl109 1 rfl) ?_
                      refine lv_aload_n hx hb dX10_boards_219 rfl (lv_at hl109 4 rfl) ?_
                      refine tr_getr Z.1 Z.2.2.2.1 S_99.1 S_99.2 ha0 ta0 rfl rfl (fun _ h => List.mem_cons_of_mem _ (List.mem_append_right _ h)) 43 (by decide) rfl (hts _ (List.mem_of_getElem? (i := 4) rfl)) dX10_boards_220 (fun q116 eq116 hq116 tq116 => ?_)
                      have tq116 : τ q116 = (84, 0) := tq116
                      have uq116 : qo = q116 := S_99.2.2.2.2 _ hqo _ hq116 (tqo.trans tq116.symm) (by rw [tqo]; rfl)
                      subst uq116
                      refine lv_iload_n hx hb dX10_boards_223 rfl (lv_at hl109 6 rfl) ?_
                      refine tr_iald Z.1 Z.2.2.2.1 S_99.1 S_99.2 hqo tqo rfl (by omega) (by omega) dX10_boards_224 (fun v117 ev117 lv117 uv117 => ?_)
                      have fv117 : v117.toInt = v111.toInt := nu_eq (ev117.symm.trans ev111)
                      refine lv_icmp_ne (tgt := 242) hx hb dX10_boards_225 (by decide) (fun c118 => ?_) (fun c118 => ?_)
                      · skip
                        have tc118 := nu_ne c118
                        refine lv_aload_n hx hb dX10_boards_242 rfl (lv_at hl109 4 rfl) ?_
                        refine tr_getr Z.1 Z.2.2.2.1 S_99.1 S_99.2 ha0 ta0 rfl rfl (fun _ h => List.mem_cons_of_mem _ (List.mem_append_right _ h)) 43 (by decide) rfl (hts _ (List.mem_of_getElem? (i := 4) rfl)) dX10_boards_243 (fun q119 eq119 hq119 tq119 => ?_)
                        have tq119 : τ q119 = (84, 0) := tq119
                        have uq119 : qo = q119 := S_99.2.2.2.2 _ hqo _ hq119 (tqo.trans tq119.symm) (by rw [tqo]; rfl)
                        subst uq119
                        refine lv_iload_n hx hb dX10_boards_246 rfl (lv_at hl109 6 rfl) ?_
                        refine lv_iload hx hb dX10_boards_247 (lv_at hl109 1 rfl) ?_
                        refine tr_iast Z.1 Z.2.2.2.1 S_99.1 S_99.2 hqo tqo rfl (by omega) (by omega) (by have := fb_rng v99; omega) (by have := fb_rng v99; omega) dX10_boards_249 (fun E120 H121 k122 W120 I120 P120 => ?_)
                        have S120 : Now D TB cy (va_A (va_pl L E) sz) s L τ E120 H121 k122 := ⟨W120, I120⟩
                        have F120 : Fr L τ (inW [(11, 0), (84, 0), (85, 0)]) E E120 := Fr.set F_99 P120 tqo rfl
                        refine lv_aload_n hx hb dX10_boards_250 rfl (lv_at hl109 4 rfl) ?_
                        refine tr_getr Z.1 Z.2.2.2.1 S120.1 S120.2 ha0 ta0 rfl rfl (fun _ h => List.mem_cons_of_mem _ (List.mem_append_right _ h)) 44 (by decide) rfl (hts _ (List.mem_of_getElem? (i := 5) rfl)) dX10_boards_251 (fun q123 eq123 hq123 tq123 => ?_)
                        have tq123 : τ q123 = (85, 0) := tq123
                        have uq123 : qf = q123 := S120.2.2.2.2 _ hqf _ hq123 (tqf.trans tq123.symm) (by rw [tqf]; rfl)
                        subst uq123
                        refine lv_iload_n hx hb dX10_boards_254 rfl (lv_at hl109 6 rfl) ?_
                        refine lv_iload hx hb dX10_boards_255 (lv_at hl109 0 rfl) ?_
                        refine tr_iast Z.1 Z.2.2.2.1 S120.1 S120.2 hqf tqf rfl (by omega) (by omega) (by have := fb_rng v107; omega) (by have := fb_rng v107; omega) dX10_boards_257 (fun E124 H125 k126 W124 I124 P124 => ?_)
                        have S124 : Now D TB cy (va_A (va_pl L E) sz) s L τ E124 H125 k126 := ⟨W124, I124⟩
                        have F124 : Fr L τ (inW [(11, 0), (84, 0), (85, 0)]) E E124 := Fr.set F120 P124 tqf rfl
                        obtain ⟨v127, ev127⟩ : ∃ y : Int32, x3_99 + Int32.ofInt (1) = y := ⟨_, rfl⟩
                        have tv127 : v127.toInt = x3_99.toInt + (1) := by rw [← ev127]; exact (fb_addI (by rw [show (Int32.ofInt (1)).toInt = 1 from by decide +kernel]; omega) (by rw [show (Int32.ofInt (1)).toInt = 1 from by decide +kernel]; omega)).trans (by rw [show (Int32.ofInt (1)).toInt = 1 from by decide +kernel])
                        refine lv_iinc (v := v127) (lv' := [(3, .int v127), (7, .int v107), (6, .int v99), (5, .int v94), (4, .int v33), (0, .ref a0), (1, .int a1), (2, .int x2_72)]) hx hb dX10_boards_258 hl109 (k := 7) rfl ev127 (by decide) rfl (fun l128 hl129 => ?_)
                        refine lv_goto (tgt := 99) hx hb dX10_boards_261 (by decide) ?_
                        exact ih_99 v127 E124 H125 k126 l128 S124 F124 (by omega) (by omega) (by omega) (by omega) (by omega) (by omega) (by rw [show ai E124 qo x2_72.toInt.toNat = v99 from (ai_set P124 (ne_ro tqo tqf (by decide))).trans P120.2.1, show ai E124 qf x2_72.toInt.toNat = v107 from P124.2.1]; exact (brd_step (B := (fun t => (ai E_99 qo t).toInt)) (F := (fun t => (ai E_99 qf t).toInt)) (u := v37.toInt) (v := v99.toInt) (p := v39.toInt) (b := v99.toInt) (f := v107.toInt) (b0 := v111.toInt) z17 (by omega) hn12 (by omega) z16 (by omega) (by omega) (by omega) (hPn _ (by omega)).1 (z7 _ (by omega)) by99 f131 fv99 f137 (nu_eq ev111) rfl (Or.inl ⟨by omega, by omega, by omega⟩)).1 (by omega)) (RowsI.cong z17 (fun t ht => ⟨(show (ai E124 qo t).toInt = (ai E_99 qo t).toInt from nu_eq ((ai_set P124 (ne_ro tqo tqf (by decide))).trans (P120.2.2 t (by show t ≠ x2_72.toInt.toNat; omega)))), (show (ai E124 qf t).toInt = (ai E_99 qf t).toInt from nu_eq ((P124.2.2 t (by show t ≠ x2_72.toInt.toNat; omega)).trans (ai_set P120 (ne_ro tqf tqo (by decide)))))⟩)) (by omega) (by omega) (fun k hk => ((fi_set P124 (ne_ro ta0 tqf (by decide))).trans ((fi_set P120 (ne_ro ta0 tqo (by decide))).trans (z20 k hk)))) (by rw [((fi_set (k := 45) P124 (ne_ro ta0 tqf (by decide))).trans ((fi_set (k := 45) P120 (ne_ro ta0 tqo (by decide))).trans ev22))]; omega) (by omega) (lv_sub hl129 [5, 6, 7, 0] rfl)
                      · skip
                        have tc118 := nu_eq c118
                        refine lv_iload hx hb dX10_boards_228 (lv_at hl109 0 rfl) ?_
                        refine lv_aload_n hx hb dX10_boards_230 rfl (lv_at hl109 4 rfl) ?_
                        refine tr_getr Z.1 Z.2.2.2.1 S_99.1 S_99.2 ha0 ta0 rfl rfl (fun _ h => List.mem_cons_of_mem _ (List.mem_append_right _ h)) 44 (by decide) rfl (hts _ (List.mem_of_getElem? (i := 5) rfl)) dX10_boards_231 (fun q130 eq130 hq130 tq130 => ?_)
                        have tq130 : τ q130 = (85, 0) := tq130
                        have uq130 : qf = q130 := S_99.2.2.2.2 _ hqf _ hq130 (tqf.trans tq130.symm) (by rw [tqf]; rfl)
                        subst uq130
                        refine lv_iload_n hx hb dX10_boards_234 rfl (lv_at hl109 6 rfl) ?_
                        refine tr_iald Z.1 Z.2.2.2.1 S_99.1 S_99.2 hqf tqf rfl (by omega) (by omega) dX10_boards_235 (fun v131 ev131 lv131 uv131 => ?_)
                        refine lv_icmp_lt (tgt := 242) hx hb dX10_boards_236 (by decide) (fun c132 => ?_) (fun c132 => ?_)
                        · skip
                          have tc132 := nu_lt c132
                          refine lv_aload_n hx hb dX10_boards_242 rfl (lv_at hl109 4 rfl) ?_
                          refine tr_getr Z.1 Z.2.2.2.1 S_99.1 S_99.2 ha0 ta0 rfl rfl (fun _ h => List.mem_cons_of_mem _ (List.mem_append_right _ h)) 43 (by decide) rfl (hts _ (List.mem_of_getElem? (i := 4) rfl)) dX10_boards_243 (fun q133 eq133 hq133 tq133 => ?_)
                          have tq133 : τ q133 = (84, 0) := tq133
                          have uq133 : qo = q133 := S_99.2.2.2.2 _ hqo _ hq133 (tqo.trans tq133.symm) (by rw [tqo]; rfl)
                          subst uq133
                          refine lv_iload_n hx hb dX10_boards_246 rfl (lv_at hl109 6 rfl) ?_
                          refine lv_iload hx hb dX10_boards_247 (lv_at hl109 1 rfl) ?_
                          refine tr_iast Z.1 Z.2.2.2.1 S_99.1 S_99.2 hqo tqo rfl (by omega) (by omega) (by have := fb_rng v99; omega) (by have := fb_rng v99; omega) dX10_boards_249 (fun E134 H135 k136 W134 I134 P134 => ?_)
                          have S134 : Now D TB cy (va_A (va_pl L E) sz) s L τ E134 H135 k136 := ⟨W134, I134⟩
                          have F134 : Fr L τ (inW [(11, 0), (84, 0), (85, 0)]) E E134 := Fr.set F_99 P134 tqo rfl
                          refine lv_aload_n hx hb dX10_boards_250 rfl (lv_at hl109 4 rfl) ?_
                          refine tr_getr Z.1 Z.2.2.2.1 S134.1 S134.2 ha0 ta0 rfl rfl (fun _ h => List.mem_cons_of_mem _ (List.mem_append_right _ h)) 44 (by decide) rfl (hts _ (List.mem_of_getElem? (i := 5) rfl)) dX10_boards_251 (fun q137 eq137 hq137 tq137 => ?_)
                          have tq137 : τ q137 = (85, 0) := tq137
                          have uq137 : qf = q137 := S134.2.2.2.2 _ hqf _ hq137 (tqf.trans tq137.symm) (by rw [tqf]; rfl)
                          subst uq137
                          refine lv_iload_n hx hb dX10_boards_254 rfl (lv_at hl109 6 rfl) ?_
                          refine lv_iload hx hb dX10_boards_255 (lv_at hl109 0 rfl) ?_
                          refine tr_iast Z.1 Z.2.2.2.1 S134.1 S134.2 hqf tqf rfl (by omega) (by omega) (by have := fb_rng v107; omega) (by have := fb_rng v107; omega) dX10_boards_257 (fun E138 H139 k140 W138 I138 P138 => ?_)
                          have S138 : Now D TB cy (va_A (va_pl L E) sz) s L τ E138 H139 k140 := ⟨W138, I138⟩
                          have F138 : Fr L τ (inW [(11, 0), (84, 0), (85, 0)]) E E138 := Fr.set F134 P138 tqf rfl
                          obtain ⟨v141, ev141⟩ : ∃ y : Int32, x3_99 + Int32.ofInt (1) = y := ⟨_, rfl⟩
                          have tv141 : v141.toInt = x3_99.toInt + (1) := by rw [← ev141]; exact (fb_addI (by rw [show (Int32.ofInt (1)).toInt = 1 from by decide +kernel]; omega) (by rw [show (Int32.ofInt (1)).toInt = 1 from by decide +kernel]; omega)).trans (by rw [show (Int32.ofInt (1)).toInt = 1 from by decide +kernel])
                          refine lv_iinc (v := v141) (lv' := [(3, .int v141), (7, .int v107), (6, .int v99), (5, .int v94), (4, .int v33), (0, .ref a0), (1, .int a1), (2, .int x2_72)]) hx hb dX10_boards_258 hl109 (k := 7) rfl ev141 (by decide) rfl (fun l142 hl143 => ?_)
                          refine lv_goto (tgt := 99) hx hb dX10_boards_261 (by decide) ?_
                          exact ih_99 v141 E138 H139 k140 l142 S138 F138 (by omega) (by omega) (by omega) (by omega) (by omega) (by omega) (by rw [show ai E138 qo x2_72.toInt.toNat = v99 from (ai_set P138 (ne_ro tqo tqf (by decide))).trans P134.2.1, show ai E138 qf x2_72.toInt.toNat = v107 from P138.2.1]; exact (brd_step (B := (fun t => (ai E_99 qo t).toInt)) (F := (fun t => (ai E_99 qf t).toInt)) (u := v37.toInt) (v := v99.toInt) (p := v39.toInt) (b := v99.toInt) (f := v107.toInt) (b0 := v111.toInt) z17 (by omega) hn12 (by omega) z16 (by omega) (by omega) (by omega) (hPn _ (by omega)).1 (z7 _ (by omega)) by99 f131 fv99 f137 (nu_eq ev111) (nu_eq ev131) (Or.inl ⟨by omega, by omega, by omega⟩)).1 (by omega)) (RowsI.cong z17 (fun t ht => ⟨(show (ai E138 qo t).toInt = (ai E_99 qo t).toInt from nu_eq ((ai_set P138 (ne_ro tqo tqf (by decide))).trans (P134.2.2 t (by show t ≠ x2_72.toInt.toNat; omega)))), (show (ai E138 qf t).toInt = (ai E_99 qf t).toInt from nu_eq ((P138.2.2 t (by show t ≠ x2_72.toInt.toNat; omega)).trans (ai_set P134 (ne_ro tqf tqo (by decide)))))⟩)) (by omega) (by omega) (fun k hk => ((fi_set P138 (ne_ro ta0 tqf (by decide))).trans ((fi_set P134 (ne_ro ta0 tqo (by decide))).trans (z20 k hk)))) (by rw [((fi_set (k := 45) P138 (ne_ro ta0 tqf (by decide))).trans ((fi_set (k := 45) P134 (ne_ro ta0 tqo (by decide))).trans ev22))]; omega) (by omega) (lv_sub hl143 [5, 6, 7, 0] rfl)
                        · skip
                          have tc132 := nu_nlt c132
                          refine lv_goto (tgt := 258) hx hb dX10_boards_239 (by decide) ?_
                          obtain ⟨v144, ev144⟩ : ∃ y : Int32, x3_99 + Int32.ofInt (1) = y := ⟨_, rfl⟩
                          have tv144 : v144.toInt = x3_99.toInt + (1) := by rw [← ev144]; exact (fb_addI (by rw [show (Int32.ofInt (1)).toInt = 1 from by decide +kernel]; omega) (by rw [show (Int32.ofInt (1)).toInt = 1 from by decide +kernel]; omega)).trans (by rw [show (Int32.ofInt (1)).toInt = 1 from by decide +kernel])
                          refine lv_iinc (v := v144) (lv' := [(3, .int v144), (7, .int v107), (6, .int v99), (5, .int v94), (4, .int v33), (0, .ref a0), (1, .int a1), (2, .int x2_72)]) hx hb dX10_boards_258 hl109 (k := 7) rfl ev144 (by decide) rfl (fun l145 hl146 => ?_)
                          refine lv_goto (tgt := 99) hx hb dX10_boards_261 (by decide) ?_
                          exact ih_99 v144 E_99 H_99 k_99 l145 S_99 F_99 (by omega) (by omega) (by omega) (by omega) (by omega) (by omega) ((brd_step (B := (fun t => (ai E_99 qo t).toInt)) (F := (fun t => (ai E_99 qf t).toInt)) (u := v37.toInt) (v := v99.toInt) (p := v39.toInt) (b := v99.toInt) (f := v107.toInt) (b0 := v111.toInt) z17 (by omega) hn12 (by omega) z16 (by omega) (by omega) (by omega) (hPn _ (by omega)).1 (z7 _ (by omega)) by99 f131 fv99 f137 (nu_eq ev111) (nu_eq ev131) (Or.inl ⟨by omega, by omega, by omega⟩)).2 (by omega)) z17 (by omega) (by omega) (fun k hk => (z20 k hk)) (by rw [ev22]; omega) (by omega) (lv_sub hl146 [5, 6, 7, 0] rfl)
            · skip
              have tc30 := nu_eq c30
              have uc30 : (0 : Int32).toInt = 0 := rfl
              refine lv_goto (tgt := 258) hx hb dX10_boards_115 (by decide) ?_
              obtain ⟨v147, ev147⟩ : ∃ y : Int32, x3_99 + Int32.ofInt (1) = y := ⟨_, rfl⟩
              have tv147 : v147.toInt = x3_99.toInt + (1) := by rw [← ev147]; exact (fb_addI (by rw [show (Int32.ofInt (1)).toInt = 1 from by decide +kernel]; omega) (by rw [show (Int32.ofInt (1)).toInt = 1 from by decide +kernel]; omega)).trans (by rw [show (Int32.ofInt (1)).toInt = 1 from by decide +kernel])
              refine lv_iinc (v := v147) (lv' := [(3, .int v147), (0, .ref a0), (1, .int a1), (2, .int x2_72)]) hx hb dX10_boards_258 hl_99 (k := 3) rfl ev147 (by decide) rfl (fun l148 hl149 => ?_)
              refine lv_goto (tgt := 99) hx hb dX10_boards_261 (by decide) ?_
              exact ih_99 v147 E_99 H_99 k_99 l148 S_99 F_99 (by omega) (by omega) (by omega) (by omega) (by omega) (by omega) (StI.skip z16 (by omega) (by omega) (bit_no0 tv29 (by omega))) z17 (by omega) (by omega) (fun k hk => (z20 k hk)) (by rw [ev22]; omega) (by omega) (lv_sub hl149 [1, 2, 3, 0] rfl)
      refine lv_iload_n hx hb dX10_boards_72 rfl (lv_at hl_72 2 rfl) ?_
      obtain ⟨v150, ev150, tv150⟩ : ∃ v : Int32, Int32.ofInt (1) = v ∧ v.toInt = 1 := ⟨_, rfl, by decide +kernel⟩
      refine lv_iconst hx hb dX10_boards_73 ev150 ?_
      refine lv_aload_n hx hb dX10_boards_74 rfl (lv_at hl_72 0 rfl) ?_
      refine tr_geti Z.1 Z.2.2.2.1 S_72.1 S_72.2 ha0 ta0 rfl rfl (fun _ h => List.mem_cons_of_mem _ (List.mem_append_right _ h)) 45 (by decide) rfl (hts _ (List.mem_of_getElem? (i := 2) rfl)) dX10_boards_75 (fun v151 ev151 lv151 uv151 => ?_)
      have wv151 : v151 = (fi E_72 a0 45) := ev151.symm.trans rfl
      have xv151 : v151.toInt = (fi E_72 a0 45).toInt := by rw [wv151]
      refine lv_ishl hx hb dX10_boards_78 ?_
      refine lv_topi (fun v152 ev152 => ?_)
      have tv152 := nu_powS ev152 (by omega) (by omega) (by omega)
      have nv152 : v152.toInt = (N : Int) := by have q := tv152.1; rw [show v151.toInt.toNat = (fi E a0 45).toInt.toNat from by omega, ← hN] at q; exact q
      refine lv_icmp_ge (tgt := 270) hx hb dX10_boards_79 (by decide) (fun c153 => ?_) (fun c153 => ?_)
      · skip
        have tc153 := nu_le c153
        refine lv_aload_n hx hb dX10_boards_270 rfl (lv_at hl_72 0 rfl) ?_
        refine tr_getr Z.1 Z.2.2.2.1 S_72.1 S_72.2 ha0 ta0 rfl rfl (fun _ h => List.mem_cons_of_mem _ (List.mem_append_right _ h)) 43 (by decide) rfl (hts _ (List.mem_of_getElem? (i := 4) rfl)) dX10_boards_271 (fun q154 eq154 hq154 tq154 => ?_)
        have tq154 : τ q154 = (84, 0) := tq154
        have uq154 : qo = q154 := S_72.2.2.2.2 _ hqo _ hq154 (tqo.trans tq154.symm) (by rw [tqo]; rfl)
        subst uq154
        obtain ⟨v155, ev155, tv155⟩ : ∃ v : Int32, Int32.ofInt (1) = v ∧ v.toInt = 1 := ⟨_, rfl, by decide +kernel⟩
        refine lv_iconst hx hb dX10_boards_274 ev155 ?_
        refine lv_aload_n hx hb dX10_boards_275 rfl (lv_at hl_72 0 rfl) ?_
        refine tr_geti Z.1 Z.2.2.2.1 S_72.1 S_72.2 ha0 ta0 rfl rfl (fun _ h => List.mem_cons_of_mem _ (List.mem_append_right _ h)) 45 (by decide) rfl (hts _ (List.mem_of_getElem? (i := 2) rfl)) dX10_boards_276 (fun v156 ev156 lv156 uv156 => ?_)
        have wv156 : v156 = v151 := ev156.symm.trans ev151
        have xv156 : v156.toInt = v151.toInt := by rw [wv156]
        refine lv_ishl hx hb dX10_boards_279 ?_
        refine lv_topi (fun v157 ev157 => ?_)
        have tv157 := nu_powS ev157 (by omega) (by omega) (by omega)
        have nv157 : v157.toInt = (N : Int) := by have q := tv157.1; rw [show v156.toInt.toNat = (fi E a0 45).toInt.toNat from by omega, ← hN] at q; exact q
        obtain ⟨v158, ev158, tv158⟩ : ∃ v : Int32, Int32.ofInt (1) = v ∧ v.toInt = 1 := ⟨_, rfl, by decide +kernel⟩
        refine lv_iconst hx hb dX10_boards_280 ev158 ?_
        refine lv_isub hx hb dX10_boards_281 ?_
        refine lv_topi (fun v159 ev159 => ?_)
        have tv159 := nu_sub ev159 (by omega) (by omega)
        refine tr_iald Z.1 Z.2.2.2.1 S_72.1 S_72.2 hqo tqo rfl (by omega) (by omega) dX10_boards_282 (fun v160 ev160 lv160 uv160 => ?_)
        rw [← hQ]
        exact en_i Z S_72 F_72 ⟨(Or.inr (Or.inr ⟨⟨by omega, by omega⟩, z7, brd_end (B := (fun t => (ai E_72 qo t).toInt)) (F := (fun t => (ai E_72 qf t).toInt)) hN (by omega) (by have q := z5; rw [show x2_72.toInt.toNat = N from by omega] at q; exact q) (at_idx (f := (fun t => (ai E_72 qo t).toInt)) (x := v159) (t := N - 1) (by omega) (nu_eq ev160))⟩)), (fun k hk => (z8 k hk))⟩ dX10_boards_283
      · skip
        have tc153 := nu_nle c153
        refine lv_aload_n hx hb dX10_boards_82 rfl (lv_at hl_72 0 rfl) ?_
        refine tr_getr Z.1 Z.2.2.2.1 S_72.1 S_72.2 ha0 ta0 rfl rfl (fun _ h => List.mem_cons_of_mem _ (List.mem_append_right _ h)) 43 (by decide) rfl (hts _ (List.mem_of_getElem? (i := 4) rfl)) dX10_boards_83 (fun q161 eq161 hq161 tq161 => ?_)
        have tq161 : τ q161 = (84, 0) := tq161
        have uq161 : qo = q161 := S_72.2.2.2.2 _ hqo _ hq161 (tqo.trans tq161.symm) (by rw [tqo]; rfl)
        subst uq161
        refine lv_iload_n hx hb dX10_boards_86 rfl (lv_at hl_72 2 rfl) ?_
        obtain ⟨v162, ev162, tv162⟩ : ∃ v : Int32, (Int8.ofInt (100)).toInt32 = v ∧ v.toInt = 100 := ⟨_, rfl, by decide +kernel⟩
        refine lv_bipush hx hb dX10_boards_87 ev162 ?_
        refine tr_iast Z.1 Z.2.2.2.1 S_72.1 S_72.2 hqo tqo rfl (by omega) (by omega) (by have := fb_rng v162; omega) (by have := fb_rng v162; omega) dX10_boards_89 (fun E163 H164 k165 W163 I163 P163 => ?_)
        have S163 : Now D TB cy (va_A (va_pl L E) sz) s L τ E163 H164 k165 := ⟨W163, I163⟩
        have F163 : Fr L τ (inW [(11, 0), (84, 0), (85, 0)]) E E163 := Fr.set F_72 P163 tqo rfl
        refine lv_aload_n hx hb dX10_boards_90 rfl (lv_at hl_72 0 rfl) ?_
        refine tr_getr Z.1 Z.2.2.2.1 S163.1 S163.2 ha0 ta0 rfl rfl (fun _ h => List.mem_cons_of_mem _ (List.mem_append_right _ h)) 44 (by decide) rfl (hts _ (List.mem_of_getElem? (i := 5) rfl)) dX10_boards_91 (fun q166 eq166 hq166 tq166 => ?_)
        have tq166 : τ q166 = (85, 0) := tq166
        have uq166 : qf = q166 := S163.2.2.2.2 _ hqf _ hq166 (tqf.trans tq166.symm) (by rw [tqf]; rfl)
        subst uq166
        refine lv_iload_n hx hb dX10_boards_94 rfl (lv_at hl_72 2 rfl) ?_
        obtain ⟨v167, ev167, tv167⟩ : ∃ v : Int32, Int32.ofInt (0) = v ∧ v.toInt = 0 := ⟨_, rfl, by decide +kernel⟩
        refine lv_iconst hx hb dX10_boards_95 ev167 ?_
        refine tr_iast Z.1 Z.2.2.2.1 S163.1 S163.2 hqf tqf rfl (by omega) (by omega) (by have := fb_rng v167; omega) (by have := fb_rng v167; omega) dX10_boards_96 (fun E168 H169 k170 W168 I168 P168 => ?_)
        have S168 : Now D TB cy (va_A (va_pl L E) sz) s L τ E168 H169 k170 := ⟨W168, I168⟩
        have F168 : Fr L τ (inW [(11, 0), (84, 0), (85, 0)]) E E168 := Fr.set F163 P168 tqf rfl
        obtain ⟨v171, ev171, tv171⟩ : ∃ v : Int32, Int32.ofInt (0) = v ∧ v.toInt = 0 := ⟨_, rfl, by decide +kernel⟩
        refine lv_iconst hx hb dX10_boards_97 ev171 ?_
        refine lv_istore_n (lv' := [(3, .int v171), (0, .ref a0), (1, .int a1), (2, .int x2_72)]) hx hb dX10_boards_98 rfl hl_72 (by decide) rfl (fun l172 hl173 => ?_)
        exact J99 _ v171 E168 H169 k170 l172 S168 F168 (by omega) (by omega) (by omega) (by omega) (by omega) (by omega) (StI.zero (by omega) (by rw [ai_set P168 (ne_ro tqo tqf (by decide)), show ai _ qo x2_72.toInt.toNat = v162 from P163.2.1]; omega) (by rw [show ai E168 qf x2_72.toInt.toNat = v167 from P168.2.1]; omega)) (RowsI.cong z5 (fun t ht => ⟨(show (ai E168 qo t).toInt = (ai E_72 qo t).toInt from nu_eq ((ai_set P168 (ne_ro tqo tqf (by decide))).trans (P163.2.2 t (by show t ≠ x2_72.toInt.toNat; omega)))), (show (ai E168 qf t).toInt = (ai E_72 qf t).toInt from nu_eq ((P168.2.2 t (by show t ≠ x2_72.toInt.toNat; omega)).trans (ai_set P163 (ne_ro tqf tqo (by decide)))))⟩)) (by omega) (by omega) (fun k hk => ((fi_set P168 (ne_ro ta0 tqf (by decide))).trans ((fi_set P163 (ne_ro ta0 tqo (by decide))).trans (z8 k hk)))) (by rw [((fi_set (k := 45) P168 (ne_ro ta0 tqf (by decide))).trans ((fi_set (k := 45) P163 (ne_ro ta0 tqo (by decide))).trans ev151))]; omega) (Nat.lt_succ_self _) (lv_sub hl173 [1, 2, 3, 0] rfl)
  have J29 : ∀ (n : Nat) (x2_29 : Int32) (E_29 : Ec) (H_29 : Heap) (k_29 : List Loc) (l_29 : Array Slot), Now D TB cy (va_A (va_pl L E) sz) s L τ E_29 H_29 k_29 → Fr L τ (inW [(11, 0), (84, 0), (85, 0)]) E E_29 → (1 ≤ a1.toInt) → (a1.toInt ≤ 10000) → (0 ≤ x2_29.toInt) → (x2_29.toInt ≤ 12) → (∀ j : Nat, j < x2_29.toInt.toNat → (ai E qk j).toInt ≤ a1.toInt) → (x2_29.toInt ≤ (fi E a0 45).toInt) → (∀ k : Nat, k ∉ ([3, 4, 6] : List Nat) → fi E_29 a0 k = fi E a0 k) → (0 ≤ (fi E_29 a0 45).toInt ∧ (fi E_29 a0 45).toInt ≤ 12 ∧ (fi E_29 a0 45).toInt = (fi E a0 45).toInt) → (12 - x2_29.toInt).toNat < n → lv_has l_29 8 [(0, .ref a0), (1, .int a1), (2, .int x2_29)] → W p l e { frames := 1, cells := 0, slots := 0, locals := 23 } s m args below meth c H_29 k_29 0 0 QQ (F0 m 29 l_29 []) := by
    intro n
    induction n with
    | zero => intro x2_29 E_29 H_29 k_29 l_29 S_29 F_29 z174 z175 z176 z177 z178 z179 z180 z181 hm hl_29; exact absurd hm (Nat.not_lt_zero _)
    | succ n ih =>
      intro x2_29 E_29 H_29 k_29 l_29 S_29 F_29 z174 z175 z176 z177 z178 z179 z180 z181 hm hl_29
      have ih_29 := ih
      refine lv_iload_n hx hb dX10_boards_29 rfl (lv_at hl_29 2 rfl) ?_
      refine lv_aload_n hx hb dX10_boards_30 rfl (lv_at hl_29 0 rfl) ?_
      refine tr_geti Z.1 Z.2.2.2.1 S_29.1 S_29.2 ha0 ta0 rfl rfl (fun _ h => List.mem_cons_of_mem _ (List.mem_append_right _ h)) 45 (by decide) rfl (hts _ (List.mem_of_getElem? (i := 2) rfl)) dX10_boards_31 (fun v182 ev182 lv182 uv182 => ?_)
      have wv182 : v182 = (fi E_29 a0 45) := ev182.symm.trans rfl
      have xv182 : v182.toInt = (fi E_29 a0 45).toInt := by rw [wv182]
      refine lv_icmp_ge (tgt := 56) hx hb dX10_boards_34 (by decide) (fun c183 => ?_) (fun c183 => ?_)
      · skip
        have tc183 := nu_le c183
        refine lv_aload_n hx hb dX10_boards_56 rfl (lv_at hl_29 0 rfl) ?_
        refine tr_getr Z.1 Z.2.2.2.1 S_29.1 S_29.2 ha0 ta0 rfl rfl (fun _ h => List.mem_cons_of_mem _ (List.mem_append_right _ h)) 43 (by decide) rfl (hts _ (List.mem_of_getElem? (i := 4) rfl)) dX10_boards_57 (fun q184 eq184 hq184 tq184 => ?_)
        have tq184 : τ q184 = (84, 0) := tq184
        have uq184 : qo = q184 := S_29.2.2.2.2 _ hqo _ hq184 (tqo.trans tq184.symm) (by rw [tqo]; rfl)
        subst uq184
        obtain ⟨v185, ev185, tv185⟩ : ∃ v : Int32, Int32.ofInt (0) = v ∧ v.toInt = 0 := ⟨_, rfl, by decide +kernel⟩
        refine lv_iconst hx hb dX10_boards_60 ev185 ?_
        obtain ⟨v186, ev186, tv186⟩ : ∃ v : Int32, Int32.ofInt (0) = v ∧ v.toInt = 0 := ⟨_, rfl, by decide +kernel⟩
        refine lv_iconst hx hb dX10_boards_61 ev186 ?_
        refine tr_iast Z.1 Z.2.2.2.1 S_29.1 S_29.2 hqo tqo rfl (by omega) (by omega) (by have := fb_rng v186; omega) (by have := fb_rng v186; omega) dX10_boards_62 (fun E187 H188 k189 W187 I187 P187 => ?_)
        have S187 : Now D TB cy (va_A (va_pl L E) sz) s L τ E187 H188 k189 := ⟨W187, I187⟩
        have F187 : Fr L τ (inW [(11, 0), (84, 0), (85, 0)]) E E187 := Fr.set F_29 P187 tqo rfl
        refine lv_aload_n hx hb dX10_boards_63 rfl (lv_at hl_29 0 rfl) ?_
        refine tr_getr Z.1 Z.2.2.2.1 S187.1 S187.2 ha0 ta0 rfl rfl (fun _ h => List.mem_cons_of_mem _ (List.mem_append_right _ h)) 44 (by decide) rfl (hts _ (List.mem_of_getElem? (i := 5) rfl)) dX10_boards_64 (fun q190 eq190 hq190 tq190 => ?_)
        have tq190 : τ q190 = (85, 0) := tq190
        have uq190 : qf = q190 := S187.2.2.2.2 _ hqf _ hq190 (tqf.trans tq190.symm) (by rw [tqf]; rfl)
        subst uq190
        obtain ⟨v191, ev191, tv191⟩ : ∃ v : Int32, Int32.ofInt (0) = v ∧ v.toInt = 0 := ⟨_, rfl, by decide +kernel⟩
        refine lv_iconst hx hb dX10_boards_67 ev191 ?_
        refine lv_iload_n hx hb dX10_boards_68 rfl (lv_at hl_29 1 rfl) ?_
        refine tr_iast Z.1 Z.2.2.2.1 S187.1 S187.2 hqf tqf rfl (by omega) (by omega) (by have := fb_rng a1; omega) (by have := fb_rng a1; omega) dX10_boards_69 (fun E192 H193 k194 W192 I192 P192 => ?_)
        have S192 : Now D TB cy (va_A (va_pl L E) sz) s L τ E192 H193 k194 := ⟨W192, I192⟩
        have F192 : Fr L τ (inW [(11, 0), (84, 0), (85, 0)]) E E192 := Fr.set F187 P192 tqf rfl
        obtain ⟨v195, ev195, tv195⟩ : ∃ v : Int32, Int32.ofInt (1) = v ∧ v.toInt = 1 := ⟨_, rfl, by decide +kernel⟩
        refine lv_iconst hx hb dX10_boards_70 ev195 ?_
        refine lv_istore_n (lv' := [(2, .int v195), (0, .ref a0), (1, .int a1)]) hx hb dX10_boards_71 rfl hl_29 (by decide) rfl (fun l196 hl197 => ?_)
        exact J72 _ v195 E192 H193 k194 l196 S192 F192 (by omega) (by omega) (by omega) (by omega) (by rw [show v195.toInt.toNat = 1 from by omega]; exact RowsI.one (by omega) (by show (ai E192 qo 0).toInt = 0; rw [ai_set P192 (ne_ro tqo tqf (by decide)), ai_at (n := 0) P187.2.1 (by omega)]; omega) (by show (ai E192 qf 0).toInt = a1.toInt; rw [ai_at (n := 0) P192.2.1 (by omega)])) (by omega) (fun j hj => z178 j (by omega)) (fun k hk => ((fi_set P192 (ne_ro ta0 tqf (by decide))).trans ((fi_set P187 (ne_ro ta0 tqo (by decide))).trans (z180 k hk)))) (by rw [((fi_set (k := 45) P192 (ne_ro ta0 tqf (by decide))).trans ((fi_set (k := 45) P187 (ne_ro ta0 tqo (by decide))).trans ev182))]; omega) (Nat.lt_succ_self _) (lv_sub hl197 [1, 2, 0] rfl)
      · skip
        have tc183 := nu_nle c183
        refine lv_aload_n hx hb dX10_boards_37 rfl (lv_at hl_29 0 rfl) ?_
        refine tr_getr Z.1 Z.2.2.2.1 S_29.1 S_29.2 ha0 ta0 rfl rfl (fun _ h => List.mem_cons_of_mem _ (List.mem_append_right _ h)) 42 (by decide) rfl (hts _ (List.mem_of_getElem? (i := 3) rfl)) dX10_boards_38 (fun q198 eq198 hq198 tq198 => ?_)
        have tq198 : τ q198 = (83, 0) := tq198
        have uq198 : qk = q198 := S_29.2.2.2.2 _ hqk _ hq198 (tqk.trans tq198.symm) (by rw [tqk]; rfl)
        subst uq198
        refine lv_iload_n hx hb dX10_boards_41 rfl (lv_at hl_29 2 rfl) ?_
        refine tr_iald Z.1 Z.2.2.2.1 S_29.1 S_29.2 hqk tqk rfl (by omega) (by omega) dX10_boards_42 (fun v199 ev199 lv199 uv199 => ?_)
        refine lv_iload_n hx hb dX10_boards_43 rfl (lv_at hl_29 1 rfl) ?_
        refine lv_icmp_le (tgt := 50) hx hb dX10_boards_44 (by decide) (fun c200 => ?_) (fun c200 => ?_)
        · skip
          have tc200 := nu_le c200
          obtain ⟨v201, ev201⟩ : ∃ y : Int32, x2_29 + Int32.ofInt (1) = y := ⟨_, rfl⟩
          have tv201 : v201.toInt = x2_29.toInt + (1) := by rw [← ev201]; exact (fb_addI (by rw [show (Int32.ofInt (1)).toInt = 1 from by decide +kernel]; omega) (by rw [show (Int32.ofInt (1)).toInt = 1 from by decide +kernel]; omega)).trans (by rw [show (Int32.ofInt (1)).toInt = 1 from by decide +kernel])
          refine lv_iinc (v := v201) (lv' := [(2, .int v201), (0, .ref a0), (1, .int a1)]) hx hb dX10_boards_50 hl_29 (k := 2) rfl ev201 (by decide) rfl (fun l202 hl203 => ?_)
          refine lv_goto (tgt := 29) hx hb dX10_boards_53 (by decide) ?_
          exact ih_29 v201 E_29 H_29 k_29 l202 S_29 F_29 (by omega) (by omega) (by omega) (by omega) (ck_step (f := (fun k => (ai E qk k).toInt)) z178 (by show (ai E qk x2_29.toNatClampNeg).toInt ≤ a1.toInt; rw [← ai_cell (F_29 qk hqk (by rw [tqk]; rfl)), ev199]; omega) (by omega) (by omega)) (by omega) (fun k hk => (z180 k hk)) (by rw [ev182]; omega) (by omega) (lv_sub hl203 [1, 2, 0] rfl)
        · skip
          have tc200 := nu_nle c200
          obtain ⟨v204, ev204, tv204⟩ : ∃ v : Int32, (Int8.ofInt (-2)).toInt32 = v ∧ v.toInt = -2 := ⟨_, rfl, by decide +kernel⟩
          refine lv_bipush hx hb dX10_boards_47 ev204 ?_
          rw [← hQ]
          exact en_i Z S_29 F_29 ⟨(Or.inr (Or.inl ⟨⟨by omega, by omega⟩, ⟨x2_29.toInt.toNat, by omega, (by show a1.toInt < (ai E qk x2_29.toNatClampNeg).toInt; rw [← ai_cell (F_29 qk hqk (by rw [tqk]; rfl)), ev199]; omega)⟩, by omega⟩)), (fun k hk => (z180 k hk))⟩ dX10_boards_49
  refine lv_aload_n hx hb dX10_boards_0 rfl (lv_at hl 0 rfl) ?_
  obtain ⟨v205, ev205, tv205⟩ : ∃ v : Int32, Int32.ofInt (0) = v ∧ v.toInt = 0 := ⟨_, rfl, by decide +kernel⟩
  refine lv_iconst hx hb dX10_boards_1 ev205 ?_
  refine tr_puti Z.1 Z.2.2.2.1 S0.1 S0.2 ha0 ta0 rfl rfl (fun _ h => List.mem_cons_of_mem _ (List.mem_append_right _ h)) tyX10_ok nmX10 4 (by decide) rfl rfl rfl (hts _ (List.mem_of_getElem? (i := 1) rfl)) dX10_boards_2 (by omega) (by omega) (fun E206 H207 k208 W206 I206 P206 => ?_)
  have S206 : Now D TB cy (va_A (va_pl L E) sz) s L τ E206 H207 k208 := ⟨W206, I206⟩
  have F206 : Fr L τ (inW [(11, 0), (84, 0), (85, 0)]) E E206 := Fr.put F0_ P206 ta0 rfl
  refine lv_aload_n hx hb dX10_boards_5 rfl (lv_at hl 0 rfl) ?_
  refine lv_iload_n hx hb dX10_boards_6 rfl (lv_at hl 1 rfl) ?_
  obtain ⟨v209, ev209, tv209⟩ : ∃ v : Int32, Int32.ofInt (1) = v ∧ v.toInt = 1 := ⟨_, rfl, by decide +kernel⟩
  refine lv_iconst hx hb dX10_boards_7 ev209 ?_
  obtain ⟨v210, ev210, tv210⟩ : ∃ v : Int32, (Int16.ofInt (10000)).toInt32 = v ∧ v.toInt = 10000 := ⟨_, rfl, by decide +kernel⟩
  refine lv_sipush hx hb dX10_boards_8 ev210 ?_
  refine tc_vi Z.1 Z.2.2.2.1 Z.2.2.2.2.1 Z.2.2.2.2.2 S206.1 S206.2 ha0 ta0 rfl rfl (k_X10_in l D cy S206.2 ha0 ta0 a1 v209 v210) (cwV 3 hts gX10_boards_X10_in rfl rfl rfl (by decide +kernel) ⟨Nat.le_of_ble_eq_true rfl, Nat.le_of_ble_eq_true rfl⟩) rfl hl.1 rfl (Nat.le_of_ble_eq_true rfl) dX10_boards_11 ⟨Nat.zero_le _, Nat.zero_le _⟩ (fun v214 E211 H212 k213 W211 I211 G211 p211 => ?_)
  obtain ⟨q211, p211_0, p211_1, p211_2⟩ := p211
  have q211 := q211.symm
  subst q211
  have S211 : Now D TB cy (va_A (va_pl L E) sz) s L τ E206 H212 k213 := ⟨W211, I211⟩
  refine lv_if_ne (tgt := 23) hx hb dX10_boards_14 (by decide) (fun c215 => ?_) (fun c215 => ?_)
  · skip
    have tc215 := nu_ne c215
    have uc215 : (0 : Int32).toInt = 0 := rfl
    refine lv_aload_n hx hb dX10_boards_23 rfl (lv_at hl 0 rfl) ?_
    refine tc_vv Z.1 Z.2.2.2.1 Z.2.2.2.2.1 Z.2.2.2.2.2 S211.1 S211.2 ha0 ta0 rfl rfl (k_X10_good l D cy S211.2 ha0 ta0) (cwV 0 hts gX10_boards_X10_good rfl rfl rfl (by decide +kernel) ⟨Nat.le_of_ble_eq_true rfl, Nat.le_of_ble_eq_true rfl⟩) rfl hl.1 rfl (Nat.le_of_ble_eq_true rfl) dX10_boards_24 ⟨Nat.zero_le _, Nat.zero_le _⟩ (fun E216 H217 k218 W216 I216 G216 p216 => ?_)
    have p216_0 := p216
    have S216 : Now D TB cy (va_A (va_pl L E) sz) s L τ E216 H217 k218 := ⟨W216, I216⟩
    have F216 : Fr L τ (inW [(11, 0), (84, 0), (85, 0)]) E E216 := F206.trans (G216.mono (inW_mono (by decide)))
    obtain ⟨v220, ev220, tv220⟩ : ∃ v : Int32, Int32.ofInt (0) = v ∧ v.toInt = 0 := ⟨_, rfl, by decide +kernel⟩
    refine lv_iconst hx hb dX10_boards_27 ev220 ?_
    refine lv_istore_n (lv' := [(2, .int v220), (0, .ref a0), (1, .int a1)]) hx hb dX10_boards_28 rfl hl (by decide) rfl (fun l221 hl222 => ?_)
    exact J29 _ v220 E216 H217 k218 l221 S216 F216 (by omega) (by omega) (by omega) (by omega) (fun j hj => absurd hj (by omega)) (by omega) (fun k hk => ((p216_0 k (fw_sub (by decide) hk)).trans ((fi_put P206 (Or.inr (fw_ne (by decide) hk))).trans ((fun k hk => rfl) k hk)))) (by rw [((p216_0 45 (by decide)).trans ((fi_put (k := 45) P206 (Or.inr (by decide))).trans rfl))]; omega) (Nat.lt_succ_self _) (lv_sub hl222 [1, 2, 0] rfl)
  · skip
    have tc215 := nu_eq c215
    have uc215 : (0 : Int32).toInt = 0 := rfl
    refine lv_aload_n hx hb dX10_boards_17 rfl (lv_at hl 0 rfl) ?_
    obtain ⟨v223, ev223, tv223⟩ : ∃ v : Int32, Int32.ofInt (1) = v ∧ v.toInt = 1 := ⟨_, rfl, by decide +kernel⟩
    refine lv_iconst hx hb dX10_boards_18 ev223 ?_
    refine tc_vi Z.1 Z.2.2.2.1 Z.2.2.2.2.1 Z.2.2.2.2.2 S211.1 S211.2 ha0 ta0 rfl rfl (k_X10_no l D cy S211.2 ha0 ta0 v223) (cwV 1 hts gX10_boards_X10_no rfl rfl rfl (by decide +kernel) ⟨Nat.le_of_ble_eq_true rfl, Nat.le_of_ble_eq_true rfl⟩) rfl hl.1 rfl (Nat.le_of_ble_eq_true rfl) dX10_boards_19 ⟨Nat.zero_le _, Nat.zero_le _⟩ (fun v227 E224 H225 k226 W224 I224 G224 p224 => ?_)
    obtain ⟨p224_0, p224_1, p224_2⟩ := p224
    have S224 : Now D TB cy (va_A (va_pl L E) sz) s L τ E224 H225 k226 := ⟨W224, I224⟩
    have F224 : Fr L τ (inW [(11, 0), (84, 0), (85, 0)]) E E224 := F206.trans (G224.mono (inW_mono (by decide)))
    rw [← hQ]
    exact en_i Z S224 F224 ⟨(Or.inl ⟨by omega, by omega⟩), (fun k hk => ((p224_2 k (fw_sub (by decide) hk)).trans ((fi_put P206 (Or.inr (fw_ne (by decide) hk))).trans ((fun k hk => rfl) k hk))))⟩ dX10_boards_22

set_option maxHeartbeats 4000000 in
set_option maxRecDepth 100000 in
theorem k_X9_sweep_vt (l : Launch) (D : va_G) (cy : Nat → ClassId) {L : List Nat} {τ : Nat → Ro} {E : Ec} (hI : Inv TB cy L τ E) {a0 : Nat} (ha0 : a0 ∈ L) (ta0 : τ a0 = (0, 0)) {qb : Nat} (hqb : qb ∈ L) (tqb : τ qb = (9, 0)) : CtI l yX9_sweep wsX9_sweep { frames := 0, cells := 0, slots := 0, locals := 0 } D TB cy L τ E [.ref a0] (inW [(9, 0)]) (fun r E' => (r.toInt = (fi E qb 2).toInt ∧ (fi E' qb 2).toInt = 0)) := by
  intro sz
  refine sta (cc := cX9_sweep) (maxL := 2) hI (by decide) rfl (Nat.le_of_ble_eq_true rfl) (fun p e s m args below meth c ls hsz Z S0 hl => ?_)
  have hx := Z.1.1
  have hb := Z.1.2.1
  have hts := Z.1.2.2.2.2
  have F0_ : Fr L τ (inW [(9, 0)]) E E := Fr.refl
  have hl : lv_has ls 2 [(0, .ref a0)] := hl
  generalize hQ : MQ below _ args s 0 0 _ = QQ
  have kz_qb_2 := fi_rng (k := 2) hI hqb tqb rfl rfl
  refine lv_aload_n hx hb dX9_sweep_0 rfl (lv_at hl 0 rfl) ?_
  refine tr_getr Z.1 Z.2.2.2.1 S0.1 S0.2 ha0 ta0 rfl rfl (fun _ h => List.mem_cons_of_mem _ (List.mem_append_left _ (List.mem_append_right _ h))) 6 (by decide) rfl (hts _ (List.mem_of_getElem? (i := 1) rfl)) dX9_sweep_1 (fun q1 eq1 hq1 tq1 => ?_)
  have tq1 : τ q1 = (9, 0) := tq1
  have uq1 : qb = q1 := S0.2.2.2.2 _ hqb _ hq1 (tqb.trans tq1.symm) (by rw [tqb]; rfl)
  subst uq1
  refine tr_geti Z.1 Z.2.2.2.1 S0.1 S0.2 hqb tqb rfl rfl (fun _ h => List.mem_cons_of_mem _ (List.mem_append_right _ h)) 2 (by decide) rfl (hts _ (List.mem_of_getElem? (i := 2) rfl)) dX9_sweep_4 (fun v2 ev2 lv2 uv2 => ?_)
  have wv2 : v2 = (fi E qb 2) := ev2.symm.trans rfl
  have xv2 : v2.toInt = (fi E qb 2).toInt := by rw [wv2]
  refine lv_istore_n (lv' := [(1, .int v2), (0, .ref a0)]) hx hb dX9_sweep_7 rfl hl (by decide) rfl (fun l3 hl4 => ?_)
  refine lv_aload_n hx hb dX9_sweep_8 rfl (lv_at hl4 1 rfl) ?_
  refine tr_getr Z.1 Z.2.2.2.1 S0.1 S0.2 ha0 ta0 rfl rfl (fun _ h => List.mem_cons_of_mem _ (List.mem_append_left _ (List.mem_append_right _ h))) 6 (by decide) rfl (hts _ (List.mem_of_getElem? (i := 1) rfl)) dX9_sweep_9 (fun q5 eq5 hq5 tq5 => ?_)
  have tq5 : τ q5 = (9, 0) := tq5
  have uq5 : qb = q5 := S0.2.2.2.2 _ hqb _ hq5 (tqb.trans tq5.symm) (by rw [tqb]; rfl)
  subst uq5
  obtain ⟨v6, ev6, tv6⟩ : ∃ v : Int32, Int32.ofInt (0) = v ∧ v.toInt = 0 := ⟨_, rfl, by decide +kernel⟩
  refine lv_iconst hx hb dX9_sweep_12 ev6 ?_
  refine tr_puti Z.1 Z.2.2.2.1 S0.1 S0.2 hqb tqb rfl rfl (fun _ h => List.mem_cons_of_mem _ (List.mem_append_right _ h)) tyX0_ok nmX0 2 (by decide) rfl rfl rfl (hts _ (List.mem_of_getElem? (i := 2) rfl)) dX9_sweep_13 (by omega) (by omega) (fun E7 H8 k9 W7 I7 P7 => ?_)
  have S7 : Now D TB cy (va_A (va_pl L E) sz) s L τ E7 H8 k9 := ⟨W7, I7⟩
  have F7 : Fr L τ (inW [(9, 0)]) E E7 := Fr.put F0_ P7 tqb rfl
  refine lv_iload_n hx hb dX9_sweep_16 rfl (lv_at hl4 0 rfl) ?_
  rw [← hQ]
  exact en_i Z S7 F7 (by rw [(fi_at P7)]; omega) dX9_sweep_17

set_option maxHeartbeats 4000000 in
set_option maxRecDepth 100000 in
theorem k_X9_piece_vb (l : Launch) (D : va_G) (cy : Nat → ClassId) {L : List Nat} {τ : Nat → Ro} {E : Ec} (hI : Inv TB cy L τ E) {a0 : Nat} (ha0 : a0 ∈ L) (ta0 : τ a0 = (0, 0)) (a1 : Int32) {qb : Nat} (hqb : qb ∈ L) (tqb : τ qb = (9, 0)) {qp : Nat} (hqp : qp ∈ L) (tqp : τ qp = (39, 0)) : CtI l yX9_piece wsX9_piece { frames := 1, cells := 0, slots := 0, locals := 22 } D TB cy L τ E [.ref a0, .int a1] (inW [(0, 0), (9, 0), (39, 0)]) (fun r E' => (((1 ≤ a1.toInt ∧ a1.toInt ≤ 10000 ∧ (fi E qb 2).toInt < 12) ∧ (fi E' qb 2).toInt = (fi E qb 2).toInt + 1 ∧ ai E' qp (fi E qb 2).toInt.toNat = a1 ∧ ∀ j : Nat, j ≠ (fi E qb 2).toInt.toNat → ai E' qp j = ai E qp j) ∨ (¬ (1 ≤ a1.toInt ∧ a1.toInt ≤ 10000 ∧ (fi E qb 2).toInt < 12) ∧ (fi E' qb 2).toInt = (fi E qb 2).toInt ∧ ∀ j : Nat, ai E' qp j = ai E qp j))) := by
  intro sz
  refine sta (cc := cX9_piece) (maxL := 2) hI (by decide) rfl (Nat.le_of_ble_eq_true rfl) (fun p e s m args below meth c ls hsz Z S0 hl => ?_)
  have hx := Z.1.1
  have hb := Z.1.2.1
  have hts := Z.1.2.2.2.2
  have F0_ : Fr L τ (inW [(0, 0), (9, 0), (39, 0)]) E E := Fr.refl
  have hl : lv_has ls 2 [(0, .ref a0), (1, .int a1)] := hl
  generalize hQ : MQ below _ args s 0 0 _ = QQ
  have kz_qb_2 := fi_rng (k := 2) hI hqb tqb rfl rfl
  refine lv_iload_n hx hb dX9_piece_0 rfl (lv_at hl 1 rfl) ?_
  obtain ⟨v1, ev1, tv1⟩ : ∃ v : Int32, Int32.ofInt (1) = v ∧ v.toInt = 1 := ⟨_, rfl, by decide +kernel⟩
  refine lv_iconst hx hb dX9_piece_1 ev1 ?_
  obtain ⟨v2, ev2, tv2⟩ : ∃ v : Int32, (Int16.ofInt (10000)).toInt32 = v ∧ v.toInt = 10000 := ⟨_, rfl, by decide +kernel⟩
  refine lv_sipush hx hb dX9_piece_2 ev2 ?_
  refine tc_si Z.1 Z.2.2.2.1 Z.2.2.2.2.1 Z.2.2.2.2.2 S0.1 (k_X9_within l D cy S0.2 a1 v1 v2) (va_cwS 3 hts gX9_piece_X9_within rfl rfl rfl (by decide +kernel) ⟨Nat.le_of_ble_eq_true rfl, Nat.le_of_ble_eq_true rfl⟩) rfl hl.1 rfl (Nat.le_of_ble_eq_true rfl) dX9_piece_5 ⟨Nat.zero_le _, Nat.zero_le _⟩ (fun v6 E3 H4 k5 W3 I3 G3 p3 => ?_)
  obtain ⟨q3, p3_0, p3_1, p3_2⟩ := p3
  have q3 := q3.symm
  subst q3
  have S3 : Now D TB cy (va_A (va_pl L E) sz) s L τ E H4 k5 := ⟨W3, I3⟩
  refine lv_if_ne (tgt := 17) hx hb dX9_piece_8 (by decide) (fun c7 => ?_) (fun c7 => ?_)
  · skip
    have tc7 := nu_ne c7
    have uc7 : (0 : Int32).toInt = 0 := rfl
    refine lv_aload_n hx hb dX9_piece_17 rfl (lv_at hl 0 rfl) ?_
    refine tr_getr Z.1 Z.2.2.2.1 S3.1 S3.2 ha0 ta0 rfl rfl (fun _ h => List.mem_cons_of_mem _ (List.mem_append_left _ (List.mem_append_right _ h))) 6 (by decide) rfl (hts _ (List.mem_of_getElem? (i := 1) rfl)) dX9_piece_18 (fun q8 eq8 hq8 tq8 => ?_)
    have tq8 : τ q8 = (9, 0) := tq8
    have uq8 : qb = q8 := S3.2.2.2.2 _ hqb _ hq8 (tqb.trans tq8.symm) (by rw [tqb]; rfl)
    subst uq8
    refine tr_geti Z.1 Z.2.2.2.1 S3.1 S3.2 hqb tqb rfl rfl (fun _ h => List.mem_cons_of_mem _ (List.mem_append_right _ h)) 2 (by decide) rfl (hts _ (List.mem_of_getElem? (i := 2) rfl)) dX9_piece_21 (fun v9 ev9 lv9 uv9 => ?_)
    have wv9 : v9 = (fi E qb 2) := ev9.symm.trans rfl
    have xv9 : v9.toInt = (fi E qb 2).toInt := by rw [wv9]
    obtain ⟨v10, ev10, tv10⟩ : ∃ v : Int32, (Int8.ofInt (12)).toInt32 = v ∧ v.toInt = 12 := ⟨_, rfl, by decide +kernel⟩
    refine lv_bipush hx hb dX9_piece_24 ev10 ?_
    refine lv_icmp_lt (tgt := 35) hx hb dX9_piece_26 (by decide) (fun c11 => ?_) (fun c11 => ?_)
    · skip
      have tc11 := nu_lt c11
      refine lv_aload_n hx hb dX9_piece_35 rfl (lv_at hl 0 rfl) ?_
      obtain ⟨v12, ev12, tv12⟩ : ∃ v : Int32, Int32.ofInt (0) = v ∧ v.toInt = 0 := ⟨_, rfl, by decide +kernel⟩
      refine lv_iconst hx hb dX9_piece_36 ev12 ?_
      refine tr_puti Z.1 Z.2.2.2.1 S3.1 S3.2 ha0 ta0 rfl rfl (fun _ h => List.mem_cons_of_mem _ (List.mem_append_left _ (List.mem_append_right _ h))) tyX9_ok nmX9 9 (by decide) rfl rfl rfl (hts _ (List.mem_of_getElem? (i := 3) rfl)) dX9_piece_37 (by have := fb_rng v12; omega) (by have := fb_rng v12; omega) (fun E13 H14 k15 W13 I13 P13 => ?_)
      have S13 : Now D TB cy (va_A (va_pl L E) sz) s L τ E13 H14 k15 := ⟨W13, I13⟩
      have F13 : Fr L τ (inW [(0, 0), (9, 0), (39, 0)]) E E13 := Fr.put F0_ P13 ta0 rfl
      refine lv_aload_n hx hb dX9_piece_40 rfl (lv_at hl 0 rfl) ?_
      refine tr_getr Z.1 Z.2.2.2.1 S13.1 S13.2 ha0 ta0 rfl rfl (fun _ h => List.mem_cons_of_mem _ (List.mem_append_left _ (List.mem_append_right _ h))) 6 (by decide) rfl (hts _ (List.mem_of_getElem? (i := 1) rfl)) dX9_piece_41 (fun q16 eq16 hq16 tq16 => ?_)
      have tq16 : τ q16 = (9, 0) := tq16
      have uq16 : qb = q16 := S13.2.2.2.2 _ hqb _ hq16 (tqb.trans tq16.symm) (by rw [tqb]; rfl)
      subst uq16
      refine tr_getr Z.1 Z.2.2.2.1 S13.1 S13.2 hqb tqb rfl rfl (fun _ h => List.mem_cons_of_mem _ (List.mem_append_right _ h)) 0 (by decide) rfl (hts _ (List.mem_of_getElem? (i := 4) rfl)) dX9_piece_44 (fun q17 eq17 hq17 tq17 => ?_)
      have tq17 : τ q17 = (39, 0) := tq17
      have uq17 : qp = q17 := S13.2.2.2.2 _ hqp _ hq17 (tqp.trans tq17.symm) (by rw [tqp]; rfl)
      subst uq17
      refine lv_aload_n hx hb dX9_piece_47 rfl (lv_at hl 0 rfl) ?_
      refine tr_getr Z.1 Z.2.2.2.1 S13.1 S13.2 ha0 ta0 rfl rfl (fun _ h => List.mem_cons_of_mem _ (List.mem_append_left _ (List.mem_append_right _ h))) 6 (by decide) rfl (hts _ (List.mem_of_getElem? (i := 1) rfl)) dX9_piece_48 (fun q18 eq18 hq18 tq18 => ?_)
      have tq18 : τ q18 = (9, 0) := tq18
      have uq18 : qb = q18 := S13.2.2.2.2 _ hqb _ hq18 (tqb.trans tq18.symm) (by rw [tqb]; rfl)
      subst uq18
      refine tr_geti Z.1 Z.2.2.2.1 S13.1 S13.2 hqb tqb rfl rfl (fun _ h => List.mem_cons_of_mem _ (List.mem_append_right _ h)) 2 (by decide) rfl (hts _ (List.mem_of_getElem? (i := 2) rfl)) dX9_piece_51 (fun v19 ev19 lv19 uv19 => ?_)
      have wv19 : v19 = v9 := ev19.symm.trans ((fi_put (k := 2) P13 (Or.inl (ne_ro tqb ta0 (by decide)))).trans ev9)
      have xv19 : v19.toInt = v9.toInt := by rw [wv19]
      refine lv_iload_n hx hb dX9_piece_54 rfl (lv_at hl 1 rfl) ?_
      refine tr_iast Z.1 Z.2.2.2.1 S13.1 S13.2 hqp tqp rfl (by omega) (by omega) (by omega) (by omega) dX9_piece_55 (fun E20 H21 k22 W20 I20 P20 => ?_)
      have S20 : Now D TB cy (va_A (va_pl L E) sz) s L τ E20 H21 k22 := ⟨W20, I20⟩
      have F20 : Fr L τ (inW [(0, 0), (9, 0), (39, 0)]) E E20 := Fr.set F13 P20 tqp rfl
      refine lv_aload_n hx hb dX9_piece_56 rfl (lv_at hl 0 rfl) ?_
      refine tr_getr Z.1 Z.2.2.2.1 S20.1 S20.2 ha0 ta0 rfl rfl (fun _ h => List.mem_cons_of_mem _ (List.mem_append_left _ (List.mem_append_right _ h))) 6 (by decide) rfl (hts _ (List.mem_of_getElem? (i := 1) rfl)) dX9_piece_57 (fun q23 eq23 hq23 tq23 => ?_)
      have tq23 : τ q23 = (9, 0) := tq23
      have uq23 : qb = q23 := S20.2.2.2.2 _ hqb _ hq23 (tqb.trans tq23.symm) (by rw [tqb]; rfl)
      subst uq23
      refine lv_dup hx hb dX9_piece_60 rfl ?_
      refine tr_geti Z.1 Z.2.2.2.1 S20.1 S20.2 hqb tqb rfl rfl (fun _ h => List.mem_cons_of_mem _ (List.mem_append_right _ h)) 2 (by decide) rfl (hts _ (List.mem_of_getElem? (i := 2) rfl)) dX9_piece_61 (fun v24 ev24 lv24 uv24 => ?_)
      have wv24 : v24 = v19 := ev24.symm.trans ((fi_set (k := 2) P20 (ne_ro tqb tqp (by decide))).trans ev19)
      have xv24 : v24.toInt = v19.toInt := by rw [wv24]
      obtain ⟨v25, ev25, tv25⟩ : ∃ v : Int32, Int32.ofInt (1) = v ∧ v.toInt = 1 := ⟨_, rfl, by decide +kernel⟩
      refine lv_iconst hx hb dX9_piece_64 ev25 ?_
      refine lv_iadd hx hb dX9_piece_65 ?_
      refine lv_topi (fun v26 ev26 => ?_)
      have tv26 := nu_add ev26 (by omega) (by omega)
      refine tr_puti Z.1 Z.2.2.2.1 S20.1 S20.2 hqb tqb rfl rfl (fun _ h => List.mem_cons_of_mem _ (List.mem_append_right _ h)) tyX0_ok nmX0 2 (by decide) rfl rfl rfl (hts _ (List.mem_of_getElem? (i := 2) rfl)) dX9_piece_66 (by omega) (by omega) (fun E27 H28 k29 W27 I27 P27 => ?_)
      have S27 : Now D TB cy (va_A (va_pl L E) sz) s L τ E27 H28 k29 := ⟨W27, I27⟩
      have F27 : Fr L τ (inW [(0, 0), (9, 0), (39, 0)]) E E27 := Fr.put F20 P27 tqb rfl
      refine lv_aload_n hx hb dX9_piece_69 rfl (lv_at hl 0 rfl) ?_
      refine tr_getr Z.1 Z.2.2.2.1 S27.1 S27.2 ha0 ta0 rfl rfl (fun _ h => List.mem_cons_of_mem _ (List.mem_append_left _ (List.mem_append_right _ h))) 6 (by decide) rfl (hts _ (List.mem_of_getElem? (i := 1) rfl)) dX9_piece_70 (fun q30 eq30 hq30 tq30 => ?_)
      have tq30 : τ q30 = (9, 0) := tq30
      have uq30 : qb = q30 := S27.2.2.2.2 _ hqb _ hq30 (tqb.trans tq30.symm) (by rw [tqb]; rfl)
      subst uq30
      refine tr_geti Z.1 Z.2.2.2.1 S27.1 S27.2 hqb tqb rfl rfl (fun _ h => List.mem_cons_of_mem _ (List.mem_append_right _ h)) 2 (by decide) rfl (hts _ (List.mem_of_getElem? (i := 2) rfl)) dX9_piece_73 (fun v31 ev31 lv31 uv31 => ?_)
      have wv31 : v31 = v26 := ev31.symm.trans (fi_at P27)
      have xv31 : v31.toInt = v26.toInt := by rw [wv31]
      rw [← hQ]
      exact en_i Z S27 F27 (Or.inl ⟨⟨by omega, by omega, by omega⟩, by rw [ev31]; first | done | omega, ((ai_put P27 (ne_ro tqp tqb (by decide))).trans (ai_at (n := (fi E qb 2).toInt.toNat) P20.2.1 (by omega))), fun j hj => ((ai_put P27 (ne_ro tqp tqb (by decide))).trans ((ai_setk P20 (by show j ≠ v19.toInt.toNat; omega)).trans (ai_put P13 (ne_ro tqp ta0 (by decide)))))⟩) dX9_piece_76
    · skip
      have tc11 := nu_nlt c11
      refine lv_aload_n hx hb dX9_piece_29 rfl (lv_at hl 0 rfl) ?_
      obtain ⟨v32, ev32, tv32⟩ : ∃ v : Int32, Int32.ofInt (3) = v ∧ v.toInt = 3 := ⟨_, rfl, by decide +kernel⟩
      refine lv_iconst hx hb dX9_piece_30 ev32 ?_
      refine tc_vi Z.1 Z.2.2.2.1 Z.2.2.2.2.1 Z.2.2.2.2.2 S3.1 S3.2 ha0 ta0 rfl rfl (k_X9_refuse l D cy S3.2 ha0 ta0 v32) (cwV 1 hts gX9_piece_X9_refuse rfl rfl rfl (by decide +kernel) ⟨Nat.le_of_ble_eq_true rfl, Nat.le_of_ble_eq_true rfl⟩) rfl hl.1 rfl (Nat.le_of_ble_eq_true rfl) dX9_piece_31 ⟨Nat.zero_le _, Nat.zero_le _⟩ (fun v36 E33 H34 k35 W33 I33 G33 p33 => ?_)
      obtain ⟨p33_0, p33_1⟩ := p33
      have S33 : Now D TB cy (va_A (va_pl L E) sz) s L τ E33 H34 k35 := ⟨W33, I33⟩
      have F33 : Fr L τ (inW [(0, 0), (9, 0), (39, 0)]) E E33 := F0_.trans (G33.mono (inW_mono (by decide)))
      rw [← hQ]
      exact en_i Z S33 F33 (Or.inr ⟨by omega, by rw [((fi_fr (k := 2) G33 hqb (by rw [tqb]; rfl)).trans ev9)]; first | done | omega, fun j => (ai_fr G33 hqp (by rw [tqp]; rfl))⟩) dX9_piece_34
  · skip
    have tc7 := nu_eq c7
    have uc7 : (0 : Int32).toInt = 0 := rfl
    refine lv_aload_n hx hb dX9_piece_11 rfl (lv_at hl 0 rfl) ?_
    obtain ⟨v37, ev37, tv37⟩ : ∃ v : Int32, Int32.ofInt (1) = v ∧ v.toInt = 1 := ⟨_, rfl, by decide +kernel⟩
    refine lv_iconst hx hb dX9_piece_12 ev37 ?_
    refine tc_vi Z.1 Z.2.2.2.1 Z.2.2.2.2.1 Z.2.2.2.2.2 S3.1 S3.2 ha0 ta0 rfl rfl (k_X9_refuse l D cy S3.2 ha0 ta0 v37) (cwV 1 hts gX9_piece_X9_refuse rfl rfl rfl (by decide +kernel) ⟨Nat.le_of_ble_eq_true rfl, Nat.le_of_ble_eq_true rfl⟩) rfl hl.1 rfl (Nat.le_of_ble_eq_true rfl) dX9_piece_13 ⟨Nat.zero_le _, Nat.zero_le _⟩ (fun v41 E38 H39 k40 W38 I38 G38 p38 => ?_)
    obtain ⟨p38_0, p38_1⟩ := p38
    have S38 : Now D TB cy (va_A (va_pl L E) sz) s L τ E38 H39 k40 := ⟨W38, I38⟩
    have F38 : Fr L τ (inW [(0, 0), (9, 0), (39, 0)]) E E38 := F0_.trans (G38.mono (inW_mono (by decide)))
    rw [← hQ]
    exact en_i Z S38 F38 (Or.inr ⟨by omega, by rw [((fi_fr (k := 2) G38 hqb (by rw [tqb]; rfl)).trans rfl)]; first | done | omega, fun j => (ai_fr G38 hqp (by rw [tqp]; rfl))⟩) dX9_piece_16

set_option maxHeartbeats 4000000 in
set_option maxRecDepth 100000 in
theorem k_X10_piece_vb (l : Launch) (D : va_G) (cy : Nat → ClassId) {L : List Nat} {τ : Nat → Ro} {E : Ec} (hI : Inv TB cy L τ E) {a0 : Nat} (ha0 : a0 ∈ L) (ta0 : τ a0 = (11, 0)) (a1 : Int32) {qk : Nat} (hqk : qk ∈ L) (tqk : τ qk = (83, 0)) : CtI l yX10_piece wsX10_piece { frames := 1, cells := 0, slots := 0, locals := 23 } D TB cy L τ E [.ref a0, .int a1] (inW [(11, 0), (83, 0)]) (fun r E' => (((1 ≤ a1.toInt ∧ a1.toInt ≤ 10000 ∧ (fi E a0 45).toInt < 12) ∧ (fi E' a0 45).toInt = (fi E a0 45).toInt + 1 ∧ ai E' qk (fi E a0 45).toInt.toNat = a1 ∧ ∀ j : Nat, j ≠ (fi E a0 45).toInt.toNat → ai E' qk j = ai E qk j) ∨ (¬ (1 ≤ a1.toInt ∧ a1.toInt ≤ 10000 ∧ (fi E a0 45).toInt < 12) ∧ (fi E' a0 45).toInt = (fi E a0 45).toInt ∧ ∀ j : Nat, ai E' qk j = ai E qk j)) ∧ (∀ k : Nat, k ∉ ([3, 4, 6, 45] : List Nat) → fi E' a0 k = fi E a0 k)) := by
  intro sz
  refine sta (cc := cX10_piece) (maxL := 2) hI (by decide) rfl (Nat.le_of_ble_eq_true rfl) (fun p e s m args below meth c ls hsz Z S0 hl => ?_)
  have hx := Z.1.1
  have hb := Z.1.2.1
  have hts := Z.1.2.2.2.2
  have F0_ : Fr L τ (inW [(11, 0), (83, 0)]) E E := Fr.refl
  have hl : lv_has ls 2 [(0, .ref a0), (1, .int a1)] := hl
  generalize hQ : MQ below _ args s 0 0 _ = QQ
  have kz_a0_45 := fi_rng (k := 45) hI ha0 ta0 rfl rfl
  refine lv_aload_n hx hb dX10_piece_0 rfl (lv_at hl 0 rfl) ?_
  obtain ⟨v1, ev1, tv1⟩ : ∃ v : Int32, Int32.ofInt (0) = v ∧ v.toInt = 0 := ⟨_, rfl, by decide +kernel⟩
  refine lv_iconst hx hb dX10_piece_1 ev1 ?_
  refine tr_puti Z.1 Z.2.2.2.1 S0.1 S0.2 ha0 ta0 rfl rfl (fun _ h => List.mem_cons_of_mem _ (List.mem_append_right _ h)) tyX10_ok nmX10 4 (by decide) rfl rfl rfl (hts _ (List.mem_of_getElem? (i := 1) rfl)) dX10_piece_2 (by omega) (by omega) (fun E2 H3 k4 W2 I2 P2 => ?_)
  have S2 : Now D TB cy (va_A (va_pl L E) sz) s L τ E2 H3 k4 := ⟨W2, I2⟩
  have F2 : Fr L τ (inW [(11, 0), (83, 0)]) E E2 := Fr.put F0_ P2 ta0 rfl
  refine lv_aload_n hx hb dX10_piece_5 rfl (lv_at hl 0 rfl) ?_
  refine lv_iload_n hx hb dX10_piece_6 rfl (lv_at hl 1 rfl) ?_
  obtain ⟨v5, ev5, tv5⟩ : ∃ v : Int32, Int32.ofInt (1) = v ∧ v.toInt = 1 := ⟨_, rfl, by decide +kernel⟩
  refine lv_iconst hx hb dX10_piece_7 ev5 ?_
  obtain ⟨v6, ev6, tv6⟩ : ∃ v : Int32, (Int16.ofInt (10000)).toInt32 = v ∧ v.toInt = 10000 := ⟨_, rfl, by decide +kernel⟩
  refine lv_sipush hx hb dX10_piece_8 ev6 ?_
  refine tc_vi Z.1 Z.2.2.2.1 Z.2.2.2.2.1 Z.2.2.2.2.2 S2.1 S2.2 ha0 ta0 rfl rfl (k_X10_in l D cy S2.2 ha0 ta0 a1 v5 v6) (cwV 3 hts gX10_piece_X10_in rfl rfl rfl (by decide +kernel) ⟨Nat.le_of_ble_eq_true rfl, Nat.le_of_ble_eq_true rfl⟩) rfl hl.1 rfl (Nat.le_of_ble_eq_true rfl) dX10_piece_11 ⟨Nat.zero_le _, Nat.zero_le _⟩ (fun v10 E7 H8 k9 W7 I7 G7 p7 => ?_)
  obtain ⟨q7, p7_0, p7_1, p7_2⟩ := p7
  have q7 := q7.symm
  subst q7
  have S7 : Now D TB cy (va_A (va_pl L E) sz) s L τ E2 H8 k9 := ⟨W7, I7⟩
  refine lv_if_ne (tgt := 23) hx hb dX10_piece_14 (by decide) (fun c11 => ?_) (fun c11 => ?_)
  · skip
    have tc11 := nu_ne c11
    have uc11 : (0 : Int32).toInt = 0 := rfl
    refine lv_aload_n hx hb dX10_piece_23 rfl (lv_at hl 0 rfl) ?_
    refine tr_geti Z.1 Z.2.2.2.1 S7.1 S7.2 ha0 ta0 rfl rfl (fun _ h => List.mem_cons_of_mem _ (List.mem_append_right _ h)) 45 (by decide) rfl (hts _ (List.mem_of_getElem? (i := 2) rfl)) dX10_piece_24 (fun v12 ev12 lv12 uv12 => ?_)
    have wv12 : v12 = (fi E a0 45) := ev12.symm.trans ((fi_put (k := 45) P2 (Or.inr (by decide))).trans rfl)
    have xv12 : v12.toInt = (fi E a0 45).toInt := by rw [wv12]
    obtain ⟨v13, ev13, tv13⟩ : ∃ v : Int32, (Int8.ofInt (12)).toInt32 = v ∧ v.toInt = 12 := ⟨_, rfl, by decide +kernel⟩
    refine lv_bipush hx hb dX10_piece_27 ev13 ?_
    refine lv_icmp_ne (tgt := 38) hx hb dX10_piece_29 (by decide) (fun c14 => ?_) (fun c14 => ?_)
    · skip
      have tc14 := nu_ne c14
      refine lv_aload_n hx hb dX10_piece_38 rfl (lv_at hl 0 rfl) ?_
      refine tc_vv Z.1 Z.2.2.2.1 Z.2.2.2.2.1 Z.2.2.2.2.2 S7.1 S7.2 ha0 ta0 rfl rfl (k_X10_good l D cy S7.2 ha0 ta0) (cwV 0 hts gX10_piece_X10_good rfl rfl rfl (by decide +kernel) ⟨Nat.le_of_ble_eq_true rfl, Nat.le_of_ble_eq_true rfl⟩) rfl hl.1 rfl (Nat.le_of_ble_eq_true rfl) dX10_piece_39 ⟨Nat.zero_le _, Nat.zero_le _⟩ (fun E15 H16 k17 W15 I15 G15 p15 => ?_)
      have p15_0 := p15
      have S15 : Now D TB cy (va_A (va_pl L E) sz) s L τ E15 H16 k17 := ⟨W15, I15⟩
      have F15 : Fr L τ (inW [(11, 0), (83, 0)]) E E15 := F2.trans (G15.mono (inW_mono (by decide)))
      refine lv_aload_n hx hb dX10_piece_42 rfl (lv_at hl 0 rfl) ?_
      refine tr_getr Z.1 Z.2.2.2.1 S15.1 S15.2 ha0 ta0 rfl rfl (fun _ h => List.mem_cons_of_mem _ (List.mem_append_right _ h)) 42 (by decide) rfl (hts _ (List.mem_of_getElem? (i := 3) rfl)) dX10_piece_43 (fun q19 eq19 hq19 tq19 => ?_)
      have tq19 : τ q19 = (83, 0) := tq19
      have uq19 : qk = q19 := S15.2.2.2.2 _ hqk _ hq19 (tqk.trans tq19.symm) (by rw [tqk]; rfl)
      subst uq19
      refine lv_aload_n hx hb dX10_piece_46 rfl (lv_at hl 0 rfl) ?_
      refine tr_geti Z.1 Z.2.2.2.1 S15.1 S15.2 ha0 ta0 rfl rfl (fun _ h => List.mem_cons_of_mem _ (List.mem_append_right _ h)) 45 (by decide) rfl (hts _ (List.mem_of_getElem? (i := 2) rfl)) dX10_piece_47 (fun v20 ev20 lv20 uv20 => ?_)
      have wv20 : v20 = v12 := ev20.symm.trans ((p15_0 45 (by decide)).trans ev12)
      have xv20 : v20.toInt = v12.toInt := by rw [wv20]
      refine lv_iload_n hx hb dX10_piece_50 rfl (lv_at hl 1 rfl) ?_
      refine tr_iast Z.1 Z.2.2.2.1 S15.1 S15.2 hqk tqk rfl (by omega) (by omega) (by omega) (by omega) dX10_piece_51 (fun E21 H22 k23 W21 I21 P21 => ?_)
      have S21 : Now D TB cy (va_A (va_pl L E) sz) s L τ E21 H22 k23 := ⟨W21, I21⟩
      have F21 : Fr L τ (inW [(11, 0), (83, 0)]) E E21 := Fr.set F15 P21 tqk rfl
      refine lv_aload_n hx hb dX10_piece_52 rfl (lv_at hl 0 rfl) ?_
      refine lv_dup hx hb dX10_piece_53 rfl ?_
      refine tr_geti Z.1 Z.2.2.2.1 S21.1 S21.2 ha0 ta0 rfl rfl (fun _ h => List.mem_cons_of_mem _ (List.mem_append_right _ h)) 45 (by decide) rfl (hts _ (List.mem_of_getElem? (i := 2) rfl)) dX10_piece_54 (fun v24 ev24 lv24 uv24 => ?_)
      have wv24 : v24 = v20 := ev24.symm.trans ((fi_set (k := 45) P21 (ne_ro ta0 tqk (by decide))).trans ev20)
      have xv24 : v24.toInt = v20.toInt := by rw [wv24]
      obtain ⟨v25, ev25, tv25⟩ : ∃ v : Int32, Int32.ofInt (1) = v ∧ v.toInt = 1 := ⟨_, rfl, by decide +kernel⟩
      refine lv_iconst hx hb dX10_piece_57 ev25 ?_
      refine lv_iadd hx hb dX10_piece_58 ?_
      refine lv_topi (fun v26 ev26 => ?_)
      have tv26 := nu_add ev26 (by omega) (by omega)
      refine tr_puti Z.1 Z.2.2.2.1 S21.1 S21.2 ha0 ta0 rfl rfl (fun _ h => List.mem_cons_of_mem _ (List.mem_append_right _ h)) tyX10_ok nmX10 45 (by decide) rfl rfl rfl (hts _ (List.mem_of_getElem? (i := 2) rfl)) dX10_piece_59 (by omega) (by omega) (fun E27 H28 k29 W27 I27 P27 => ?_)
      have S27 : Now D TB cy (va_A (va_pl L E) sz) s L τ E27 H28 k29 := ⟨W27, I27⟩
      have F27 : Fr L τ (inW [(11, 0), (83, 0)]) E E27 := Fr.put F21 P27 ta0 rfl
      refine lv_aload_n hx hb dX10_piece_62 rfl (lv_at hl 0 rfl) ?_
      refine tr_geti Z.1 Z.2.2.2.1 S27.1 S27.2 ha0 ta0 rfl rfl (fun _ h => List.mem_cons_of_mem _ (List.mem_append_right _ h)) 45 (by decide) rfl (hts _ (List.mem_of_getElem? (i := 2) rfl)) dX10_piece_63 (fun v30 ev30 lv30 uv30 => ?_)
      have wv30 : v30 = v26 := ev30.symm.trans (fi_at P27)
      have xv30 : v30.toInt = v26.toInt := by rw [wv30]
      rw [← hQ]
      exact en_i Z S27 F27 ⟨(Or.inl ⟨⟨by omega, by omega, by omega⟩, by rw [ev30]; first | done | omega, ((ai_put P27 (ne_ro tqk ta0 (by decide))).trans (ai_at (n := (fi E a0 45).toInt.toNat) P21.2.1 (by omega))), fun j hj => ((ai_put P27 (ne_ro tqk ta0 (by decide))).trans ((ai_setk P21 (by show j ≠ v20.toInt.toNat; omega)).trans ((ai_fr G15 hqk (by rw [tqk]; rfl)).trans (ai_put P2 (ne_ro tqk ta0 (by decide))))))⟩), (fun k hk => ((fi_put P27 (Or.inr (fw_ne (by decide) hk))).trans ((fi_set P21 (ne_ro ta0 tqk (by decide))).trans ((p15_0 k (fw_sub (by decide) hk)).trans ((fi_put P2 (Or.inr (fw_ne (by decide) hk))).trans ((fun k hk => rfl) k hk))))))⟩ dX10_piece_66
    · skip
      have tc14 := nu_eq c14
      refine lv_aload_n hx hb dX10_piece_32 rfl (lv_at hl 0 rfl) ?_
      obtain ⟨v31, ev31, tv31⟩ : ∃ v : Int32, Int32.ofInt (3) = v ∧ v.toInt = 3 := ⟨_, rfl, by decide +kernel⟩
      refine lv_iconst hx hb dX10_piece_33 ev31 ?_
      refine tc_vi Z.1 Z.2.2.2.1 Z.2.2.2.2.1 Z.2.2.2.2.2 S7.1 S7.2 ha0 ta0 rfl rfl (k_X10_no l D cy S7.2 ha0 ta0 v31) (cwV 1 hts gX10_piece_X10_no rfl rfl rfl (by decide +kernel) ⟨Nat.le_of_ble_eq_true rfl, Nat.le_of_ble_eq_true rfl⟩) rfl hl.1 rfl (Nat.le_of_ble_eq_true rfl) dX10_piece_34 ⟨Nat.zero_le _, Nat.zero_le _⟩ (fun v35 E32 H33 k34 W32 I32 G32 p32 => ?_)
      obtain ⟨p32_0, p32_1, p32_2⟩ := p32
      have S32 : Now D TB cy (va_A (va_pl L E) sz) s L τ E32 H33 k34 := ⟨W32, I32⟩
      have F32 : Fr L τ (inW [(11, 0), (83, 0)]) E E32 := F2.trans (G32.mono (inW_mono (by decide)))
      rw [← hQ]
      exact en_i Z S32 F32 ⟨(Or.inr ⟨by omega, by rw [((p32_2 45 (by decide)).trans ev12)]; first | done | omega, fun j => ((ai_fr G32 hqk (by rw [tqk]; rfl)).trans (ai_put P2 (ne_ro tqk ta0 (by decide))))⟩), (fun k hk => ((p32_2 k (fw_sub (by decide) hk)).trans ((fi_put P2 (Or.inr (fw_ne (by decide) hk))).trans ((fun k hk => rfl) k hk))))⟩ dX10_piece_37
  · skip
    have tc11 := nu_eq c11
    have uc11 : (0 : Int32).toInt = 0 := rfl
    refine lv_aload_n hx hb dX10_piece_17 rfl (lv_at hl 0 rfl) ?_
    obtain ⟨v36, ev36, tv36⟩ : ∃ v : Int32, Int32.ofInt (1) = v ∧ v.toInt = 1 := ⟨_, rfl, by decide +kernel⟩
    refine lv_iconst hx hb dX10_piece_18 ev36 ?_
    refine tc_vi Z.1 Z.2.2.2.1 Z.2.2.2.2.1 Z.2.2.2.2.2 S7.1 S7.2 ha0 ta0 rfl rfl (k_X10_no l D cy S7.2 ha0 ta0 v36) (cwV 1 hts gX10_piece_X10_no rfl rfl rfl (by decide +kernel) ⟨Nat.le_of_ble_eq_true rfl, Nat.le_of_ble_eq_true rfl⟩) rfl hl.1 rfl (Nat.le_of_ble_eq_true rfl) dX10_piece_19 ⟨Nat.zero_le _, Nat.zero_le _⟩ (fun v40 E37 H38 k39 W37 I37 G37 p37 => ?_)
    obtain ⟨p37_0, p37_1, p37_2⟩ := p37
    have S37 : Now D TB cy (va_A (va_pl L E) sz) s L τ E37 H38 k39 := ⟨W37, I37⟩
    have F37 : Fr L τ (inW [(11, 0), (83, 0)]) E E37 := F2.trans (G37.mono (inW_mono (by decide)))
    rw [← hQ]
    exact en_i Z S37 F37 ⟨(Or.inr ⟨by omega, by rw [((p37_2 45 (by decide)).trans ((fi_put (k := 45) P2 (Or.inr (by decide))).trans rfl))]; first | done | omega, fun j => ((ai_fr G37 hqk (by rw [tqk]; rfl)).trans (ai_put P2 (ne_ro tqk ta0 (by decide))))⟩), (fun k hk => ((p37_2 k (fw_sub (by decide) hk)).trans ((fi_put P2 (Or.inr (fw_ne (by decide) hk))).trans ((fun k hk => rfl) k hk))))⟩ dX10_piece_22

