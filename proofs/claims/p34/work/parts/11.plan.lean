theorem dX4_flightTreads_0 : decode cX4_flightTreads 0 = .ok (.iconst 0, 1) := by decide +kernel
theorem dX4_flightTreads_1 : decode cX4_flightTreads 1 = .ok (.istore_n 1, 1) := by decide +kernel
theorem dX4_flightTreads_2 : decode cX4_flightTreads 2 = .ok (.iconst 0, 1) := by decide +kernel
theorem dX4_flightTreads_3 : decode cX4_flightTreads 3 = .ok (.istore_n 2, 1) := by decide +kernel
theorem dX4_flightTreads_4 : decode cX4_flightTreads 4 = .ok (.iload_n 2, 1) := by decide +kernel
theorem dX4_flightTreads_5 : decode cX4_flightTreads 5 = .ok (.aload_n 0, 1) := by decide +kernel
theorem dX4_flightTreads_6 : decode cX4_flightTreads 6 = .ok (.getfield 24, 3) := by decide +kernel
theorem dX4_flightTreads_9 : decode cX4_flightTreads 9 = .ok (.if_icmp .ge 18, 3) := by decide +kernel
theorem dX4_flightTreads_12 : decode cX4_flightTreads 12 = .ok (.iload_n 1, 1) := by decide +kernel
theorem dX4_flightTreads_13 : decode cX4_flightTreads 13 = .ok (.aload_n 0, 1) := by decide +kernel
theorem dX4_flightTreads_14 : decode cX4_flightTreads 14 = .ok (.getfield 36, 3) := by decide +kernel
theorem dX4_flightTreads_17 : decode cX4_flightTreads 17 = .ok (.iload_n 2, 1) := by decide +kernel
theorem dX4_flightTreads_18 : decode cX4_flightTreads 18 = .ok (.iaload, 1) := by decide +kernel
theorem dX4_flightTreads_19 : decode cX4_flightTreads 19 = .ok (.iadd, 1) := by decide +kernel
theorem dX4_flightTreads_20 : decode cX4_flightTreads 20 = .ok (.istore_n 1, 1) := by decide +kernel
theorem dX4_flightTreads_21 : decode cX4_flightTreads 21 = .ok (.iinc 2 1, 3) := by decide +kernel
theorem dX4_flightTreads_24 : decode cX4_flightTreads 24 = .ok (.goto (-20), 3) := by decide +kernel
theorem dX4_flightTreads_27 : decode cX4_flightTreads 27 = .ok (.iload_n 1, 1) := by decide +kernel
theorem dX4_flightTreads_28 : decode cX4_flightTreads 28 = .ok (.ireturn, 1) := by decide +kernel
set_option maxHeartbeats 4000000 in
set_option maxRecDepth 100000 in
theorem k_X4_flightTreads_v0 (l : Launch) (D : va_G) (cy : Nat → ClassId) {L : List Nat} {τ : Nat → Ro} {E : Ec} (hI : Inv TB cy L τ E) {a0 : Nat} (ha0 : a0 ∈ L) (ta0 : τ a0 = (1, 0)) : CtI l yX4_flightTreads wsX4_flightTreads { frames := 0, cells := 0, slots := 0, locals := 0 } D TB cy L τ E [.ref a0] (inW []) (fun r E' => E' = E) := by
  intro sz
  refine sta (cc := cX4_flightTreads) (maxL := 3) hI (by decide) rfl (Nat.le_of_ble_eq_true rfl) (fun p e s m args below meth c ls hsz Z S0 hl => ?_)
  have hx := Z.1.1
  have hb := Z.1.2.1
  have hts := Z.1.2.2.2.2
  have F0_ : Fr L τ (inW []) E E := Fr.refl
  have hl : lv_has ls 3 [(0, .ref a0)] := hl
  generalize hQ : MQ below _ args s 0 0 _ = QQ
  have J4 : ∀ (n : Nat) (x1_4 : Int32) (x2_4 : Int32) (H_4 : Heap) (k_4 : List Loc) (l_4 : Array Slot), Now D TB cy (va_A (va_pl L E) sz) s L τ E H_4 k_4 → (0 ≤ x2_4.toInt) → (x2_4.toInt ≤ 3) → (3 - x2_4.toInt).toNat < n → lv_has l_4 3 [(0, .ref a0), (1, .int x1_4), (2, .int x2_4)] → W p l e { frames := 0, cells := 0, slots := 0, locals := 0 } s m args below meth c H_4 k_4 0 0 QQ (F0 m 4 l_4 []) := by
    intro n
    induction n with
    | zero => intro x1_4 x2_4 H_4 k_4 l_4 S_4 z1 z2 hm hl_4; exact absurd hm (Nat.not_lt_zero _)
    | succ n ih =>
      intro x1_4 x2_4 H_4 k_4 l_4 S_4 z1 z2 hm hl_4
      have ih_4 := ih
      refine lv_iload_n hx hb dX4_flightTreads_4 rfl (lv_at hl_4 2 rfl) ?_
      refine lv_aload_n hx hb dX4_flightTreads_5 rfl (lv_at hl_4 0 rfl) ?_
      refine tr_geti Z.1 Z.2.2.2.1 S_4.1 S_4.2 ha0 ta0 rfl rfl (fun _ h => List.mem_cons_of_mem _ (List.mem_append_right _ h)) 4 (by decide) rfl (hts _ (List.mem_of_getElem? (i := 1) rfl)) dX4_flightTreads_6 (fun v3 ev3 lv3 uv3 => ?_)
      refine lv_icmp_ge (tgt := 27) hx hb dX4_flightTreads_9 (by decide) (fun c4 => ?_) (fun c4 => ?_)
      · skip
        have tc4 := nu_le c4
        refine lv_iload_n hx hb dX4_flightTreads_27 rfl (lv_at hl_4 1 rfl) ?_
        rw [← hQ]
        exact en_i Z S_4 F0_ rfl dX4_flightTreads_28
      · skip
        have tc4 := nu_nle c4
        refine lv_iload_n hx hb dX4_flightTreads_12 rfl (lv_at hl_4 1 rfl) ?_
        refine lv_aload_n hx hb dX4_flightTreads_13 rfl (lv_at hl_4 0 rfl) ?_
        refine tr_getr Z.1 Z.2.2.2.1 S_4.1 S_4.2 ha0 ta0 rfl rfl (fun _ h => List.mem_cons_of_mem _ (List.mem_append_right _ h)) 8 (by decide) rfl (hts _ (List.mem_of_getElem? (i := 2) rfl)) dX4_flightTreads_14 (fun q5 eq5 hq5 tq5 => ?_)
        have tq5 : τ q5 = (20, 0) := tq5
        refine lv_iload_n hx hb dX4_flightTreads_17 rfl (lv_at hl_4 2 rfl) ?_
        refine tr_iald Z.1 Z.2.2.2.1 S_4.1 S_4.2 hq5 tq5 rfl (by omega) (by omega) dX4_flightTreads_18 (fun v6 ev6 lv6 uv6 => ?_)
        refine lv_iadd hx hb dX4_flightTreads_19 ?_
        refine lv_topi (fun v7 ev7 => ?_)
        refine lv_istore_n (lv' := [(1, .int v7), (0, .ref a0), (2, .int x2_4)]) hx hb dX4_flightTreads_20 rfl hl_4 (by decide) rfl (fun l8 hl9 => ?_)
        obtain ⟨v10, ev10⟩ : ∃ y : Int32, x2_4 + Int32.ofInt (1) = y := ⟨_, rfl⟩
        have tv10 : v10.toInt = x2_4.toInt + (1) := by rw [← ev10]; exact (fb_addI (by rw [show (Int32.ofInt (1)).toInt = 1 from by decide +kernel]; omega) (by rw [show (Int32.ofInt (1)).toInt = 1 from by decide +kernel]; omega)).trans (by rw [show (Int32.ofInt (1)).toInt = 1 from by decide +kernel])
        refine lv_iinc (v := v10) (lv' := [(2, .int v10), (1, .int v7), (0, .ref a0)]) hx hb dX4_flightTreads_21 hl9 (k := 2) rfl ev10 (by decide) rfl (fun l11 hl12 => ?_)
        refine lv_goto (tgt := 4) hx hb dX4_flightTreads_24 (by decide) ?_
        exact ih_4 v7 v10 H_4 k_4 l11 S_4 (by omega) (by omega) (by omega) (lv_sub hl12 [2, 1, 0] rfl)
  obtain ⟨v13, ev13, tv13⟩ : ∃ v : Int32, Int32.ofInt (0) = v ∧ v.toInt = 0 := ⟨_, rfl, by decide +kernel⟩
  refine lv_iconst hx hb dX4_flightTreads_0 ev13 ?_
  refine lv_istore_n (lv' := [(1, .int v13), (0, .ref a0)]) hx hb dX4_flightTreads_1 rfl hl (by decide) rfl (fun l14 hl15 => ?_)
  obtain ⟨v16, ev16, tv16⟩ : ∃ v : Int32, Int32.ofInt (0) = v ∧ v.toInt = 0 := ⟨_, rfl, by decide +kernel⟩
  refine lv_iconst hx hb dX4_flightTreads_2 ev16 ?_
  refine lv_istore_n (lv' := [(2, .int v16), (1, .int v13), (0, .ref a0)]) hx hb dX4_flightTreads_3 rfl hl15 (by decide) rfl (fun l17 hl18 => ?_)
  exact J4 _ v13 v16 s.heap [] l17 S0 (by omega) (by omega) (Nat.lt_succ_self _) (lv_sub hl18 [2, 1, 0] rfl)

theorem dX4_turnTreads_0 : decode cX4_turnTreads 0 = .ok (.iconst 0, 1) := by decide +kernel
theorem dX4_turnTreads_1 : decode cX4_turnTreads 1 = .ok (.istore_n 1, 1) := by decide +kernel
theorem dX4_turnTreads_2 : decode cX4_turnTreads 2 = .ok (.iconst 0, 1) := by decide +kernel
theorem dX4_turnTreads_3 : decode cX4_turnTreads 3 = .ok (.istore_n 2, 1) := by decide +kernel
theorem dX4_turnTreads_4 : decode cX4_turnTreads 4 = .ok (.iload_n 2, 1) := by decide +kernel
theorem dX4_turnTreads_5 : decode cX4_turnTreads 5 = .ok (.aload_n 0, 1) := by decide +kernel
theorem dX4_turnTreads_6 : decode cX4_turnTreads 6 = .ok (.getfield 24, 3) := by decide +kernel
theorem dX4_turnTreads_9 : decode cX4_turnTreads 9 = .ok (.iconst 1, 1) := by decide +kernel
theorem dX4_turnTreads_10 : decode cX4_turnTreads 10 = .ok (.isub, 1) := by decide +kernel
theorem dX4_turnTreads_11 : decode cX4_turnTreads 11 = .ok (.if_icmp .ge 26, 3) := by decide +kernel
theorem dX4_turnTreads_14 : decode cX4_turnTreads 14 = .ok (.iload_n 1, 1) := by decide +kernel
theorem dX4_turnTreads_15 : decode cX4_turnTreads 15 = .ok (.aload_n 0, 1) := by decide +kernel
theorem dX4_turnTreads_16 : decode cX4_turnTreads 16 = .ok (.getfield 43, 3) := by decide +kernel
theorem dX4_turnTreads_19 : decode cX4_turnTreads 19 = .ok (.iload_n 2, 1) := by decide +kernel
theorem dX4_turnTreads_20 : decode cX4_turnTreads 20 = .ok (.iaload, 1) := by decide +kernel
theorem dX4_turnTreads_21 : decode cX4_turnTreads 21 = .ok (.ifCond .ne 7, 3) := by decide +kernel
theorem dX4_turnTreads_24 : decode cX4_turnTreads 24 = .ok (.iconst 1, 1) := by decide +kernel
theorem dX4_turnTreads_25 : decode cX4_turnTreads 25 = .ok (.goto 4, 3) := by decide +kernel
theorem dX4_turnTreads_28 : decode cX4_turnTreads 28 = .ok (.iconst 3, 1) := by decide +kernel
theorem dX4_turnTreads_29 : decode cX4_turnTreads 29 = .ok (.iadd, 1) := by decide +kernel
theorem dX4_turnTreads_30 : decode cX4_turnTreads 30 = .ok (.istore_n 1, 1) := by decide +kernel
theorem dX4_turnTreads_31 : decode cX4_turnTreads 31 = .ok (.iinc 2 1, 3) := by decide +kernel
theorem dX4_turnTreads_34 : decode cX4_turnTreads 34 = .ok (.goto (-30), 3) := by decide +kernel
theorem dX4_turnTreads_37 : decode cX4_turnTreads 37 = .ok (.iload_n 1, 1) := by decide +kernel
theorem dX4_turnTreads_38 : decode cX4_turnTreads 38 = .ok (.ireturn, 1) := by decide +kernel
set_option maxHeartbeats 4000000 in
set_option maxRecDepth 100000 in
theorem k_X4_turnTreads_v0 (l : Launch) (D : va_G) (cy : Nat → ClassId) {L : List Nat} {τ : Nat → Ro} {E : Ec} (hI : Inv TB cy L τ E) {a0 : Nat} (ha0 : a0 ∈ L) (ta0 : τ a0 = (1, 0)) : CtI l yX4_turnTreads wsX4_turnTreads { frames := 0, cells := 0, slots := 0, locals := 0 } D TB cy L τ E [.ref a0] (inW []) (fun r E' => E' = E) := by
  intro sz
  refine sta (cc := cX4_turnTreads) (maxL := 3) hI (by decide) rfl (Nat.le_of_ble_eq_true rfl) (fun p e s m args below meth c ls hsz Z S0 hl => ?_)
  have hx := Z.1.1
  have hb := Z.1.2.1
  have hts := Z.1.2.2.2.2
  have F0_ : Fr L τ (inW []) E E := Fr.refl
  have hl : lv_has ls 3 [(0, .ref a0)] := hl
  generalize hQ : MQ below _ args s 0 0 _ = QQ
  have J4 : ∀ (n : Nat) (x1_4 : Int32) (x2_4 : Int32) (H_4 : Heap) (k_4 : List Loc) (l_4 : Array Slot), Now D TB cy (va_A (va_pl L E) sz) s L τ E H_4 k_4 → (0 ≤ x2_4.toInt) → (x2_4.toInt ≤ 2) → (2 - x2_4.toInt).toNat < n → lv_has l_4 3 [(0, .ref a0), (1, .int x1_4), (2, .int x2_4)] → W p l e { frames := 0, cells := 0, slots := 0, locals := 0 } s m args below meth c H_4 k_4 0 0 QQ (F0 m 4 l_4 []) := by
    intro n
    induction n with
    | zero => intro x1_4 x2_4 H_4 k_4 l_4 S_4 z1 z2 hm hl_4; exact absurd hm (Nat.not_lt_zero _)
    | succ n ih =>
      intro x1_4 x2_4 H_4 k_4 l_4 S_4 z1 z2 hm hl_4
      have ih_4 := ih
      have J29 : ∀ (y0_29 : Int32) (y1_29 : Int32) (H_29 : Heap) (k_29 : List Loc) (l_29 : Array Slot), Now D TB cy (va_A (va_pl L E) sz) s L τ E H_29 k_29 → (0 ≤ x2_4.toInt) → (x2_4.toInt ≤ 1) → (1 ≤ y1_29.toInt) → (y1_29.toInt ≤ 3) → lv_has l_29 3 [(0, .ref a0), (2, .int x2_4)] → W p l e { frames := 0, cells := 0, slots := 0, locals := 0 } s m args below meth c H_29 k_29 0 0 QQ (F0 m 29 l_29 [.int y1_29, .int y0_29]) := by
        intro y0_29 y1_29 H_29 k_29 l_29 S_29 z3 z4 z5 z6 hl_29
        refine lv_iadd hx hb dX4_turnTreads_29 ?_
        refine lv_topi (fun v7 ev7 => ?_)
        refine lv_istore_n (lv' := [(1, .int v7), (0, .ref a0), (2, .int x2_4)]) hx hb dX4_turnTreads_30 rfl hl_29 (by decide) rfl (fun l8 hl9 => ?_)
        obtain ⟨v10, ev10⟩ : ∃ y : Int32, x2_4 + Int32.ofInt (1) = y := ⟨_, rfl⟩
        have tv10 : v10.toInt = x2_4.toInt + (1) := by rw [← ev10]; exact (fb_addI (by rw [show (Int32.ofInt (1)).toInt = 1 from by decide +kernel]; omega) (by rw [show (Int32.ofInt (1)).toInt = 1 from by decide +kernel]; omega)).trans (by rw [show (Int32.ofInt (1)).toInt = 1 from by decide +kernel])
        refine lv_iinc (v := v10) (lv' := [(2, .int v10), (1, .int v7), (0, .ref a0)]) hx hb dX4_turnTreads_31 hl9 (k := 2) rfl ev10 (by decide) rfl (fun l11 hl12 => ?_)
        refine lv_goto (tgt := 4) hx hb dX4_turnTreads_34 (by decide) ?_
        exact ih_4 v7 v10 H_29 k_29 l11 S_29 (by omega) (by omega) (by omega) (lv_sub hl12 [2, 1, 0] rfl)
      refine lv_iload_n hx hb dX4_turnTreads_4 rfl (lv_at hl_4 2 rfl) ?_
      refine lv_aload_n hx hb dX4_turnTreads_5 rfl (lv_at hl_4 0 rfl) ?_
      refine tr_geti Z.1 Z.2.2.2.1 S_4.1 S_4.2 ha0 ta0 rfl rfl (fun _ h => List.mem_cons_of_mem _ (List.mem_append_right _ h)) 4 (by decide) rfl (hts _ (List.mem_of_getElem? (i := 1) rfl)) dX4_turnTreads_6 (fun v13 ev13 lv13 uv13 => ?_)
      obtain ⟨v14, ev14, tv14⟩ : ∃ v : Int32, Int32.ofInt (1) = v ∧ v.toInt = 1 := ⟨_, rfl, by decide +kernel⟩
      refine lv_iconst hx hb dX4_turnTreads_9 ev14 ?_
      refine lv_isub hx hb dX4_turnTreads_10 ?_
      refine lv_topi (fun v15 ev15 => ?_)
      have tv15 := nu_sub ev15 (by omega) (by omega)
      refine lv_icmp_ge (tgt := 37) hx hb dX4_turnTreads_11 (by decide) (fun c16 => ?_) (fun c16 => ?_)
      · skip
        have tc16 := nu_le c16
        refine lv_iload_n hx hb dX4_turnTreads_37 rfl (lv_at hl_4 1 rfl) ?_
        rw [← hQ]
        exact en_i Z S_4 F0_ rfl dX4_turnTreads_38
      · skip
        have tc16 := nu_nle c16
        refine lv_iload_n hx hb dX4_turnTreads_14 rfl (lv_at hl_4 1 rfl) ?_
        refine lv_aload_n hx hb dX4_turnTreads_15 rfl (lv_at hl_4 0 rfl) ?_
        refine tr_getr Z.1 Z.2.2.2.1 S_4.1 S_4.2 ha0 ta0 rfl rfl (fun _ h => List.mem_cons_of_mem _ (List.mem_append_right _ h)) 10 (by decide) rfl (hts _ (List.mem_of_getElem? (i := 2) rfl)) dX4_turnTreads_16 (fun q17 eq17 hq17 tq17 => ?_)
        have tq17 : τ q17 = (22, 0) := tq17
        refine lv_iload_n hx hb dX4_turnTreads_19 rfl (lv_at hl_4 2 rfl) ?_
        refine tr_iald Z.1 Z.2.2.2.1 S_4.1 S_4.2 hq17 tq17 rfl (by omega) (by omega) dX4_turnTreads_20 (fun v18 ev18 lv18 uv18 => ?_)
        refine lv_if_ne (tgt := 28) hx hb dX4_turnTreads_21 (by decide) (fun c19 => ?_) (fun c19 => ?_)
        · skip
          have tc19 := nu_ne c19
          have uc19 : (0 : Int32).toInt = 0 := rfl
          obtain ⟨v20, ev20, tv20⟩ : ∃ v : Int32, Int32.ofInt (3) = v ∧ v.toInt = 3 := ⟨_, rfl, by decide +kernel⟩
          refine lv_iconst hx hb dX4_turnTreads_28 ev20 ?_
          exact J29 x1_4 v20 H_4 k_4 l_4 S_4 (by omega) (by omega) (by omega) (by omega) (lv_sub hl_4 [0, 2] rfl)
        · skip
          have tc19 := nu_eq c19
          have uc19 : (0 : Int32).toInt = 0 := rfl
          obtain ⟨v21, ev21, tv21⟩ : ∃ v : Int32, Int32.ofInt (1) = v ∧ v.toInt = 1 := ⟨_, rfl, by decide +kernel⟩
          refine lv_iconst hx hb dX4_turnTreads_24 ev21 ?_
          refine lv_goto (tgt := 29) hx hb dX4_turnTreads_25 (by decide) ?_
          exact J29 x1_4 v21 H_4 k_4 l_4 S_4 (by omega) (by omega) (by omega) (by omega) (lv_sub hl_4 [0, 2] rfl)
  obtain ⟨v22, ev22, tv22⟩ : ∃ v : Int32, Int32.ofInt (0) = v ∧ v.toInt = 0 := ⟨_, rfl, by decide +kernel⟩
  refine lv_iconst hx hb dX4_turnTreads_0 ev22 ?_
  refine lv_istore_n (lv' := [(1, .int v22), (0, .ref a0)]) hx hb dX4_turnTreads_1 rfl hl (by decide) rfl (fun l23 hl24 => ?_)
  obtain ⟨v25, ev25, tv25⟩ : ∃ v : Int32, Int32.ofInt (0) = v ∧ v.toInt = 0 := ⟨_, rfl, by decide +kernel⟩
  refine lv_iconst hx hb dX4_turnTreads_2 ev25 ?_
  refine lv_istore_n (lv' := [(2, .int v25), (1, .int v22), (0, .ref a0)]) hx hb dX4_turnTreads_3 rfl hl24 (by decide) rfl (fun l26 hl27 => ?_)
  exact J4 _ v22 v25 s.heap [] l26 S0 (by omega) (by omega) (Nat.lt_succ_self _) (lv_sub hl27 [2, 1, 0] rfl)

set_option maxRecDepth 20000 in
theorem ggX4_lawAt_X9_within : GoodIn wsX4_lawAt wsX9_within := goodIn_r _ [5] (by decide +kernel) (by decide +kernel)
set_option maxRecDepth 20000 in
theorem gX4_lawAt_X9_within_n70 : GoodIn wsX4_lawAt (wsX9_within) := ggX4_lawAt_X9_within
theorem dX4_lawAt_0 : decode cX4_lawAt 0 = .ok (.iload_n 1, 1) := by decide +kernel
theorem dX4_lawAt_1 : decode cX4_lawAt 1 = .ok (.iconst 0, 1) := by decide +kernel
theorem dX4_lawAt_2 : decode cX4_lawAt 2 = .ok (.aload_n 0, 1) := by decide +kernel
theorem dX4_lawAt_3 : decode cX4_lawAt 3 = .ok (.getfield 33, 3) := by decide +kernel
theorem dX4_lawAt_6 : decode cX4_lawAt 6 = .ok (.iconst 1, 1) := by decide +kernel
theorem dX4_lawAt_7 : decode cX4_lawAt 7 = .ok (.isub, 1) := by decide +kernel
theorem dX4_lawAt_8 : decode cX4_lawAt 8 = .ok (.invokestatic 70, 3) := by decide +kernel
theorem dX4_lawAt_11 : decode cX4_lawAt 11 = .ok (.ifCond .eq 12, 3) := by decide +kernel
theorem dX4_lawAt_14 : decode cX4_lawAt 14 = .ok (.aload_n 0, 1) := by decide +kernel
theorem dX4_lawAt_15 : decode cX4_lawAt 15 = .ok (.getfield 60, 3) := by decide +kernel
theorem dX4_lawAt_18 : decode cX4_lawAt 18 = .ok (.iload_n 1, 1) := by decide +kernel
theorem dX4_lawAt_19 : decode cX4_lawAt 19 = .ok (.aaload, 1) := by decide +kernel
theorem dX4_lawAt_20 : decode cX4_lawAt 20 = .ok (.goto 4, 3) := by decide +kernel
theorem dX4_lawAt_23 : decode cX4_lawAt 23 = .ok (.aconst_null, 1) := by decide +kernel
theorem dX4_lawAt_24 : decode cX4_lawAt 24 = .ok (.areturn, 1) := by decide +kernel
set_option maxHeartbeats 4000000 in
set_option maxRecDepth 100000 in
theorem k_X4_lawAt_v0 (l : Launch) (D : va_G) (cy : Nat → ClassId) {L : List Nat} {τ : Nat → Ro} {E : Ec} (hI : Inv TB cy L τ E) {a0 : Nat} (ha0 : a0 ∈ L) (ta0 : τ a0 = (1, 0)) (a1 : Int32) : CtQ l yX4_lawAt wsX4_lawAt { frames := 1, cells := 0, slots := 0, locals := 22 } D TB cy L τ E [.ref a0, .int a1] (inW []) (fun r E' => E' = E ∧ (∀ q : Nat, r = some q → q ∈ L ∧ (τ q).1 = 10)) := by
  intro sz
  refine sta (cc := cX4_lawAt) (maxL := 2) hI (by decide) rfl (Nat.le_of_ble_eq_true rfl) (fun p e s m args below meth c ls hsz Z S0 hl => ?_)
  have hx := Z.1.1
  have hb := Z.1.2.1
  have hts := Z.1.2.2.2.2
  have F0_ : Fr L τ (inW []) E E := Fr.refl
  have hl : lv_has ls 2 [(0, .ref a0), (1, .int a1)] := hl
  generalize hQ : MQ below _ args s 0 0 _ = QQ
  refine lv_iload_n hx hb dX4_lawAt_0 rfl (lv_at hl 1 rfl) ?_
  obtain ⟨v1, ev1, tv1⟩ : ∃ v : Int32, Int32.ofInt (0) = v ∧ v.toInt = 0 := ⟨_, rfl, by decide +kernel⟩
  refine lv_iconst hx hb dX4_lawAt_1 ev1 ?_
  refine lv_aload_n hx hb dX4_lawAt_2 rfl (lv_at hl 0 rfl) ?_
  refine tr_geti Z.1 Z.2.2.2.1 S0.1 S0.2 ha0 ta0 rfl rfl (fun _ h => List.mem_cons_of_mem _ (List.mem_append_right _ h)) 7 (by decide) rfl (hts _ (List.mem_of_getElem? (i := 1) rfl)) dX4_lawAt_3 (fun v2 ev2 lv2 uv2 => ?_)
  obtain ⟨v3, ev3, tv3⟩ : ∃ v : Int32, Int32.ofInt (1) = v ∧ v.toInt = 1 := ⟨_, rfl, by decide +kernel⟩
  refine lv_iconst hx hb dX4_lawAt_6 ev3 ?_
  refine lv_isub hx hb dX4_lawAt_7 ?_
  refine lv_topi (fun v4 ev4 => ?_)
  have tv4 := nu_sub ev4 (by omega) (by omega)
  refine tc_sni Z.1 Z.2.2.2.1 Z.2.2.2.2.1 Z.2.2.2.2.2 S0.1 (k_X9_within l D cy S0.2 a1 v1 v4) ⟨va_cnB (host := RX9) 3 hts gX4_lawAt_X9_within_n70 rfl rfl rfl (Z.2.2.2.2.1 _ (by decide +kernel)) (hts _ (List.mem_of_getElem? (i := 4) rfl)) (by decide +kernel) ⟨Nat.le_of_ble_eq_true rfl, Nat.le_of_ble_eq_true rfl⟩, hts _ (List.mem_of_getElem? (i := 3) rfl), trivial⟩ rfl hl.1 rfl (Nat.le_of_ble_eq_true rfl) dX4_lawAt_8 ⟨Nat.zero_le _, Nat.zero_le _⟩ (fun v8 E5 H6 k7 W5 I5 G5 p5 => ?_)
  obtain ⟨q5, p5_0, p5_1, p5_2⟩ := p5
  have q5 := q5.symm
  subst q5
  have S5 : Now D TB cy (va_A (va_pl L E) sz) s L τ E H6 k7 := ⟨W5, I5⟩
  refine lv_if_eq (tgt := 23) hx hb dX4_lawAt_11 (by decide) (fun c9 => ?_) (fun c9 => ?_)
  · skip
    have tc9 := nu_eq c9
    have uc9 : (0 : Int32).toInt = 0 := rfl
    refine lv_null hx hb dX4_lawAt_23 ?_
    rw [← hQ]
    exact en_q (x := none) Z (by first | exact Or.inl ⟨_, rfl⟩ | exact Or.inr ⟨_, rfl⟩) S5 F0_ ⟨rfl, (fun _ h => nomatch h)⟩ dX4_lawAt_24
  · skip
    have tc9 := nu_ne c9
    have uc9 : (0 : Int32).toInt = 0 := rfl
    refine lv_aload_n hx hb dX4_lawAt_14 rfl (lv_at hl 0 rfl) ?_
    refine tr_getr Z.1 Z.2.2.2.1 S5.1 S5.2 ha0 ta0 rfl rfl (fun _ h => List.mem_cons_of_mem _ (List.mem_append_right _ h)) 15 (by decide) rfl (hts _ (List.mem_of_getElem? (i := 2) rfl)) dX4_lawAt_15 (fun q10 eq10 hq10 tq10 => ?_)
    have tq10 : τ q10 = (27, 0) := tq10
    refine lv_iload_n hx hb dX4_lawAt_18 rfl (lv_at hl 1 rfl) ?_
    refine tr_aald Z.1 Z.2.2.2.1 S5.1 S5.2 hq10 tq10 rfl rfl rfl (by omega) (by omega) dX4_lawAt_19 (fun q11 eq11 hq11 => ?_)
    have hq11 := law_no hq11
    cases q11 with
    | none =>
      refine W.eq (g2 := F0 m 20 ls [.null]) rfl ?_
      refine lv_goto (tgt := 24) hx hb dX4_lawAt_20 (by decide) ?_
      rw [← hQ]
      exact en_q (x := none) Z (by first | exact Or.inl ⟨_, rfl⟩ | exact Or.inr ⟨_, rfl⟩) S5 F0_ ⟨rfl, (fun _ h => nomatch h)⟩ dX4_lawAt_24
    | some q12 =>
      obtain ⟨hq12, gq12⟩ := hq11 q12 rfl
      obtain ⟨nq12, tq12⟩ : ∃ n : Nat, τ q12 = (10, n) := ⟨(τ q12).2, by rw [← gq12]⟩
      refine W.eq (g2 := F0 m 20 ls [.ref q12]) rfl ?_
      refine lv_goto (tgt := 24) hx hb dX4_lawAt_20 (by decide) ?_
      rw [← hQ]
      exact en_q (x := some q12) Z (by first | exact Or.inl ⟨_, rfl⟩ | exact Or.inr ⟨_, rfl⟩) S5 F0_ ⟨rfl, (fun y h => by cases h; exact ⟨hq12, by rw [tq12]⟩)⟩ dX4_lawAt_24

set_option maxHeartbeats 4000000 in
set_option maxRecDepth 100000 in
theorem k_X4_flightTreads_v2 (l : Launch) (D : va_G) (cy : Nat → ClassId) {L : List Nat} {τ : Nat → Ro} {E : Ec} (hI : Inv TB cy L τ E) {a0 : Nat} (ha0 : a0 ∈ L) (ta0 : τ a0 = (1, 2)) : CtI l yX4_flightTreads wsX4_flightTreads { frames := 0, cells := 0, slots := 0, locals := 0 } D TB cy L τ E [.ref a0] (inW []) (fun r E' => E' = E) := by
  intro sz
  refine sta (cc := cX4_flightTreads) (maxL := 3) hI (by decide) rfl (Nat.le_of_ble_eq_true rfl) (fun p e s m args below meth c ls hsz Z S0 hl => ?_)
  have hx := Z.1.1
  have hb := Z.1.2.1
  have hts := Z.1.2.2.2.2
  have F0_ : Fr L τ (inW []) E E := Fr.refl
  have hl : lv_has ls 3 [(0, .ref a0)] := hl
  generalize hQ : MQ below _ args s 0 0 _ = QQ
  have J4 : ∀ (n : Nat) (x1_4 : Int32) (x2_4 : Int32) (H_4 : Heap) (k_4 : List Loc) (l_4 : Array Slot), Now D TB cy (va_A (va_pl L E) sz) s L τ E H_4 k_4 → (0 ≤ x2_4.toInt) → (x2_4.toInt ≤ 3) → (3 - x2_4.toInt).toNat < n → lv_has l_4 3 [(0, .ref a0), (1, .int x1_4), (2, .int x2_4)] → W p l e { frames := 0, cells := 0, slots := 0, locals := 0 } s m args below meth c H_4 k_4 0 0 QQ (F0 m 4 l_4 []) := by
    intro n
    induction n with
    | zero => intro x1_4 x2_4 H_4 k_4 l_4 S_4 z1 z2 hm hl_4; exact absurd hm (Nat.not_lt_zero _)
    | succ n ih =>
      intro x1_4 x2_4 H_4 k_4 l_4 S_4 z1 z2 hm hl_4
      have ih_4 := ih
      refine lv_iload_n hx hb dX4_flightTreads_4 rfl (lv_at hl_4 2 rfl) ?_
      refine lv_aload_n hx hb dX4_flightTreads_5 rfl (lv_at hl_4 0 rfl) ?_
      refine tr_geti Z.1 Z.2.2.2.1 S_4.1 S_4.2 ha0 ta0 rfl rfl (fun _ h => List.mem_cons_of_mem _ (List.mem_append_right _ h)) 4 (by decide) rfl (hts _ (List.mem_of_getElem? (i := 1) rfl)) dX4_flightTreads_6 (fun v3 ev3 lv3 uv3 => ?_)
      refine lv_icmp_ge (tgt := 27) hx hb dX4_flightTreads_9 (by decide) (fun c4 => ?_) (fun c4 => ?_)
      · skip
        have tc4 := nu_le c4
        refine lv_iload_n hx hb dX4_flightTreads_27 rfl (lv_at hl_4 1 rfl) ?_
        rw [← hQ]
        exact en_i Z S_4 F0_ rfl dX4_flightTreads_28
      · skip
        have tc4 := nu_nle c4
        refine lv_iload_n hx hb dX4_flightTreads_12 rfl (lv_at hl_4 1 rfl) ?_
        refine lv_aload_n hx hb dX4_flightTreads_13 rfl (lv_at hl_4 0 rfl) ?_
        refine tr_getr Z.1 Z.2.2.2.1 S_4.1 S_4.2 ha0 ta0 rfl rfl (fun _ h => List.mem_cons_of_mem _ (List.mem_append_right _ h)) 8 (by decide) rfl (hts _ (List.mem_of_getElem? (i := 2) rfl)) dX4_flightTreads_14 (fun q5 eq5 hq5 tq5 => ?_)
        have tq5 : τ q5 = (20, 2) := tq5
        refine lv_iload_n hx hb dX4_flightTreads_17 rfl (lv_at hl_4 2 rfl) ?_
        refine tr_iald Z.1 Z.2.2.2.1 S_4.1 S_4.2 hq5 tq5 rfl (by omega) (by omega) dX4_flightTreads_18 (fun v6 ev6 lv6 uv6 => ?_)
        refine lv_iadd hx hb dX4_flightTreads_19 ?_
        refine lv_topi (fun v7 ev7 => ?_)
        refine lv_istore_n (lv' := [(1, .int v7), (0, .ref a0), (2, .int x2_4)]) hx hb dX4_flightTreads_20 rfl hl_4 (by decide) rfl (fun l8 hl9 => ?_)
        obtain ⟨v10, ev10⟩ : ∃ y : Int32, x2_4 + Int32.ofInt (1) = y := ⟨_, rfl⟩
        have tv10 : v10.toInt = x2_4.toInt + (1) := by rw [← ev10]; exact (fb_addI (by rw [show (Int32.ofInt (1)).toInt = 1 from by decide +kernel]; omega) (by rw [show (Int32.ofInt (1)).toInt = 1 from by decide +kernel]; omega)).trans (by rw [show (Int32.ofInt (1)).toInt = 1 from by decide +kernel])
        refine lv_iinc (v := v10) (lv' := [(2, .int v10), (1, .int v7), (0, .ref a0)]) hx hb dX4_flightTreads_21 hl9 (k := 2) rfl ev10 (by decide) rfl (fun l11 hl12 => ?_)
        refine lv_goto (tgt := 4) hx hb dX4_flightTreads_24 (by decide) ?_
        exact ih_4 v7 v10 H_4 k_4 l11 S_4 (by omega) (by omega) (by omega) (lv_sub hl12 [2, 1, 0] rfl)
  obtain ⟨v13, ev13, tv13⟩ : ∃ v : Int32, Int32.ofInt (0) = v ∧ v.toInt = 0 := ⟨_, rfl, by decide +kernel⟩
  refine lv_iconst hx hb dX4_flightTreads_0 ev13 ?_
  refine lv_istore_n (lv' := [(1, .int v13), (0, .ref a0)]) hx hb dX4_flightTreads_1 rfl hl (by decide) rfl (fun l14 hl15 => ?_)
  obtain ⟨v16, ev16, tv16⟩ : ∃ v : Int32, Int32.ofInt (0) = v ∧ v.toInt = 0 := ⟨_, rfl, by decide +kernel⟩
  refine lv_iconst hx hb dX4_flightTreads_2 ev16 ?_
  refine lv_istore_n (lv' := [(2, .int v16), (1, .int v13), (0, .ref a0)]) hx hb dX4_flightTreads_3 rfl hl15 (by decide) rfl (fun l17 hl18 => ?_)
  exact J4 _ v13 v16 s.heap [] l17 S0 (by omega) (by omega) (Nat.lt_succ_self _) (lv_sub hl18 [2, 1, 0] rfl)

set_option maxHeartbeats 4000000 in
set_option maxRecDepth 100000 in
theorem k_X4_turnTreads_v2 (l : Launch) (D : va_G) (cy : Nat → ClassId) {L : List Nat} {τ : Nat → Ro} {E : Ec} (hI : Inv TB cy L τ E) {a0 : Nat} (ha0 : a0 ∈ L) (ta0 : τ a0 = (1, 2)) : CtI l yX4_turnTreads wsX4_turnTreads { frames := 0, cells := 0, slots := 0, locals := 0 } D TB cy L τ E [.ref a0] (inW []) (fun r E' => E' = E) := by
  intro sz
  refine sta (cc := cX4_turnTreads) (maxL := 3) hI (by decide) rfl (Nat.le_of_ble_eq_true rfl) (fun p e s m args below meth c ls hsz Z S0 hl => ?_)
  have hx := Z.1.1
  have hb := Z.1.2.1
  have hts := Z.1.2.2.2.2
  have F0_ : Fr L τ (inW []) E E := Fr.refl
  have hl : lv_has ls 3 [(0, .ref a0)] := hl
  generalize hQ : MQ below _ args s 0 0 _ = QQ
  have J4 : ∀ (n : Nat) (x1_4 : Int32) (x2_4 : Int32) (H_4 : Heap) (k_4 : List Loc) (l_4 : Array Slot), Now D TB cy (va_A (va_pl L E) sz) s L τ E H_4 k_4 → (0 ≤ x2_4.toInt) → (x2_4.toInt ≤ 2) → (2 - x2_4.toInt).toNat < n → lv_has l_4 3 [(0, .ref a0), (1, .int x1_4), (2, .int x2_4)] → W p l e { frames := 0, cells := 0, slots := 0, locals := 0 } s m args below meth c H_4 k_4 0 0 QQ (F0 m 4 l_4 []) := by
    intro n
    induction n with
    | zero => intro x1_4 x2_4 H_4 k_4 l_4 S_4 z1 z2 hm hl_4; exact absurd hm (Nat.not_lt_zero _)
    | succ n ih =>
      intro x1_4 x2_4 H_4 k_4 l_4 S_4 z1 z2 hm hl_4
      have ih_4 := ih
      have J29 : ∀ (y0_29 : Int32) (y1_29 : Int32) (H_29 : Heap) (k_29 : List Loc) (l_29 : Array Slot), Now D TB cy (va_A (va_pl L E) sz) s L τ E H_29 k_29 → (0 ≤ x2_4.toInt) → (x2_4.toInt ≤ 1) → (1 ≤ y1_29.toInt) → (y1_29.toInt ≤ 3) → lv_has l_29 3 [(0, .ref a0), (2, .int x2_4)] → W p l e { frames := 0, cells := 0, slots := 0, locals := 0 } s m args below meth c H_29 k_29 0 0 QQ (F0 m 29 l_29 [.int y1_29, .int y0_29]) := by
        intro y0_29 y1_29 H_29 k_29 l_29 S_29 z3 z4 z5 z6 hl_29
        refine lv_iadd hx hb dX4_turnTreads_29 ?_
        refine lv_topi (fun v7 ev7 => ?_)
        refine lv_istore_n (lv' := [(1, .int v7), (0, .ref a0), (2, .int x2_4)]) hx hb dX4_turnTreads_30 rfl hl_29 (by decide) rfl (fun l8 hl9 => ?_)
        obtain ⟨v10, ev10⟩ : ∃ y : Int32, x2_4 + Int32.ofInt (1) = y := ⟨_, rfl⟩
        have tv10 : v10.toInt = x2_4.toInt + (1) := by rw [← ev10]; exact (fb_addI (by rw [show (Int32.ofInt (1)).toInt = 1 from by decide +kernel]; omega) (by rw [show (Int32.ofInt (1)).toInt = 1 from by decide +kernel]; omega)).trans (by rw [show (Int32.ofInt (1)).toInt = 1 from by decide +kernel])
        refine lv_iinc (v := v10) (lv' := [(2, .int v10), (1, .int v7), (0, .ref a0)]) hx hb dX4_turnTreads_31 hl9 (k := 2) rfl ev10 (by decide) rfl (fun l11 hl12 => ?_)
        refine lv_goto (tgt := 4) hx hb dX4_turnTreads_34 (by decide) ?_
        exact ih_4 v7 v10 H_29 k_29 l11 S_29 (by omega) (by omega) (by omega) (lv_sub hl12 [2, 1, 0] rfl)
      refine lv_iload_n hx hb dX4_turnTreads_4 rfl (lv_at hl_4 2 rfl) ?_
      refine lv_aload_n hx hb dX4_turnTreads_5 rfl (lv_at hl_4 0 rfl) ?_
      refine tr_geti Z.1 Z.2.2.2.1 S_4.1 S_4.2 ha0 ta0 rfl rfl (fun _ h => List.mem_cons_of_mem _ (List.mem_append_right _ h)) 4 (by decide) rfl (hts _ (List.mem_of_getElem? (i := 1) rfl)) dX4_turnTreads_6 (fun v13 ev13 lv13 uv13 => ?_)
      obtain ⟨v14, ev14, tv14⟩ : ∃ v : Int32, Int32.ofInt (1) = v ∧ v.toInt = 1 := ⟨_, rfl, by decide +kernel⟩
      refine lv_iconst hx hb dX4_turnTreads_9 ev14 ?_
      refine lv_isub hx hb dX4_turnTreads_10 ?_
      refine lv_topi (fun v15 ev15 => ?_)
      have tv15 := nu_sub ev15 (by omega) (by omega)
      refine lv_icmp_ge (tgt := 37) hx hb dX4_turnTreads_11 (by decide) (fun c16 => ?_) (fun c16 => ?_)
      · skip
        have tc16 := nu_le c16
        refine lv_iload_n hx hb dX4_turnTreads_37 rfl (lv_at hl_4 1 rfl) ?_
        rw [← hQ]
        exact en_i Z S_4 F0_ rfl dX4_turnTreads_38
      · skip
        have tc16 := nu_nle c16
        refine lv_iload_n hx hb dX4_turnTreads_14 rfl (lv_at hl_4 1 rfl) ?_
        refine lv_aload_n hx hb dX4_turnTreads_15 rfl (lv_at hl_4 0 rfl) ?_
        refine tr_getr Z.1 Z.2.2.2.1 S_4.1 S_4.2 ha0 ta0 rfl rfl (fun _ h => List.mem_cons_of_mem _ (List.mem_append_right _ h)) 10 (by decide) rfl (hts _ (List.mem_of_getElem? (i := 2) rfl)) dX4_turnTreads_16 (fun q17 eq17 hq17 tq17 => ?_)
        have tq17 : τ q17 = (22, 2) := tq17
        refine lv_iload_n hx hb dX4_turnTreads_19 rfl (lv_at hl_4 2 rfl) ?_
        refine tr_iald Z.1 Z.2.2.2.1 S_4.1 S_4.2 hq17 tq17 rfl (by omega) (by omega) dX4_turnTreads_20 (fun v18 ev18 lv18 uv18 => ?_)
        refine lv_if_ne (tgt := 28) hx hb dX4_turnTreads_21 (by decide) (fun c19 => ?_) (fun c19 => ?_)
        · skip
          have tc19 := nu_ne c19
          have uc19 : (0 : Int32).toInt = 0 := rfl
          obtain ⟨v20, ev20, tv20⟩ : ∃ v : Int32, Int32.ofInt (3) = v ∧ v.toInt = 3 := ⟨_, rfl, by decide +kernel⟩
          refine lv_iconst hx hb dX4_turnTreads_28 ev20 ?_
          exact J29 x1_4 v20 H_4 k_4 l_4 S_4 (by omega) (by omega) (by omega) (by omega) (lv_sub hl_4 [0, 2] rfl)
        · skip
          have tc19 := nu_eq c19
          have uc19 : (0 : Int32).toInt = 0 := rfl
          obtain ⟨v21, ev21, tv21⟩ : ∃ v : Int32, Int32.ofInt (1) = v ∧ v.toInt = 1 := ⟨_, rfl, by decide +kernel⟩
          refine lv_iconst hx hb dX4_turnTreads_24 ev21 ?_
          refine lv_goto (tgt := 29) hx hb dX4_turnTreads_25 (by decide) ?_
          exact J29 x1_4 v21 H_4 k_4 l_4 S_4 (by omega) (by omega) (by omega) (by omega) (lv_sub hl_4 [0, 2] rfl)
  obtain ⟨v22, ev22, tv22⟩ : ∃ v : Int32, Int32.ofInt (0) = v ∧ v.toInt = 0 := ⟨_, rfl, by decide +kernel⟩
  refine lv_iconst hx hb dX4_turnTreads_0 ev22 ?_
  refine lv_istore_n (lv' := [(1, .int v22), (0, .ref a0)]) hx hb dX4_turnTreads_1 rfl hl (by decide) rfl (fun l23 hl24 => ?_)
  obtain ⟨v25, ev25, tv25⟩ : ∃ v : Int32, Int32.ofInt (0) = v ∧ v.toInt = 0 := ⟨_, rfl, by decide +kernel⟩
  refine lv_iconst hx hb dX4_turnTreads_2 ev25 ?_
  refine lv_istore_n (lv' := [(2, .int v25), (1, .int v22), (0, .ref a0)]) hx hb dX4_turnTreads_3 rfl hl24 (by decide) rfl (fun l26 hl27 => ?_)
  exact J4 _ v22 v25 s.heap [] l26 S0 (by omega) (by omega) (Nat.lt_succ_self _) (lv_sub hl27 [2, 1, 0] rfl)

set_option maxHeartbeats 4000000 in
set_option maxRecDepth 100000 in
theorem k_X4_lawAt_v2 (l : Launch) (D : va_G) (cy : Nat → ClassId) {L : List Nat} {τ : Nat → Ro} {E : Ec} (hI : Inv TB cy L τ E) {a0 : Nat} (ha0 : a0 ∈ L) (ta0 : τ a0 = (1, 2)) (a1 : Int32) : CtQ l yX4_lawAt wsX4_lawAt { frames := 1, cells := 0, slots := 0, locals := 22 } D TB cy L τ E [.ref a0, .int a1] (inW []) (fun r E' => E' = E ∧ (∀ q : Nat, r = some q → q ∈ L ∧ (τ q).1 = 10)) := by
  intro sz
  refine sta (cc := cX4_lawAt) (maxL := 2) hI (by decide) rfl (Nat.le_of_ble_eq_true rfl) (fun p e s m args below meth c ls hsz Z S0 hl => ?_)
  have hx := Z.1.1
  have hb := Z.1.2.1
  have hts := Z.1.2.2.2.2
  have F0_ : Fr L τ (inW []) E E := Fr.refl
  have hl : lv_has ls 2 [(0, .ref a0), (1, .int a1)] := hl
  generalize hQ : MQ below _ args s 0 0 _ = QQ
  refine lv_iload_n hx hb dX4_lawAt_0 rfl (lv_at hl 1 rfl) ?_
  obtain ⟨v1, ev1, tv1⟩ : ∃ v : Int32, Int32.ofInt (0) = v ∧ v.toInt = 0 := ⟨_, rfl, by decide +kernel⟩
  refine lv_iconst hx hb dX4_lawAt_1 ev1 ?_
  refine lv_aload_n hx hb dX4_lawAt_2 rfl (lv_at hl 0 rfl) ?_
  refine tr_geti Z.1 Z.2.2.2.1 S0.1 S0.2 ha0 ta0 rfl rfl (fun _ h => List.mem_cons_of_mem _ (List.mem_append_right _ h)) 7 (by decide) rfl (hts _ (List.mem_of_getElem? (i := 1) rfl)) dX4_lawAt_3 (fun v2 ev2 lv2 uv2 => ?_)
  obtain ⟨v3, ev3, tv3⟩ : ∃ v : Int32, Int32.ofInt (1) = v ∧ v.toInt = 1 := ⟨_, rfl, by decide +kernel⟩
  refine lv_iconst hx hb dX4_lawAt_6 ev3 ?_
  refine lv_isub hx hb dX4_lawAt_7 ?_
  refine lv_topi (fun v4 ev4 => ?_)
  have tv4 := nu_sub ev4 (by omega) (by omega)
  refine tc_sni Z.1 Z.2.2.2.1 Z.2.2.2.2.1 Z.2.2.2.2.2 S0.1 (k_X9_within l D cy S0.2 a1 v1 v4) ⟨va_cnB (host := RX9) 3 hts gX4_lawAt_X9_within_n70 rfl rfl rfl (Z.2.2.2.2.1 _ (by decide +kernel)) (hts _ (List.mem_of_getElem? (i := 4) rfl)) (by decide +kernel) ⟨Nat.le_of_ble_eq_true rfl, Nat.le_of_ble_eq_true rfl⟩, hts _ (List.mem_of_getElem? (i := 3) rfl), trivial⟩ rfl hl.1 rfl (Nat.le_of_ble_eq_true rfl) dX4_lawAt_8 ⟨Nat.zero_le _, Nat.zero_le _⟩ (fun v8 E5 H6 k7 W5 I5 G5 p5 => ?_)
  obtain ⟨q5, p5_0, p5_1, p5_2⟩ := p5
  have q5 := q5.symm
  subst q5
  have S5 : Now D TB cy (va_A (va_pl L E) sz) s L τ E H6 k7 := ⟨W5, I5⟩
  refine lv_if_eq (tgt := 23) hx hb dX4_lawAt_11 (by decide) (fun c9 => ?_) (fun c9 => ?_)
  · skip
    have tc9 := nu_eq c9
    have uc9 : (0 : Int32).toInt = 0 := rfl
    refine lv_null hx hb dX4_lawAt_23 ?_
    rw [← hQ]
    exact en_q (x := none) Z (by first | exact Or.inl ⟨_, rfl⟩ | exact Or.inr ⟨_, rfl⟩) S5 F0_ ⟨rfl, (fun _ h => nomatch h)⟩ dX4_lawAt_24
  · skip
    have tc9 := nu_ne c9
    have uc9 : (0 : Int32).toInt = 0 := rfl
    refine lv_aload_n hx hb dX4_lawAt_14 rfl (lv_at hl 0 rfl) ?_
    refine tr_getr Z.1 Z.2.2.2.1 S5.1 S5.2 ha0 ta0 rfl rfl (fun _ h => List.mem_cons_of_mem _ (List.mem_append_right _ h)) 15 (by decide) rfl (hts _ (List.mem_of_getElem? (i := 2) rfl)) dX4_lawAt_15 (fun q10 eq10 hq10 tq10 => ?_)
    have tq10 : τ q10 = (27, 2) := tq10
    refine lv_iload_n hx hb dX4_lawAt_18 rfl (lv_at hl 1 rfl) ?_
    refine tr_aald Z.1 Z.2.2.2.1 S5.1 S5.2 hq10 tq10 rfl rfl rfl (by omega) (by omega) dX4_lawAt_19 (fun q11 eq11 hq11 => ?_)
    have hq11 := law_no hq11
    cases q11 with
    | none =>
      refine W.eq (g2 := F0 m 20 ls [.null]) rfl ?_
      refine lv_goto (tgt := 24) hx hb dX4_lawAt_20 (by decide) ?_
      rw [← hQ]
      exact en_q (x := none) Z (by first | exact Or.inl ⟨_, rfl⟩ | exact Or.inr ⟨_, rfl⟩) S5 F0_ ⟨rfl, (fun _ h => nomatch h)⟩ dX4_lawAt_24
    | some q12 =>
      obtain ⟨hq12, gq12⟩ := hq11 q12 rfl
      obtain ⟨nq12, tq12⟩ : ∃ n : Nat, τ q12 = (10, n) := ⟨(τ q12).2, by rw [← gq12]⟩
      refine W.eq (g2 := F0 m 20 ls [.ref q12]) rfl ?_
      refine lv_goto (tgt := 24) hx hb dX4_lawAt_20 (by decide) ?_
      rw [← hQ]
      exact en_q (x := some q12) Z (by first | exact Or.inl ⟨_, rfl⟩ | exact Or.inr ⟨_, rfl⟩) S5 F0_ ⟨rfl, (fun y h => by cases h; exact ⟨hq12, by rw [tq12]⟩)⟩ dX4_lawAt_24

theorem dX4_copy_0 : decode cX4_copy 0 = .ok (.aload_n 0, 1) := by decide +kernel
theorem dX4_copy_1 : decode cX4_copy 1 = .ok (.aload_n 1, 1) := by decide +kernel
theorem dX4_copy_2 : decode cX4_copy 2 = .ok (.getfield 9, 3) := by decide +kernel
theorem dX4_copy_5 : decode cX4_copy 5 = .ok (.putfield 9, 3) := by decide +kernel
theorem dX4_copy_8 : decode cX4_copy 8 = .ok (.aload_n 0, 1) := by decide +kernel
theorem dX4_copy_9 : decode cX4_copy 9 = .ok (.aload_n 1, 1) := by decide +kernel
theorem dX4_copy_10 : decode cX4_copy 10 = .ok (.getfield 15, 3) := by decide +kernel
theorem dX4_copy_13 : decode cX4_copy 13 = .ok (.putfield 15, 3) := by decide +kernel
theorem dX4_copy_16 : decode cX4_copy 16 = .ok (.aload_n 0, 1) := by decide +kernel
theorem dX4_copy_17 : decode cX4_copy 17 = .ok (.aload_n 1, 1) := by decide +kernel
theorem dX4_copy_18 : decode cX4_copy 18 = .ok (.getfield 18, 3) := by decide +kernel
theorem dX4_copy_21 : decode cX4_copy 21 = .ok (.putfield 18, 3) := by decide +kernel
theorem dX4_copy_24 : decode cX4_copy 24 = .ok (.aload_n 0, 1) := by decide +kernel
theorem dX4_copy_25 : decode cX4_copy 25 = .ok (.aload_n 1, 1) := by decide +kernel
theorem dX4_copy_26 : decode cX4_copy 26 = .ok (.getfield 21, 3) := by decide +kernel
theorem dX4_copy_29 : decode cX4_copy 29 = .ok (.putfield 21, 3) := by decide +kernel
theorem dX4_copy_32 : decode cX4_copy 32 = .ok (.aload_n 0, 1) := by decide +kernel
theorem dX4_copy_33 : decode cX4_copy 33 = .ok (.aload_n 1, 1) := by decide +kernel
theorem dX4_copy_34 : decode cX4_copy 34 = .ok (.getfield 24, 3) := by decide +kernel
theorem dX4_copy_37 : decode cX4_copy 37 = .ok (.putfield 24, 3) := by decide +kernel
theorem dX4_copy_40 : decode cX4_copy 40 = .ok (.aload_n 0, 1) := by decide +kernel
theorem dX4_copy_41 : decode cX4_copy 41 = .ok (.aload_n 1, 1) := by decide +kernel
theorem dX4_copy_42 : decode cX4_copy 42 = .ok (.getfield 27, 3) := by decide +kernel
theorem dX4_copy_45 : decode cX4_copy 45 = .ok (.putfield 27, 3) := by decide +kernel
theorem dX4_copy_48 : decode cX4_copy 48 = .ok (.aload_n 0, 1) := by decide +kernel
theorem dX4_copy_49 : decode cX4_copy 49 = .ok (.aload_n 1, 1) := by decide +kernel
theorem dX4_copy_50 : decode cX4_copy 50 = .ok (.getfield 30, 3) := by decide +kernel
theorem dX4_copy_53 : decode cX4_copy 53 = .ok (.putfield 30, 3) := by decide +kernel
theorem dX4_copy_56 : decode cX4_copy 56 = .ok (.aload_n 0, 1) := by decide +kernel
theorem dX4_copy_57 : decode cX4_copy 57 = .ok (.aload_n 1, 1) := by decide +kernel
theorem dX4_copy_58 : decode cX4_copy 58 = .ok (.getfield 33, 3) := by decide +kernel
theorem dX4_copy_61 : decode cX4_copy 61 = .ok (.putfield 33, 3) := by decide +kernel
theorem dX4_copy_64 : decode cX4_copy 64 = .ok (.aload_n 1, 1) := by decide +kernel
theorem dX4_copy_65 : decode cX4_copy 65 = .ok (.getfield 36, 3) := by decide +kernel
theorem dX4_copy_68 : decode cX4_copy 68 = .ok (.iconst 0, 1) := by decide +kernel
theorem dX4_copy_69 : decode cX4_copy 69 = .ok (.aload_n 0, 1) := by decide +kernel
theorem dX4_copy_70 : decode cX4_copy 70 = .ok (.getfield 36, 3) := by decide +kernel
theorem dX4_copy_73 : decode cX4_copy 73 = .ok (.iconst 0, 1) := by decide +kernel
theorem dX4_copy_74 : decode cX4_copy 74 = .ok (.iconst 3, 1) := by decide +kernel
theorem dX4_copy_75 : decode cX4_copy 75 = .ok (.invokestatic 64, 3) := by decide +kernel
theorem dX4_copy_78 : decode cX4_copy 78 = .ok (.aload_n 1, 1) := by decide +kernel
theorem dX4_copy_79 : decode cX4_copy 79 = .ok (.getfield 40, 3) := by decide +kernel
theorem dX4_copy_82 : decode cX4_copy 82 = .ok (.iconst 0, 1) := by decide +kernel
theorem dX4_copy_83 : decode cX4_copy 83 = .ok (.aload_n 0, 1) := by decide +kernel
theorem dX4_copy_84 : decode cX4_copy 84 = .ok (.getfield 40, 3) := by decide +kernel
theorem dX4_copy_87 : decode cX4_copy 87 = .ok (.iconst 0, 1) := by decide +kernel
theorem dX4_copy_88 : decode cX4_copy 88 = .ok (.iconst 3, 1) := by decide +kernel
theorem dX4_copy_89 : decode cX4_copy 89 = .ok (.invokestatic 64, 3) := by decide +kernel
theorem dX4_copy_92 : decode cX4_copy 92 = .ok (.aload_n 1, 1) := by decide +kernel
theorem dX4_copy_93 : decode cX4_copy 93 = .ok (.getfield 43, 3) := by decide +kernel
theorem dX4_copy_96 : decode cX4_copy 96 = .ok (.iconst 0, 1) := by decide +kernel
theorem dX4_copy_97 : decode cX4_copy 97 = .ok (.aload_n 0, 1) := by decide +kernel
theorem dX4_copy_98 : decode cX4_copy 98 = .ok (.getfield 43, 3) := by decide +kernel
theorem dX4_copy_101 : decode cX4_copy 101 = .ok (.iconst 0, 1) := by decide +kernel
theorem dX4_copy_102 : decode cX4_copy 102 = .ok (.iconst 2, 1) := by decide +kernel
theorem dX4_copy_103 : decode cX4_copy 103 = .ok (.invokestatic 64, 3) := by decide +kernel
theorem dX4_copy_106 : decode cX4_copy 106 = .ok (.aload_n 1, 1) := by decide +kernel
theorem dX4_copy_107 : decode cX4_copy 107 = .ok (.getfield 46, 3) := by decide +kernel
theorem dX4_copy_110 : decode cX4_copy 110 = .ok (.iconst 0, 1) := by decide +kernel
theorem dX4_copy_111 : decode cX4_copy 111 = .ok (.aload_n 0, 1) := by decide +kernel
theorem dX4_copy_112 : decode cX4_copy 112 = .ok (.getfield 46, 3) := by decide +kernel
theorem dX4_copy_115 : decode cX4_copy 115 = .ok (.iconst 0, 1) := by decide +kernel
theorem dX4_copy_116 : decode cX4_copy 116 = .ok (.bipush 8, 2) := by decide +kernel
theorem dX4_copy_118 : decode cX4_copy 118 = .ok (.invokestatic 64, 3) := by decide +kernel
theorem dX4_copy_121 : decode cX4_copy 121 = .ok (.aload_n 1, 1) := by decide +kernel
theorem dX4_copy_122 : decode cX4_copy 122 = .ok (.getfield 49, 3) := by decide +kernel
theorem dX4_copy_125 : decode cX4_copy 125 = .ok (.iconst 0, 1) := by decide +kernel
theorem dX4_copy_126 : decode cX4_copy 126 = .ok (.aload_n 0, 1) := by decide +kernel
theorem dX4_copy_127 : decode cX4_copy 127 = .ok (.getfield 49, 3) := by decide +kernel
theorem dX4_copy_130 : decode cX4_copy 130 = .ok (.iconst 0, 1) := by decide +kernel
theorem dX4_copy_131 : decode cX4_copy 131 = .ok (.bipush 8, 2) := by decide +kernel
theorem dX4_copy_133 : decode cX4_copy 133 = .ok (.invokestatic 64, 3) := by decide +kernel
theorem dX4_copy_136 : decode cX4_copy 136 = .ok (.aload_n 1, 1) := by decide +kernel
theorem dX4_copy_137 : decode cX4_copy 137 = .ok (.getfield 52, 3) := by decide +kernel
theorem dX4_copy_140 : decode cX4_copy 140 = .ok (.iconst 0, 1) := by decide +kernel
theorem dX4_copy_141 : decode cX4_copy 141 = .ok (.aload_n 0, 1) := by decide +kernel
theorem dX4_copy_142 : decode cX4_copy 142 = .ok (.getfield 52, 3) := by decide +kernel
theorem dX4_copy_145 : decode cX4_copy 145 = .ok (.iconst 0, 1) := by decide +kernel
theorem dX4_copy_146 : decode cX4_copy 146 = .ok (.bipush 8, 2) := by decide +kernel
theorem dX4_copy_148 : decode cX4_copy 148 = .ok (.invokestatic 64, 3) := by decide +kernel
theorem dX4_copy_151 : decode cX4_copy 151 = .ok (.aload_n 1, 1) := by decide +kernel
theorem dX4_copy_152 : decode cX4_copy 152 = .ok (.getfield 55, 3) := by decide +kernel
theorem dX4_copy_155 : decode cX4_copy 155 = .ok (.iconst 0, 1) := by decide +kernel
theorem dX4_copy_156 : decode cX4_copy 156 = .ok (.aload_n 0, 1) := by decide +kernel
theorem dX4_copy_157 : decode cX4_copy 157 = .ok (.getfield 55, 3) := by decide +kernel
theorem dX4_copy_160 : decode cX4_copy 160 = .ok (.iconst 0, 1) := by decide +kernel
theorem dX4_copy_161 : decode cX4_copy 161 = .ok (.iconst 5, 1) := by decide +kernel
theorem dX4_copy_162 : decode cX4_copy 162 = .ok (.invokestatic 64, 3) := by decide +kernel
theorem dX4_copy_165 : decode cX4_copy 165 = .ok (.iconst 0, 1) := by decide +kernel
theorem dX4_copy_166 : decode cX4_copy 166 = .ok (.istore_n 2, 1) := by decide +kernel
theorem dX4_copy_167 : decode cX4_copy 167 = .ok (.iload_n 2, 1) := by decide +kernel
theorem dX4_copy_168 : decode cX4_copy 168 = .ok (.bipush 8, 2) := by decide +kernel
theorem dX4_copy_170 : decode cX4_copy 170 = .ok (.if_icmp .ge 21, 3) := by decide +kernel
theorem dX4_copy_173 : decode cX4_copy 173 = .ok (.aload_n 0, 1) := by decide +kernel
theorem dX4_copy_174 : decode cX4_copy 174 = .ok (.getfield 60, 3) := by decide +kernel
theorem dX4_copy_177 : decode cX4_copy 177 = .ok (.iload_n 2, 1) := by decide +kernel
theorem dX4_copy_178 : decode cX4_copy 178 = .ok (.aload_n 1, 1) := by decide +kernel
theorem dX4_copy_179 : decode cX4_copy 179 = .ok (.getfield 60, 3) := by decide +kernel
theorem dX4_copy_182 : decode cX4_copy 182 = .ok (.iload_n 2, 1) := by decide +kernel
theorem dX4_copy_183 : decode cX4_copy 183 = .ok (.aaload, 1) := by decide +kernel
theorem dX4_copy_184 : decode cX4_copy 184 = .ok (.aastore, 1) := by decide +kernel
theorem dX4_copy_185 : decode cX4_copy 185 = .ok (.iinc 2 1, 3) := by decide +kernel
theorem dX4_copy_188 : decode cX4_copy 188 = .ok (.goto (-21), 3) := by decide +kernel
theorem dX4_copy_191 : decode cX4_copy 191 = .ok (.return_, 1) := by decide +kernel
set_option maxHeartbeats 4000000 in
set_option maxRecDepth 100000 in
theorem k_X4_copy_v10 (l : Launch) (D : va_G) (cy : Nat → ClassId) {L : List Nat} {τ : Nat → Ro} {E : Ec} (hI : Inv TB cy L τ E) {a0 : Nat} (ha0 : a0 ∈ L) (ta0 : τ a0 = (1, 1)) {a1 : Nat} (ha1 : a1 ∈ L) (ta1 : τ a1 = (1, 0)) : CtV l yX4_copy wsX4_copy { frames := 1, cells := 0, slots := 0, locals := 40 } D TB cy L τ E [.ref a0, .ref a1] (inW [(1, 1), (20, 1), (21, 1), (22, 1), (23, 1), (24, 1), (25, 1), (26, 1), (27, 1)]) (fun E' => True) := by
  intro sz
  refine sta (cc := cX4_copy) (maxL := 3) hI (by decide) rfl (Nat.le_of_ble_eq_true rfl) (fun p e s m args below meth c ls hsz Z S0 hl => ?_)
  have hx := Z.1.1
  have hb := Z.1.2.1
  have hts := Z.1.2.2.2.2
  have F0_ : Fr L τ (inW [(1, 1), (20, 1), (21, 1), (22, 1), (23, 1), (24, 1), (25, 1), (26, 1), (27, 1)]) E E := Fr.refl
  have hl : lv_has ls 3 [(0, .ref a0), (1, .ref a1)] := hl
  generalize hQ : MQ below _ args s 0 0 _ = QQ
  have J167 : ∀ (n : Nat) (x2_167 : Int32) (E_167 : Ec) (H_167 : Heap) (k_167 : List Loc) (l_167 : Array Slot), Now D TB cy (va_A (va_pl L E) sz) s L τ E_167 H_167 k_167 → Fr L τ (inW [(1, 1), (20, 1), (21, 1), (22, 1), (23, 1), (24, 1), (25, 1), (26, 1), (27, 1)]) E E_167 → (0 ≤ x2_167.toInt) → (x2_167.toInt ≤ 8) → (8 - x2_167.toInt).toNat < n → lv_has l_167 3 [(0, .ref a0), (1, .ref a1), (2, .int x2_167)] → W p l e { frames := 1, cells := 0, slots := 0, locals := 40 } s m args below meth c H_167 k_167 0 0 QQ (F0 m 167 l_167 []) := by
    intro n
    induction n with
    | zero => intro x2_167 E_167 H_167 k_167 l_167 S_167 F_167 z1 z2 hm hl_167; exact absurd hm (Nat.not_lt_zero _)
    | succ n ih =>
      intro x2_167 E_167 H_167 k_167 l_167 S_167 F_167 z1 z2 hm hl_167
      have ih_167 := ih
      refine lv_iload_n hx hb dX4_copy_167 rfl (lv_at hl_167 2 rfl) ?_
      obtain ⟨v3, ev3, tv3⟩ : ∃ v : Int32, (Int8.ofInt (8)).toInt32 = v ∧ v.toInt = 8 := ⟨_, rfl, by decide +kernel⟩
      refine lv_bipush hx hb dX4_copy_168 ev3 ?_
      refine lv_icmp_ge (tgt := 191) hx hb dX4_copy_170 (by decide) (fun c4 => ?_) (fun c4 => ?_)
      · skip
        have tc4 := nu_le c4
        rw [← hQ]
        exact en_v Z S_167 F_167 trivial dX4_copy_191
      · skip
        have tc4 := nu_nle c4
        refine lv_aload_n hx hb dX4_copy_173 rfl (lv_at hl_167 0 rfl) ?_
        refine tr_getr Z.1 Z.2.2.2.1 S_167.1 S_167.2 ha0 ta0 rfl rfl (fun _ h => List.mem_cons_of_mem _ (List.mem_append_right _ h)) 15 (by decide) rfl (hts _ (List.mem_of_getElem? (i := 20) rfl)) dX4_copy_174 (fun q5 eq5 hq5 tq5 => ?_)
        have tq5 : τ q5 = (27, 1) := tq5
        refine lv_iload_n hx hb dX4_copy_177 rfl (lv_at hl_167 2 rfl) ?_
        refine lv_aload_n hx hb dX4_copy_178 rfl (lv_at hl_167 1 rfl) ?_
        refine tr_getr Z.1 Z.2.2.2.1 S_167.1 S_167.2 ha1 ta1 rfl rfl (fun _ h => List.mem_cons_of_mem _ (List.mem_append_right _ h)) 15 (by decide) rfl (hts _ (List.mem_of_getElem? (i := 20) rfl)) dX4_copy_179 (fun q6 eq6 hq6 tq6 => ?_)
        have tq6 : τ q6 = (27, 0) := tq6
        refine lv_iload_n hx hb dX4_copy_182 rfl (lv_at hl_167 2 rfl) ?_
        refine tr_aald Z.1 Z.2.2.2.1 S_167.1 S_167.2 hq6 tq6 rfl rfl rfl (by omega) (by omega) dX4_copy_183 (fun q7 eq7 hq7 => ?_)
        have hq7 := law_no hq7
        cases q7 with
        | none =>
          refine W.eq (g2 := F0 m 184 l_167 [.null, .int x2_167, .ref q5]) rfl ?_
          have hv8 : ∀ y : Nat, none = some y → y ∈ L ∧ (τ y).1 = 10 := (fun _ h => nomatch h)
          refine tr_aast (v := none) (ci := 1) Z.1 Z.2.2.2.1 S_167.1 S_167.2 hq5 tq5 rfl rfl rfl (law_ob hv8) (law_ok hv8) (by omega) (by omega) dX4_copy_184 (fun E8 H9 k10 W8 I8 P8 => ?_)
          have S8 : Now D TB cy (va_A (va_pl L E) sz) s L τ E8 H9 k10 := ⟨W8, I8⟩
          have F8 : Fr L τ (inW [(1, 1), (20, 1), (21, 1), (22, 1), (23, 1), (24, 1), (25, 1), (26, 1), (27, 1)]) E E8 := Fr.seq F_167 P8 tq5 rfl
          obtain ⟨v11, ev11⟩ : ∃ y : Int32, x2_167 + Int32.ofInt (1) = y := ⟨_, rfl⟩
          have tv11 : v11.toInt = x2_167.toInt + (1) := by rw [← ev11]; exact (fb_addI (by rw [show (Int32.ofInt (1)).toInt = 1 from by decide +kernel]; omega) (by rw [show (Int32.ofInt (1)).toInt = 1 from by decide +kernel]; omega)).trans (by rw [show (Int32.ofInt (1)).toInt = 1 from by decide +kernel])
          refine lv_iinc (v := v11) (lv' := [(2, .int v11), (0, .ref a0), (1, .ref a1)]) hx hb dX4_copy_185 hl_167 (k := 2) rfl ev11 (by decide) rfl (fun l12 hl13 => ?_)
          refine lv_goto (tgt := 167) hx hb dX4_copy_188 (by decide) ?_
          exact ih_167 v11 E8 H9 k10 l12 S8 F8 (by omega) (by omega) (by omega) (lv_sub hl13 [1, 2, 0] rfl)
        | some q14 =>
          obtain ⟨hq14, gq14⟩ := hq7 q14 rfl
          obtain ⟨nq14, tq14⟩ : ∃ n : Nat, τ q14 = (10, n) := ⟨(τ q14).2, by rw [← gq14]⟩
          refine W.eq (g2 := F0 m 184 l_167 [.ref q14, .int x2_167, .ref q5]) rfl ?_
          have hv15 : ∀ y : Nat, (some q14) = some y → y ∈ L ∧ (τ y).1 = 10 := (fun y h => by cases h; exact ⟨hq14, by rw [tq14]⟩)
          refine tr_aast (v := (some q14)) (ci := 1) Z.1 Z.2.2.2.1 S_167.1 S_167.2 hq5 tq5 rfl rfl rfl (law_ob hv15) (law_ok hv15) (by omega) (by omega) dX4_copy_184 (fun E15 H16 k17 W15 I15 P15 => ?_)
          have S15 : Now D TB cy (va_A (va_pl L E) sz) s L τ E15 H16 k17 := ⟨W15, I15⟩
          have F15 : Fr L τ (inW [(1, 1), (20, 1), (21, 1), (22, 1), (23, 1), (24, 1), (25, 1), (26, 1), (27, 1)]) E E15 := Fr.seq F_167 P15 tq5 rfl
          obtain ⟨v18, ev18⟩ : ∃ y : Int32, x2_167 + Int32.ofInt (1) = y := ⟨_, rfl⟩
          have tv18 : v18.toInt = x2_167.toInt + (1) := by rw [← ev18]; exact (fb_addI (by rw [show (Int32.ofInt (1)).toInt = 1 from by decide +kernel]; omega) (by rw [show (Int32.ofInt (1)).toInt = 1 from by decide +kernel]; omega)).trans (by rw [show (Int32.ofInt (1)).toInt = 1 from by decide +kernel])
          refine lv_iinc (v := v18) (lv' := [(2, .int v18), (0, .ref a0), (1, .ref a1)]) hx hb dX4_copy_185 hl_167 (k := 2) rfl ev18 (by decide) rfl (fun l19 hl20 => ?_)
          refine lv_goto (tgt := 167) hx hb dX4_copy_188 (by decide) ?_
          exact ih_167 v18 E15 H16 k17 l19 S15 F15 (by omega) (by omega) (by omega) (lv_sub hl20 [1, 2, 0] rfl)
  refine lv_aload_n hx hb dX4_copy_0 rfl (lv_at hl 0 rfl) ?_
  refine lv_aload_n hx hb dX4_copy_1 rfl (lv_at hl 1 rfl) ?_
  refine tr_geti Z.1 Z.2.2.2.1 S0.1 S0.2 ha1 ta1 rfl rfl (fun _ h => List.mem_cons_of_mem _ (List.mem_append_right _ h)) 0 (by decide) rfl (hts _ (List.mem_of_getElem? (i := 1) rfl)) dX4_copy_2 (fun v21 ev21 lv21 uv21 => ?_)
  refine tr_puti Z.1 Z.2.2.2.1 S0.1 S0.2 ha0 ta0 rfl rfl (fun _ h => List.mem_cons_of_mem _ (List.mem_append_right _ h)) tyX4_ok nmX4 0 (by decide) rfl rfl rfl (hts _ (List.mem_of_getElem? (i := 1) rfl)) dX4_copy_5 (by have := fb_rng v21; omega) (by have := fb_rng v21; omega) (fun E22 H23 k24 W22 I22 P22 => ?_)
  have S22 : Now D TB cy (va_A (va_pl L E) sz) s L τ E22 H23 k24 := ⟨W22, I22⟩
  have F22 : Fr L τ (inW [(1, 1), (20, 1), (21, 1), (22, 1), (23, 1), (24, 1), (25, 1), (26, 1), (27, 1)]) E E22 := Fr.put F0_ P22 ta0 rfl
  refine lv_aload_n hx hb dX4_copy_8 rfl (lv_at hl 0 rfl) ?_
  refine lv_aload_n hx hb dX4_copy_9 rfl (lv_at hl 1 rfl) ?_
  refine tr_geti Z.1 Z.2.2.2.1 S22.1 S22.2 ha1 ta1 rfl rfl (fun _ h => List.mem_cons_of_mem _ (List.mem_append_right _ h)) 1 (by decide) rfl (hts _ (List.mem_of_getElem? (i := 2) rfl)) dX4_copy_10 (fun v25 ev25 lv25 uv25 => ?_)
  refine tr_puti Z.1 Z.2.2.2.1 S22.1 S22.2 ha0 ta0 rfl rfl (fun _ h => List.mem_cons_of_mem _ (List.mem_append_right _ h)) tyX4_ok nmX4 1 (by decide) rfl rfl rfl (hts _ (List.mem_of_getElem? (i := 2) rfl)) dX4_copy_13 (by have := fb_rng v25; omega) (by have := fb_rng v25; omega) (fun E26 H27 k28 W26 I26 P26 => ?_)
  have S26 : Now D TB cy (va_A (va_pl L E) sz) s L τ E26 H27 k28 := ⟨W26, I26⟩
  have F26 : Fr L τ (inW [(1, 1), (20, 1), (21, 1), (22, 1), (23, 1), (24, 1), (25, 1), (26, 1), (27, 1)]) E E26 := Fr.put F22 P26 ta0 rfl
  refine lv_aload_n hx hb dX4_copy_16 rfl (lv_at hl 0 rfl) ?_
  refine lv_aload_n hx hb dX4_copy_17 rfl (lv_at hl 1 rfl) ?_
  refine tr_geti Z.1 Z.2.2.2.1 S26.1 S26.2 ha1 ta1 rfl rfl (fun _ h => List.mem_cons_of_mem _ (List.mem_append_right _ h)) 2 (by decide) rfl (hts _ (List.mem_of_getElem? (i := 3) rfl)) dX4_copy_18 (fun v29 ev29 lv29 uv29 => ?_)
  refine tr_puti Z.1 Z.2.2.2.1 S26.1 S26.2 ha0 ta0 rfl rfl (fun _ h => List.mem_cons_of_mem _ (List.mem_append_right _ h)) tyX4_ok nmX4 2 (by decide) rfl rfl rfl (hts _ (List.mem_of_getElem? (i := 3) rfl)) dX4_copy_21 (by have := fb_rng v29; omega) (by have := fb_rng v29; omega) (fun E30 H31 k32 W30 I30 P30 => ?_)
  have S30 : Now D TB cy (va_A (va_pl L E) sz) s L τ E30 H31 k32 := ⟨W30, I30⟩
  have F30 : Fr L τ (inW [(1, 1), (20, 1), (21, 1), (22, 1), (23, 1), (24, 1), (25, 1), (26, 1), (27, 1)]) E E30 := Fr.put F26 P30 ta0 rfl
  refine lv_aload_n hx hb dX4_copy_24 rfl (lv_at hl 0 rfl) ?_
  refine lv_aload_n hx hb dX4_copy_25 rfl (lv_at hl 1 rfl) ?_
  refine tr_geti Z.1 Z.2.2.2.1 S30.1 S30.2 ha1 ta1 rfl rfl (fun _ h => List.mem_cons_of_mem _ (List.mem_append_right _ h)) 3 (by decide) rfl (hts _ (List.mem_of_getElem? (i := 4) rfl)) dX4_copy_26 (fun v33 ev33 lv33 uv33 => ?_)
  refine tr_puti Z.1 Z.2.2.2.1 S30.1 S30.2 ha0 ta0 rfl rfl (fun _ h => List.mem_cons_of_mem _ (List.mem_append_right _ h)) tyX4_ok nmX4 3 (by decide) rfl rfl rfl (hts _ (List.mem_of_getElem? (i := 4) rfl)) dX4_copy_29 (by have := fb_rng v33; omega) (by have := fb_rng v33; omega) (fun E34 H35 k36 W34 I34 P34 => ?_)
  have S34 : Now D TB cy (va_A (va_pl L E) sz) s L τ E34 H35 k36 := ⟨W34, I34⟩
  have F34 : Fr L τ (inW [(1, 1), (20, 1), (21, 1), (22, 1), (23, 1), (24, 1), (25, 1), (26, 1), (27, 1)]) E E34 := Fr.put F30 P34 ta0 rfl
  refine lv_aload_n hx hb dX4_copy_32 rfl (lv_at hl 0 rfl) ?_
  refine lv_aload_n hx hb dX4_copy_33 rfl (lv_at hl 1 rfl) ?_
  refine tr_geti Z.1 Z.2.2.2.1 S34.1 S34.2 ha1 ta1 rfl rfl (fun _ h => List.mem_cons_of_mem _ (List.mem_append_right _ h)) 4 (by decide) rfl (hts _ (List.mem_of_getElem? (i := 5) rfl)) dX4_copy_34 (fun v37 ev37 lv37 uv37 => ?_)
  refine tr_puti Z.1 Z.2.2.2.1 S34.1 S34.2 ha0 ta0 rfl rfl (fun _ h => List.mem_cons_of_mem _ (List.mem_append_right _ h)) tyX4_ok nmX4 4 (by decide) rfl rfl rfl (hts _ (List.mem_of_getElem? (i := 5) rfl)) dX4_copy_37 (by omega) (by omega) (fun E38 H39 k40 W38 I38 P38 => ?_)
  have S38 : Now D TB cy (va_A (va_pl L E) sz) s L τ E38 H39 k40 := ⟨W38, I38⟩
  have F38 : Fr L τ (inW [(1, 1), (20, 1), (21, 1), (22, 1), (23, 1), (24, 1), (25, 1), (26, 1), (27, 1)]) E E38 := Fr.put F34 P38 ta0 rfl
  refine lv_aload_n hx hb dX4_copy_40 rfl (lv_at hl 0 rfl) ?_
  refine lv_aload_n hx hb dX4_copy_41 rfl (lv_at hl 1 rfl) ?_
  refine tr_geti Z.1 Z.2.2.2.1 S38.1 S38.2 ha1 ta1 rfl rfl (fun _ h => List.mem_cons_of_mem _ (List.mem_append_right _ h)) 5 (by decide) rfl (hts _ (List.mem_of_getElem? (i := 6) rfl)) dX4_copy_42 (fun v41 ev41 lv41 uv41 => ?_)
  refine tr_puti Z.1 Z.2.2.2.1 S38.1 S38.2 ha0 ta0 rfl rfl (fun _ h => List.mem_cons_of_mem _ (List.mem_append_right _ h)) tyX4_ok nmX4 5 (by decide) rfl rfl rfl (hts _ (List.mem_of_getElem? (i := 6) rfl)) dX4_copy_45 (by have := fb_rng v41; omega) (by have := fb_rng v41; omega) (fun E42 H43 k44 W42 I42 P42 => ?_)
  have S42 : Now D TB cy (va_A (va_pl L E) sz) s L τ E42 H43 k44 := ⟨W42, I42⟩
  have F42 : Fr L τ (inW [(1, 1), (20, 1), (21, 1), (22, 1), (23, 1), (24, 1), (25, 1), (26, 1), (27, 1)]) E E42 := Fr.put F38 P42 ta0 rfl
  refine lv_aload_n hx hb dX4_copy_48 rfl (lv_at hl 0 rfl) ?_
  refine lv_aload_n hx hb dX4_copy_49 rfl (lv_at hl 1 rfl) ?_
  refine tr_geti Z.1 Z.2.2.2.1 S42.1 S42.2 ha1 ta1 rfl rfl (fun _ h => List.mem_cons_of_mem _ (List.mem_append_right _ h)) 6 (by decide) rfl (hts _ (List.mem_of_getElem? (i := 7) rfl)) dX4_copy_50 (fun v45 ev45 lv45 uv45 => ?_)
  refine tr_puti Z.1 Z.2.2.2.1 S42.1 S42.2 ha0 ta0 rfl rfl (fun _ h => List.mem_cons_of_mem _ (List.mem_append_right _ h)) tyX4_ok nmX4 6 (by decide) rfl rfl rfl (hts _ (List.mem_of_getElem? (i := 7) rfl)) dX4_copy_53 (by omega) (by omega) (fun E46 H47 k48 W46 I46 P46 => ?_)
  have S46 : Now D TB cy (va_A (va_pl L E) sz) s L τ E46 H47 k48 := ⟨W46, I46⟩
  have F46 : Fr L τ (inW [(1, 1), (20, 1), (21, 1), (22, 1), (23, 1), (24, 1), (25, 1), (26, 1), (27, 1)]) E E46 := Fr.put F42 P46 ta0 rfl
  refine lv_aload_n hx hb dX4_copy_56 rfl (lv_at hl 0 rfl) ?_
  refine lv_aload_n hx hb dX4_copy_57 rfl (lv_at hl 1 rfl) ?_
  refine tr_geti Z.1 Z.2.2.2.1 S46.1 S46.2 ha1 ta1 rfl rfl (fun _ h => List.mem_cons_of_mem _ (List.mem_append_right _ h)) 7 (by decide) rfl (hts _ (List.mem_of_getElem? (i := 8) rfl)) dX4_copy_58 (fun v49 ev49 lv49 uv49 => ?_)
  refine tr_puti Z.1 Z.2.2.2.1 S46.1 S46.2 ha0 ta0 rfl rfl (fun _ h => List.mem_cons_of_mem _ (List.mem_append_right _ h)) tyX4_ok nmX4 7 (by decide) rfl rfl rfl (hts _ (List.mem_of_getElem? (i := 8) rfl)) dX4_copy_61 (by omega) (by omega) (fun E50 H51 k52 W50 I50 P50 => ?_)
  have S50 : Now D TB cy (va_A (va_pl L E) sz) s L τ E50 H51 k52 := ⟨W50, I50⟩
  have F50 : Fr L τ (inW [(1, 1), (20, 1), (21, 1), (22, 1), (23, 1), (24, 1), (25, 1), (26, 1), (27, 1)]) E E50 := Fr.put F46 P50 ta0 rfl
  refine lv_aload_n hx hb dX4_copy_64 rfl (lv_at hl 1 rfl) ?_
  refine tr_getr Z.1 Z.2.2.2.1 S50.1 S50.2 ha1 ta1 rfl rfl (fun _ h => List.mem_cons_of_mem _ (List.mem_append_right _ h)) 8 (by decide) rfl (hts _ (List.mem_of_getElem? (i := 9) rfl)) dX4_copy_65 (fun q53 eq53 hq53 tq53 => ?_)
  have tq53 : τ q53 = (20, 0) := tq53
  obtain ⟨v54, ev54, tv54⟩ : ∃ v : Int32, Int32.ofInt (0) = v ∧ v.toInt = 0 := ⟨_, rfl, by decide +kernel⟩
  refine lv_iconst hx hb dX4_copy_68 ev54 ?_
  refine lv_aload_n hx hb dX4_copy_69 rfl (lv_at hl 0 rfl) ?_
  refine tr_getr Z.1 Z.2.2.2.1 S50.1 S50.2 ha0 ta0 rfl rfl (fun _ h => List.mem_cons_of_mem _ (List.mem_append_right _ h)) 8 (by decide) rfl (hts _ (List.mem_of_getElem? (i := 9) rfl)) dX4_copy_70 (fun q55 eq55 hq55 tq55 => ?_)
  have tq55 : τ q55 = (20, 1) := tq55
  obtain ⟨v56, ev56, tv56⟩ : ∃ v : Int32, Int32.ofInt (0) = v ∧ v.toInt = 0 := ⟨_, rfl, by decide +kernel⟩
  refine lv_iconst hx hb dX4_copy_73 ev56 ?_
  obtain ⟨v57, ev57, tv57⟩ : ∃ v : Int32, Int32.ofInt (3) = v ∧ v.toInt = 3 := ⟨_, rfl, by decide +kernel⟩
  refine lv_iconst hx hb dX4_copy_74 ev57 ?_
  refine tr_copy Z.1 hl.1 Z.2.2.2.1 S50.1 S50.2 hq53 tq53 rfl hq55 tq55 rfl (by decide) (hts _ (List.mem_of_getElem? (i := 10) rfl)) (hts _ (List.mem_of_getElem? (i := 11) rfl)) (hts _ (List.mem_of_getElem? (i := 12) rfl)) (hts _ (List.mem_of_getElem? (i := 13) rfl)) 3 (by decide) (by decide) (by omega) (by omega) (by omega) (Nat.le_of_ble_eq_true rfl) (Nat.le_of_ble_eq_true rfl) dX4_copy_75 (fun E58 H59 k60 W58 I58 P58 => ?_)
  have S58 : Now D TB cy (va_A (va_pl L E) sz) s L τ E58 H59 k60 := ⟨W58, I58⟩
  have F58 : Fr L τ (inW [(1, 1), (20, 1), (21, 1), (22, 1), (23, 1), (24, 1), (25, 1), (26, 1), (27, 1)]) E E58 := Fr.cop F50 P58 tq55 rfl
  refine lv_aload_n hx hb dX4_copy_78 rfl (lv_at hl 1 rfl) ?_
  refine tr_getr Z.1 Z.2.2.2.1 S58.1 S58.2 ha1 ta1 rfl rfl (fun _ h => List.mem_cons_of_mem _ (List.mem_append_right _ h)) 9 (by decide) rfl (hts _ (List.mem_of_getElem? (i := 14) rfl)) dX4_copy_79 (fun q61 eq61 hq61 tq61 => ?_)
  have tq61 : τ q61 = (21, 0) := tq61
  obtain ⟨v62, ev62, tv62⟩ : ∃ v : Int32, Int32.ofInt (0) = v ∧ v.toInt = 0 := ⟨_, rfl, by decide +kernel⟩
  refine lv_iconst hx hb dX4_copy_82 ev62 ?_
  refine lv_aload_n hx hb dX4_copy_83 rfl (lv_at hl 0 rfl) ?_
  refine tr_getr Z.1 Z.2.2.2.1 S58.1 S58.2 ha0 ta0 rfl rfl (fun _ h => List.mem_cons_of_mem _ (List.mem_append_right _ h)) 9 (by decide) rfl (hts _ (List.mem_of_getElem? (i := 14) rfl)) dX4_copy_84 (fun q63 eq63 hq63 tq63 => ?_)
  have tq63 : τ q63 = (21, 1) := tq63
  obtain ⟨v64, ev64, tv64⟩ : ∃ v : Int32, Int32.ofInt (0) = v ∧ v.toInt = 0 := ⟨_, rfl, by decide +kernel⟩
  refine lv_iconst hx hb dX4_copy_87 ev64 ?_
  obtain ⟨v65, ev65, tv65⟩ : ∃ v : Int32, Int32.ofInt (3) = v ∧ v.toInt = 3 := ⟨_, rfl, by decide +kernel⟩
  refine lv_iconst hx hb dX4_copy_88 ev65 ?_
  refine tr_copy Z.1 hl.1 Z.2.2.2.1 S58.1 S58.2 hq61 tq61 rfl hq63 tq63 rfl (by decide) (hts _ (List.mem_of_getElem? (i := 10) rfl)) (hts _ (List.mem_of_getElem? (i := 11) rfl)) (hts _ (List.mem_of_getElem? (i := 12) rfl)) (hts _ (List.mem_of_getElem? (i := 13) rfl)) 3 (by decide) (by decide) (by omega) (by omega) (by omega) (Nat.le_of_ble_eq_true rfl) (Nat.le_of_ble_eq_true rfl) dX4_copy_89 (fun E66 H67 k68 W66 I66 P66 => ?_)
  have S66 : Now D TB cy (va_A (va_pl L E) sz) s L τ E66 H67 k68 := ⟨W66, I66⟩
  have F66 : Fr L τ (inW [(1, 1), (20, 1), (21, 1), (22, 1), (23, 1), (24, 1), (25, 1), (26, 1), (27, 1)]) E E66 := Fr.cop F58 P66 tq63 rfl
  refine lv_aload_n hx hb dX4_copy_92 rfl (lv_at hl 1 rfl) ?_
  refine tr_getr Z.1 Z.2.2.2.1 S66.1 S66.2 ha1 ta1 rfl rfl (fun _ h => List.mem_cons_of_mem _ (List.mem_append_right _ h)) 10 (by decide) rfl (hts _ (List.mem_of_getElem? (i := 15) rfl)) dX4_copy_93 (fun q69 eq69 hq69 tq69 => ?_)
  have tq69 : τ q69 = (22, 0) := tq69
  obtain ⟨v70, ev70, tv70⟩ : ∃ v : Int32, Int32.ofInt (0) = v ∧ v.toInt = 0 := ⟨_, rfl, by decide +kernel⟩
  refine lv_iconst hx hb dX4_copy_96 ev70 ?_
  refine lv_aload_n hx hb dX4_copy_97 rfl (lv_at hl 0 rfl) ?_
  refine tr_getr Z.1 Z.2.2.2.1 S66.1 S66.2 ha0 ta0 rfl rfl (fun _ h => List.mem_cons_of_mem _ (List.mem_append_right _ h)) 10 (by decide) rfl (hts _ (List.mem_of_getElem? (i := 15) rfl)) dX4_copy_98 (fun q71 eq71 hq71 tq71 => ?_)
  have tq71 : τ q71 = (22, 1) := tq71
  obtain ⟨v72, ev72, tv72⟩ : ∃ v : Int32, Int32.ofInt (0) = v ∧ v.toInt = 0 := ⟨_, rfl, by decide +kernel⟩
  refine lv_iconst hx hb dX4_copy_101 ev72 ?_
  obtain ⟨v73, ev73, tv73⟩ : ∃ v : Int32, Int32.ofInt (2) = v ∧ v.toInt = 2 := ⟨_, rfl, by decide +kernel⟩
  refine lv_iconst hx hb dX4_copy_102 ev73 ?_
  refine tr_copy Z.1 hl.1 Z.2.2.2.1 S66.1 S66.2 hq69 tq69 rfl hq71 tq71 rfl (by decide) (hts _ (List.mem_of_getElem? (i := 10) rfl)) (hts _ (List.mem_of_getElem? (i := 11) rfl)) (hts _ (List.mem_of_getElem? (i := 12) rfl)) (hts _ (List.mem_of_getElem? (i := 13) rfl)) 2 (by decide) (by decide) (by omega) (by omega) (by omega) (Nat.le_of_ble_eq_true rfl) (Nat.le_of_ble_eq_true rfl) dX4_copy_103 (fun E74 H75 k76 W74 I74 P74 => ?_)
  have S74 : Now D TB cy (va_A (va_pl L E) sz) s L τ E74 H75 k76 := ⟨W74, I74⟩
  have F74 : Fr L τ (inW [(1, 1), (20, 1), (21, 1), (22, 1), (23, 1), (24, 1), (25, 1), (26, 1), (27, 1)]) E E74 := Fr.cop F66 P74 tq71 rfl
  refine lv_aload_n hx hb dX4_copy_106 rfl (lv_at hl 1 rfl) ?_
  refine tr_getr Z.1 Z.2.2.2.1 S74.1 S74.2 ha1 ta1 rfl rfl (fun _ h => List.mem_cons_of_mem _ (List.mem_append_right _ h)) 11 (by decide) rfl (hts _ (List.mem_of_getElem? (i := 16) rfl)) dX4_copy_107 (fun q77 eq77 hq77 tq77 => ?_)
  have tq77 : τ q77 = (23, 0) := tq77
  obtain ⟨v78, ev78, tv78⟩ : ∃ v : Int32, Int32.ofInt (0) = v ∧ v.toInt = 0 := ⟨_, rfl, by decide +kernel⟩
  refine lv_iconst hx hb dX4_copy_110 ev78 ?_
  refine lv_aload_n hx hb dX4_copy_111 rfl (lv_at hl 0 rfl) ?_
  refine tr_getr Z.1 Z.2.2.2.1 S74.1 S74.2 ha0 ta0 rfl rfl (fun _ h => List.mem_cons_of_mem _ (List.mem_append_right _ h)) 11 (by decide) rfl (hts _ (List.mem_of_getElem? (i := 16) rfl)) dX4_copy_112 (fun q79 eq79 hq79 tq79 => ?_)
  have tq79 : τ q79 = (23, 1) := tq79
  obtain ⟨v80, ev80, tv80⟩ : ∃ v : Int32, Int32.ofInt (0) = v ∧ v.toInt = 0 := ⟨_, rfl, by decide +kernel⟩
  refine lv_iconst hx hb dX4_copy_115 ev80 ?_
  obtain ⟨v81, ev81, tv81⟩ : ∃ v : Int32, (Int8.ofInt (8)).toInt32 = v ∧ v.toInt = 8 := ⟨_, rfl, by decide +kernel⟩
  refine lv_bipush hx hb dX4_copy_116 ev81 ?_
  refine tr_copy Z.1 hl.1 Z.2.2.2.1 S74.1 S74.2 hq77 tq77 rfl hq79 tq79 rfl (by decide) (hts _ (List.mem_of_getElem? (i := 10) rfl)) (hts _ (List.mem_of_getElem? (i := 11) rfl)) (hts _ (List.mem_of_getElem? (i := 12) rfl)) (hts _ (List.mem_of_getElem? (i := 13) rfl)) 8 (by decide) (by decide) (by omega) (by omega) (by omega) (Nat.le_of_ble_eq_true rfl) (Nat.le_of_ble_eq_true rfl) dX4_copy_118 (fun E82 H83 k84 W82 I82 P82 => ?_)
  have S82 : Now D TB cy (va_A (va_pl L E) sz) s L τ E82 H83 k84 := ⟨W82, I82⟩
  have F82 : Fr L τ (inW [(1, 1), (20, 1), (21, 1), (22, 1), (23, 1), (24, 1), (25, 1), (26, 1), (27, 1)]) E E82 := Fr.cop F74 P82 tq79 rfl
  refine lv_aload_n hx hb dX4_copy_121 rfl (lv_at hl 1 rfl) ?_
  refine tr_getr Z.1 Z.2.2.2.1 S82.1 S82.2 ha1 ta1 rfl rfl (fun _ h => List.mem_cons_of_mem _ (List.mem_append_right _ h)) 12 (by decide) rfl (hts _ (List.mem_of_getElem? (i := 17) rfl)) dX4_copy_122 (fun q85 eq85 hq85 tq85 => ?_)
  have tq85 : τ q85 = (24, 0) := tq85
  obtain ⟨v86, ev86, tv86⟩ : ∃ v : Int32, Int32.ofInt (0) = v ∧ v.toInt = 0 := ⟨_, rfl, by decide +kernel⟩
  refine lv_iconst hx hb dX4_copy_125 ev86 ?_
  refine lv_aload_n hx hb dX4_copy_126 rfl (lv_at hl 0 rfl) ?_
  refine tr_getr Z.1 Z.2.2.2.1 S82.1 S82.2 ha0 ta0 rfl rfl (fun _ h => List.mem_cons_of_mem _ (List.mem_append_right _ h)) 12 (by decide) rfl (hts _ (List.mem_of_getElem? (i := 17) rfl)) dX4_copy_127 (fun q87 eq87 hq87 tq87 => ?_)
  have tq87 : τ q87 = (24, 1) := tq87
  obtain ⟨v88, ev88, tv88⟩ : ∃ v : Int32, Int32.ofInt (0) = v ∧ v.toInt = 0 := ⟨_, rfl, by decide +kernel⟩
  refine lv_iconst hx hb dX4_copy_130 ev88 ?_
  obtain ⟨v89, ev89, tv89⟩ : ∃ v : Int32, (Int8.ofInt (8)).toInt32 = v ∧ v.toInt = 8 := ⟨_, rfl, by decide +kernel⟩
  refine lv_bipush hx hb dX4_copy_131 ev89 ?_
  refine tr_copy Z.1 hl.1 Z.2.2.2.1 S82.1 S82.2 hq85 tq85 rfl hq87 tq87 rfl (by decide) (hts _ (List.mem_of_getElem? (i := 10) rfl)) (hts _ (List.mem_of_getElem? (i := 11) rfl)) (hts _ (List.mem_of_getElem? (i := 12) rfl)) (hts _ (List.mem_of_getElem? (i := 13) rfl)) 8 (by decide) (by decide) (by omega) (by omega) (by omega) (Nat.le_of_ble_eq_true rfl) (Nat.le_of_ble_eq_true rfl) dX4_copy_133 (fun E90 H91 k92 W90 I90 P90 => ?_)
  have S90 : Now D TB cy (va_A (va_pl L E) sz) s L τ E90 H91 k92 := ⟨W90, I90⟩
  have F90 : Fr L τ (inW [(1, 1), (20, 1), (21, 1), (22, 1), (23, 1), (24, 1), (25, 1), (26, 1), (27, 1)]) E E90 := Fr.cop F82 P90 tq87 rfl
  refine lv_aload_n hx hb dX4_copy_136 rfl (lv_at hl 1 rfl) ?_
  refine tr_getr Z.1 Z.2.2.2.1 S90.1 S90.2 ha1 ta1 rfl rfl (fun _ h => List.mem_cons_of_mem _ (List.mem_append_right _ h)) 13 (by decide) rfl (hts _ (List.mem_of_getElem? (i := 18) rfl)) dX4_copy_137 (fun q93 eq93 hq93 tq93 => ?_)
  have tq93 : τ q93 = (25, 0) := tq93
  obtain ⟨v94, ev94, tv94⟩ : ∃ v : Int32, Int32.ofInt (0) = v ∧ v.toInt = 0 := ⟨_, rfl, by decide +kernel⟩
  refine lv_iconst hx hb dX4_copy_140 ev94 ?_
  refine lv_aload_n hx hb dX4_copy_141 rfl (lv_at hl 0 rfl) ?_
  refine tr_getr Z.1 Z.2.2.2.1 S90.1 S90.2 ha0 ta0 rfl rfl (fun _ h => List.mem_cons_of_mem _ (List.mem_append_right _ h)) 13 (by decide) rfl (hts _ (List.mem_of_getElem? (i := 18) rfl)) dX4_copy_142 (fun q95 eq95 hq95 tq95 => ?_)
  have tq95 : τ q95 = (25, 1) := tq95
  obtain ⟨v96, ev96, tv96⟩ : ∃ v : Int32, Int32.ofInt (0) = v ∧ v.toInt = 0 := ⟨_, rfl, by decide +kernel⟩
  refine lv_iconst hx hb dX4_copy_145 ev96 ?_
  obtain ⟨v97, ev97, tv97⟩ : ∃ v : Int32, (Int8.ofInt (8)).toInt32 = v ∧ v.toInt = 8 := ⟨_, rfl, by decide +kernel⟩
  refine lv_bipush hx hb dX4_copy_146 ev97 ?_
  refine tr_copy Z.1 hl.1 Z.2.2.2.1 S90.1 S90.2 hq93 tq93 rfl hq95 tq95 rfl (by decide) (hts _ (List.mem_of_getElem? (i := 10) rfl)) (hts _ (List.mem_of_getElem? (i := 11) rfl)) (hts _ (List.mem_of_getElem? (i := 12) rfl)) (hts _ (List.mem_of_getElem? (i := 13) rfl)) 8 (by decide) (by decide) (by omega) (by omega) (by omega) (Nat.le_of_ble_eq_true rfl) (Nat.le_of_ble_eq_true rfl) dX4_copy_148 (fun E98 H99 k100 W98 I98 P98 => ?_)
  have S98 : Now D TB cy (va_A (va_pl L E) sz) s L τ E98 H99 k100 := ⟨W98, I98⟩
  have F98 : Fr L τ (inW [(1, 1), (20, 1), (21, 1), (22, 1), (23, 1), (24, 1), (25, 1), (26, 1), (27, 1)]) E E98 := Fr.cop F90 P98 tq95 rfl
  refine lv_aload_n hx hb dX4_copy_151 rfl (lv_at hl 1 rfl) ?_
  refine tr_getr Z.1 Z.2.2.2.1 S98.1 S98.2 ha1 ta1 rfl rfl (fun _ h => List.mem_cons_of_mem _ (List.mem_append_right _ h)) 14 (by decide) rfl (hts _ (List.mem_of_getElem? (i := 19) rfl)) dX4_copy_152 (fun q101 eq101 hq101 tq101 => ?_)
  have tq101 : τ q101 = (26, 0) := tq101
  obtain ⟨v102, ev102, tv102⟩ : ∃ v : Int32, Int32.ofInt (0) = v ∧ v.toInt = 0 := ⟨_, rfl, by decide +kernel⟩
  refine lv_iconst hx hb dX4_copy_155 ev102 ?_
  refine lv_aload_n hx hb dX4_copy_156 rfl (lv_at hl 0 rfl) ?_
  refine tr_getr Z.1 Z.2.2.2.1 S98.1 S98.2 ha0 ta0 rfl rfl (fun _ h => List.mem_cons_of_mem _ (List.mem_append_right _ h)) 14 (by decide) rfl (hts _ (List.mem_of_getElem? (i := 19) rfl)) dX4_copy_157 (fun q103 eq103 hq103 tq103 => ?_)
  have tq103 : τ q103 = (26, 1) := tq103
  obtain ⟨v104, ev104, tv104⟩ : ∃ v : Int32, Int32.ofInt (0) = v ∧ v.toInt = 0 := ⟨_, rfl, by decide +kernel⟩
  refine lv_iconst hx hb dX4_copy_160 ev104 ?_
  obtain ⟨v105, ev105, tv105⟩ : ∃ v : Int32, Int32.ofInt (5) = v ∧ v.toInt = 5 := ⟨_, rfl, by decide +kernel⟩
  refine lv_iconst hx hb dX4_copy_161 ev105 ?_
  refine tr_copy Z.1 hl.1 Z.2.2.2.1 S98.1 S98.2 hq101 tq101 rfl hq103 tq103 rfl (by decide) (hts _ (List.mem_of_getElem? (i := 10) rfl)) (hts _ (List.mem_of_getElem? (i := 11) rfl)) (hts _ (List.mem_of_getElem? (i := 12) rfl)) (hts _ (List.mem_of_getElem? (i := 13) rfl)) 5 (by decide) (by decide) (by omega) (by omega) (by omega) (Nat.le_of_ble_eq_true rfl) (Nat.le_of_ble_eq_true rfl) dX4_copy_162 (fun E106 H107 k108 W106 I106 P106 => ?_)
  have S106 : Now D TB cy (va_A (va_pl L E) sz) s L τ E106 H107 k108 := ⟨W106, I106⟩
  have F106 : Fr L τ (inW [(1, 1), (20, 1), (21, 1), (22, 1), (23, 1), (24, 1), (25, 1), (26, 1), (27, 1)]) E E106 := Fr.cop F98 P106 tq103 rfl
  obtain ⟨v109, ev109, tv109⟩ : ∃ v : Int32, Int32.ofInt (0) = v ∧ v.toInt = 0 := ⟨_, rfl, by decide +kernel⟩
  refine lv_iconst hx hb dX4_copy_165 ev109 ?_
  refine lv_istore_n (lv' := [(2, .int v109), (0, .ref a0), (1, .ref a1)]) hx hb dX4_copy_166 rfl hl (by decide) rfl (fun l110 hl111 => ?_)
  exact J167 _ v109 E106 H107 k108 l110 S106 F106 (by omega) (by omega) (Nat.lt_succ_self _) (lv_sub hl111 [1, 2, 0] rfl)

set_option maxHeartbeats 4000000 in
set_option maxRecDepth 100000 in
theorem k_X4_copy_v01 (l : Launch) (D : va_G) (cy : Nat → ClassId) {L : List Nat} {τ : Nat → Ro} {E : Ec} (hI : Inv TB cy L τ E) {a0 : Nat} (ha0 : a0 ∈ L) (ta0 : τ a0 = (1, 0)) {a1 : Nat} (ha1 : a1 ∈ L) (ta1 : τ a1 = (1, 1)) : CtV l yX4_copy wsX4_copy { frames := 1, cells := 0, slots := 0, locals := 40 } D TB cy L τ E [.ref a0, .ref a1] (inW [(1, 0), (20, 0), (21, 0), (22, 0), (23, 0), (24, 0), (25, 0), (26, 0), (27, 0)]) (fun E' => True) := by
  intro sz
  refine sta (cc := cX4_copy) (maxL := 3) hI (by decide) rfl (Nat.le_of_ble_eq_true rfl) (fun p e s m args below meth c ls hsz Z S0 hl => ?_)
  have hx := Z.1.1
  have hb := Z.1.2.1
  have hts := Z.1.2.2.2.2
  have F0_ : Fr L τ (inW [(1, 0), (20, 0), (21, 0), (22, 0), (23, 0), (24, 0), (25, 0), (26, 0), (27, 0)]) E E := Fr.refl
  have hl : lv_has ls 3 [(0, .ref a0), (1, .ref a1)] := hl
  generalize hQ : MQ below _ args s 0 0 _ = QQ
  have J167 : ∀ (n : Nat) (x2_167 : Int32) (E_167 : Ec) (H_167 : Heap) (k_167 : List Loc) (l_167 : Array Slot), Now D TB cy (va_A (va_pl L E) sz) s L τ E_167 H_167 k_167 → Fr L τ (inW [(1, 0), (20, 0), (21, 0), (22, 0), (23, 0), (24, 0), (25, 0), (26, 0), (27, 0)]) E E_167 → (0 ≤ x2_167.toInt) → (x2_167.toInt ≤ 8) → (8 - x2_167.toInt).toNat < n → lv_has l_167 3 [(0, .ref a0), (1, .ref a1), (2, .int x2_167)] → W p l e { frames := 1, cells := 0, slots := 0, locals := 40 } s m args below meth c H_167 k_167 0 0 QQ (F0 m 167 l_167 []) := by
    intro n
    induction n with
    | zero => intro x2_167 E_167 H_167 k_167 l_167 S_167 F_167 z1 z2 hm hl_167; exact absurd hm (Nat.not_lt_zero _)
    | succ n ih =>
      intro x2_167 E_167 H_167 k_167 l_167 S_167 F_167 z1 z2 hm hl_167
      have ih_167 := ih
      refine lv_iload_n hx hb dX4_copy_167 rfl (lv_at hl_167 2 rfl) ?_
      obtain ⟨v3, ev3, tv3⟩ : ∃ v : Int32, (Int8.ofInt (8)).toInt32 = v ∧ v.toInt = 8 := ⟨_, rfl, by decide +kernel⟩
      refine lv_bipush hx hb dX4_copy_168 ev3 ?_
      refine lv_icmp_ge (tgt := 191) hx hb dX4_copy_170 (by decide) (fun c4 => ?_) (fun c4 => ?_)
      · skip
        have tc4 := nu_le c4
        rw [← hQ]
        exact en_v Z S_167 F_167 trivial dX4_copy_191
      · skip
        have tc4 := nu_nle c4
        refine lv_aload_n hx hb dX4_copy_173 rfl (lv_at hl_167 0 rfl) ?_
        refine tr_getr Z.1 Z.2.2.2.1 S_167.1 S_167.2 ha0 ta0 rfl rfl (fun _ h => List.mem_cons_of_mem _ (List.mem_append_right _ h)) 15 (by decide) rfl (hts _ (List.mem_of_getElem? (i := 20) rfl)) dX4_copy_174 (fun q5 eq5 hq5 tq5 => ?_)
        have tq5 : τ q5 = (27, 0) := tq5
        refine lv_iload_n hx hb dX4_copy_177 rfl (lv_at hl_167 2 rfl) ?_
        refine lv_aload_n hx hb dX4_copy_178 rfl (lv_at hl_167 1 rfl) ?_
        refine tr_getr Z.1 Z.2.2.2.1 S_167.1 S_167.2 ha1 ta1 rfl rfl (fun _ h => List.mem_cons_of_mem _ (List.mem_append_right _ h)) 15 (by decide) rfl (hts _ (List.mem_of_getElem? (i := 20) rfl)) dX4_copy_179 (fun q6 eq6 hq6 tq6 => ?_)
        have tq6 : τ q6 = (27, 1) := tq6
        refine lv_iload_n hx hb dX4_copy_182 rfl (lv_at hl_167 2 rfl) ?_
        refine tr_aald Z.1 Z.2.2.2.1 S_167.1 S_167.2 hq6 tq6 rfl rfl rfl (by omega) (by omega) dX4_copy_183 (fun q7 eq7 hq7 => ?_)
        have hq7 := law_no hq7
        cases q7 with
        | none =>
          refine W.eq (g2 := F0 m 184 l_167 [.null, .int x2_167, .ref q5]) rfl ?_
          have hv8 : ∀ y : Nat, none = some y → y ∈ L ∧ (τ y).1 = 10 := (fun _ h => nomatch h)
          refine tr_aast (v := none) (ci := 1) Z.1 Z.2.2.2.1 S_167.1 S_167.2 hq5 tq5 rfl rfl rfl (law_ob hv8) (law_ok hv8) (by omega) (by omega) dX4_copy_184 (fun E8 H9 k10 W8 I8 P8 => ?_)
          have S8 : Now D TB cy (va_A (va_pl L E) sz) s L τ E8 H9 k10 := ⟨W8, I8⟩
          have F8 : Fr L τ (inW [(1, 0), (20, 0), (21, 0), (22, 0), (23, 0), (24, 0), (25, 0), (26, 0), (27, 0)]) E E8 := Fr.seq F_167 P8 tq5 rfl
          obtain ⟨v11, ev11⟩ : ∃ y : Int32, x2_167 + Int32.ofInt (1) = y := ⟨_, rfl⟩
          have tv11 : v11.toInt = x2_167.toInt + (1) := by rw [← ev11]; exact (fb_addI (by rw [show (Int32.ofInt (1)).toInt = 1 from by decide +kernel]; omega) (by rw [show (Int32.ofInt (1)).toInt = 1 from by decide +kernel]; omega)).trans (by rw [show (Int32.ofInt (1)).toInt = 1 from by decide +kernel])
          refine lv_iinc (v := v11) (lv' := [(2, .int v11), (0, .ref a0), (1, .ref a1)]) hx hb dX4_copy_185 hl_167 (k := 2) rfl ev11 (by decide) rfl (fun l12 hl13 => ?_)
          refine lv_goto (tgt := 167) hx hb dX4_copy_188 (by decide) ?_
          exact ih_167 v11 E8 H9 k10 l12 S8 F8 (by omega) (by omega) (by omega) (lv_sub hl13 [1, 2, 0] rfl)
        | some q14 =>
          obtain ⟨hq14, gq14⟩ := hq7 q14 rfl
          obtain ⟨nq14, tq14⟩ : ∃ n : Nat, τ q14 = (10, n) := ⟨(τ q14).2, by rw [← gq14]⟩
          refine W.eq (g2 := F0 m 184 l_167 [.ref q14, .int x2_167, .ref q5]) rfl ?_
          have hv15 : ∀ y : Nat, (some q14) = some y → y ∈ L ∧ (τ y).1 = 10 := (fun y h => by cases h; exact ⟨hq14, by rw [tq14]⟩)
          refine tr_aast (v := (some q14)) (ci := 1) Z.1 Z.2.2.2.1 S_167.1 S_167.2 hq5 tq5 rfl rfl rfl (law_ob hv15) (law_ok hv15) (by omega) (by omega) dX4_copy_184 (fun E15 H16 k17 W15 I15 P15 => ?_)
          have S15 : Now D TB cy (va_A (va_pl L E) sz) s L τ E15 H16 k17 := ⟨W15, I15⟩
          have F15 : Fr L τ (inW [(1, 0), (20, 0), (21, 0), (22, 0), (23, 0), (24, 0), (25, 0), (26, 0), (27, 0)]) E E15 := Fr.seq F_167 P15 tq5 rfl
          obtain ⟨v18, ev18⟩ : ∃ y : Int32, x2_167 + Int32.ofInt (1) = y := ⟨_, rfl⟩
          have tv18 : v18.toInt = x2_167.toInt + (1) := by rw [← ev18]; exact (fb_addI (by rw [show (Int32.ofInt (1)).toInt = 1 from by decide +kernel]; omega) (by rw [show (Int32.ofInt (1)).toInt = 1 from by decide +kernel]; omega)).trans (by rw [show (Int32.ofInt (1)).toInt = 1 from by decide +kernel])
          refine lv_iinc (v := v18) (lv' := [(2, .int v18), (0, .ref a0), (1, .ref a1)]) hx hb dX4_copy_185 hl_167 (k := 2) rfl ev18 (by decide) rfl (fun l19 hl20 => ?_)
          refine lv_goto (tgt := 167) hx hb dX4_copy_188 (by decide) ?_
          exact ih_167 v18 E15 H16 k17 l19 S15 F15 (by omega) (by omega) (by omega) (lv_sub hl20 [1, 2, 0] rfl)
  refine lv_aload_n hx hb dX4_copy_0 rfl (lv_at hl 0 rfl) ?_
  refine lv_aload_n hx hb dX4_copy_1 rfl (lv_at hl 1 rfl) ?_
  refine tr_geti Z.1 Z.2.2.2.1 S0.1 S0.2 ha1 ta1 rfl rfl (fun _ h => List.mem_cons_of_mem _ (List.mem_append_right _ h)) 0 (by decide) rfl (hts _ (List.mem_of_getElem? (i := 1) rfl)) dX4_copy_2 (fun v21 ev21 lv21 uv21 => ?_)
  refine tr_puti Z.1 Z.2.2.2.1 S0.1 S0.2 ha0 ta0 rfl rfl (fun _ h => List.mem_cons_of_mem _ (List.mem_append_right _ h)) tyX4_ok nmX4 0 (by decide) rfl rfl rfl (hts _ (List.mem_of_getElem? (i := 1) rfl)) dX4_copy_5 (by have := fb_rng v21; omega) (by have := fb_rng v21; omega) (fun E22 H23 k24 W22 I22 P22 => ?_)
  have S22 : Now D TB cy (va_A (va_pl L E) sz) s L τ E22 H23 k24 := ⟨W22, I22⟩
  have F22 : Fr L τ (inW [(1, 0), (20, 0), (21, 0), (22, 0), (23, 0), (24, 0), (25, 0), (26, 0), (27, 0)]) E E22 := Fr.put F0_ P22 ta0 rfl
  refine lv_aload_n hx hb dX4_copy_8 rfl (lv_at hl 0 rfl) ?_
  refine lv_aload_n hx hb dX4_copy_9 rfl (lv_at hl 1 rfl) ?_
  refine tr_geti Z.1 Z.2.2.2.1 S22.1 S22.2 ha1 ta1 rfl rfl (fun _ h => List.mem_cons_of_mem _ (List.mem_append_right _ h)) 1 (by decide) rfl (hts _ (List.mem_of_getElem? (i := 2) rfl)) dX4_copy_10 (fun v25 ev25 lv25 uv25 => ?_)
  refine tr_puti Z.1 Z.2.2.2.1 S22.1 S22.2 ha0 ta0 rfl rfl (fun _ h => List.mem_cons_of_mem _ (List.mem_append_right _ h)) tyX4_ok nmX4 1 (by decide) rfl rfl rfl (hts _ (List.mem_of_getElem? (i := 2) rfl)) dX4_copy_13 (by have := fb_rng v25; omega) (by have := fb_rng v25; omega) (fun E26 H27 k28 W26 I26 P26 => ?_)
  have S26 : Now D TB cy (va_A (va_pl L E) sz) s L τ E26 H27 k28 := ⟨W26, I26⟩
  have F26 : Fr L τ (inW [(1, 0), (20, 0), (21, 0), (22, 0), (23, 0), (24, 0), (25, 0), (26, 0), (27, 0)]) E E26 := Fr.put F22 P26 ta0 rfl
  refine lv_aload_n hx hb dX4_copy_16 rfl (lv_at hl 0 rfl) ?_
  refine lv_aload_n hx hb dX4_copy_17 rfl (lv_at hl 1 rfl) ?_
  refine tr_geti Z.1 Z.2.2.2.1 S26.1 S26.2 ha1 ta1 rfl rfl (fun _ h => List.mem_cons_of_mem _ (List.mem_append_right _ h)) 2 (by decide) rfl (hts _ (List.mem_of_getElem? (i := 3) rfl)) dX4_copy_18 (fun v29 ev29 lv29 uv29 => ?_)
  refine tr_puti Z.1 Z.2.2.2.1 S26.1 S26.2 ha0 ta0 rfl rfl (fun _ h => List.mem_cons_of_mem _ (List.mem_append_right _ h)) tyX4_ok nmX4 2 (by decide) rfl rfl rfl (hts _ (List.mem_of_getElem? (i := 3) rfl)) dX4_copy_21 (by have := fb_rng v29; omega) (by have := fb_rng v29; omega) (fun E30 H31 k32 W30 I30 P30 => ?_)
  have S30 : Now D TB cy (va_A (va_pl L E) sz) s L τ E30 H31 k32 := ⟨W30, I30⟩
  have F30 : Fr L τ (inW [(1, 0), (20, 0), (21, 0), (22, 0), (23, 0), (24, 0), (25, 0), (26, 0), (27, 0)]) E E30 := Fr.put F26 P30 ta0 rfl
  refine lv_aload_n hx hb dX4_copy_24 rfl (lv_at hl 0 rfl) ?_
  refine lv_aload_n hx hb dX4_copy_25 rfl (lv_at hl 1 rfl) ?_
  refine tr_geti Z.1 Z.2.2.2.1 S30.1 S30.2 ha1 ta1 rfl rfl (fun _ h => List.mem_cons_of_mem _ (List.mem_append_right _ h)) 3 (by decide) rfl (hts _ (List.mem_of_getElem? (i := 4) rfl)) dX4_copy_26 (fun v33 ev33 lv33 uv33 => ?_)
  refine tr_puti Z.1 Z.2.2.2.1 S30.1 S30.2 ha0 ta0 rfl rfl (fun _ h => List.mem_cons_of_mem _ (List.mem_append_right _ h)) tyX4_ok nmX4 3 (by decide) rfl rfl rfl (hts _ (List.mem_of_getElem? (i := 4) rfl)) dX4_copy_29 (by have := fb_rng v33; omega) (by have := fb_rng v33; omega) (fun E34 H35 k36 W34 I34 P34 => ?_)
  have S34 : Now D TB cy (va_A (va_pl L E) sz) s L τ E34 H35 k36 := ⟨W34, I34⟩
  have F34 : Fr L τ (inW [(1, 0), (20, 0), (21, 0), (22, 0), (23, 0), (24, 0), (25, 0), (26, 0), (27, 0)]) E E34 := Fr.put F30 P34 ta0 rfl
  refine lv_aload_n hx hb dX4_copy_32 rfl (lv_at hl 0 rfl) ?_
  refine lv_aload_n hx hb dX4_copy_33 rfl (lv_at hl 1 rfl) ?_
  refine tr_geti Z.1 Z.2.2.2.1 S34.1 S34.2 ha1 ta1 rfl rfl (fun _ h => List.mem_cons_of_mem _ (List.mem_append_right _ h)) 4 (by decide) rfl (hts _ (List.mem_of_getElem? (i := 5) rfl)) dX4_copy_34 (fun v37 ev37 lv37 uv37 => ?_)
  refine tr_puti Z.1 Z.2.2.2.1 S34.1 S34.2 ha0 ta0 rfl rfl (fun _ h => List.mem_cons_of_mem _ (List.mem_append_right _ h)) tyX4_ok nmX4 4 (by decide) rfl rfl rfl (hts _ (List.mem_of_getElem? (i := 5) rfl)) dX4_copy_37 (by omega) (by omega) (fun E38 H39 k40 W38 I38 P38 => ?_)
  have S38 : Now D TB cy (va_A (va_pl L E) sz) s L τ E38 H39 k40 := ⟨W38, I38⟩
  have F38 : Fr L τ (inW [(1, 0), (20, 0), (21, 0), (22, 0), (23, 0), (24, 0), (25, 0), (26, 0), (27, 0)]) E E38 := Fr.put F34 P38 ta0 rfl
  refine lv_aload_n hx hb dX4_copy_40 rfl (lv_at hl 0 rfl) ?_
  refine lv_aload_n hx hb dX4_copy_41 rfl (lv_at hl 1 rfl) ?_
  refine tr_geti Z.1 Z.2.2.2.1 S38.1 S38.2 ha1 ta1 rfl rfl (fun _ h => List.mem_cons_of_mem _ (List.mem_append_right _ h)) 5 (by decide) rfl (hts _ (List.mem_of_getElem? (i := 6) rfl)) dX4_copy_42 (fun v41 ev41 lv41 uv41 => ?_)
  refine tr_puti Z.1 Z.2.2.2.1 S38.1 S38.2 ha0 ta0 rfl rfl (fun _ h => List.mem_cons_of_mem _ (List.mem_append_right _ h)) tyX4_ok nmX4 5 (by decide) rfl rfl rfl (hts _ (List.mem_of_getElem? (i := 6) rfl)) dX4_copy_45 (by have := fb_rng v41; omega) (by have := fb_rng v41; omega) (fun E42 H43 k44 W42 I42 P42 => ?_)
  have S42 : Now D TB cy (va_A (va_pl L E) sz) s L τ E42 H43 k44 := ⟨W42, I42⟩
  have F42 : Fr L τ (inW [(1, 0), (20, 0), (21, 0), (22, 0), (23, 0), (24, 0), (25, 0), (26, 0), (27, 0)]) E E42 := Fr.put F38 P42 ta0 rfl
  refine lv_aload_n hx hb dX4_copy_48 rfl (lv_at hl 0 rfl) ?_
  refine lv_aload_n hx hb dX4_copy_49 rfl (lv_at hl 1 rfl) ?_
  refine tr_geti Z.1 Z.2.2.2.1 S42.1 S42.2 ha1 ta1 rfl rfl (fun _ h => List.mem_cons_of_mem _ (List.mem_append_right _ h)) 6 (by decide) rfl (hts _ (List.mem_of_getElem? (i := 7) rfl)) dX4_copy_50 (fun v45 ev45 lv45 uv45 => ?_)
  refine tr_puti Z.1 Z.2.2.2.1 S42.1 S42.2 ha0 ta0 rfl rfl (fun _ h => List.mem_cons_of_mem _ (List.mem_append_right _ h)) tyX4_ok nmX4 6 (by decide) rfl rfl rfl (hts _ (List.mem_of_getElem? (i := 7) rfl)) dX4_copy_53 (by omega) (by omega) (fun E46 H47 k48 W46 I46 P46 => ?_)
  have S46 : Now D TB cy (va_A (va_pl L E) sz) s L τ E46 H47 k48 := ⟨W46, I46⟩
  have F46 : Fr L τ (inW [(1, 0), (20, 0), (21, 0), (22, 0), (23, 0), (24, 0), (25, 0), (26, 0), (27, 0)]) E E46 := Fr.put F42 P46 ta0 rfl
  refine lv_aload_n hx hb dX4_copy_56 rfl (lv_at hl 0 rfl) ?_
  refine lv_aload_n hx hb dX4_copy_57 rfl (lv_at hl 1 rfl) ?_
  refine tr_geti Z.1 Z.2.2.2.1 S46.1 S46.2 ha1 ta1 rfl rfl (fun _ h => List.mem_cons_of_mem _ (List.mem_append_right _ h)) 7 (by decide) rfl (hts _ (List.mem_of_getElem? (i := 8) rfl)) dX4_copy_58 (fun v49 ev49 lv49 uv49 => ?_)
  refine tr_puti Z.1 Z.2.2.2.1 S46.1 S46.2 ha0 ta0 rfl rfl (fun _ h => List.mem_cons_of_mem _ (List.mem_append_right _ h)) tyX4_ok nmX4 7 (by decide) rfl rfl rfl (hts _ (List.mem_of_getElem? (i := 8) rfl)) dX4_copy_61 (by omega) (by omega) (fun E50 H51 k52 W50 I50 P50 => ?_)
  have S50 : Now D TB cy (va_A (va_pl L E) sz) s L τ E50 H51 k52 := ⟨W50, I50⟩
  have F50 : Fr L τ (inW [(1, 0), (20, 0), (21, 0), (22, 0), (23, 0), (24, 0), (25, 0), (26, 0), (27, 0)]) E E50 := Fr.put F46 P50 ta0 rfl
  refine lv_aload_n hx hb dX4_copy_64 rfl (lv_at hl 1 rfl) ?_
  refine tr_getr Z.1 Z.2.2.2.1 S50.1 S50.2 ha1 ta1 rfl rfl (fun _ h => List.mem_cons_of_mem _ (List.mem_append_right _ h)) 8 (by decide) rfl (hts _ (List.mem_of_getElem? (i := 9) rfl)) dX4_copy_65 (fun q53 eq53 hq53 tq53 => ?_)
  have tq53 : τ q53 = (20, 1) := tq53
  obtain ⟨v54, ev54, tv54⟩ : ∃ v : Int32, Int32.ofInt (0) = v ∧ v.toInt = 0 := ⟨_, rfl, by decide +kernel⟩
  refine lv_iconst hx hb dX4_copy_68 ev54 ?_
  refine lv_aload_n hx hb dX4_copy_69 rfl (lv_at hl 0 rfl) ?_
  refine tr_getr Z.1 Z.2.2.2.1 S50.1 S50.2 ha0 ta0 rfl rfl (fun _ h => List.mem_cons_of_mem _ (List.mem_append_right _ h)) 8 (by decide) rfl (hts _ (List.mem_of_getElem? (i := 9) rfl)) dX4_copy_70 (fun q55 eq55 hq55 tq55 => ?_)
  have tq55 : τ q55 = (20, 0) := tq55
  obtain ⟨v56, ev56, tv56⟩ : ∃ v : Int32, Int32.ofInt (0) = v ∧ v.toInt = 0 := ⟨_, rfl, by decide +kernel⟩
  refine lv_iconst hx hb dX4_copy_73 ev56 ?_
  obtain ⟨v57, ev57, tv57⟩ : ∃ v : Int32, Int32.ofInt (3) = v ∧ v.toInt = 3 := ⟨_, rfl, by decide +kernel⟩
  refine lv_iconst hx hb dX4_copy_74 ev57 ?_
  refine tr_copy Z.1 hl.1 Z.2.2.2.1 S50.1 S50.2 hq53 tq53 rfl hq55 tq55 rfl (by decide) (hts _ (List.mem_of_getElem? (i := 10) rfl)) (hts _ (List.mem_of_getElem? (i := 11) rfl)) (hts _ (List.mem_of_getElem? (i := 12) rfl)) (hts _ (List.mem_of_getElem? (i := 13) rfl)) 3 (by decide) (by decide) (by omega) (by omega) (by omega) (Nat.le_of_ble_eq_true rfl) (Nat.le_of_ble_eq_true rfl) dX4_copy_75 (fun E58 H59 k60 W58 I58 P58 => ?_)
  have S58 : Now D TB cy (va_A (va_pl L E) sz) s L τ E58 H59 k60 := ⟨W58, I58⟩
  have F58 : Fr L τ (inW [(1, 0), (20, 0), (21, 0), (22, 0), (23, 0), (24, 0), (25, 0), (26, 0), (27, 0)]) E E58 := Fr.cop F50 P58 tq55 rfl
  refine lv_aload_n hx hb dX4_copy_78 rfl (lv_at hl 1 rfl) ?_
  refine tr_getr Z.1 Z.2.2.2.1 S58.1 S58.2 ha1 ta1 rfl rfl (fun _ h => List.mem_cons_of_mem _ (List.mem_append_right _ h)) 9 (by decide) rfl (hts _ (List.mem_of_getElem? (i := 14) rfl)) dX4_copy_79 (fun q61 eq61 hq61 tq61 => ?_)
  have tq61 : τ q61 = (21, 1) := tq61
  obtain ⟨v62, ev62, tv62⟩ : ∃ v : Int32, Int32.ofInt (0) = v ∧ v.toInt = 0 := ⟨_, rfl, by decide +kernel⟩
  refine lv_iconst hx hb dX4_copy_82 ev62 ?_
  refine lv_aload_n hx hb dX4_copy_83 rfl (lv_at hl 0 rfl) ?_
  refine tr_getr Z.1 Z.2.2.2.1 S58.1 S58.2 ha0 ta0 rfl rfl (fun _ h => List.mem_cons_of_mem _ (List.mem_append_right _ h)) 9 (by decide) rfl (hts _ (List.mem_of_getElem? (i := 14) rfl)) dX4_copy_84 (fun q63 eq63 hq63 tq63 => ?_)
  have tq63 : τ q63 = (21, 0) := tq63
  obtain ⟨v64, ev64, tv64⟩ : ∃ v : Int32, Int32.ofInt (0) = v ∧ v.toInt = 0 := ⟨_, rfl, by decide +kernel⟩
  refine lv_iconst hx hb dX4_copy_87 ev64 ?_
  obtain ⟨v65, ev65, tv65⟩ : ∃ v : Int32, Int32.ofInt (3) = v ∧ v.toInt = 3 := ⟨_, rfl, by decide +kernel⟩
  refine lv_iconst hx hb dX4_copy_88 ev65 ?_
  refine tr_copy Z.1 hl.1 Z.2.2.2.1 S58.1 S58.2 hq61 tq61 rfl hq63 tq63 rfl (by decide) (hts _ (List.mem_of_getElem? (i := 10) rfl)) (hts _ (List.mem_of_getElem? (i := 11) rfl)) (hts _ (List.mem_of_getElem? (i := 12) rfl)) (hts _ (List.mem_of_getElem? (i := 13) rfl)) 3 (by decide) (by decide) (by omega) (by omega) (by omega) (Nat.le_of_ble_eq_true rfl) (Nat.le_of_ble_eq_true rfl) dX4_copy_89 (fun E66 H67 k68 W66 I66 P66 => ?_)
  have S66 : Now D TB cy (va_A (va_pl L E) sz) s L τ E66 H67 k68 := ⟨W66, I66⟩
  have F66 : Fr L τ (inW [(1, 0), (20, 0), (21, 0), (22, 0), (23, 0), (24, 0), (25, 0), (26, 0), (27, 0)]) E E66 := Fr.cop F58 P66 tq63 rfl
  refine lv_aload_n hx hb dX4_copy_92 rfl (lv_at hl 1 rfl) ?_
  refine tr_getr Z.1 Z.2.2.2.1 S66.1 S66.2 ha1 ta1 rfl rfl (fun _ h => List.mem_cons_of_mem _ (List.mem_append_right _ h)) 10 (by decide) rfl (hts _ (List.mem_of_getElem? (i := 15) rfl)) dX4_copy_93 (fun q69 eq69 hq69 tq69 => ?_)
  have tq69 : τ q69 = (22, 1) := tq69
  obtain ⟨v70, ev70, tv70⟩ : ∃ v : Int32, Int32.ofInt (0) = v ∧ v.toInt = 0 := ⟨_, rfl, by decide +kernel⟩
  refine lv_iconst hx hb dX4_copy_96 ev70 ?_
  refine lv_aload_n hx hb dX4_copy_97 rfl (lv_at hl 0 rfl) ?_
  refine tr_getr Z.1 Z.2.2.2.1 S66.1 S66.2 ha0 ta0 rfl rfl (fun _ h => List.mem_cons_of_mem _ (List.mem_append_right _ h)) 10 (by decide) rfl (hts _ (List.mem_of_getElem? (i := 15) rfl)) dX4_copy_98 (fun q71 eq71 hq71 tq71 => ?_)
  have tq71 : τ q71 = (22, 0) := tq71
  obtain ⟨v72, ev72, tv72⟩ : ∃ v : Int32, Int32.ofInt (0) = v ∧ v.toInt = 0 := ⟨_, rfl, by decide +kernel⟩
  refine lv_iconst hx hb dX4_copy_101 ev72 ?_
  obtain ⟨v73, ev73, tv73⟩ : ∃ v : Int32, Int32.ofInt (2) = v ∧ v.toInt = 2 := ⟨_, rfl, by decide +kernel⟩
  refine lv_iconst hx hb dX4_copy_102 ev73 ?_
  refine tr_copy Z.1 hl.1 Z.2.2.2.1 S66.1 S66.2 hq69 tq69 rfl hq71 tq71 rfl (by decide) (hts _ (List.mem_of_getElem? (i := 10) rfl)) (hts _ (List.mem_of_getElem? (i := 11) rfl)) (hts _ (List.mem_of_getElem? (i := 12) rfl)) (hts _ (List.mem_of_getElem? (i := 13) rfl)) 2 (by decide) (by decide) (by omega) (by omega) (by omega) (Nat.le_of_ble_eq_true rfl) (Nat.le_of_ble_eq_true rfl) dX4_copy_103 (fun E74 H75 k76 W74 I74 P74 => ?_)
  have S74 : Now D TB cy (va_A (va_pl L E) sz) s L τ E74 H75 k76 := ⟨W74, I74⟩
  have F74 : Fr L τ (inW [(1, 0), (20, 0), (21, 0), (22, 0), (23, 0), (24, 0), (25, 0), (26, 0), (27, 0)]) E E74 := Fr.cop F66 P74 tq71 rfl
  refine lv_aload_n hx hb dX4_copy_106 rfl (lv_at hl 1 rfl) ?_
  refine tr_getr Z.1 Z.2.2.2.1 S74.1 S74.2 ha1 ta1 rfl rfl (fun _ h => List.mem_cons_of_mem _ (List.mem_append_right _ h)) 11 (by decide) rfl (hts _ (List.mem_of_getElem? (i := 16) rfl)) dX4_copy_107 (fun q77 eq77 hq77 tq77 => ?_)
  have tq77 : τ q77 = (23, 1) := tq77
  obtain ⟨v78, ev78, tv78⟩ : ∃ v : Int32, Int32.ofInt (0) = v ∧ v.toInt = 0 := ⟨_, rfl, by decide +kernel⟩
  refine lv_iconst hx hb dX4_copy_110 ev78 ?_
  refine lv_aload_n hx hb dX4_copy_111 rfl (lv_at hl 0 rfl) ?_
  refine tr_getr Z.1 Z.2.2.2.1 S74.1 S74.2 ha0 ta0 rfl rfl (fun _ h => List.mem_cons_of_mem _ (List.mem_append_right _ h)) 11 (by decide) rfl (hts _ (List.mem_of_getElem? (i := 16) rfl)) dX4_copy_112 (fun q79 eq79 hq79 tq79 => ?_)
  have tq79 : τ q79 = (23, 0) := tq79
  obtain ⟨v80, ev80, tv80⟩ : ∃ v : Int32, Int32.ofInt (0) = v ∧ v.toInt = 0 := ⟨_, rfl, by decide +kernel⟩
  refine lv_iconst hx hb dX4_copy_115 ev80 ?_
  obtain ⟨v81, ev81, tv81⟩ : ∃ v : Int32, (Int8.ofInt (8)).toInt32 = v ∧ v.toInt = 8 := ⟨_, rfl, by decide +kernel⟩
  refine lv_bipush hx hb dX4_copy_116 ev81 ?_
  refine tr_copy Z.1 hl.1 Z.2.2.2.1 S74.1 S74.2 hq77 tq77 rfl hq79 tq79 rfl (by decide) (hts _ (List.mem_of_getElem? (i := 10) rfl)) (hts _ (List.mem_of_getElem? (i := 11) rfl)) (hts _ (List.mem_of_getElem? (i := 12) rfl)) (hts _ (List.mem_of_getElem? (i := 13) rfl)) 8 (by decide) (by decide) (by omega) (by omega) (by omega) (Nat.le_of_ble_eq_true rfl) (Nat.le_of_ble_eq_true rfl) dX4_copy_118 (fun E82 H83 k84 W82 I82 P82 => ?_)
  have S82 : Now D TB cy (va_A (va_pl L E) sz) s L τ E82 H83 k84 := ⟨W82, I82⟩
  have F82 : Fr L τ (inW [(1, 0), (20, 0), (21, 0), (22, 0), (23, 0), (24, 0), (25, 0), (26, 0), (27, 0)]) E E82 := Fr.cop F74 P82 tq79 rfl
  refine lv_aload_n hx hb dX4_copy_121 rfl (lv_at hl 1 rfl) ?_
  refine tr_getr Z.1 Z.2.2.2.1 S82.1 S82.2 ha1 ta1 rfl rfl (fun _ h => List.mem_cons_of_mem _ (List.mem_append_right _ h)) 12 (by decide) rfl (hts _ (List.mem_of_getElem? (i := 17) rfl)) dX4_copy_122 (fun q85 eq85 hq85 tq85 => ?_)
  have tq85 : τ q85 = (24, 1) := tq85
  obtain ⟨v86, ev86, tv86⟩ : ∃ v : Int32, Int32.ofInt (0) = v ∧ v.toInt = 0 := ⟨_, rfl, by decide +kernel⟩
  refine lv_iconst hx hb dX4_copy_125 ev86 ?_
  refine lv_aload_n hx hb dX4_copy_126 rfl (lv_at hl 0 rfl) ?_
  refine tr_getr Z.1 Z.2.2.2.1 S82.1 S82.2 ha0 ta0 rfl rfl (fun _ h => List.mem_cons_of_mem _ (List.mem_append_right _ h)) 12 (by decide) rfl (hts _ (List.mem_of_getElem? (i := 17) rfl)) dX4_copy_127 (fun q87 eq87 hq87 tq87 => ?_)
  have tq87 : τ q87 = (24, 0) := tq87
  obtain ⟨v88, ev88, tv88⟩ : ∃ v : Int32, Int32.ofInt (0) = v ∧ v.toInt = 0 := ⟨_, rfl, by decide +kernel⟩
  refine lv_iconst hx hb dX4_copy_130 ev88 ?_
  obtain ⟨v89, ev89, tv89⟩ : ∃ v : Int32, (Int8.ofInt (8)).toInt32 = v ∧ v.toInt = 8 := ⟨_, rfl, by decide +kernel⟩
  refine lv_bipush hx hb dX4_copy_131 ev89 ?_
  refine tr_copy Z.1 hl.1 Z.2.2.2.1 S82.1 S82.2 hq85 tq85 rfl hq87 tq87 rfl (by decide) (hts _ (List.mem_of_getElem? (i := 10) rfl)) (hts _ (List.mem_of_getElem? (i := 11) rfl)) (hts _ (List.mem_of_getElem? (i := 12) rfl)) (hts _ (List.mem_of_getElem? (i := 13) rfl)) 8 (by decide) (by decide) (by omega) (by omega) (by omega) (Nat.le_of_ble_eq_true rfl) (Nat.le_of_ble_eq_true rfl) dX4_copy_133 (fun E90 H91 k92 W90 I90 P90 => ?_)
  have S90 : Now D TB cy (va_A (va_pl L E) sz) s L τ E90 H91 k92 := ⟨W90, I90⟩
  have F90 : Fr L τ (inW [(1, 0), (20, 0), (21, 0), (22, 0), (23, 0), (24, 0), (25, 0), (26, 0), (27, 0)]) E E90 := Fr.cop F82 P90 tq87 rfl
  refine lv_aload_n hx hb dX4_copy_136 rfl (lv_at hl 1 rfl) ?_
  refine tr_getr Z.1 Z.2.2.2.1 S90.1 S90.2 ha1 ta1 rfl rfl (fun _ h => List.mem_cons_of_mem _ (List.mem_append_right _ h)) 13 (by decide) rfl (hts _ (List.mem_of_getElem? (i := 18) rfl)) dX4_copy_137 (fun q93 eq93 hq93 tq93 => ?_)
  have tq93 : τ q93 = (25, 1) := tq93
  obtain ⟨v94, ev94, tv94⟩ : ∃ v : Int32, Int32.ofInt (0) = v ∧ v.toInt = 0 := ⟨_, rfl, by decide +kernel⟩
  refine lv_iconst hx hb dX4_copy_140 ev94 ?_
  refine lv_aload_n hx hb dX4_copy_141 rfl (lv_at hl 0 rfl) ?_
  refine tr_getr Z.1 Z.2.2.2.1 S90.1 S90.2 ha0 ta0 rfl rfl (fun _ h => List.mem_cons_of_mem _ (List.mem_append_right _ h)) 13 (by decide) rfl (hts _ (List.mem_of_getElem? (i := 18) rfl)) dX4_copy_142 (fun q95 eq95 hq95 tq95 => ?_)
  have tq95 : τ q95 = (25, 0) := tq95
  obtain ⟨v96, ev96, tv96⟩ : ∃ v : Int32, Int32.ofInt (0) = v ∧ v.toInt = 0 := ⟨_, rfl, by decide +kernel⟩
  refine lv_iconst hx hb dX4_copy_145 ev96 ?_
  obtain ⟨v97, ev97, tv97⟩ : ∃ v : Int32, (Int8.ofInt (8)).toInt32 = v ∧ v.toInt = 8 := ⟨_, rfl, by decide +kernel⟩
  refine lv_bipush hx hb dX4_copy_146 ev97 ?_
  refine tr_copy Z.1 hl.1 Z.2.2.2.1 S90.1 S90.2 hq93 tq93 rfl hq95 tq95 rfl (by decide) (hts _ (List.mem_of_getElem? (i := 10) rfl)) (hts _ (List.mem_of_getElem? (i := 11) rfl)) (hts _ (List.mem_of_getElem? (i := 12) rfl)) (hts _ (List.mem_of_getElem? (i := 13) rfl)) 8 (by decide) (by decide) (by omega) (by omega) (by omega) (Nat.le_of_ble_eq_true rfl) (Nat.le_of_ble_eq_true rfl) dX4_copy_148 (fun E98 H99 k100 W98 I98 P98 => ?_)
  have S98 : Now D TB cy (va_A (va_pl L E) sz) s L τ E98 H99 k100 := ⟨W98, I98⟩
  have F98 : Fr L τ (inW [(1, 0), (20, 0), (21, 0), (22, 0), (23, 0), (24, 0), (25, 0), (26, 0), (27, 0)]) E E98 := Fr.cop F90 P98 tq95 rfl
  refine lv_aload_n hx hb dX4_copy_151 rfl (lv_at hl 1 rfl) ?_
  refine tr_getr Z.1 Z.2.2.2.1 S98.1 S98.2 ha1 ta1 rfl rfl (fun _ h => List.mem_cons_of_mem _ (List.mem_append_right _ h)) 14 (by decide) rfl (hts _ (List.mem_of_getElem? (i := 19) rfl)) dX4_copy_152 (fun q101 eq101 hq101 tq101 => ?_)
  have tq101 : τ q101 = (26, 1) := tq101
  obtain ⟨v102, ev102, tv102⟩ : ∃ v : Int32, Int32.ofInt (0) = v ∧ v.toInt = 0 := ⟨_, rfl, by decide +kernel⟩
  refine lv_iconst hx hb dX4_copy_155 ev102 ?_
  refine lv_aload_n hx hb dX4_copy_156 rfl (lv_at hl 0 rfl) ?_
  refine tr_getr Z.1 Z.2.2.2.1 S98.1 S98.2 ha0 ta0 rfl rfl (fun _ h => List.mem_cons_of_mem _ (List.mem_append_right _ h)) 14 (by decide) rfl (hts _ (List.mem_of_getElem? (i := 19) rfl)) dX4_copy_157 (fun q103 eq103 hq103 tq103 => ?_)
  have tq103 : τ q103 = (26, 0) := tq103
  obtain ⟨v104, ev104, tv104⟩ : ∃ v : Int32, Int32.ofInt (0) = v ∧ v.toInt = 0 := ⟨_, rfl, by decide +kernel⟩
  refine lv_iconst hx hb dX4_copy_160 ev104 ?_
  obtain ⟨v105, ev105, tv105⟩ : ∃ v : Int32, Int32.ofInt (5) = v ∧ v.toInt = 5 := ⟨_, rfl, by decide +kernel⟩
  refine lv_iconst hx hb dX4_copy_161 ev105 ?_
  refine tr_copy Z.1 hl.1 Z.2.2.2.1 S98.1 S98.2 hq101 tq101 rfl hq103 tq103 rfl (by decide) (hts _ (List.mem_of_getElem? (i := 10) rfl)) (hts _ (List.mem_of_getElem? (i := 11) rfl)) (hts _ (List.mem_of_getElem? (i := 12) rfl)) (hts _ (List.mem_of_getElem? (i := 13) rfl)) 5 (by decide) (by decide) (by omega) (by omega) (by omega) (Nat.le_of_ble_eq_true rfl) (Nat.le_of_ble_eq_true rfl) dX4_copy_162 (fun E106 H107 k108 W106 I106 P106 => ?_)
  have S106 : Now D TB cy (va_A (va_pl L E) sz) s L τ E106 H107 k108 := ⟨W106, I106⟩
  have F106 : Fr L τ (inW [(1, 0), (20, 0), (21, 0), (22, 0), (23, 0), (24, 0), (25, 0), (26, 0), (27, 0)]) E E106 := Fr.cop F98 P106 tq103 rfl
  obtain ⟨v109, ev109, tv109⟩ : ∃ v : Int32, Int32.ofInt (0) = v ∧ v.toInt = 0 := ⟨_, rfl, by decide +kernel⟩
  refine lv_iconst hx hb dX4_copy_165 ev109 ?_
  refine lv_istore_n (lv' := [(2, .int v109), (0, .ref a0), (1, .ref a1)]) hx hb dX4_copy_166 rfl hl (by decide) rfl (fun l110 hl111 => ?_)
  exact J167 _ v109 E106 H107 k108 l110 S106 F106 (by omega) (by omega) (Nat.lt_succ_self _) (lv_sub hl111 [1, 2, 0] rfl)

set_option maxHeartbeats 4000000 in
set_option maxRecDepth 100000 in
theorem k_X4_copy_v20 (l : Launch) (D : va_G) (cy : Nat → ClassId) {L : List Nat} {τ : Nat → Ro} {E : Ec} (hI : Inv TB cy L τ E) {a0 : Nat} (ha0 : a0 ∈ L) (ta0 : τ a0 = (1, 2)) {a1 : Nat} (ha1 : a1 ∈ L) (ta1 : τ a1 = (1, 0)) : CtV l yX4_copy wsX4_copy { frames := 1, cells := 0, slots := 0, locals := 40 } D TB cy L τ E [.ref a0, .ref a1] (inW [(1, 2), (20, 2), (21, 2), (22, 2), (23, 2), (24, 2), (25, 2), (26, 2), (27, 2)]) (fun E' => True) := by
  intro sz
  refine sta (cc := cX4_copy) (maxL := 3) hI (by decide) rfl (Nat.le_of_ble_eq_true rfl) (fun p e s m args below meth c ls hsz Z S0 hl => ?_)
  have hx := Z.1.1
  have hb := Z.1.2.1
  have hts := Z.1.2.2.2.2
  have F0_ : Fr L τ (inW [(1, 2), (20, 2), (21, 2), (22, 2), (23, 2), (24, 2), (25, 2), (26, 2), (27, 2)]) E E := Fr.refl
  have hl : lv_has ls 3 [(0, .ref a0), (1, .ref a1)] := hl
  generalize hQ : MQ below _ args s 0 0 _ = QQ
  have J167 : ∀ (n : Nat) (x2_167 : Int32) (E_167 : Ec) (H_167 : Heap) (k_167 : List Loc) (l_167 : Array Slot), Now D TB cy (va_A (va_pl L E) sz) s L τ E_167 H_167 k_167 → Fr L τ (inW [(1, 2), (20, 2), (21, 2), (22, 2), (23, 2), (24, 2), (25, 2), (26, 2), (27, 2)]) E E_167 → (0 ≤ x2_167.toInt) → (x2_167.toInt ≤ 8) → (8 - x2_167.toInt).toNat < n → lv_has l_167 3 [(0, .ref a0), (1, .ref a1), (2, .int x2_167)] → W p l e { frames := 1, cells := 0, slots := 0, locals := 40 } s m args below meth c H_167 k_167 0 0 QQ (F0 m 167 l_167 []) := by
    intro n
    induction n with
    | zero => intro x2_167 E_167 H_167 k_167 l_167 S_167 F_167 z1 z2 hm hl_167; exact absurd hm (Nat.not_lt_zero _)
    | succ n ih =>
      intro x2_167 E_167 H_167 k_167 l_167 S_167 F_167 z1 z2 hm hl_167
      have ih_167 := ih
      refine lv_iload_n hx hb dX4_copy_167 rfl (lv_at hl_167 2 rfl) ?_
      obtain ⟨v3, ev3, tv3⟩ : ∃ v : Int32, (Int8.ofInt (8)).toInt32 = v ∧ v.toInt = 8 := ⟨_, rfl, by decide +kernel⟩
      refine lv_bipush hx hb dX4_copy_168 ev3 ?_
      refine lv_icmp_ge (tgt := 191) hx hb dX4_copy_170 (by decide) (fun c4 => ?_) (fun c4 => ?_)
      · skip
        have tc4 := nu_le c4
        rw [← hQ]
        exact en_v Z S_167 F_167 trivial dX4_copy_191
      · skip
        have tc4 := nu_nle c4
        refine lv_aload_n hx hb dX4_copy_173 rfl (lv_at hl_167 0 rfl) ?_
        refine tr_getr Z.1 Z.2.2.2.1 S_167.1 S_167.2 ha0 ta0 rfl rfl (fun _ h => List.mem_cons_of_mem _ (List.mem_append_right _ h)) 15 (by decide) rfl (hts _ (List.mem_of_getElem? (i := 20) rfl)) dX4_copy_174 (fun q5 eq5 hq5 tq5 => ?_)
        have tq5 : τ q5 = (27, 2) := tq5
        refine lv_iload_n hx hb dX4_copy_177 rfl (lv_at hl_167 2 rfl) ?_
        refine lv_aload_n hx hb dX4_copy_178 rfl (lv_at hl_167 1 rfl) ?_
        refine tr_getr Z.1 Z.2.2.2.1 S_167.1 S_167.2 ha1 ta1 rfl rfl (fun _ h => List.mem_cons_of_mem _ (List.mem_append_right _ h)) 15 (by decide) rfl (hts _ (List.mem_of_getElem? (i := 20) rfl)) dX4_copy_179 (fun q6 eq6 hq6 tq6 => ?_)
        have tq6 : τ q6 = (27, 0) := tq6
        refine lv_iload_n hx hb dX4_copy_182 rfl (lv_at hl_167 2 rfl) ?_
        refine tr_aald Z.1 Z.2.2.2.1 S_167.1 S_167.2 hq6 tq6 rfl rfl rfl (by omega) (by omega) dX4_copy_183 (fun q7 eq7 hq7 => ?_)
        have hq7 := law_no hq7
        cases q7 with
        | none =>
          refine W.eq (g2 := F0 m 184 l_167 [.null, .int x2_167, .ref q5]) rfl ?_
          have hv8 : ∀ y : Nat, none = some y → y ∈ L ∧ (τ y).1 = 10 := (fun _ h => nomatch h)
          refine tr_aast (v := none) (ci := 1) Z.1 Z.2.2.2.1 S_167.1 S_167.2 hq5 tq5 rfl rfl rfl (law_ob hv8) (law_ok hv8) (by omega) (by omega) dX4_copy_184 (fun E8 H9 k10 W8 I8 P8 => ?_)
          have S8 : Now D TB cy (va_A (va_pl L E) sz) s L τ E8 H9 k10 := ⟨W8, I8⟩
          have F8 : Fr L τ (inW [(1, 2), (20, 2), (21, 2), (22, 2), (23, 2), (24, 2), (25, 2), (26, 2), (27, 2)]) E E8 := Fr.seq F_167 P8 tq5 rfl
          obtain ⟨v11, ev11⟩ : ∃ y : Int32, x2_167 + Int32.ofInt (1) = y := ⟨_, rfl⟩
          have tv11 : v11.toInt = x2_167.toInt + (1) := by rw [← ev11]; exact (fb_addI (by rw [show (Int32.ofInt (1)).toInt = 1 from by decide +kernel]; omega) (by rw [show (Int32.ofInt (1)).toInt = 1 from by decide +kernel]; omega)).trans (by rw [show (Int32.ofInt (1)).toInt = 1 from by decide +kernel])
          refine lv_iinc (v := v11) (lv' := [(2, .int v11), (0, .ref a0), (1, .ref a1)]) hx hb dX4_copy_185 hl_167 (k := 2) rfl ev11 (by decide) rfl (fun l12 hl13 => ?_)
          refine lv_goto (tgt := 167) hx hb dX4_copy_188 (by decide) ?_
          exact ih_167 v11 E8 H9 k10 l12 S8 F8 (by omega) (by omega) (by omega) (lv_sub hl13 [1, 2, 0] rfl)
        | some q14 =>
          obtain ⟨hq14, gq14⟩ := hq7 q14 rfl
          obtain ⟨nq14, tq14⟩ : ∃ n : Nat, τ q14 = (10, n) := ⟨(τ q14).2, by rw [← gq14]⟩
          refine W.eq (g2 := F0 m 184 l_167 [.ref q14, .int x2_167, .ref q5]) rfl ?_
          have hv15 : ∀ y : Nat, (some q14) = some y → y ∈ L ∧ (τ y).1 = 10 := (fun y h => by cases h; exact ⟨hq14, by rw [tq14]⟩)
          refine tr_aast (v := (some q14)) (ci := 1) Z.1 Z.2.2.2.1 S_167.1 S_167.2 hq5 tq5 rfl rfl rfl (law_ob hv15) (law_ok hv15) (by omega) (by omega) dX4_copy_184 (fun E15 H16 k17 W15 I15 P15 => ?_)
          have S15 : Now D TB cy (va_A (va_pl L E) sz) s L τ E15 H16 k17 := ⟨W15, I15⟩
          have F15 : Fr L τ (inW [(1, 2), (20, 2), (21, 2), (22, 2), (23, 2), (24, 2), (25, 2), (26, 2), (27, 2)]) E E15 := Fr.seq F_167 P15 tq5 rfl
          obtain ⟨v18, ev18⟩ : ∃ y : Int32, x2_167 + Int32.ofInt (1) = y := ⟨_, rfl⟩
          have tv18 : v18.toInt = x2_167.toInt + (1) := by rw [← ev18]; exact (fb_addI (by rw [show (Int32.ofInt (1)).toInt = 1 from by decide +kernel]; omega) (by rw [show (Int32.ofInt (1)).toInt = 1 from by decide +kernel]; omega)).trans (by rw [show (Int32.ofInt (1)).toInt = 1 from by decide +kernel])
          refine lv_iinc (v := v18) (lv' := [(2, .int v18), (0, .ref a0), (1, .ref a1)]) hx hb dX4_copy_185 hl_167 (k := 2) rfl ev18 (by decide) rfl (fun l19 hl20 => ?_)
          refine lv_goto (tgt := 167) hx hb dX4_copy_188 (by decide) ?_
          exact ih_167 v18 E15 H16 k17 l19 S15 F15 (by omega) (by omega) (by omega) (lv_sub hl20 [1, 2, 0] rfl)
  refine lv_aload_n hx hb dX4_copy_0 rfl (lv_at hl 0 rfl) ?_
  refine lv_aload_n hx hb dX4_copy_1 rfl (lv_at hl 1 rfl) ?_
  refine tr_geti Z.1 Z.2.2.2.1 S0.1 S0.2 ha1 ta1 rfl rfl (fun _ h => List.mem_cons_of_mem _ (List.mem_append_right _ h)) 0 (by decide) rfl (hts _ (List.mem_of_getElem? (i := 1) rfl)) dX4_copy_2 (fun v21 ev21 lv21 uv21 => ?_)
  refine tr_puti Z.1 Z.2.2.2.1 S0.1 S0.2 ha0 ta0 rfl rfl (fun _ h => List.mem_cons_of_mem _ (List.mem_append_right _ h)) tyX4_ok nmX4 0 (by decide) rfl rfl rfl (hts _ (List.mem_of_getElem? (i := 1) rfl)) dX4_copy_5 (by have := fb_rng v21; omega) (by have := fb_rng v21; omega) (fun E22 H23 k24 W22 I22 P22 => ?_)
  have S22 : Now D TB cy (va_A (va_pl L E) sz) s L τ E22 H23 k24 := ⟨W22, I22⟩
  have F22 : Fr L τ (inW [(1, 2), (20, 2), (21, 2), (22, 2), (23, 2), (24, 2), (25, 2), (26, 2), (27, 2)]) E E22 := Fr.put F0_ P22 ta0 rfl
  refine lv_aload_n hx hb dX4_copy_8 rfl (lv_at hl 0 rfl) ?_
  refine lv_aload_n hx hb dX4_copy_9 rfl (lv_at hl 1 rfl) ?_
  refine tr_geti Z.1 Z.2.2.2.1 S22.1 S22.2 ha1 ta1 rfl rfl (fun _ h => List.mem_cons_of_mem _ (List.mem_append_right _ h)) 1 (by decide) rfl (hts _ (List.mem_of_getElem? (i := 2) rfl)) dX4_copy_10 (fun v25 ev25 lv25 uv25 => ?_)
  refine tr_puti Z.1 Z.2.2.2.1 S22.1 S22.2 ha0 ta0 rfl rfl (fun _ h => List.mem_cons_of_mem _ (List.mem_append_right _ h)) tyX4_ok nmX4 1 (by decide) rfl rfl rfl (hts _ (List.mem_of_getElem? (i := 2) rfl)) dX4_copy_13 (by have := fb_rng v25; omega) (by have := fb_rng v25; omega) (fun E26 H27 k28 W26 I26 P26 => ?_)
  have S26 : Now D TB cy (va_A (va_pl L E) sz) s L τ E26 H27 k28 := ⟨W26, I26⟩
  have F26 : Fr L τ (inW [(1, 2), (20, 2), (21, 2), (22, 2), (23, 2), (24, 2), (25, 2), (26, 2), (27, 2)]) E E26 := Fr.put F22 P26 ta0 rfl
  refine lv_aload_n hx hb dX4_copy_16 rfl (lv_at hl 0 rfl) ?_
  refine lv_aload_n hx hb dX4_copy_17 rfl (lv_at hl 1 rfl) ?_
  refine tr_geti Z.1 Z.2.2.2.1 S26.1 S26.2 ha1 ta1 rfl rfl (fun _ h => List.mem_cons_of_mem _ (List.mem_append_right _ h)) 2 (by decide) rfl (hts _ (List.mem_of_getElem? (i := 3) rfl)) dX4_copy_18 (fun v29 ev29 lv29 uv29 => ?_)
  refine tr_puti Z.1 Z.2.2.2.1 S26.1 S26.2 ha0 ta0 rfl rfl (fun _ h => List.mem_cons_of_mem _ (List.mem_append_right _ h)) tyX4_ok nmX4 2 (by decide) rfl rfl rfl (hts _ (List.mem_of_getElem? (i := 3) rfl)) dX4_copy_21 (by have := fb_rng v29; omega) (by have := fb_rng v29; omega) (fun E30 H31 k32 W30 I30 P30 => ?_)
  have S30 : Now D TB cy (va_A (va_pl L E) sz) s L τ E30 H31 k32 := ⟨W30, I30⟩
  have F30 : Fr L τ (inW [(1, 2), (20, 2), (21, 2), (22, 2), (23, 2), (24, 2), (25, 2), (26, 2), (27, 2)]) E E30 := Fr.put F26 P30 ta0 rfl
  refine lv_aload_n hx hb dX4_copy_24 rfl (lv_at hl 0 rfl) ?_
  refine lv_aload_n hx hb dX4_copy_25 rfl (lv_at hl 1 rfl) ?_
  refine tr_geti Z.1 Z.2.2.2.1 S30.1 S30.2 ha1 ta1 rfl rfl (fun _ h => List.mem_cons_of_mem _ (List.mem_append_right _ h)) 3 (by decide) rfl (hts _ (List.mem_of_getElem? (i := 4) rfl)) dX4_copy_26 (fun v33 ev33 lv33 uv33 => ?_)
  refine tr_puti Z.1 Z.2.2.2.1 S30.1 S30.2 ha0 ta0 rfl rfl (fun _ h => List.mem_cons_of_mem _ (List.mem_append_right _ h)) tyX4_ok nmX4 3 (by decide) rfl rfl rfl (hts _ (List.mem_of_getElem? (i := 4) rfl)) dX4_copy_29 (by have := fb_rng v33; omega) (by have := fb_rng v33; omega) (fun E34 H35 k36 W34 I34 P34 => ?_)
  have S34 : Now D TB cy (va_A (va_pl L E) sz) s L τ E34 H35 k36 := ⟨W34, I34⟩
  have F34 : Fr L τ (inW [(1, 2), (20, 2), (21, 2), (22, 2), (23, 2), (24, 2), (25, 2), (26, 2), (27, 2)]) E E34 := Fr.put F30 P34 ta0 rfl
  refine lv_aload_n hx hb dX4_copy_32 rfl (lv_at hl 0 rfl) ?_
  refine lv_aload_n hx hb dX4_copy_33 rfl (lv_at hl 1 rfl) ?_
  refine tr_geti Z.1 Z.2.2.2.1 S34.1 S34.2 ha1 ta1 rfl rfl (fun _ h => List.mem_cons_of_mem _ (List.mem_append_right _ h)) 4 (by decide) rfl (hts _ (List.mem_of_getElem? (i := 5) rfl)) dX4_copy_34 (fun v37 ev37 lv37 uv37 => ?_)
  refine tr_puti Z.1 Z.2.2.2.1 S34.1 S34.2 ha0 ta0 rfl rfl (fun _ h => List.mem_cons_of_mem _ (List.mem_append_right _ h)) tyX4_ok nmX4 4 (by decide) rfl rfl rfl (hts _ (List.mem_of_getElem? (i := 5) rfl)) dX4_copy_37 (by omega) (by omega) (fun E38 H39 k40 W38 I38 P38 => ?_)
  have S38 : Now D TB cy (va_A (va_pl L E) sz) s L τ E38 H39 k40 := ⟨W38, I38⟩
  have F38 : Fr L τ (inW [(1, 2), (20, 2), (21, 2), (22, 2), (23, 2), (24, 2), (25, 2), (26, 2), (27, 2)]) E E38 := Fr.put F34 P38 ta0 rfl
  refine lv_aload_n hx hb dX4_copy_40 rfl (lv_at hl 0 rfl) ?_
  refine lv_aload_n hx hb dX4_copy_41 rfl (lv_at hl 1 rfl) ?_
  refine tr_geti Z.1 Z.2.2.2.1 S38.1 S38.2 ha1 ta1 rfl rfl (fun _ h => List.mem_cons_of_mem _ (List.mem_append_right _ h)) 5 (by decide) rfl (hts _ (List.mem_of_getElem? (i := 6) rfl)) dX4_copy_42 (fun v41 ev41 lv41 uv41 => ?_)
  refine tr_puti Z.1 Z.2.2.2.1 S38.1 S38.2 ha0 ta0 rfl rfl (fun _ h => List.mem_cons_of_mem _ (List.mem_append_right _ h)) tyX4_ok nmX4 5 (by decide) rfl rfl rfl (hts _ (List.mem_of_getElem? (i := 6) rfl)) dX4_copy_45 (by have := fb_rng v41; omega) (by have := fb_rng v41; omega) (fun E42 H43 k44 W42 I42 P42 => ?_)
  have S42 : Now D TB cy (va_A (va_pl L E) sz) s L τ E42 H43 k44 := ⟨W42, I42⟩
  have F42 : Fr L τ (inW [(1, 2), (20, 2), (21, 2), (22, 2), (23, 2), (24, 2), (25, 2), (26, 2), (27, 2)]) E E42 := Fr.put F38 P42 ta0 rfl
  refine lv_aload_n hx hb dX4_copy_48 rfl (lv_at hl 0 rfl) ?_
  refine lv_aload_n hx hb dX4_copy_49 rfl (lv_at hl 1 rfl) ?_
  refine tr_geti Z.1 Z.2.2.2.1 S42.1 S42.2 ha1 ta1 rfl rfl (fun _ h => List.mem_cons_of_mem _ (List.mem_append_right _ h)) 6 (by decide) rfl (hts _ (List.mem_of_getElem? (i := 7) rfl)) dX4_copy_50 (fun v45 ev45 lv45 uv45 => ?_)
  refine tr_puti Z.1 Z.2.2.2.1 S42.1 S42.2 ha0 ta0 rfl rfl (fun _ h => List.mem_cons_of_mem _ (List.mem_append_right _ h)) tyX4_ok nmX4 6 (by decide) rfl rfl rfl (hts _ (List.mem_of_getElem? (i := 7) rfl)) dX4_copy_53 (by omega) (by omega) (fun E46 H47 k48 W46 I46 P46 => ?_)
  have S46 : Now D TB cy (va_A (va_pl L E) sz) s L τ E46 H47 k48 := ⟨W46, I46⟩
  have F46 : Fr L τ (inW [(1, 2), (20, 2), (21, 2), (22, 2), (23, 2), (24, 2), (25, 2), (26, 2), (27, 2)]) E E46 := Fr.put F42 P46 ta0 rfl
  refine lv_aload_n hx hb dX4_copy_56 rfl (lv_at hl 0 rfl) ?_
  refine lv_aload_n hx hb dX4_copy_57 rfl (lv_at hl 1 rfl) ?_
  refine tr_geti Z.1 Z.2.2.2.1 S46.1 S46.2 ha1 ta1 rfl rfl (fun _ h => List.mem_cons_of_mem _ (List.mem_append_right _ h)) 7 (by decide) rfl (hts _ (List.mem_of_getElem? (i := 8) rfl)) dX4_copy_58 (fun v49 ev49 lv49 uv49 => ?_)
  refine tr_puti Z.1 Z.2.2.2.1 S46.1 S46.2 ha0 ta0 rfl rfl (fun _ h => List.mem_cons_of_mem _ (List.mem_append_right _ h)) tyX4_ok nmX4 7 (by decide) rfl rfl rfl (hts _ (List.mem_of_getElem? (i := 8) rfl)) dX4_copy_61 (by omega) (by omega) (fun E50 H51 k52 W50 I50 P50 => ?_)
  have S50 : Now D TB cy (va_A (va_pl L E) sz) s L τ E50 H51 k52 := ⟨W50, I50⟩
  have F50 : Fr L τ (inW [(1, 2), (20, 2), (21, 2), (22, 2), (23, 2), (24, 2), (25, 2), (26, 2), (27, 2)]) E E50 := Fr.put F46 P50 ta0 rfl
  refine lv_aload_n hx hb dX4_copy_64 rfl (lv_at hl 1 rfl) ?_
  refine tr_getr Z.1 Z.2.2.2.1 S50.1 S50.2 ha1 ta1 rfl rfl (fun _ h => List.mem_cons_of_mem _ (List.mem_append_right _ h)) 8 (by decide) rfl (hts _ (List.mem_of_getElem? (i := 9) rfl)) dX4_copy_65 (fun q53 eq53 hq53 tq53 => ?_)
  have tq53 : τ q53 = (20, 0) := tq53
  obtain ⟨v54, ev54, tv54⟩ : ∃ v : Int32, Int32.ofInt (0) = v ∧ v.toInt = 0 := ⟨_, rfl, by decide +kernel⟩
  refine lv_iconst hx hb dX4_copy_68 ev54 ?_
  refine lv_aload_n hx hb dX4_copy_69 rfl (lv_at hl 0 rfl) ?_
  refine tr_getr Z.1 Z.2.2.2.1 S50.1 S50.2 ha0 ta0 rfl rfl (fun _ h => List.mem_cons_of_mem _ (List.mem_append_right _ h)) 8 (by decide) rfl (hts _ (List.mem_of_getElem? (i := 9) rfl)) dX4_copy_70 (fun q55 eq55 hq55 tq55 => ?_)
  have tq55 : τ q55 = (20, 2) := tq55
  obtain ⟨v56, ev56, tv56⟩ : ∃ v : Int32, Int32.ofInt (0) = v ∧ v.toInt = 0 := ⟨_, rfl, by decide +kernel⟩
  refine lv_iconst hx hb dX4_copy_73 ev56 ?_
  obtain ⟨v57, ev57, tv57⟩ : ∃ v : Int32, Int32.ofInt (3) = v ∧ v.toInt = 3 := ⟨_, rfl, by decide +kernel⟩
  refine lv_iconst hx hb dX4_copy_74 ev57 ?_
  refine tr_copy Z.1 hl.1 Z.2.2.2.1 S50.1 S50.2 hq53 tq53 rfl hq55 tq55 rfl (by decide) (hts _ (List.mem_of_getElem? (i := 10) rfl)) (hts _ (List.mem_of_getElem? (i := 11) rfl)) (hts _ (List.mem_of_getElem? (i := 12) rfl)) (hts _ (List.mem_of_getElem? (i := 13) rfl)) 3 (by decide) (by decide) (by omega) (by omega) (by omega) (Nat.le_of_ble_eq_true rfl) (Nat.le_of_ble_eq_true rfl) dX4_copy_75 (fun E58 H59 k60 W58 I58 P58 => ?_)
  have S58 : Now D TB cy (va_A (va_pl L E) sz) s L τ E58 H59 k60 := ⟨W58, I58⟩
  have F58 : Fr L τ (inW [(1, 2), (20, 2), (21, 2), (22, 2), (23, 2), (24, 2), (25, 2), (26, 2), (27, 2)]) E E58 := Fr.cop F50 P58 tq55 rfl
  refine lv_aload_n hx hb dX4_copy_78 rfl (lv_at hl 1 rfl) ?_
  refine tr_getr Z.1 Z.2.2.2.1 S58.1 S58.2 ha1 ta1 rfl rfl (fun _ h => List.mem_cons_of_mem _ (List.mem_append_right _ h)) 9 (by decide) rfl (hts _ (List.mem_of_getElem? (i := 14) rfl)) dX4_copy_79 (fun q61 eq61 hq61 tq61 => ?_)
  have tq61 : τ q61 = (21, 0) := tq61
  obtain ⟨v62, ev62, tv62⟩ : ∃ v : Int32, Int32.ofInt (0) = v ∧ v.toInt = 0 := ⟨_, rfl, by decide +kernel⟩
  refine lv_iconst hx hb dX4_copy_82 ev62 ?_
  refine lv_aload_n hx hb dX4_copy_83 rfl (lv_at hl 0 rfl) ?_
  refine tr_getr Z.1 Z.2.2.2.1 S58.1 S58.2 ha0 ta0 rfl rfl (fun _ h => List.mem_cons_of_mem _ (List.mem_append_right _ h)) 9 (by decide) rfl (hts _ (List.mem_of_getElem? (i := 14) rfl)) dX4_copy_84 (fun q63 eq63 hq63 tq63 => ?_)
  have tq63 : τ q63 = (21, 2) := tq63
  obtain ⟨v64, ev64, tv64⟩ : ∃ v : Int32, Int32.ofInt (0) = v ∧ v.toInt = 0 := ⟨_, rfl, by decide +kernel⟩
  refine lv_iconst hx hb dX4_copy_87 ev64 ?_
  obtain ⟨v65, ev65, tv65⟩ : ∃ v : Int32, Int32.ofInt (3) = v ∧ v.toInt = 3 := ⟨_, rfl, by decide +kernel⟩
  refine lv_iconst hx hb dX4_copy_88 ev65 ?_
  refine tr_copy Z.1 hl.1 Z.2.2.2.1 S58.1 S58.2 hq61 tq61 rfl hq63 tq63 rfl (by decide) (hts _ (List.mem_of_getElem? (i := 10) rfl)) (hts _ (List.mem_of_getElem? (i := 11) rfl)) (hts _ (List.mem_of_getElem? (i := 12) rfl)) (hts _ (List.mem_of_getElem? (i := 13) rfl)) 3 (by decide) (by decide) (by omega) (by omega) (by omega) (Nat.le_of_ble_eq_true rfl) (Nat.le_of_ble_eq_true rfl) dX4_copy_89 (fun E66 H67 k68 W66 I66 P66 => ?_)
  have S66 : Now D TB cy (va_A (va_pl L E) sz) s L τ E66 H67 k68 := ⟨W66, I66⟩
  have F66 : Fr L τ (inW [(1, 2), (20, 2), (21, 2), (22, 2), (23, 2), (24, 2), (25, 2), (26, 2), (27, 2)]) E E66 := Fr.cop F58 P66 tq63 rfl
  refine lv_aload_n hx hb dX4_copy_92 rfl (lv_at hl 1 rfl) ?_
  refine tr_getr Z.1 Z.2.2.2.1 S66.1 S66.2 ha1 ta1 rfl rfl (fun _ h => List.mem_cons_of_mem _ (List.mem_append_right _ h)) 10 (by decide) rfl (hts _ (List.mem_of_getElem? (i := 15) rfl)) dX4_copy_93 (fun q69 eq69 hq69 tq69 => ?_)
  have tq69 : τ q69 = (22, 0) := tq69
  obtain ⟨v70, ev70, tv70⟩ : ∃ v : Int32, Int32.ofInt (0) = v ∧ v.toInt = 0 := ⟨_, rfl, by decide +kernel⟩
  refine lv_iconst hx hb dX4_copy_96 ev70 ?_
  refine lv_aload_n hx hb dX4_copy_97 rfl (lv_at hl 0 rfl) ?_
  refine tr_getr Z.1 Z.2.2.2.1 S66.1 S66.2 ha0 ta0 rfl rfl (fun _ h => List.mem_cons_of_mem _ (List.mem_append_right _ h)) 10 (by decide) rfl (hts _ (List.mem_of_getElem? (i := 15) rfl)) dX4_copy_98 (fun q71 eq71 hq71 tq71 => ?_)
  have tq71 : τ q71 = (22, 2) := tq71
  obtain ⟨v72, ev72, tv72⟩ : ∃ v : Int32, Int32.ofInt (0) = v ∧ v.toInt = 0 := ⟨_, rfl, by decide +kernel⟩
  refine lv_iconst hx hb dX4_copy_101 ev72 ?_
  obtain ⟨v73, ev73, tv73⟩ : ∃ v : Int32, Int32.ofInt (2) = v ∧ v.toInt = 2 := ⟨_, rfl, by decide +kernel⟩
  refine lv_iconst hx hb dX4_copy_102 ev73 ?_
  refine tr_copy Z.1 hl.1 Z.2.2.2.1 S66.1 S66.2 hq69 tq69 rfl hq71 tq71 rfl (by decide) (hts _ (List.mem_of_getElem? (i := 10) rfl)) (hts _ (List.mem_of_getElem? (i := 11) rfl)) (hts _ (List.mem_of_getElem? (i := 12) rfl)) (hts _ (List.mem_of_getElem? (i := 13) rfl)) 2 (by decide) (by decide) (by omega) (by omega) (by omega) (Nat.le_of_ble_eq_true rfl) (Nat.le_of_ble_eq_true rfl) dX4_copy_103 (fun E74 H75 k76 W74 I74 P74 => ?_)
  have S74 : Now D TB cy (va_A (va_pl L E) sz) s L τ E74 H75 k76 := ⟨W74, I74⟩
  have F74 : Fr L τ (inW [(1, 2), (20, 2), (21, 2), (22, 2), (23, 2), (24, 2), (25, 2), (26, 2), (27, 2)]) E E74 := Fr.cop F66 P74 tq71 rfl
  refine lv_aload_n hx hb dX4_copy_106 rfl (lv_at hl 1 rfl) ?_
  refine tr_getr Z.1 Z.2.2.2.1 S74.1 S74.2 ha1 ta1 rfl rfl (fun _ h => List.mem_cons_of_mem _ (List.mem_append_right _ h)) 11 (by decide) rfl (hts _ (List.mem_of_getElem? (i := 16) rfl)) dX4_copy_107 (fun q77 eq77 hq77 tq77 => ?_)
  have tq77 : τ q77 = (23, 0) := tq77
  obtain ⟨v78, ev78, tv78⟩ : ∃ v : Int32, Int32.ofInt (0) = v ∧ v.toInt = 0 := ⟨_, rfl, by decide +kernel⟩
  refine lv_iconst hx hb dX4_copy_110 ev78 ?_
  refine lv_aload_n hx hb dX4_copy_111 rfl (lv_at hl 0 rfl) ?_
  refine tr_getr Z.1 Z.2.2.2.1 S74.1 S74.2 ha0 ta0 rfl rfl (fun _ h => List.mem_cons_of_mem _ (List.mem_append_right _ h)) 11 (by decide) rfl (hts _ (List.mem_of_getElem? (i := 16) rfl)) dX4_copy_112 (fun q79 eq79 hq79 tq79 => ?_)
  have tq79 : τ q79 = (23, 2) := tq79
  obtain ⟨v80, ev80, tv80⟩ : ∃ v : Int32, Int32.ofInt (0) = v ∧ v.toInt = 0 := ⟨_, rfl, by decide +kernel⟩
  refine lv_iconst hx hb dX4_copy_115 ev80 ?_
  obtain ⟨v81, ev81, tv81⟩ : ∃ v : Int32, (Int8.ofInt (8)).toInt32 = v ∧ v.toInt = 8 := ⟨_, rfl, by decide +kernel⟩
  refine lv_bipush hx hb dX4_copy_116 ev81 ?_
  refine tr_copy Z.1 hl.1 Z.2.2.2.1 S74.1 S74.2 hq77 tq77 rfl hq79 tq79 rfl (by decide) (hts _ (List.mem_of_getElem? (i := 10) rfl)) (hts _ (List.mem_of_getElem? (i := 11) rfl)) (hts _ (List.mem_of_getElem? (i := 12) rfl)) (hts _ (List.mem_of_getElem? (i := 13) rfl)) 8 (by decide) (by decide) (by omega) (by omega) (by omega) (Nat.le_of_ble_eq_true rfl) (Nat.le_of_ble_eq_true rfl) dX4_copy_118 (fun E82 H83 k84 W82 I82 P82 => ?_)
  have S82 : Now D TB cy (va_A (va_pl L E) sz) s L τ E82 H83 k84 := ⟨W82, I82⟩
  have F82 : Fr L τ (inW [(1, 2), (20, 2), (21, 2), (22, 2), (23, 2), (24, 2), (25, 2), (26, 2), (27, 2)]) E E82 := Fr.cop F74 P82 tq79 rfl
  refine lv_aload_n hx hb dX4_copy_121 rfl (lv_at hl 1 rfl) ?_
  refine tr_getr Z.1 Z.2.2.2.1 S82.1 S82.2 ha1 ta1 rfl rfl (fun _ h => List.mem_cons_of_mem _ (List.mem_append_right _ h)) 12 (by decide) rfl (hts _ (List.mem_of_getElem? (i := 17) rfl)) dX4_copy_122 (fun q85 eq85 hq85 tq85 => ?_)
  have tq85 : τ q85 = (24, 0) := tq85
  obtain ⟨v86, ev86, tv86⟩ : ∃ v : Int32, Int32.ofInt (0) = v ∧ v.toInt = 0 := ⟨_, rfl, by decide +kernel⟩
  refine lv_iconst hx hb dX4_copy_125 ev86 ?_
  refine lv_aload_n hx hb dX4_copy_126 rfl (lv_at hl 0 rfl) ?_
  refine tr_getr Z.1 Z.2.2.2.1 S82.1 S82.2 ha0 ta0 rfl rfl (fun _ h => List.mem_cons_of_mem _ (List.mem_append_right _ h)) 12 (by decide) rfl (hts _ (List.mem_of_getElem? (i := 17) rfl)) dX4_copy_127 (fun q87 eq87 hq87 tq87 => ?_)
  have tq87 : τ q87 = (24, 2) := tq87
  obtain ⟨v88, ev88, tv88⟩ : ∃ v : Int32, Int32.ofInt (0) = v ∧ v.toInt = 0 := ⟨_, rfl, by decide +kernel⟩
  refine lv_iconst hx hb dX4_copy_130 ev88 ?_
  obtain ⟨v89, ev89, tv89⟩ : ∃ v : Int32, (Int8.ofInt (8)).toInt32 = v ∧ v.toInt = 8 := ⟨_, rfl, by decide +kernel⟩
  refine lv_bipush hx hb dX4_copy_131 ev89 ?_
  refine tr_copy Z.1 hl.1 Z.2.2.2.1 S82.1 S82.2 hq85 tq85 rfl hq87 tq87 rfl (by decide) (hts _ (List.mem_of_getElem? (i := 10) rfl)) (hts _ (List.mem_of_getElem? (i := 11) rfl)) (hts _ (List.mem_of_getElem? (i := 12) rfl)) (hts _ (List.mem_of_getElem? (i := 13) rfl)) 8 (by decide) (by decide) (by omega) (by omega) (by omega) (Nat.le_of_ble_eq_true rfl) (Nat.le_of_ble_eq_true rfl) dX4_copy_133 (fun E90 H91 k92 W90 I90 P90 => ?_)
  have S90 : Now D TB cy (va_A (va_pl L E) sz) s L τ E90 H91 k92 := ⟨W90, I90⟩
  have F90 : Fr L τ (inW [(1, 2), (20, 2), (21, 2), (22, 2), (23, 2), (24, 2), (25, 2), (26, 2), (27, 2)]) E E90 := Fr.cop F82 P90 tq87 rfl
  refine lv_aload_n hx hb dX4_copy_136 rfl (lv_at hl 1 rfl) ?_
  refine tr_getr Z.1 Z.2.2.2.1 S90.1 S90.2 ha1 ta1 rfl rfl (fun _ h => List.mem_cons_of_mem _ (List.mem_append_right _ h)) 13 (by decide) rfl (hts _ (List.mem_of_getElem? (i := 18) rfl)) dX4_copy_137 (fun q93 eq93 hq93 tq93 => ?_)
  have tq93 : τ q93 = (25, 0) := tq93
  obtain ⟨v94, ev94, tv94⟩ : ∃ v : Int32, Int32.ofInt (0) = v ∧ v.toInt = 0 := ⟨_, rfl, by decide +kernel⟩
  refine lv_iconst hx hb dX4_copy_140 ev94 ?_
  refine lv_aload_n hx hb dX4_copy_141 rfl (lv_at hl 0 rfl) ?_
  refine tr_getr Z.1 Z.2.2.2.1 S90.1 S90.2 ha0 ta0 rfl rfl (fun _ h => List.mem_cons_of_mem _ (List.mem_append_right _ h)) 13 (by decide) rfl (hts _ (List.mem_of_getElem? (i := 18) rfl)) dX4_copy_142 (fun q95 eq95 hq95 tq95 => ?_)
  have tq95 : τ q95 = (25, 2) := tq95
  obtain ⟨v96, ev96, tv96⟩ : ∃ v : Int32, Int32.ofInt (0) = v ∧ v.toInt = 0 := ⟨_, rfl, by decide +kernel⟩
  refine lv_iconst hx hb dX4_copy_145 ev96 ?_
  obtain ⟨v97, ev97, tv97⟩ : ∃ v : Int32, (Int8.ofInt (8)).toInt32 = v ∧ v.toInt = 8 := ⟨_, rfl, by decide +kernel⟩
  refine lv_bipush hx hb dX4_copy_146 ev97 ?_
  refine tr_copy Z.1 hl.1 Z.2.2.2.1 S90.1 S90.2 hq93 tq93 rfl hq95 tq95 rfl (by decide) (hts _ (List.mem_of_getElem? (i := 10) rfl)) (hts _ (List.mem_of_getElem? (i := 11) rfl)) (hts _ (List.mem_of_getElem? (i := 12) rfl)) (hts _ (List.mem_of_getElem? (i := 13) rfl)) 8 (by decide) (by decide) (by omega) (by omega) (by omega) (Nat.le_of_ble_eq_true rfl) (Nat.le_of_ble_eq_true rfl) dX4_copy_148 (fun E98 H99 k100 W98 I98 P98 => ?_)
  have S98 : Now D TB cy (va_A (va_pl L E) sz) s L τ E98 H99 k100 := ⟨W98, I98⟩
  have F98 : Fr L τ (inW [(1, 2), (20, 2), (21, 2), (22, 2), (23, 2), (24, 2), (25, 2), (26, 2), (27, 2)]) E E98 := Fr.cop F90 P98 tq95 rfl
  refine lv_aload_n hx hb dX4_copy_151 rfl (lv_at hl 1 rfl) ?_
  refine tr_getr Z.1 Z.2.2.2.1 S98.1 S98.2 ha1 ta1 rfl rfl (fun _ h => List.mem_cons_of_mem _ (List.mem_append_right _ h)) 14 (by decide) rfl (hts _ (List.mem_of_getElem? (i := 19) rfl)) dX4_copy_152 (fun q101 eq101 hq101 tq101 => ?_)
  have tq101 : τ q101 = (26, 0) := tq101
  obtain ⟨v102, ev102, tv102⟩ : ∃ v : Int32, Int32.ofInt (0) = v ∧ v.toInt = 0 := ⟨_, rfl, by decide +kernel⟩
  refine lv_iconst hx hb dX4_copy_155 ev102 ?_
  refine lv_aload_n hx hb dX4_copy_156 rfl (lv_at hl 0 rfl) ?_
  refine tr_getr Z.1 Z.2.2.2.1 S98.1 S98.2 ha0 ta0 rfl rfl (fun _ h => List.mem_cons_of_mem _ (List.mem_append_right _ h)) 14 (by decide) rfl (hts _ (List.mem_of_getElem? (i := 19) rfl)) dX4_copy_157 (fun q103 eq103 hq103 tq103 => ?_)
  have tq103 : τ q103 = (26, 2) := tq103
  obtain ⟨v104, ev104, tv104⟩ : ∃ v : Int32, Int32.ofInt (0) = v ∧ v.toInt = 0 := ⟨_, rfl, by decide +kernel⟩
  refine lv_iconst hx hb dX4_copy_160 ev104 ?_
  obtain ⟨v105, ev105, tv105⟩ : ∃ v : Int32, Int32.ofInt (5) = v ∧ v.toInt = 5 := ⟨_, rfl, by decide +kernel⟩
  refine lv_iconst hx hb dX4_copy_161 ev105 ?_
  refine tr_copy Z.1 hl.1 Z.2.2.2.1 S98.1 S98.2 hq101 tq101 rfl hq103 tq103 rfl (by decide) (hts _ (List.mem_of_getElem? (i := 10) rfl)) (hts _ (List.mem_of_getElem? (i := 11) rfl)) (hts _ (List.mem_of_getElem? (i := 12) rfl)) (hts _ (List.mem_of_getElem? (i := 13) rfl)) 5 (by decide) (by decide) (by omega) (by omega) (by omega) (Nat.le_of_ble_eq_true rfl) (Nat.le_of_ble_eq_true rfl) dX4_copy_162 (fun E106 H107 k108 W106 I106 P106 => ?_)
  have S106 : Now D TB cy (va_A (va_pl L E) sz) s L τ E106 H107 k108 := ⟨W106, I106⟩
  have F106 : Fr L τ (inW [(1, 2), (20, 2), (21, 2), (22, 2), (23, 2), (24, 2), (25, 2), (26, 2), (27, 2)]) E E106 := Fr.cop F98 P106 tq103 rfl
  obtain ⟨v109, ev109, tv109⟩ : ∃ v : Int32, Int32.ofInt (0) = v ∧ v.toInt = 0 := ⟨_, rfl, by decide +kernel⟩
  refine lv_iconst hx hb dX4_copy_165 ev109 ?_
  refine lv_istore_n (lv' := [(2, .int v109), (0, .ref a0), (1, .ref a1)]) hx hb dX4_copy_166 rfl hl (by decide) rfl (fun l110 hl111 => ?_)
  exact J167 _ v109 E106 H107 k108 l110 S106 F106 (by omega) (by omega) (Nat.lt_succ_self _) (lv_sub hl111 [1, 2, 0] rfl)

