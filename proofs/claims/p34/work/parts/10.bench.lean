theorem dX9_within_0 : decode cX9_within 0 = .ok (.iload_n 0, 1) := by decide +kernel
theorem dX9_within_1 : decode cX9_within 1 = .ok (.iload_n 1, 1) := by decide +kernel
theorem dX9_within_2 : decode cX9_within 2 = .ok (.if_icmp .lt 12, 3) := by decide +kernel
theorem dX9_within_5 : decode cX9_within 5 = .ok (.iload_n 0, 1) := by decide +kernel
theorem dX9_within_6 : decode cX9_within 6 = .ok (.iload_n 2, 1) := by decide +kernel
theorem dX9_within_7 : decode cX9_within 7 = .ok (.if_icmp .gt 7, 3) := by decide +kernel
theorem dX9_within_10 : decode cX9_within 10 = .ok (.iconst 1, 1) := by decide +kernel
theorem dX9_within_11 : decode cX9_within 11 = .ok (.goto 4, 3) := by decide +kernel
theorem dX9_within_14 : decode cX9_within 14 = .ok (.iconst 0, 1) := by decide +kernel
theorem dX9_within_15 : decode cX9_within 15 = .ok (.ireturn, 1) := by decide +kernel
set_option maxHeartbeats 4000000 in
set_option maxRecDepth 100000 in
theorem k_X9_within (l : Launch) (D : va_G) (cy : Nat → ClassId) {L : List Nat} {τ : Nat → Ro} {E : Ec} (hI : Inv TB cy L τ E) (a0 : Int32) (a1 : Int32) (a2 : Int32) : CtI l yX9_within wsX9_within { frames := 0, cells := 0, slots := 0, locals := 0 } D TB cy L τ E [.int a0, .int a1, .int a2] (inW []) (fun r E' => E' = E ∧ ((r.toInt = 1 ∧ a1.toInt ≤ a0.toInt ∧ a0.toInt ≤ a2.toInt) ∨ (r.toInt = 0 ∧ (a0.toInt < a1.toInt ∨ a2.toInt < a0.toInt))) ∧ 0 ≤ r.toInt ∧ r.toInt ≤ 1) := by
  intro sz
  refine sta (cc := cX9_within) (maxL := 3) hI (by decide) rfl (Nat.le_of_ble_eq_true rfl) (fun p e s m args below meth c ls hsz Z S0 hl => ?_)
  have hx := Z.1.1
  have hb := Z.1.2.1
  have hts := Z.1.2.2.2.2
  have F0_ : Fr L τ (inW []) E E := Fr.refl
  have hl : lv_has ls 3 [(0, .int a0), (1, .int a1), (2, .int a2)] := hl
  generalize hQ : MQ below _ args s 0 0 _ = QQ
  refine lv_iload_n hx hb dX9_within_0 rfl (lv_at hl 0 rfl) ?_
  refine lv_iload_n hx hb dX9_within_1 rfl (lv_at hl 1 rfl) ?_
  refine lv_icmp_lt (tgt := 14) hx hb dX9_within_2 (by decide) (fun c1 => ?_) (fun c1 => ?_)
  · skip
    have tc1 := nu_lt c1
    obtain ⟨v2, ev2, tv2⟩ : ∃ v : Int32, Int32.ofInt (0) = v ∧ v.toInt = 0 := ⟨_, rfl, by decide +kernel⟩
    refine lv_iconst hx hb dX9_within_14 ev2 ?_
    rw [← hQ]
    exact en_z Z S0 F0_ (zo v2 (by omega)) ⟨rfl, (by omega), (by omega), (by omega)⟩ dX9_within_15
  · skip
    have tc1 := nu_nlt c1
    refine lv_iload_n hx hb dX9_within_5 rfl (lv_at hl 0 rfl) ?_
    refine lv_iload_n hx hb dX9_within_6 rfl (lv_at hl 2 rfl) ?_
    refine lv_icmp_gt (tgt := 14) hx hb dX9_within_7 (by decide) (fun c3 => ?_) (fun c3 => ?_)
    · skip
      have tc3 := nu_lt c3
      obtain ⟨v4, ev4, tv4⟩ : ∃ v : Int32, Int32.ofInt (0) = v ∧ v.toInt = 0 := ⟨_, rfl, by decide +kernel⟩
      refine lv_iconst hx hb dX9_within_14 ev4 ?_
      rw [← hQ]
      exact en_z Z S0 F0_ (zo v4 (by omega)) ⟨rfl, (by omega), (by omega), (by omega)⟩ dX9_within_15
    · skip
      have tc3 := nu_nlt c3
      obtain ⟨v5, ev5, tv5⟩ : ∃ v : Int32, Int32.ofInt (1) = v ∧ v.toInt = 1 := ⟨_, rfl, by decide +kernel⟩
      refine lv_iconst hx hb dX9_within_10 ev5 ?_
      refine lv_goto (tgt := 15) hx hb dX9_within_11 (by decide) ?_
      rw [← hQ]
      exact en_z Z S0 F0_ (zo v5 (by omega)) ⟨rfl, (by omega), (by omega), (by omega)⟩ dX9_within_15

theorem dX9_share_0 : decode cX9_share 0 = .ok (.iload_n 1, 1) := by decide +kernel
theorem dX9_share_1 : decode cX9_share 1 = .ok (.ifCond .gt 5, 3) := by decide +kernel
theorem dX9_share_4 : decode cX9_share 4 = .ok (.iconst 0, 1) := by decide +kernel
theorem dX9_share_5 : decode cX9_share 5 = .ok (.ireturn, 1) := by decide +kernel
theorem dX9_share_6 : decode cX9_share 6 = .ok (.iload_n 0, 1) := by decide +kernel
theorem dX9_share_7 : decode cX9_share 7 = .ok (.iload_n 1, 1) := by decide +kernel
theorem dX9_share_8 : decode cX9_share 8 = .ok (.idiv, 1) := by decide +kernel
theorem dX9_share_9 : decode cX9_share 9 = .ok (.iload_n 2, 1) := by decide +kernel
theorem dX9_share_10 : decode cX9_share 10 = .ok (.iload_n 0, 1) := by decide +kernel
theorem dX9_share_11 : decode cX9_share 11 = .ok (.iload_n 1, 1) := by decide +kernel
theorem dX9_share_12 : decode cX9_share 12 = .ok (.irem, 1) := by decide +kernel
theorem dX9_share_13 : decode cX9_share 13 = .ok (.if_icmp .ge 7, 3) := by decide +kernel
theorem dX9_share_16 : decode cX9_share 16 = .ok (.iconst 1, 1) := by decide +kernel
theorem dX9_share_17 : decode cX9_share 17 = .ok (.goto 4, 3) := by decide +kernel
theorem dX9_share_20 : decode cX9_share 20 = .ok (.iconst 0, 1) := by decide +kernel
theorem dX9_share_21 : decode cX9_share 21 = .ok (.iadd, 1) := by decide +kernel
theorem dX9_share_22 : decode cX9_share 22 = .ok (.ireturn, 1) := by decide +kernel
set_option maxHeartbeats 4000000 in
set_option maxRecDepth 100000 in
theorem k_X9_share (l : Launch) (D : va_G) (cy : Nat → ClassId) {L : List Nat} {τ : Nat → Ro} {E : Ec} (hI : Inv TB cy L τ E) (a0 : Int32) (a1 : Int32) (a2 : Int32) : CtI l yX9_share wsX9_share { frames := 0, cells := 0, slots := 0, locals := 0 } D TB cy L τ E [.int a0, .int a1, .int a2] (inW []) (fun r E' => E' = E) := by
  intro sz
  refine sta (cc := cX9_share) (maxL := 3) hI (by decide) rfl (Nat.le_of_ble_eq_true rfl) (fun p e s m args below meth c ls hsz Z S0 hl => ?_)
  have hx := Z.1.1
  have hb := Z.1.2.1
  have hts := Z.1.2.2.2.2
  have F0_ : Fr L τ (inW []) E E := Fr.refl
  have hl : lv_has ls 3 [(0, .int a0), (1, .int a1), (2, .int a2)] := hl
  generalize hQ : MQ below _ args s 0 0 _ = QQ
  refine lv_iload_n hx hb dX9_share_0 rfl (lv_at hl 1 rfl) ?_
  refine lv_if_gt (tgt := 6) hx hb dX9_share_1 (by decide) (fun c1 => ?_) (fun c1 => ?_)
  · skip
    have tc1 := nu_lt c1
    have uc1 : (0 : Int32).toInt = 0 := rfl
    refine lv_iload_n hx hb dX9_share_6 rfl (lv_at hl 0 rfl) ?_
    refine lv_iload_n hx hb dX9_share_7 rfl (lv_at hl 1 rfl) ?_
    refine lv_idiv hx hb dX9_share_8 (fun q => by have := nu_eq0 q; omega) ?_
    refine lv_topi (fun v2 ev2 => ?_)
    refine lv_iload_n hx hb dX9_share_9 rfl (lv_at hl 2 rfl) ?_
    refine lv_iload_n hx hb dX9_share_10 rfl (lv_at hl 0 rfl) ?_
    refine lv_iload_n hx hb dX9_share_11 rfl (lv_at hl 1 rfl) ?_
    refine lv_irem hx hb dX9_share_12 (fun q => by have := nu_eq0 q; omega) ?_
    refine lv_topi (fun v3 ev3 => ?_)
    refine lv_icmp_ge (tgt := 20) hx hb dX9_share_13 (by decide) (fun c4 => ?_) (fun c4 => ?_)
    · skip
      have tc4 := nu_le c4
      obtain ⟨v5, ev5, tv5⟩ : ∃ v : Int32, Int32.ofInt (0) = v ∧ v.toInt = 0 := ⟨_, rfl, by decide +kernel⟩
      refine lv_iconst hx hb dX9_share_20 ev5 ?_
      refine lv_iadd hx hb dX9_share_21 ?_
      refine lv_topi (fun v6 ev6 => ?_)
      have tv6 := nu_add ev6 (by have := fb_rng v2; omega) (by have := fb_rng v2; omega)
      rw [← hQ]
      exact en_i Z S0 F0_ rfl dX9_share_22
    · skip
      have tc4 := nu_nle c4
      obtain ⟨v7, ev7, tv7⟩ : ∃ v : Int32, Int32.ofInt (1) = v ∧ v.toInt = 1 := ⟨_, rfl, by decide +kernel⟩
      refine lv_iconst hx hb dX9_share_16 ev7 ?_
      refine lv_goto (tgt := 21) hx hb dX9_share_17 (by decide) ?_
      refine lv_iadd hx hb dX9_share_21 ?_
      refine lv_topi (fun v8 ev8 => ?_)
      rw [← hQ]
      exact en_i Z S0 F0_ rfl dX9_share_22
  · skip
    have tc1 := nu_nlt c1
    have uc1 : (0 : Int32).toInt = 0 := rfl
    obtain ⟨v9, ev9, tv9⟩ : ∃ v : Int32, Int32.ofInt (0) = v ∧ v.toInt = 0 := ⟨_, rfl, by decide +kernel⟩
    refine lv_iconst hx hb dX9_share_4 ev9 ?_
    rw [← hQ]
    exact en_i Z S0 F0_ rfl dX9_share_5

theorem dX0_cutNext_0 : decode cX0_cutNext 0 = .ok (.iload_n 2, 1) := by decide +kernel
theorem dX0_cutNext_1 : decode cX0_cutNext 1 = .ok (.ifCond .gt 5, 3) := by decide +kernel
theorem dX0_cutNext_4 : decode cX0_cutNext 4 = .ok (.iload_n 0, 1) := by decide +kernel
theorem dX0_cutNext_5 : decode cX0_cutNext 5 = .ok (.ireturn, 1) := by decide +kernel
theorem dX0_cutNext_6 : decode cX0_cutNext 6 = .ok (.iload_n 2, 1) := by decide +kernel
theorem dX0_cutNext_7 : decode cX0_cutNext 7 = .ok (.iload_n 0, 1) := by decide +kernel
theorem dX0_cutNext_8 : decode cX0_cutNext 8 = .ok (.iload_n 2, 1) := by decide +kernel
theorem dX0_cutNext_9 : decode cX0_cutNext 9 = .ok (.irem, 1) := by decide +kernel
theorem dX0_cutNext_10 : decode cX0_cutNext 10 = .ok (.isub, 1) := by decide +kernel
theorem dX0_cutNext_11 : decode cX0_cutNext 11 = .ok (.istore_n 3, 1) := by decide +kernel
theorem dX0_cutNext_12 : decode cX0_cutNext 12 = .ok (.iload_n 1, 1) := by decide +kernel
theorem dX0_cutNext_13 : decode cX0_cutNext 13 = .ok (.iload_n 3, 1) := by decide +kernel
theorem dX0_cutNext_14 : decode cX0_cutNext 14 = .ok (.if_icmp .gt 9, 3) := by decide +kernel
theorem dX0_cutNext_17 : decode cX0_cutNext 17 = .ok (.iload_n 0, 1) := by decide +kernel
theorem dX0_cutNext_18 : decode cX0_cutNext 18 = .ok (.iload_n 1, 1) := by decide +kernel
theorem dX0_cutNext_19 : decode cX0_cutNext 19 = .ok (.iadd, 1) := by decide +kernel
theorem dX0_cutNext_20 : decode cX0_cutNext 20 = .ok (.goto 8, 3) := by decide +kernel
theorem dX0_cutNext_23 : decode cX0_cutNext 23 = .ok (.iload_n 0, 1) := by decide +kernel
theorem dX0_cutNext_24 : decode cX0_cutNext 24 = .ok (.iload_n 3, 1) := by decide +kernel
theorem dX0_cutNext_25 : decode cX0_cutNext 25 = .ok (.iadd, 1) := by decide +kernel
theorem dX0_cutNext_26 : decode cX0_cutNext 26 = .ok (.iload_n 1, 1) := by decide +kernel
theorem dX0_cutNext_27 : decode cX0_cutNext 27 = .ok (.iadd, 1) := by decide +kernel
theorem dX0_cutNext_28 : decode cX0_cutNext 28 = .ok (.ireturn, 1) := by decide +kernel
set_option maxHeartbeats 4000000 in
set_option maxRecDepth 100000 in
theorem k_X0_cutNext (l : Launch) (D : va_G) (cy : Nat → ClassId) {L : List Nat} {τ : Nat → Ro} {E : Ec} (hI : Inv TB cy L τ E) (a0 : Int32) (a1 : Int32) (a2 : Int32) : CtI l yX0_cutNext wsX0_cutNext { frames := 0, cells := 0, slots := 0, locals := 0 } D TB cy L τ E [.int a0, .int a1, .int a2] (inW []) (fun r E' => E' = E) := by
  intro sz
  refine sta (cc := cX0_cutNext) (maxL := 4) hI (by decide) rfl (Nat.le_of_ble_eq_true rfl) (fun p e s m args below meth c ls hsz Z S0 hl => ?_)
  have hx := Z.1.1
  have hb := Z.1.2.1
  have hts := Z.1.2.2.2.2
  have F0_ : Fr L τ (inW []) E E := Fr.refl
  have hl : lv_has ls 4 [(0, .int a0), (1, .int a1), (2, .int a2)] := hl
  generalize hQ : MQ below _ args s 0 0 _ = QQ
  refine lv_iload_n hx hb dX0_cutNext_0 rfl (lv_at hl 2 rfl) ?_
  refine lv_if_gt (tgt := 6) hx hb dX0_cutNext_1 (by decide) (fun c1 => ?_) (fun c1 => ?_)
  · skip
    have tc1 := nu_lt c1
    have uc1 : (0 : Int32).toInt = 0 := rfl
    refine lv_iload_n hx hb dX0_cutNext_6 rfl (lv_at hl 2 rfl) ?_
    refine lv_iload_n hx hb dX0_cutNext_7 rfl (lv_at hl 0 rfl) ?_
    refine lv_iload_n hx hb dX0_cutNext_8 rfl (lv_at hl 2 rfl) ?_
    refine lv_irem hx hb dX0_cutNext_9 (fun q => by have := nu_eq0 q; omega) ?_
    refine lv_topi (fun v2 ev2 => ?_)
    refine lv_isub hx hb dX0_cutNext_10 ?_
    refine lv_topi (fun v3 ev3 => ?_)
    refine lv_istore_n (lv' := [(3, .int v3), (0, .int a0), (1, .int a1), (2, .int a2)]) hx hb dX0_cutNext_11 rfl hl (by decide) rfl (fun l4 hl5 => ?_)
    refine lv_iload_n hx hb dX0_cutNext_12 rfl (lv_at hl5 2 rfl) ?_
    refine lv_iload_n hx hb dX0_cutNext_13 rfl (lv_at hl5 0 rfl) ?_
    refine lv_icmp_gt (tgt := 23) hx hb dX0_cutNext_14 (by decide) (fun c6 => ?_) (fun c6 => ?_)
    · skip
      have tc6 := nu_lt c6
      refine lv_iload_n hx hb dX0_cutNext_23 rfl (lv_at hl5 1 rfl) ?_
      refine lv_iload_n hx hb dX0_cutNext_24 rfl (lv_at hl5 0 rfl) ?_
      refine lv_iadd hx hb dX0_cutNext_25 ?_
      refine lv_topi (fun v7 ev7 => ?_)
      refine lv_iload_n hx hb dX0_cutNext_26 rfl (lv_at hl5 2 rfl) ?_
      refine lv_iadd hx hb dX0_cutNext_27 ?_
      refine lv_topi (fun v8 ev8 => ?_)
      rw [← hQ]
      exact en_i Z S0 F0_ rfl dX0_cutNext_28
    · skip
      have tc6 := nu_nlt c6
      refine lv_iload_n hx hb dX0_cutNext_17 rfl (lv_at hl5 1 rfl) ?_
      refine lv_iload_n hx hb dX0_cutNext_18 rfl (lv_at hl5 2 rfl) ?_
      refine lv_iadd hx hb dX0_cutNext_19 ?_
      refine lv_topi (fun v9 ev9 => ?_)
      refine lv_goto (tgt := 28) hx hb dX0_cutNext_20 (by decide) ?_
      rw [← hQ]
      exact en_i Z S0 F0_ rfl dX0_cutNext_28
  · skip
    have tc1 := nu_nlt c1
    have uc1 : (0 : Int32).toInt = 0 := rfl
    refine lv_iload_n hx hb dX0_cutNext_4 rfl (lv_at hl 0 rfl) ?_
    rw [← hQ]
    exact en_i Z S0 F0_ rfl dX0_cutNext_5

theorem dX0_longest_0 : decode cX0_longest 0 = .ok (.iconst 0, 1) := by decide +kernel
theorem dX0_longest_1 : decode cX0_longest 1 = .ok (.istore_n 1, 1) := by decide +kernel
theorem dX0_longest_2 : decode cX0_longest 2 = .ok (.iconst 0, 1) := by decide +kernel
theorem dX0_longest_3 : decode cX0_longest 3 = .ok (.istore_n 2, 1) := by decide +kernel
theorem dX0_longest_4 : decode cX0_longest 4 = .ok (.iload_n 2, 1) := by decide +kernel
theorem dX0_longest_5 : decode cX0_longest 5 = .ok (.aload_n 0, 1) := by decide +kernel
theorem dX0_longest_6 : decode cX0_longest 6 = .ok (.getfield 18, 3) := by decide +kernel
theorem dX0_longest_9 : decode cX0_longest 9 = .ok (.if_icmp .ge 20, 3) := by decide +kernel
theorem dX0_longest_12 : decode cX0_longest 12 = .ok (.iload_n 1, 1) := by decide +kernel
theorem dX0_longest_13 : decode cX0_longest 13 = .ok (.aload_n 0, 1) := by decide +kernel
theorem dX0_longest_14 : decode cX0_longest 14 = .ok (.getfield 11, 3) := by decide +kernel
theorem dX0_longest_17 : decode cX0_longest 17 = .ok (.iload_n 2, 1) := by decide +kernel
theorem dX0_longest_18 : decode cX0_longest 18 = .ok (.iaload, 1) := by decide +kernel
theorem dX0_longest_19 : decode cX0_longest 19 = .ok (.invokestatic 22, 3) := by decide +kernel
theorem dX0_longest_22 : decode cX0_longest 22 = .ok (.istore_n 1, 1) := by decide +kernel
theorem dX0_longest_23 : decode cX0_longest 23 = .ok (.iinc 2 1, 3) := by decide +kernel
theorem dX0_longest_26 : decode cX0_longest 26 = .ok (.goto (-22), 3) := by decide +kernel
theorem dX0_longest_29 : decode cX0_longest 29 = .ok (.iload_n 1, 1) := by decide +kernel
theorem dX0_longest_30 : decode cX0_longest 30 = .ok (.ireturn, 1) := by decide +kernel
set_option maxHeartbeats 4000000 in
set_option maxRecDepth 100000 in
theorem k_X0_longest (l : Launch) (D : va_G) (cy : Nat → ClassId) {L : List Nat} {τ : Nat → Ro} {E : Ec} (hI : Inv TB cy L τ E) {a0 : Nat} (ha0 : a0 ∈ L) (ta0 : τ a0 = (9, 0)) : CtI l yX0_longest wsX0_longest { frames := 1, cells := 0, slots := 0, locals := 21 } D TB cy L τ E [.ref a0] (inW []) (fun r E' => E' = E) := by
  intro sz
  refine sta (cc := cX0_longest) (maxL := 3) hI (by decide) rfl (Nat.le_of_ble_eq_true rfl) (fun p e s m args below meth c ls hsz Z S0 hl => ?_)
  have hx := Z.1.1
  have hb := Z.1.2.1
  have hts := Z.1.2.2.2.2
  have F0_ : Fr L τ (inW []) E E := Fr.refl
  have hl : lv_has ls 3 [(0, .ref a0)] := hl
  generalize hQ : MQ below _ args s 0 0 _ = QQ
  have J4 : ∀ (n : Nat) (x1_4 : Int32) (x2_4 : Int32) (H_4 : Heap) (k_4 : List Loc) (l_4 : Array Slot), Now D TB cy (va_A (va_pl L E) sz) s L τ E H_4 k_4 → (0 ≤ x1_4.toInt) → (0 ≤ x2_4.toInt) → (x2_4.toInt ≤ 12) → (12 - x2_4.toInt).toNat < n → lv_has l_4 3 [(0, .ref a0), (1, .int x1_4), (2, .int x2_4)] → W p l e { frames := 1, cells := 0, slots := 0, locals := 21 } s m args below meth c H_4 k_4 0 0 QQ (F0 m 4 l_4 []) := by
    intro n
    induction n with
    | zero => intro x1_4 x2_4 H_4 k_4 l_4 S_4 z1 z2 z3 hm hl_4; exact absurd hm (Nat.not_lt_zero _)
    | succ n ih =>
      intro x1_4 x2_4 H_4 k_4 l_4 S_4 z1 z2 z3 hm hl_4
      have ih_4 := ih
      refine lv_iload_n hx hb dX0_longest_4 rfl (lv_at hl_4 2 rfl) ?_
      refine lv_aload_n hx hb dX0_longest_5 rfl (lv_at hl_4 0 rfl) ?_
      refine tr_geti Z.1 Z.2.2.2.1 S_4.1 S_4.2 ha0 ta0 rfl rfl (fun _ h => List.mem_cons_of_mem _ (List.mem_append_right _ h)) 2 (by decide) rfl (hts _ (List.mem_of_getElem? (i := 1) rfl)) dX0_longest_6 (fun v4 ev4 lv4 uv4 => ?_)
      refine lv_icmp_ge (tgt := 29) hx hb dX0_longest_9 (by decide) (fun c5 => ?_) (fun c5 => ?_)
      · skip
        have tc5 := nu_le c5
        refine lv_iload_n hx hb dX0_longest_29 rfl (lv_at hl_4 1 rfl) ?_
        rw [← hQ]
        exact en_i Z S_4 F0_ rfl dX0_longest_30
      · skip
        have tc5 := nu_nle c5
        refine lv_iload_n hx hb dX0_longest_12 rfl (lv_at hl_4 1 rfl) ?_
        refine lv_aload_n hx hb dX0_longest_13 rfl (lv_at hl_4 0 rfl) ?_
        refine tr_getr Z.1 Z.2.2.2.1 S_4.1 S_4.2 ha0 ta0 rfl rfl (fun _ h => List.mem_cons_of_mem _ (List.mem_append_right _ h)) 0 (by decide) rfl (hts _ (List.mem_of_getElem? (i := 2) rfl)) dX0_longest_14 (fun q6 eq6 hq6 tq6 => ?_)
        have tq6 : τ q6 = (39, 0) := tq6
        refine lv_iload_n hx hb dX0_longest_17 rfl (lv_at hl_4 2 rfl) ?_
        refine tr_iald Z.1 Z.2.2.2.1 S_4.1 S_4.2 hq6 tq6 rfl (by omega) (by omega) dX0_longest_18 (fun v7 ev7 lv7 uv7 => ?_)
        refine va_mmax hx hb (Z.1.2.2.1.trans hl_4.1.symm) Z.1.2.2.2.1 (hts _ (List.mem_of_getElem? (i := 3) rfl)) (hts _ (List.mem_of_getElem? (i := 4) rfl)) (hts _ (List.mem_of_getElem? (i := 5) rfl)) (hts _ (List.mem_of_getElem? (i := 6) rfl)) (Nat.le_of_ble_eq_true rfl) (Nat.le_of_ble_eq_true rfl) (Nat.zero_le _) (Nat.zero_le _) dX0_longest_19 ?_
        refine lv_topi (fun v8 ev8 => ?_)
        have tv8 := nu_max ev8
        refine lv_istore_n (lv' := [(1, .int v8), (0, .ref a0), (2, .int x2_4)]) hx hb dX0_longest_22 rfl hl_4 (by decide) rfl (fun l9 hl10 => ?_)
        obtain ⟨v11, ev11⟩ : ∃ y : Int32, x2_4 + Int32.ofInt (1) = y := ⟨_, rfl⟩
        have tv11 : v11.toInt = x2_4.toInt + (1) := by rw [← ev11]; exact (fb_addI (by rw [show (Int32.ofInt (1)).toInt = 1 from by decide +kernel]; omega) (by rw [show (Int32.ofInt (1)).toInt = 1 from by decide +kernel]; omega)).trans (by rw [show (Int32.ofInt (1)).toInt = 1 from by decide +kernel])
        refine lv_iinc (v := v11) (lv' := [(2, .int v11), (1, .int v8), (0, .ref a0)]) hx hb dX0_longest_23 hl10 (k := 2) rfl ev11 (by decide) rfl (fun l12 hl13 => ?_)
        refine lv_goto (tgt := 4) hx hb dX0_longest_26 (by decide) ?_
        exact ih_4 v8 v11 H_4 k_4 l12 S_4 (by omega) (by omega) (by omega) (by omega) (lv_sub hl13 [2, 1, 0] rfl)
  obtain ⟨v14, ev14, tv14⟩ : ∃ v : Int32, Int32.ofInt (0) = v ∧ v.toInt = 0 := ⟨_, rfl, by decide +kernel⟩
  refine lv_iconst hx hb dX0_longest_0 ev14 ?_
  refine lv_istore_n (lv' := [(1, .int v14), (0, .ref a0)]) hx hb dX0_longest_1 rfl hl (by decide) rfl (fun l15 hl16 => ?_)
  obtain ⟨v17, ev17, tv17⟩ : ∃ v : Int32, Int32.ofInt (0) = v ∧ v.toInt = 0 := ⟨_, rfl, by decide +kernel⟩
  refine lv_iconst hx hb dX0_longest_2 ev17 ?_
  refine lv_istore_n (lv' := [(2, .int v17), (1, .int v14), (0, .ref a0)]) hx hb dX0_longest_3 rfl hl16 (by decide) rfl (fun l18 hl19 => ?_)
  exact J4 _ v14 v17 s.heap [] l18 S0 (by omega) (by omega) (by omega) (Nat.lt_succ_self _) (lv_sub hl19 [2, 1, 0] rfl)

set_option maxRecDepth 20000 in
theorem ggX0_fewest_X0_cutNext : GoodIn wsX0_fewest wsX0_cutNext := goodIn_r _ [12] (by decide +kernel) (by decide +kernel)
set_option maxRecDepth 20000 in
theorem gX0_fewest_X0_cutNext : GoodIn wsX0_fewest (va_wsS RX0 31 yX0_cutNext wsX0_cutNext) := goodIn_app (goodIn_of _ (by decide +kernel)) ggX0_fewest_X0_cutNext
theorem dX0_fewest_0 : decode cX0_fewest 0 = .ok (.iload_n 1, 1) := by decide +kernel
theorem dX0_fewest_1 : decode cX0_fewest 1 = .ok (.ifCond .gt 5, 3) := by decide +kernel
theorem dX0_fewest_4 : decode cX0_fewest 4 = .ok (.iconst (-1), 1) := by decide +kernel
theorem dX0_fewest_5 : decode cX0_fewest 5 = .ok (.ireturn, 1) := by decide +kernel
theorem dX0_fewest_6 : decode cX0_fewest 6 = .ok (.iconst 1, 1) := by decide +kernel
theorem dX0_fewest_7 : decode cX0_fewest 7 = .ok (.aload_n 0, 1) := by decide +kernel
theorem dX0_fewest_8 : decode cX0_fewest 8 = .ok (.getfield 18, 3) := by decide +kernel
theorem dX0_fewest_11 : decode cX0_fewest 11 = .ok (.ishl, 1) := by decide +kernel
theorem dX0_fewest_12 : decode cX0_fewest 12 = .ok (.iconst 1, 1) := by decide +kernel
theorem dX0_fewest_13 : decode cX0_fewest 13 = .ok (.isub, 1) := by decide +kernel
theorem dX0_fewest_14 : decode cX0_fewest 14 = .ok (.istore_n 2, 1) := by decide +kernel
theorem dX0_fewest_15 : decode cX0_fewest 15 = .ok (.iconst 1, 1) := by decide +kernel
theorem dX0_fewest_16 : decode cX0_fewest 16 = .ok (.istore_n 3, 1) := by decide +kernel
theorem dX0_fewest_17 : decode cX0_fewest 17 = .ok (.iload_n 3, 1) := by decide +kernel
theorem dX0_fewest_18 : decode cX0_fewest 18 = .ok (.iload_n 2, 1) := by decide +kernel
theorem dX0_fewest_19 : decode cX0_fewest 19 = .ok (.if_icmp .gt 78, 3) := by decide +kernel
theorem dX0_fewest_22 : decode cX0_fewest 22 = .ok (.ldc 30, 2) := by decide +kernel
theorem dX0_fewest_24 : decode cX0_fewest 24 = .ok (.istore 4, 2) := by decide +kernel
theorem dX0_fewest_26 : decode cX0_fewest 26 = .ok (.iconst 0, 1) := by decide +kernel
theorem dX0_fewest_27 : decode cX0_fewest 27 = .ok (.istore 5, 2) := by decide +kernel
theorem dX0_fewest_29 : decode cX0_fewest 29 = .ok (.iload 5, 2) := by decide +kernel
theorem dX0_fewest_31 : decode cX0_fewest 31 = .ok (.aload_n 0, 1) := by decide +kernel
theorem dX0_fewest_32 : decode cX0_fewest 32 = .ok (.getfield 18, 3) := by decide +kernel
theorem dX0_fewest_35 : decode cX0_fewest 35 = .ok (.if_icmp .ge 48, 3) := by decide +kernel
theorem dX0_fewest_38 : decode cX0_fewest 38 = .ok (.iload_n 3, 1) := by decide +kernel
theorem dX0_fewest_39 : decode cX0_fewest 39 = .ok (.iload 5, 2) := by decide +kernel
theorem dX0_fewest_41 : decode cX0_fewest 41 = .ok (.ishr, 1) := by decide +kernel
theorem dX0_fewest_42 : decode cX0_fewest 42 = .ok (.iconst 1, 1) := by decide +kernel
theorem dX0_fewest_43 : decode cX0_fewest 43 = .ok (.iand, 1) := by decide +kernel
theorem dX0_fewest_44 : decode cX0_fewest 44 = .ok (.iconst 1, 1) := by decide +kernel
theorem dX0_fewest_45 : decode cX0_fewest 45 = .ok (.if_icmp .ne 32, 3) := by decide +kernel
theorem dX0_fewest_48 : decode cX0_fewest 48 = .ok (.iload 4, 2) := by decide +kernel
theorem dX0_fewest_50 : decode cX0_fewest 50 = .ok (.aload_n 0, 1) := by decide +kernel
theorem dX0_fewest_51 : decode cX0_fewest 51 = .ok (.getfield 15, 3) := by decide +kernel
theorem dX0_fewest_54 : decode cX0_fewest 54 = .ok (.iload_n 3, 1) := by decide +kernel
theorem dX0_fewest_55 : decode cX0_fewest 55 = .ok (.iconst 1, 1) := by decide +kernel
theorem dX0_fewest_56 : decode cX0_fewest 56 = .ok (.iload 5, 2) := by decide +kernel
theorem dX0_fewest_58 : decode cX0_fewest 58 = .ok (.ishl, 1) := by decide +kernel
theorem dX0_fewest_59 : decode cX0_fewest 59 = .ok (.ixor, 1) := by decide +kernel
theorem dX0_fewest_60 : decode cX0_fewest 60 = .ok (.iaload, 1) := by decide +kernel
theorem dX0_fewest_61 : decode cX0_fewest 61 = .ok (.aload_n 0, 1) := by decide +kernel
theorem dX0_fewest_62 : decode cX0_fewest 62 = .ok (.getfield 11, 3) := by decide +kernel
theorem dX0_fewest_65 : decode cX0_fewest 65 = .ok (.iload 5, 2) := by decide +kernel
theorem dX0_fewest_67 : decode cX0_fewest 67 = .ok (.iaload, 1) := by decide +kernel
theorem dX0_fewest_68 : decode cX0_fewest 68 = .ok (.iload_n 1, 1) := by decide +kernel
theorem dX0_fewest_69 : decode cX0_fewest 69 = .ok (.invokestatic 31, 3) := by decide +kernel
theorem dX0_fewest_72 : decode cX0_fewest 72 = .ok (.invokestatic 35, 3) := by decide +kernel
theorem dX0_fewest_75 : decode cX0_fewest 75 = .ok (.istore 4, 2) := by decide +kernel
theorem dX0_fewest_77 : decode cX0_fewest 77 = .ok (.iinc 5 1, 3) := by decide +kernel
theorem dX0_fewest_80 : decode cX0_fewest 80 = .ok (.goto (-51), 3) := by decide +kernel
theorem dX0_fewest_83 : decode cX0_fewest 83 = .ok (.aload_n 0, 1) := by decide +kernel
theorem dX0_fewest_84 : decode cX0_fewest 84 = .ok (.getfield 15, 3) := by decide +kernel
theorem dX0_fewest_87 : decode cX0_fewest 87 = .ok (.iload_n 3, 1) := by decide +kernel
theorem dX0_fewest_88 : decode cX0_fewest 88 = .ok (.iload 4, 2) := by decide +kernel
theorem dX0_fewest_90 : decode cX0_fewest 90 = .ok (.iastore, 1) := by decide +kernel
theorem dX0_fewest_91 : decode cX0_fewest 91 = .ok (.iinc 3 1, 3) := by decide +kernel
theorem dX0_fewest_94 : decode cX0_fewest 94 = .ok (.goto (-77), 3) := by decide +kernel
theorem dX0_fewest_97 : decode cX0_fewest 97 = .ok (.aload_n 0, 1) := by decide +kernel
theorem dX0_fewest_98 : decode cX0_fewest 98 = .ok (.getfield 15, 3) := by decide +kernel
theorem dX0_fewest_101 : decode cX0_fewest 101 = .ok (.iload_n 2, 1) := by decide +kernel
theorem dX0_fewest_102 : decode cX0_fewest 102 = .ok (.iaload, 1) := by decide +kernel
theorem dX0_fewest_103 : decode cX0_fewest 103 = .ok (.iload_n 1, 1) := by decide +kernel
theorem dX0_fewest_104 : decode cX0_fewest 104 = .ok (.iadd, 1) := by decide +kernel
theorem dX0_fewest_105 : decode cX0_fewest 105 = .ok (.iconst 1, 1) := by decide +kernel
theorem dX0_fewest_106 : decode cX0_fewest 106 = .ok (.isub, 1) := by decide +kernel
theorem dX0_fewest_107 : decode cX0_fewest 107 = .ok (.iload_n 1, 1) := by decide +kernel
theorem dX0_fewest_108 : decode cX0_fewest 108 = .ok (.idiv, 1) := by decide +kernel
theorem dX0_fewest_109 : decode cX0_fewest 109 = .ok (.ireturn, 1) := by decide +kernel
set_option maxHeartbeats 4000000 in
set_option maxRecDepth 100000 in
theorem k_X0_fewest (l : Launch) (D : va_G) (cy : Nat → ClassId) {L : List Nat} {τ : Nat → Ro} {E : Ec} (hI : Inv TB cy L τ E) {a0 : Nat} (ha0 : a0 ∈ L) (ta0 : τ a0 = (9, 0)) (a1 : Int32) : CtI l yX0_fewest wsX0_fewest { frames := 1, cells := 0, slots := 0, locals := 23 } D TB cy L τ E [.ref a0, .int a1] (inW [(31, 0)]) (fun r E' => True) := by
  intro sz
  refine sta (cc := cX0_fewest) (maxL := 6) hI (by decide) rfl (Nat.le_of_ble_eq_true rfl) (fun p e s m args below meth c ls hsz Z S0 hl => ?_)
  have hx := Z.1.1
  have hb := Z.1.2.1
  have hts := Z.1.2.2.2.2
  have F0_ : Fr L τ (inW [(31, 0)]) E E := Fr.refl
  have hl : lv_has ls 6 [(0, .ref a0), (1, .int a1)] := hl
  generalize hQ : MQ below _ args s 0 0 _ = QQ
  have J17 : ∀ (n : Nat) (x2_17 : Int32) (x3_17 : Int32) (E_17 : Ec) (H_17 : Heap) (k_17 : List Loc) (l_17 : Array Slot), Now D TB cy (va_A (va_pl L E) sz) s L τ E_17 H_17 k_17 → Fr L τ (inW [(31, 0)]) E E_17 → (1 ≤ a1.toInt) → (0 ≤ x2_17.toInt) → (x2_17.toInt ≤ 4095) → (1 ≤ x3_17.toInt) → (x3_17.toInt ≤ 4096) → (4096 - x3_17.toInt).toNat < n → lv_has l_17 6 [(0, .ref a0), (1, .int a1), (2, .int x2_17), (3, .int x3_17)] → W p l e { frames := 1, cells := 0, slots := 0, locals := 23 } s m args below meth c H_17 k_17 0 0 QQ (F0 m 17 l_17 []) := by
    intro n
    induction n with
    | zero => intro x2_17 x3_17 E_17 H_17 k_17 l_17 S_17 F_17 z1 z2 z3 z4 z5 hm hl_17; exact absurd hm (Nat.not_lt_zero _)
    | succ n ih =>
      intro x2_17 x3_17 E_17 H_17 k_17 l_17 S_17 F_17 z1 z2 z3 z4 z5 hm hl_17
      have ih_17 := ih
      have J29 : ∀ (n : Nat) (x4_29 : Int32) (x5_29 : Int32) (E_29 : Ec) (H_29 : Heap) (k_29 : List Loc) (l_29 : Array Slot), Now D TB cy (va_A (va_pl L E) sz) s L τ E_29 H_29 k_29 → Fr L τ (inW [(31, 0)]) E E_29 → (1 ≤ a1.toInt) → (1 ≤ x2_17.toInt) → (x2_17.toInt ≤ 4095) → (1 ≤ x3_17.toInt) → (x3_17.toInt ≤ 4095) → (0 ≤ x5_29.toInt) → (x5_29.toInt ≤ 12) → (12 - x5_29.toInt).toNat < n → lv_has l_29 6 [(0, .ref a0), (1, .int a1), (2, .int x2_17), (3, .int x3_17), (4, .int x4_29), (5, .int x5_29)] → W p l e { frames := 1, cells := 0, slots := 0, locals := 23 } s m args below meth c H_29 k_29 0 0 QQ (F0 m 29 l_29 []) := by
        intro n
        induction n with
        | zero => intro x4_29 x5_29 E_29 H_29 k_29 l_29 S_29 F_29 z6 z7 z8 z9 z10 z11 z12 hm hl_29; exact absurd hm (Nat.not_lt_zero _)
        | succ n ih =>
          intro x4_29 x5_29 E_29 H_29 k_29 l_29 S_29 F_29 z6 z7 z8 z9 z10 z11 z12 hm hl_29
          have ih_29 := ih
          have J77 : ∀ (x4_77 : Int32) (E_77 : Ec) (H_77 : Heap) (k_77 : List Loc) (l_77 : Array Slot), Now D TB cy (va_A (va_pl L E) sz) s L τ E_77 H_77 k_77 → Fr L τ (inW [(31, 0)]) E E_77 → (1 ≤ a1.toInt) → (1 ≤ x2_17.toInt) → (x2_17.toInt ≤ 4095) → (1 ≤ x3_17.toInt) → (x3_17.toInt ≤ 4095) → (0 ≤ x5_29.toInt) → (x5_29.toInt ≤ 11) → lv_has l_77 6 [(0, .ref a0), (1, .int a1), (2, .int x2_17), (3, .int x3_17), (4, .int x4_77), (5, .int x5_29)] → W p l e { frames := 1, cells := 0, slots := 0, locals := 23 } s m args below meth c H_77 k_77 0 0 QQ (F0 m 77 l_77 []) := by
            intro x4_77 E_77 H_77 k_77 l_77 S_77 F_77 z13 z14 z15 z16 z17 z18 z19 hl_77
            obtain ⟨v20, ev20⟩ : ∃ y : Int32, x5_29 + Int32.ofInt (1) = y := ⟨_, rfl⟩
            have tv20 : v20.toInt = x5_29.toInt + (1) := by rw [← ev20]; exact (fb_addI (by rw [show (Int32.ofInt (1)).toInt = 1 from by decide +kernel]; omega) (by rw [show (Int32.ofInt (1)).toInt = 1 from by decide +kernel]; omega)).trans (by rw [show (Int32.ofInt (1)).toInt = 1 from by decide +kernel])
            refine lv_iinc (v := v20) (lv' := [(5, .int v20), (0, .ref a0), (1, .int a1), (2, .int x2_17), (3, .int x3_17), (4, .int x4_77)]) hx hb dX0_fewest_77 hl_77 (k := 5) rfl ev20 (by decide) rfl (fun l21 hl22 => ?_)
            refine lv_goto (tgt := 29) hx hb dX0_fewest_80 (by decide) ?_
            exact ih_29 x4_77 v20 E_77 H_77 k_77 l21 S_77 F_77 (by omega) (by omega) (by omega) (by omega) (by omega) (by omega) (by omega) (by omega) (lv_sub hl22 [1, 2, 3, 4, 5, 0] rfl)
          refine lv_iload hx hb dX0_fewest_29 (lv_at hl_29 5 rfl) ?_
          refine lv_aload_n hx hb dX0_fewest_31 rfl (lv_at hl_29 0 rfl) ?_
          refine tr_geti Z.1 Z.2.2.2.1 S_29.1 S_29.2 ha0 ta0 rfl rfl (fun _ h => List.mem_cons_of_mem _ (List.mem_append_right _ h)) 2 (by decide) rfl (hts _ (List.mem_of_getElem? (i := 1) rfl)) dX0_fewest_32 (fun v23 ev23 lv23 uv23 => ?_)
          refine lv_icmp_ge (tgt := 83) hx hb dX0_fewest_35 (by decide) (fun c24 => ?_) (fun c24 => ?_)
          · skip
            have tc24 := nu_le c24
            refine lv_aload_n hx hb dX0_fewest_83 rfl (lv_at hl_29 0 rfl) ?_
            refine tr_getr Z.1 Z.2.2.2.1 S_29.1 S_29.2 ha0 ta0 rfl rfl (fun _ h => List.mem_cons_of_mem _ (List.mem_append_right _ h)) 1 (by decide) rfl (hts _ (List.mem_of_getElem? (i := 3) rfl)) dX0_fewest_84 (fun q25 eq25 hq25 tq25 => ?_)
            have tq25 : τ q25 = (31, 0) := tq25
            refine lv_iload_n hx hb dX0_fewest_87 rfl (lv_at hl_29 3 rfl) ?_
            refine lv_iload hx hb dX0_fewest_88 (lv_at hl_29 4 rfl) ?_
            refine tr_iast Z.1 Z.2.2.2.1 S_29.1 S_29.2 hq25 tq25 rfl (by omega) (by omega) (by have := fb_rng x4_29; omega) (by have := fb_rng x4_29; omega) dX0_fewest_90 (fun E26 H27 k28 W26 I26 P26 => ?_)
            have S26 : Now D TB cy (va_A (va_pl L E) sz) s L τ E26 H27 k28 := ⟨W26, I26⟩
            have F26 : Fr L τ (inW [(31, 0)]) E E26 := Fr.set F_29 P26 tq25 rfl
            obtain ⟨v29, ev29⟩ : ∃ y : Int32, x3_17 + Int32.ofInt (1) = y := ⟨_, rfl⟩
            have tv29 : v29.toInt = x3_17.toInt + (1) := by rw [← ev29]; exact (fb_addI (by rw [show (Int32.ofInt (1)).toInt = 1 from by decide +kernel]; omega) (by rw [show (Int32.ofInt (1)).toInt = 1 from by decide +kernel]; omega)).trans (by rw [show (Int32.ofInt (1)).toInt = 1 from by decide +kernel])
            refine lv_iinc (v := v29) (lv' := [(3, .int v29), (0, .ref a0), (1, .int a1), (2, .int x2_17), (4, .int x4_29), (5, .int x5_29)]) hx hb dX0_fewest_91 hl_29 (k := 3) rfl ev29 (by decide) rfl (fun l30 hl31 => ?_)
            refine lv_goto (tgt := 17) hx hb dX0_fewest_94 (by decide) ?_
            exact ih_17 x2_17 v29 E26 H27 k28 l30 S26 F26 (by omega) (by omega) (by omega) (by omega) (by omega) (by omega) (lv_sub hl31 [1, 2, 3, 0] rfl)
          · skip
            have tc24 := nu_nle c24
            refine lv_iload_n hx hb dX0_fewest_38 rfl (lv_at hl_29 3 rfl) ?_
            refine lv_iload hx hb dX0_fewest_39 (lv_at hl_29 5 rfl) ?_
            refine lv_ishr hx hb dX0_fewest_41 ?_
            refine lv_topi (fun v32 ev32 => ?_)
            obtain ⟨v33, ev33, tv33⟩ : ∃ v : Int32, Int32.ofInt (1) = v ∧ v.toInt = 1 := ⟨_, rfl, by decide +kernel⟩
            refine lv_iconst hx hb dX0_fewest_42 ev33 ?_
            refine lv_iand hx hb dX0_fewest_43 ?_
            refine lv_topi (fun v34 ev34 => ?_)
            obtain ⟨v35, ev35, tv35⟩ : ∃ v : Int32, Int32.ofInt (1) = v ∧ v.toInt = 1 := ⟨_, rfl, by decide +kernel⟩
            refine lv_iconst hx hb dX0_fewest_44 ev35 ?_
            refine lv_icmp_ne (tgt := 77) hx hb dX0_fewest_45 (by decide) (fun c36 => ?_) (fun c36 => ?_)
            · skip
              have tc36 := nu_ne c36
              exact J77 x4_29 E_29 H_29 k_29 l_29 S_29 F_29 (by omega) (by omega) (by omega) (by omega) (by omega) (by omega) (by omega) (lv_sub hl_29 [0, 1, 2, 3, 4, 5] rfl)
            · skip
              have tc36 := nu_eq c36
              refine lv_iload hx hb dX0_fewest_48 (lv_at hl_29 4 rfl) ?_
              refine lv_aload_n hx hb dX0_fewest_50 rfl (lv_at hl_29 0 rfl) ?_
              refine tr_getr Z.1 Z.2.2.2.1 S_29.1 S_29.2 ha0 ta0 rfl rfl (fun _ h => List.mem_cons_of_mem _ (List.mem_append_right _ h)) 1 (by decide) rfl (hts _ (List.mem_of_getElem? (i := 3) rfl)) dX0_fewest_51 (fun q37 eq37 hq37 tq37 => ?_)
              have tq37 : τ q37 = (31, 0) := tq37
              refine lv_iload_n hx hb dX0_fewest_54 rfl (lv_at hl_29 3 rfl) ?_
              obtain ⟨v38, ev38, tv38⟩ : ∃ v : Int32, Int32.ofInt (1) = v ∧ v.toInt = 1 := ⟨_, rfl, by decide +kernel⟩
              refine lv_iconst hx hb dX0_fewest_55 ev38 ?_
              refine lv_iload hx hb dX0_fewest_56 (lv_at hl_29 5 rfl) ?_
              refine lv_ishl hx hb dX0_fewest_58 ?_
              refine lv_topi (fun v39 ev39 => ?_)
              have tv39 := nu_sh1 ev39 (by omega) (by omega) (by omega)
              refine lv_ixor hx hb dX0_fewest_59 ?_
              refine lv_topi (fun v40 ev40 => ?_)
              have tv40 := nu_xor ev40 (by omega) (by omega) (by omega) (by omega)
              refine tr_iald Z.1 Z.2.2.2.1 S_29.1 S_29.2 hq37 tq37 rfl (by omega) (by omega) dX0_fewest_60 (fun v41 ev41 lv41 uv41 => ?_)
              refine lv_aload_n hx hb dX0_fewest_61 rfl (lv_at hl_29 0 rfl) ?_
              refine tr_getr Z.1 Z.2.2.2.1 S_29.1 S_29.2 ha0 ta0 rfl rfl (fun _ h => List.mem_cons_of_mem _ (List.mem_append_right _ h)) 0 (by decide) rfl (hts _ (List.mem_of_getElem? (i := 4) rfl)) dX0_fewest_62 (fun q42 eq42 hq42 tq42 => ?_)
              have tq42 : τ q42 = (39, 0) := tq42
              refine lv_iload hx hb dX0_fewest_65 (lv_at hl_29 5 rfl) ?_
              refine tr_iald Z.1 Z.2.2.2.1 S_29.1 S_29.2 hq42 tq42 rfl (by omega) (by omega) dX0_fewest_67 (fun v43 ev43 lv43 uv43 => ?_)
              refine lv_iload_n hx hb dX0_fewest_68 rfl (lv_at hl_29 1 rfl) ?_
              refine tc_si Z.1 Z.2.2.2.1 Z.2.2.2.2.1 Z.2.2.2.2.2 S_29.1 (k_X0_cutNext l D cy S_29.2 v41 v43 a1) (va_cwS 3 hts gX0_fewest_X0_cutNext rfl rfl rfl (by decide +kernel) ⟨Nat.le_of_ble_eq_true rfl, Nat.le_of_ble_eq_true rfl⟩) rfl hl_29.1 rfl (Nat.le_of_ble_eq_true rfl) dX0_fewest_69 ⟨Nat.zero_le _, Nat.zero_le _⟩ (fun v47 E44 H45 k46 W44 I44 G44 p44 => ?_)
              obtain ⟨rfl⟩ := p44
              have S44 : Now D TB cy (va_A (va_pl L E) sz) s L τ E_29 H45 k46 := ⟨W44, I44⟩
              refine va_mmin hx hb (Z.1.2.2.1.trans hl_29.1.symm) Z.1.2.2.2.1 (hts _ (List.mem_of_getElem? (i := 5) rfl)) (hts _ (List.mem_of_getElem? (i := 6) rfl)) (hts _ (List.mem_of_getElem? (i := 7) rfl)) (hts _ (List.mem_of_getElem? (i := 8) rfl)) (Nat.le_of_ble_eq_true rfl) (Nat.le_of_ble_eq_true rfl) (Nat.zero_le _) (Nat.zero_le _) dX0_fewest_72 ?_
              refine lv_topi (fun v48 ev48 => ?_)
              have tv48 := nu_min ev48
              refine lv_istore (lv' := [(4, .int v48), (0, .ref a0), (1, .int a1), (2, .int x2_17), (3, .int x3_17), (5, .int x5_29)]) hx hb dX0_fewest_75 hl_29 (by decide) rfl (fun l49 hl50 => ?_)
              exact J77 v48 E_29 H45 k46 l49 S44 F_29 (by omega) (by omega) (by omega) (by omega) (by omega) (by omega) (by omega) (lv_sub hl50 [1, 2, 3, 4, 0, 5] rfl)
      refine lv_iload_n hx hb dX0_fewest_17 rfl (lv_at hl_17 3 rfl) ?_
      refine lv_iload_n hx hb dX0_fewest_18 rfl (lv_at hl_17 2 rfl) ?_
      refine lv_icmp_gt (tgt := 97) hx hb dX0_fewest_19 (by decide) (fun c51 => ?_) (fun c51 => ?_)
      · skip
        have tc51 := nu_lt c51
        refine lv_aload_n hx hb dX0_fewest_97 rfl (lv_at hl_17 0 rfl) ?_
        refine tr_getr Z.1 Z.2.2.2.1 S_17.1 S_17.2 ha0 ta0 rfl rfl (fun _ h => List.mem_cons_of_mem _ (List.mem_append_right _ h)) 1 (by decide) rfl (hts _ (List.mem_of_getElem? (i := 3) rfl)) dX0_fewest_98 (fun q52 eq52 hq52 tq52 => ?_)
        have tq52 : τ q52 = (31, 0) := tq52
        refine lv_iload_n hx hb dX0_fewest_101 rfl (lv_at hl_17 2 rfl) ?_
        refine tr_iald Z.1 Z.2.2.2.1 S_17.1 S_17.2 hq52 tq52 rfl (by omega) (by omega) dX0_fewest_102 (fun v53 ev53 lv53 uv53 => ?_)
        refine lv_iload_n hx hb dX0_fewest_103 rfl (lv_at hl_17 1 rfl) ?_
        refine lv_iadd hx hb dX0_fewest_104 ?_
        refine lv_topi (fun v54 ev54 => ?_)
        obtain ⟨v55, ev55, tv55⟩ : ∃ v : Int32, Int32.ofInt (1) = v ∧ v.toInt = 1 := ⟨_, rfl, by decide +kernel⟩
        refine lv_iconst hx hb dX0_fewest_105 ev55 ?_
        refine lv_isub hx hb dX0_fewest_106 ?_
        refine lv_topi (fun v56 ev56 => ?_)
        refine lv_iload_n hx hb dX0_fewest_107 rfl (lv_at hl_17 1 rfl) ?_
        refine lv_idiv hx hb dX0_fewest_108 (fun q => by have := nu_eq0 q; omega) ?_
        refine lv_topi (fun v57 ev57 => ?_)
        rw [← hQ]
        exact en_i Z S_17 F_17 trivial dX0_fewest_109
      · skip
        have tc51 := nu_nlt c51
        refine lv_ldc (v := (2147483647)) hx hb Z.1.2.2.2.1 (hts _ (List.mem_of_getElem? (i := 2) rfl)) dX0_fewest_22 ?_
        refine lv_topi (fun v58 ev58 => ?_)
        have tv58 := (show v58.toInt = 2147483647 by rw [ev58]; decide +kernel)
        refine lv_istore (lv' := [(4, .int v58), (0, .ref a0), (1, .int a1), (2, .int x2_17), (3, .int x3_17)]) hx hb dX0_fewest_24 hl_17 (by decide) rfl (fun l59 hl60 => ?_)
        obtain ⟨v61, ev61, tv61⟩ : ∃ v : Int32, Int32.ofInt (0) = v ∧ v.toInt = 0 := ⟨_, rfl, by decide +kernel⟩
        refine lv_iconst hx hb dX0_fewest_26 ev61 ?_
        refine lv_istore (lv' := [(5, .int v61), (4, .int v58), (0, .ref a0), (1, .int a1), (2, .int x2_17), (3, .int x3_17)]) hx hb dX0_fewest_27 hl60 (by decide) rfl (fun l62 hl63 => ?_)
        exact J29 _ v58 v61 E_17 H_17 k_17 l62 S_17 F_17 (by omega) (by omega) (by omega) (by omega) (by omega) (by omega) (by omega) (Nat.lt_succ_self _) (lv_sub hl63 [2, 3, 4, 5, 1, 0] rfl)
  refine lv_iload_n hx hb dX0_fewest_0 rfl (lv_at hl 1 rfl) ?_
  refine lv_if_gt (tgt := 6) hx hb dX0_fewest_1 (by decide) (fun c64 => ?_) (fun c64 => ?_)
  · skip
    have tc64 := nu_lt c64
    have uc64 : (0 : Int32).toInt = 0 := rfl
    obtain ⟨v65, ev65, tv65⟩ : ∃ v : Int32, Int32.ofInt (1) = v ∧ v.toInt = 1 := ⟨_, rfl, by decide +kernel⟩
    refine lv_iconst hx hb dX0_fewest_6 ev65 ?_
    refine lv_aload_n hx hb dX0_fewest_7 rfl (lv_at hl 0 rfl) ?_
    refine tr_geti Z.1 Z.2.2.2.1 S0.1 S0.2 ha0 ta0 rfl rfl (fun _ h => List.mem_cons_of_mem _ (List.mem_append_right _ h)) 2 (by decide) rfl (hts _ (List.mem_of_getElem? (i := 1) rfl)) dX0_fewest_8 (fun v66 ev66 lv66 uv66 => ?_)
    refine lv_ishl hx hb dX0_fewest_11 ?_
    refine lv_topi (fun v67 ev67 => ?_)
    have tv67 := nu_sh1 ev67 (by omega) (by omega) (by omega)
    obtain ⟨v68, ev68, tv68⟩ : ∃ v : Int32, Int32.ofInt (1) = v ∧ v.toInt = 1 := ⟨_, rfl, by decide +kernel⟩
    refine lv_iconst hx hb dX0_fewest_12 ev68 ?_
    refine lv_isub hx hb dX0_fewest_13 ?_
    refine lv_topi (fun v69 ev69 => ?_)
    have tv69 := nu_sub ev69 (by omega) (by omega)
    refine lv_istore_n (lv' := [(2, .int v69), (0, .ref a0), (1, .int a1)]) hx hb dX0_fewest_14 rfl hl (by decide) rfl (fun l70 hl71 => ?_)
    obtain ⟨v72, ev72, tv72⟩ : ∃ v : Int32, Int32.ofInt (1) = v ∧ v.toInt = 1 := ⟨_, rfl, by decide +kernel⟩
    refine lv_iconst hx hb dX0_fewest_15 ev72 ?_
    refine lv_istore_n (lv' := [(3, .int v72), (2, .int v69), (0, .ref a0), (1, .int a1)]) hx hb dX0_fewest_16 rfl hl71 (by decide) rfl (fun l73 hl74 => ?_)
    exact J17 _ v69 v72 E s.heap [] l73 S0 F0_ (by omega) (by omega) (by omega) (by omega) (by omega) (Nat.lt_succ_self _) (lv_sub hl74 [2, 3, 1, 0] rfl)
  · skip
    have tc64 := nu_nlt c64
    have uc64 : (0 : Int32).toInt = 0 := rfl
    obtain ⟨v75, ev75, tv75⟩ : ∃ v : Int32, Int32.ofInt (-1) = v ∧ v.toInt = -1 := ⟨_, rfl, by decide +kernel⟩
    refine lv_iconst hx hb dX0_fewest_4 ev75 ?_
    rw [← hQ]
    exact en_i Z S0 F0_ trivial dX0_fewest_5

