theorem dX10_in_0 : decode cX10_in 0 = .ok (.iload_n 1, 1) := by decide +kernel
theorem dX10_in_1 : decode cX10_in 1 = .ok (.iload_n 2, 1) := by decide +kernel
theorem dX10_in_2 : decode cX10_in 2 = .ok (.if_icmp .lt 12, 3) := by decide +kernel
theorem dX10_in_5 : decode cX10_in 5 = .ok (.iload_n 1, 1) := by decide +kernel
theorem dX10_in_6 : decode cX10_in 6 = .ok (.iload_n 3, 1) := by decide +kernel
theorem dX10_in_7 : decode cX10_in 7 = .ok (.if_icmp .gt 7, 3) := by decide +kernel
theorem dX10_in_10 : decode cX10_in 10 = .ok (.iconst 1, 1) := by decide +kernel
theorem dX10_in_11 : decode cX10_in 11 = .ok (.goto 4, 3) := by decide +kernel
theorem dX10_in_14 : decode cX10_in 14 = .ok (.iconst 0, 1) := by decide +kernel
theorem dX10_in_15 : decode cX10_in 15 = .ok (.ireturn, 1) := by decide +kernel
set_option maxHeartbeats 4000000 in
set_option maxRecDepth 100000 in
theorem k_X10_in (l : Launch) (D : va_G) (cy : Nat → ClassId) {L : List Nat} {τ : Nat → Ro} {E : Ec} (hI : Inv TB cy L τ E) {a0 : Nat} (ha0 : a0 ∈ L) (ta0 : τ a0 = (11, 0)) (a1 : Int32) (a2 : Int32) (a3 : Int32) : CtI l yX10_in wsX10_in { frames := 0, cells := 0, slots := 0, locals := 0 } D TB cy L τ E [.ref a0, .int a1, .int a2, .int a3] (inW []) (fun r E' => E' = E ∧ ((r.toInt = 1 ∧ a2.toInt ≤ a1.toInt ∧ a1.toInt ≤ a3.toInt) ∨ (r.toInt = 0 ∧ (a1.toInt < a2.toInt ∨ a3.toInt < a1.toInt))) ∧ 0 ≤ r.toInt ∧ r.toInt ≤ 1) := by
  intro sz
  refine sta (cc := cX10_in) (maxL := 4) hI (by decide) rfl (Nat.le_of_ble_eq_true rfl) (fun p e s m args below meth c ls hsz Z S0 hl => ?_)
  have hx := Z.1.1
  have hb := Z.1.2.1
  have hts := Z.1.2.2.2.2
  have F0_ : Fr L τ (inW []) E E := Fr.refl
  have hl : lv_has ls 4 [(0, .ref a0), (1, .int a1), (2, .int a2), (3, .int a3)] := hl
  generalize hQ : MQ below _ args s 0 0 _ = QQ
  refine lv_iload_n hx hb dX10_in_0 rfl (lv_at hl 1 rfl) ?_
  refine lv_iload_n hx hb dX10_in_1 rfl (lv_at hl 2 rfl) ?_
  refine lv_icmp_lt (tgt := 14) hx hb dX10_in_2 (by decide) (fun c1 => ?_) (fun c1 => ?_)
  · skip
    have tc1 := nu_lt c1
    obtain ⟨v2, ev2, tv2⟩ : ∃ v : Int32, Int32.ofInt (0) = v ∧ v.toInt = 0 := ⟨_, rfl, by decide +kernel⟩
    refine lv_iconst hx hb dX10_in_14 ev2 ?_
    rw [← hQ]
    exact en_z Z S0 F0_ (zo v2 (by omega)) ⟨rfl, (by omega), (by omega), (by omega)⟩ dX10_in_15
  · skip
    have tc1 := nu_nlt c1
    refine lv_iload_n hx hb dX10_in_5 rfl (lv_at hl 1 rfl) ?_
    refine lv_iload_n hx hb dX10_in_6 rfl (lv_at hl 3 rfl) ?_
    refine lv_icmp_gt (tgt := 14) hx hb dX10_in_7 (by decide) (fun c3 => ?_) (fun c3 => ?_)
    · skip
      have tc3 := nu_lt c3
      obtain ⟨v4, ev4, tv4⟩ : ∃ v : Int32, Int32.ofInt (0) = v ∧ v.toInt = 0 := ⟨_, rfl, by decide +kernel⟩
      refine lv_iconst hx hb dX10_in_14 ev4 ?_
      rw [← hQ]
      exact en_z Z S0 F0_ (zo v4 (by omega)) ⟨rfl, (by omega), (by omega), (by omega)⟩ dX10_in_15
    · skip
      have tc3 := nu_nlt c3
      obtain ⟨v5, ev5, tv5⟩ : ∃ v : Int32, Int32.ofInt (1) = v ∧ v.toInt = 1 := ⟨_, rfl, by decide +kernel⟩
      refine lv_iconst hx hb dX10_in_10 ev5 ?_
      refine lv_goto (tgt := 15) hx hb dX10_in_11 (by decide) ?_
      rw [← hQ]
      exact en_z Z S0 F0_ (zo v5 (by omega)) ⟨rfl, (by omega), (by omega), (by omega)⟩ dX10_in_15

theorem dX10_no_0 : decode cX10_no 0 = .ok (.aload_n 0, 1) := by decide +kernel
theorem dX10_no_1 : decode cX10_no 1 = .ok (.iload_n 1, 1) := by decide +kernel
theorem dX10_no_2 : decode cX10_no 2 = .ok (.putfield 100, 3) := by decide +kernel
theorem dX10_no_5 : decode cX10_no 5 = .ok (.aload_n 0, 1) := by decide +kernel
theorem dX10_no_6 : decode cX10_no 6 = .ok (.iconst (-1), 1) := by decide +kernel
theorem dX10_no_7 : decode cX10_no 7 = .ok (.putfield 16, 3) := by decide +kernel
theorem dX10_no_10 : decode cX10_no 10 = .ok (.iconst (-1), 1) := by decide +kernel
theorem dX10_no_11 : decode cX10_no 11 = .ok (.ireturn, 1) := by decide +kernel
set_option maxHeartbeats 4000000 in
set_option maxRecDepth 100000 in
theorem k_X10_no (l : Launch) (D : va_G) (cy : Nat → ClassId) {L : List Nat} {τ : Nat → Ro} {E : Ec} (hI : Inv TB cy L τ E) {a0 : Nat} (ha0 : a0 ∈ L) (ta0 : τ a0 = (11, 0)) (a1 : Int32) : CtI l yX10_no wsX10_no { frames := 0, cells := 0, slots := 0, locals := 0 } D TB cy L τ E [.ref a0, .int a1] (inW [(11, 0)]) (fun r E' => -1 ≤ r.toInt ∧ r.toInt ≤ -1 ∧ (∀ k : Nat, k ∉ ([3, 6] : List Nat) → fi E' a0 k = fi E a0 k)) := by
  intro sz
  refine sta (cc := cX10_no) (maxL := 2) hI (by decide) rfl (Nat.le_of_ble_eq_true rfl) (fun p e s m args below meth c ls hsz Z S0 hl => ?_)
  have hx := Z.1.1
  have hb := Z.1.2.1
  have hts := Z.1.2.2.2.2
  have F0_ : Fr L τ (inW [(11, 0)]) E E := Fr.refl
  have hl : lv_has ls 2 [(0, .ref a0), (1, .int a1)] := hl
  generalize hQ : MQ below _ args s 0 0 _ = QQ
  refine lv_aload_n hx hb dX10_no_0 rfl (lv_at hl 0 rfl) ?_
  refine lv_iload_n hx hb dX10_no_1 rfl (lv_at hl 1 rfl) ?_
  refine tr_puti Z.1 Z.2.2.2.1 S0.1 S0.2 ha0 ta0 rfl rfl (fun _ h => List.mem_cons_of_mem _ (List.mem_append_right _ h)) tyX10_ok nmX10 3 (by decide) rfl rfl rfl (hts _ (List.mem_of_getElem? (i := 1) rfl)) dX10_no_2 (by have := fb_rng a1; omega) (by have := fb_rng a1; omega) (fun E1 H2 k3 W1 I1 P1 => ?_)
  have S1 : Now D TB cy (va_A (va_pl L E) sz) s L τ E1 H2 k3 := ⟨W1, I1⟩
  have F1 : Fr L τ (inW [(11, 0)]) E E1 := Fr.put F0_ P1 ta0 rfl
  refine lv_aload_n hx hb dX10_no_5 rfl (lv_at hl 0 rfl) ?_
  obtain ⟨v4, ev4, tv4⟩ : ∃ v : Int32, Int32.ofInt (-1) = v ∧ v.toInt = -1 := ⟨_, rfl, by decide +kernel⟩
  refine lv_iconst hx hb dX10_no_6 ev4 ?_
  refine tr_puti Z.1 Z.2.2.2.1 S1.1 S1.2 ha0 ta0 rfl rfl (fun _ h => List.mem_cons_of_mem _ (List.mem_append_right _ h)) tyX10_ok nmX10 6 (by decide) rfl rfl rfl (hts _ (List.mem_of_getElem? (i := 2) rfl)) dX10_no_7 (by have := fb_rng v4; omega) (by have := fb_rng v4; omega) (fun E5 H6 k7 W5 I5 P5 => ?_)
  have S5 : Now D TB cy (va_A (va_pl L E) sz) s L τ E5 H6 k7 := ⟨W5, I5⟩
  have F5 : Fr L τ (inW [(11, 0)]) E E5 := Fr.put F1 P5 ta0 rfl
  obtain ⟨v8, ev8, tv8⟩ : ∃ v : Int32, Int32.ofInt (-1) = v ∧ v.toInt = -1 := ⟨_, rfl, by decide +kernel⟩
  refine lv_iconst hx hb dX10_no_10 ev8 ?_
  rw [← hQ]
  exact en_i Z S5 F5 ⟨(by omega), (by omega), (fun k hk => ((fi_put P5 (Or.inr (fw_ne (by decide) hk))).trans ((fi_put P1 (Or.inr (fw_ne (by decide) hk))).trans ((fun k hk => rfl) k hk))))⟩ dX10_no_11

theorem dX10_not_0 : decode cX10_not 0 = .ok (.aload_n 0, 1) := by decide +kernel
theorem dX10_not_1 : decode cX10_not 1 = .ok (.iload_n 1, 1) := by decide +kernel
theorem dX10_not_2 : decode cX10_not 2 = .ok (.putfield 100, 3) := by decide +kernel
theorem dX10_not_5 : decode cX10_not 5 = .ok (.aload_n 0, 1) := by decide +kernel
theorem dX10_not_6 : decode cX10_not 6 = .ok (.iconst (-1), 1) := by decide +kernel
theorem dX10_not_7 : decode cX10_not 7 = .ok (.putfield 16, 3) := by decide +kernel
theorem dX10_not_10 : decode cX10_not 10 = .ok (.iconst 0, 1) := by decide +kernel
theorem dX10_not_11 : decode cX10_not 11 = .ok (.ireturn, 1) := by decide +kernel
set_option maxHeartbeats 4000000 in
set_option maxRecDepth 100000 in
theorem k_X10_not (l : Launch) (D : va_G) (cy : Nat → ClassId) {L : List Nat} {τ : Nat → Ro} {E : Ec} (hI : Inv TB cy L τ E) {a0 : Nat} (ha0 : a0 ∈ L) (ta0 : τ a0 = (11, 0)) (a1 : Int32) : CtI l yX10_not wsX10_not { frames := 0, cells := 0, slots := 0, locals := 0 } D TB cy L τ E [.ref a0, .int a1] (inW [(11, 0)]) (fun r E' => 0 ≤ r.toInt ∧ r.toInt ≤ 0 ∧ (∀ k : Nat, k ∉ ([3, 6] : List Nat) → fi E' a0 k = fi E a0 k)) := by
  intro sz
  refine sta (cc := cX10_not) (maxL := 2) hI (by decide) rfl (Nat.le_of_ble_eq_true rfl) (fun p e s m args below meth c ls hsz Z S0 hl => ?_)
  have hx := Z.1.1
  have hb := Z.1.2.1
  have hts := Z.1.2.2.2.2
  have F0_ : Fr L τ (inW [(11, 0)]) E E := Fr.refl
  have hl : lv_has ls 2 [(0, .ref a0), (1, .int a1)] := hl
  generalize hQ : MQ below _ args s 0 0 _ = QQ
  refine lv_aload_n hx hb dX10_not_0 rfl (lv_at hl 0 rfl) ?_
  refine lv_iload_n hx hb dX10_not_1 rfl (lv_at hl 1 rfl) ?_
  refine tr_puti Z.1 Z.2.2.2.1 S0.1 S0.2 ha0 ta0 rfl rfl (fun _ h => List.mem_cons_of_mem _ (List.mem_append_right _ h)) tyX10_ok nmX10 3 (by decide) rfl rfl rfl (hts _ (List.mem_of_getElem? (i := 1) rfl)) dX10_not_2 (by have := fb_rng a1; omega) (by have := fb_rng a1; omega) (fun E1 H2 k3 W1 I1 P1 => ?_)
  have S1 : Now D TB cy (va_A (va_pl L E) sz) s L τ E1 H2 k3 := ⟨W1, I1⟩
  have F1 : Fr L τ (inW [(11, 0)]) E E1 := Fr.put F0_ P1 ta0 rfl
  refine lv_aload_n hx hb dX10_not_5 rfl (lv_at hl 0 rfl) ?_
  obtain ⟨v4, ev4, tv4⟩ : ∃ v : Int32, Int32.ofInt (-1) = v ∧ v.toInt = -1 := ⟨_, rfl, by decide +kernel⟩
  refine lv_iconst hx hb dX10_not_6 ev4 ?_
  refine tr_puti Z.1 Z.2.2.2.1 S1.1 S1.2 ha0 ta0 rfl rfl (fun _ h => List.mem_cons_of_mem _ (List.mem_append_right _ h)) tyX10_ok nmX10 6 (by decide) rfl rfl rfl (hts _ (List.mem_of_getElem? (i := 2) rfl)) dX10_not_7 (by have := fb_rng v4; omega) (by have := fb_rng v4; omega) (fun E5 H6 k7 W5 I5 P5 => ?_)
  have S5 : Now D TB cy (va_A (va_pl L E) sz) s L τ E5 H6 k7 := ⟨W5, I5⟩
  have F5 : Fr L τ (inW [(11, 0)]) E E5 := Fr.put F1 P5 ta0 rfl
  obtain ⟨v8, ev8, tv8⟩ : ∃ v : Int32, Int32.ofInt (0) = v ∧ v.toInt = 0 := ⟨_, rfl, by decide +kernel⟩
  refine lv_iconst hx hb dX10_not_10 ev8 ?_
  rw [← hQ]
  exact en_z Z S5 F5 (zo v8 (by omega)) ⟨(by omega), (by omega), (fun k hk => ((fi_put P5 (Or.inr (fw_ne (by decide) hk))).trans ((fi_put P1 (Or.inr (fw_ne (by decide) hk))).trans ((fun k hk => rfl) k hk))))⟩ dX10_not_11

theorem dX10_good_0 : decode cX10_good 0 = .ok (.aload_n 0, 1) := by decide +kernel
theorem dX10_good_1 : decode cX10_good 1 = .ok (.iconst 0, 1) := by decide +kernel
theorem dX10_good_2 : decode cX10_good 2 = .ok (.putfield 100, 3) := by decide +kernel
theorem dX10_good_5 : decode cX10_good 5 = .ok (.aload_n 0, 1) := by decide +kernel
theorem dX10_good_6 : decode cX10_good 6 = .ok (.iconst (-1), 1) := by decide +kernel
theorem dX10_good_7 : decode cX10_good 7 = .ok (.putfield 16, 3) := by decide +kernel
theorem dX10_good_10 : decode cX10_good 10 = .ok (.return_, 1) := by decide +kernel
set_option maxHeartbeats 4000000 in
set_option maxRecDepth 100000 in
theorem k_X10_good (l : Launch) (D : va_G) (cy : Nat → ClassId) {L : List Nat} {τ : Nat → Ro} {E : Ec} (hI : Inv TB cy L τ E) {a0 : Nat} (ha0 : a0 ∈ L) (ta0 : τ a0 = (11, 0)) : CtV l yX10_good wsX10_good { frames := 0, cells := 0, slots := 0, locals := 0 } D TB cy L τ E [.ref a0] (inW [(11, 0)]) (fun E' => (∀ k : Nat, k ∉ ([3, 6] : List Nat) → fi E' a0 k = fi E a0 k)) := by
  intro sz
  refine sta (cc := cX10_good) (maxL := 1) hI (by decide) rfl (Nat.le_of_ble_eq_true rfl) (fun p e s m args below meth c ls hsz Z S0 hl => ?_)
  have hx := Z.1.1
  have hb := Z.1.2.1
  have hts := Z.1.2.2.2.2
  have F0_ : Fr L τ (inW [(11, 0)]) E E := Fr.refl
  have hl : lv_has ls 1 [(0, .ref a0)] := hl
  generalize hQ : MQ below _ args s 0 0 _ = QQ
  refine lv_aload_n hx hb dX10_good_0 rfl (lv_at hl 0 rfl) ?_
  obtain ⟨v1, ev1, tv1⟩ : ∃ v : Int32, Int32.ofInt (0) = v ∧ v.toInt = 0 := ⟨_, rfl, by decide +kernel⟩
  refine lv_iconst hx hb dX10_good_1 ev1 ?_
  refine tr_puti Z.1 Z.2.2.2.1 S0.1 S0.2 ha0 ta0 rfl rfl (fun _ h => List.mem_cons_of_mem _ (List.mem_append_right _ h)) tyX10_ok nmX10 3 (by decide) rfl rfl rfl (hts _ (List.mem_of_getElem? (i := 1) rfl)) dX10_good_2 (by have := fb_rng v1; omega) (by have := fb_rng v1; omega) (fun E2 H3 k4 W2 I2 P2 => ?_)
  have S2 : Now D TB cy (va_A (va_pl L E) sz) s L τ E2 H3 k4 := ⟨W2, I2⟩
  have F2 : Fr L τ (inW [(11, 0)]) E E2 := Fr.put F0_ P2 ta0 rfl
  refine lv_aload_n hx hb dX10_good_5 rfl (lv_at hl 0 rfl) ?_
  obtain ⟨v5, ev5, tv5⟩ : ∃ v : Int32, Int32.ofInt (-1) = v ∧ v.toInt = -1 := ⟨_, rfl, by decide +kernel⟩
  refine lv_iconst hx hb dX10_good_6 ev5 ?_
  refine tr_puti Z.1 Z.2.2.2.1 S2.1 S2.2 ha0 ta0 rfl rfl (fun _ h => List.mem_cons_of_mem _ (List.mem_append_right _ h)) tyX10_ok nmX10 6 (by decide) rfl rfl rfl (hts _ (List.mem_of_getElem? (i := 2) rfl)) dX10_good_7 (by have := fb_rng v5; omega) (by have := fb_rng v5; omega) (fun E6 H7 k8 W6 I6 P6 => ?_)
  have S6 : Now D TB cy (va_A (va_pl L E) sz) s L τ E6 H7 k8 := ⟨W6, I6⟩
  have F6 : Fr L τ (inW [(11, 0)]) E E6 := Fr.put F2 P6 ta0 rfl
  rw [← hQ]
  exact en_v Z S6 F6 (fun k hk => ((fi_put P6 (Or.inr (fw_ne (by decide) hk))).trans ((fi_put P2 (Or.inr (fw_ne (by decide) hk))).trans ((fun k hk => rfl) k hk)))) dX10_good_10

theorem dX10_isSmall_0 : decode cX10_isSmall 0 = .ok (.iload_n 1, 1) := by decide +kernel
theorem dX10_isSmall_1 : decode cX10_isSmall 1 = .ok (.bipush 97, 2) := by decide +kernel
theorem dX10_isSmall_3 : decode cX10_isSmall 3 = .ok (.if_icmp .lt 13, 3) := by decide +kernel
theorem dX10_isSmall_6 : decode cX10_isSmall 6 = .ok (.iload_n 1, 1) := by decide +kernel
theorem dX10_isSmall_7 : decode cX10_isSmall 7 = .ok (.bipush 122, 2) := by decide +kernel
theorem dX10_isSmall_9 : decode cX10_isSmall 9 = .ok (.if_icmp .gt 7, 3) := by decide +kernel
theorem dX10_isSmall_12 : decode cX10_isSmall 12 = .ok (.iconst 1, 1) := by decide +kernel
theorem dX10_isSmall_13 : decode cX10_isSmall 13 = .ok (.goto 4, 3) := by decide +kernel
theorem dX10_isSmall_16 : decode cX10_isSmall 16 = .ok (.iconst 0, 1) := by decide +kernel
theorem dX10_isSmall_17 : decode cX10_isSmall 17 = .ok (.ireturn, 1) := by decide +kernel
set_option maxHeartbeats 4000000 in
set_option maxRecDepth 100000 in
theorem k_X10_isSmall (l : Launch) (D : va_G) (cy : Nat → ClassId) {L : List Nat} {τ : Nat → Ro} {E : Ec} (hI : Inv TB cy L τ E) {a0 : Nat} (ha0 : a0 ∈ L) (ta0 : τ a0 = (11, 0)) (a1 : Int32) : CtI l yX10_isSmall wsX10_isSmall { frames := 0, cells := 0, slots := 0, locals := 0 } D TB cy L τ E [.ref a0, .int a1] (inW []) (fun r E' => E' = E ∧ ((r.toInt = 1 ∧ 97 ≤ a1.toInt ∧ a1.toInt ≤ 122) ∨ (r.toInt = 0 ∧ (a1.toInt < 97 ∨ 122 < a1.toInt))) ∧ 0 ≤ r.toInt ∧ r.toInt ≤ 1) := by
  intro sz
  refine sta (cc := cX10_isSmall) (maxL := 2) hI (by decide) rfl (Nat.le_of_ble_eq_true rfl) (fun p e s m args below meth c ls hsz Z S0 hl => ?_)
  have hx := Z.1.1
  have hb := Z.1.2.1
  have hts := Z.1.2.2.2.2
  have F0_ : Fr L τ (inW []) E E := Fr.refl
  have hl : lv_has ls 2 [(0, .ref a0), (1, .int a1)] := hl
  generalize hQ : MQ below _ args s 0 0 _ = QQ
  refine lv_iload_n hx hb dX10_isSmall_0 rfl (lv_at hl 1 rfl) ?_
  obtain ⟨v1, ev1, tv1⟩ : ∃ v : Int32, (Int8.ofInt (97)).toInt32 = v ∧ v.toInt = 97 := ⟨_, rfl, by decide +kernel⟩
  refine lv_bipush hx hb dX10_isSmall_1 ev1 ?_
  refine lv_icmp_lt (tgt := 16) hx hb dX10_isSmall_3 (by decide) (fun c2 => ?_) (fun c2 => ?_)
  · skip
    have tc2 := nu_lt c2
    obtain ⟨v3, ev3, tv3⟩ : ∃ v : Int32, Int32.ofInt (0) = v ∧ v.toInt = 0 := ⟨_, rfl, by decide +kernel⟩
    refine lv_iconst hx hb dX10_isSmall_16 ev3 ?_
    rw [← hQ]
    exact en_z Z S0 F0_ (zo v3 (by omega)) ⟨rfl, (by omega), (by omega), (by omega)⟩ dX10_isSmall_17
  · skip
    have tc2 := nu_nlt c2
    refine lv_iload_n hx hb dX10_isSmall_6 rfl (lv_at hl 1 rfl) ?_
    obtain ⟨v4, ev4, tv4⟩ : ∃ v : Int32, (Int8.ofInt (122)).toInt32 = v ∧ v.toInt = 122 := ⟨_, rfl, by decide +kernel⟩
    refine lv_bipush hx hb dX10_isSmall_7 ev4 ?_
    refine lv_icmp_gt (tgt := 16) hx hb dX10_isSmall_9 (by decide) (fun c5 => ?_) (fun c5 => ?_)
    · skip
      have tc5 := nu_lt c5
      obtain ⟨v6, ev6, tv6⟩ : ∃ v : Int32, Int32.ofInt (0) = v ∧ v.toInt = 0 := ⟨_, rfl, by decide +kernel⟩
      refine lv_iconst hx hb dX10_isSmall_16 ev6 ?_
      rw [← hQ]
      exact en_z Z S0 F0_ (zo v6 (by omega)) ⟨rfl, (by omega), (by omega), (by omega)⟩ dX10_isSmall_17
    · skip
      have tc5 := nu_nlt c5
      obtain ⟨v7, ev7, tv7⟩ : ∃ v : Int32, Int32.ofInt (1) = v ∧ v.toInt = 1 := ⟨_, rfl, by decide +kernel⟩
      refine lv_iconst hx hb dX10_isSmall_12 ev7 ?_
      refine lv_goto (tgt := 17) hx hb dX10_isSmall_13 (by decide) ?_
      rw [← hQ]
      exact en_z Z S0 F0_ (zo v7 (by omega)) ⟨rfl, (by omega), (by omega), (by omega)⟩ dX10_isSmall_17

theorem dX10_bad_0 : decode cX10_bad 0 = .ok (.aload_n 0, 1) := by decide +kernel
theorem dX10_bad_1 : decode cX10_bad 1 = .ok (.getfield 160, 3) := by decide +kernel
theorem dX10_bad_4 : decode cX10_bad 4 = .ok (.ifCond .le 7, 3) := by decide +kernel
theorem dX10_bad_7 : decode cX10_bad 7 = .ok (.iconst 1, 1) := by decide +kernel
theorem dX10_bad_8 : decode cX10_bad 8 = .ok (.goto 4, 3) := by decide +kernel
theorem dX10_bad_11 : decode cX10_bad 11 = .ok (.iconst 0, 1) := by decide +kernel
theorem dX10_bad_12 : decode cX10_bad 12 = .ok (.ireturn, 1) := by decide +kernel
set_option maxHeartbeats 4000000 in
set_option maxRecDepth 100000 in
theorem k_X10_bad (l : Launch) (D : va_G) (cy : Nat → ClassId) {L : List Nat} {τ : Nat → Ro} {E : Ec} (hI : Inv TB cy L τ E) {a0 : Nat} (ha0 : a0 ∈ L) (ta0 : τ a0 = (11, 0)) : CtI l yX10_bad wsX10_bad { frames := 0, cells := 0, slots := 0, locals := 0 } D TB cy L τ E [.ref a0] (inW []) (fun r E' => E' = E ∧ ((r.toInt = 1 ∧ 0 < (fi E a0 5).toInt) ∨ (r.toInt = 0 ∧ (fi E a0 5).toInt ≤ 0)) ∧ 0 ≤ r.toInt ∧ r.toInt ≤ 1) := by
  intro sz
  refine sta (cc := cX10_bad) (maxL := 1) hI (by decide) rfl (Nat.le_of_ble_eq_true rfl) (fun p e s m args below meth c ls hsz Z S0 hl => ?_)
  have hx := Z.1.1
  have hb := Z.1.2.1
  have hts := Z.1.2.2.2.2
  have F0_ : Fr L τ (inW []) E E := Fr.refl
  have hl : lv_has ls 1 [(0, .ref a0)] := hl
  generalize hQ : MQ below _ args s 0 0 _ = QQ
  have kz_a0_5 := fi_rng (k := 5) hI ha0 ta0 rfl rfl
  refine lv_aload_n hx hb dX10_bad_0 rfl (lv_at hl 0 rfl) ?_
  refine tr_geti Z.1 Z.2.2.2.1 S0.1 S0.2 ha0 ta0 rfl rfl (fun _ h => List.mem_cons_of_mem _ (List.mem_append_right _ h)) 5 (by decide) rfl (hts _ (List.mem_of_getElem? (i := 1) rfl)) dX10_bad_1 (fun v1 ev1 lv1 uv1 => ?_)
  have wv1 : v1 = (fi E a0 5) := ev1.symm.trans rfl
  have xv1 : v1.toInt = (fi E a0 5).toInt := by rw [wv1]
  refine lv_if_le (tgt := 11) hx hb dX10_bad_4 (by decide) (fun c2 => ?_) (fun c2 => ?_)
  · skip
    have tc2 := nu_le c2
    have uc2 : (0 : Int32).toInt = 0 := rfl
    obtain ⟨v3, ev3, tv3⟩ : ∃ v : Int32, Int32.ofInt (0) = v ∧ v.toInt = 0 := ⟨_, rfl, by decide +kernel⟩
    refine lv_iconst hx hb dX10_bad_11 ev3 ?_
    rw [← hQ]
    exact en_z Z S0 F0_ (zo v3 (by omega)) ⟨rfl, (by rw [ev1]; omega), (by omega), (by omega)⟩ dX10_bad_12
  · skip
    have tc2 := nu_nle c2
    have uc2 : (0 : Int32).toInt = 0 := rfl
    obtain ⟨v4, ev4, tv4⟩ : ∃ v : Int32, Int32.ofInt (1) = v ∧ v.toInt = 1 := ⟨_, rfl, by decide +kernel⟩
    refine lv_iconst hx hb dX10_bad_7 ev4 ?_
    refine lv_goto (tgt := 12) hx hb dX10_bad_8 (by decide) ?_
    rw [← hQ]
    exact en_z Z S0 F0_ (zo v4 (by omega)) ⟨rfl, (by rw [ev1]; omega), (by omega), (by omega)⟩ dX10_bad_12

theorem dX10_wrong_0 : decode cX10_wrong 0 = .ok (.aload_n 0, 1) := by decide +kernel
theorem dX10_wrong_1 : decode cX10_wrong 1 = .ok (.getfield 160, 3) := by decide +kernel
theorem dX10_wrong_4 : decode cX10_wrong 4 = .ok (.ifCond .le 4, 3) := by decide +kernel
theorem dX10_wrong_7 : decode cX10_wrong 7 = .ok (.return_, 1) := by decide +kernel
theorem dX10_wrong_8 : decode cX10_wrong 8 = .ok (.aload_n 0, 1) := by decide +kernel
theorem dX10_wrong_9 : decode cX10_wrong 9 = .ok (.iload_n 1, 1) := by decide +kernel
theorem dX10_wrong_10 : decode cX10_wrong 10 = .ok (.putfield 160, 3) := by decide +kernel
theorem dX10_wrong_13 : decode cX10_wrong 13 = .ok (.aload_n 0, 1) := by decide +kernel
theorem dX10_wrong_14 : decode cX10_wrong 14 = .ok (.iload_n 2, 1) := by decide +kernel
theorem dX10_wrong_15 : decode cX10_wrong 15 = .ok (.putfield 16, 3) := by decide +kernel
theorem dX10_wrong_18 : decode cX10_wrong 18 = .ok (.return_, 1) := by decide +kernel
set_option maxHeartbeats 4000000 in
set_option maxRecDepth 100000 in
theorem k_X10_wrong (l : Launch) (D : va_G) (cy : Nat → ClassId) {L : List Nat} {τ : Nat → Ro} {E : Ec} (hI : Inv TB cy L τ E) {a0 : Nat} (ha0 : a0 ∈ L) (ta0 : τ a0 = (11, 0)) (a1 : Int32) (la1 : 1 ≤ a1.toInt) (ua1 : a1.toInt ≤ 3) (a2 : Int32) : CtV l yX10_wrong wsX10_wrong { frames := 0, cells := 0, slots := 0, locals := 0 } D TB cy L τ E [.ref a0, .int a1, .int a2] (inW [(11, 0)]) (fun E' => (0 < (fi E' a0 5).toInt) ∧ (∀ k : Nat, k ∉ ([5, 6] : List Nat) → fi E' a0 k = fi E a0 k)) := by
  intro sz
  refine sta (cc := cX10_wrong) (maxL := 3) hI (by decide) rfl (Nat.le_of_ble_eq_true rfl) (fun p e s m args below meth c ls hsz Z S0 hl => ?_)
  have hx := Z.1.1
  have hb := Z.1.2.1
  have hts := Z.1.2.2.2.2
  have F0_ : Fr L τ (inW [(11, 0)]) E E := Fr.refl
  have hl : lv_has ls 3 [(0, .ref a0), (1, .int a1), (2, .int a2)] := hl
  generalize hQ : MQ below _ args s 0 0 _ = QQ
  have kz_a0_5 := fi_rng (k := 5) hI ha0 ta0 rfl rfl
  refine lv_aload_n hx hb dX10_wrong_0 rfl (lv_at hl 0 rfl) ?_
  refine tr_geti Z.1 Z.2.2.2.1 S0.1 S0.2 ha0 ta0 rfl rfl (fun _ h => List.mem_cons_of_mem _ (List.mem_append_right _ h)) 5 (by decide) rfl (hts _ (List.mem_of_getElem? (i := 1) rfl)) dX10_wrong_1 (fun v1 ev1 lv1 uv1 => ?_)
  have wv1 : v1 = (fi E a0 5) := ev1.symm.trans rfl
  have xv1 : v1.toInt = (fi E a0 5).toInt := by rw [wv1]
  refine lv_if_le (tgt := 8) hx hb dX10_wrong_4 (by decide) (fun c2 => ?_) (fun c2 => ?_)
  · skip
    have tc2 := nu_le c2
    have uc2 : (0 : Int32).toInt = 0 := rfl
    refine lv_aload_n hx hb dX10_wrong_8 rfl (lv_at hl 0 rfl) ?_
    refine lv_iload_n hx hb dX10_wrong_9 rfl (lv_at hl 1 rfl) ?_
    refine tr_puti Z.1 Z.2.2.2.1 S0.1 S0.2 ha0 ta0 rfl rfl (fun _ h => List.mem_cons_of_mem _ (List.mem_append_right _ h)) tyX10_ok nmX10 5 (by decide) rfl rfl rfl (hts _ (List.mem_of_getElem? (i := 1) rfl)) dX10_wrong_10 (by have := fb_rng a1; omega) (by have := fb_rng a1; omega) (fun E3 H4 k5 W3 I3 P3 => ?_)
    have S3 : Now D TB cy (va_A (va_pl L E) sz) s L τ E3 H4 k5 := ⟨W3, I3⟩
    have F3 : Fr L τ (inW [(11, 0)]) E E3 := Fr.put F0_ P3 ta0 rfl
    refine lv_aload_n hx hb dX10_wrong_13 rfl (lv_at hl 0 rfl) ?_
    refine lv_iload_n hx hb dX10_wrong_14 rfl (lv_at hl 2 rfl) ?_
    refine tr_puti Z.1 Z.2.2.2.1 S3.1 S3.2 ha0 ta0 rfl rfl (fun _ h => List.mem_cons_of_mem _ (List.mem_append_right _ h)) tyX10_ok nmX10 6 (by decide) rfl rfl rfl (hts _ (List.mem_of_getElem? (i := 2) rfl)) dX10_wrong_15 (by have := fb_rng a2; omega) (by have := fb_rng a2; omega) (fun E6 H7 k8 W6 I6 P6 => ?_)
    have S6 : Now D TB cy (va_A (va_pl L E) sz) s L τ E6 H7 k8 := ⟨W6, I6⟩
    have F6 : Fr L τ (inW [(11, 0)]) E E6 := Fr.put F3 P6 ta0 rfl
    rw [← hQ]
    exact en_v Z S6 F6 ⟨(by rw [((fi_put P6 (Or.inr (by decide))).trans (fi_at P3))]; omega), (fun k hk => ((fi_put P6 (Or.inr (fw_ne (by decide) hk))).trans ((fi_put P3 (Or.inr (fw_ne (by decide) hk))).trans ((fun k hk => rfl) k hk))))⟩ dX10_wrong_18
  · skip
    have tc2 := nu_nle c2
    have uc2 : (0 : Int32).toInt = 0 := rfl
    rw [← hQ]
    exact en_v Z S0 F0_ ⟨(by rw [ev1]; omega), (fun k hk => ((fun k hk => rfl) k hk))⟩ dX10_wrong_7

theorem dX10_parted_0 : decode cX10_parted 0 = .ok (.iload_n 1, 1) := by decide +kernel
theorem dX10_parted_1 : decode cX10_parted 1 = .ok (.iload_n 2, 1) := by decide +kernel
theorem dX10_parted_2 : decode cX10_parted 2 = .ok (.idiv, 1) := by decide +kernel
theorem dX10_parted_3 : decode cX10_parted 3 = .ok (.iload_n 3, 1) := by decide +kernel
theorem dX10_parted_4 : decode cX10_parted 4 = .ok (.iload_n 1, 1) := by decide +kernel
theorem dX10_parted_5 : decode cX10_parted 5 = .ok (.iload_n 2, 1) := by decide +kernel
theorem dX10_parted_6 : decode cX10_parted 6 = .ok (.irem, 1) := by decide +kernel
theorem dX10_parted_7 : decode cX10_parted 7 = .ok (.if_icmp .ge 7, 3) := by decide +kernel
theorem dX10_parted_10 : decode cX10_parted 10 = .ok (.iconst 1, 1) := by decide +kernel
theorem dX10_parted_11 : decode cX10_parted 11 = .ok (.goto 4, 3) := by decide +kernel
theorem dX10_parted_14 : decode cX10_parted 14 = .ok (.iconst 0, 1) := by decide +kernel
theorem dX10_parted_15 : decode cX10_parted 15 = .ok (.iadd, 1) := by decide +kernel
theorem dX10_parted_16 : decode cX10_parted 16 = .ok (.ireturn, 1) := by decide +kernel
set_option maxHeartbeats 4000000 in
set_option maxRecDepth 100000 in
theorem k_X10_parted (l : Launch) (D : va_G) (cy : Nat → ClassId) {L : List Nat} {τ : Nat → Ro} {E : Ec} (hI : Inv TB cy L τ E) {a0 : Nat} (ha0 : a0 ∈ L) (ta0 : τ a0 = (11, 0)) (a1 : Int32) (a2 : Int32) (la2 : 1 ≤ a2.toInt) (a3 : Int32) : CtI l yX10_parted wsX10_parted { frames := 0, cells := 0, slots := 0, locals := 0 } D TB cy L τ E [.ref a0, .int a1, .int a2, .int a3] (inW []) (fun r E' => E' = E) := by
  intro sz
  refine sta (cc := cX10_parted) (maxL := 4) hI (by decide) rfl (Nat.le_of_ble_eq_true rfl) (fun p e s m args below meth c ls hsz Z S0 hl => ?_)
  have hx := Z.1.1
  have hb := Z.1.2.1
  have hts := Z.1.2.2.2.2
  have F0_ : Fr L τ (inW []) E E := Fr.refl
  have hl : lv_has ls 4 [(0, .ref a0), (1, .int a1), (2, .int a2), (3, .int a3)] := hl
  generalize hQ : MQ below _ args s 0 0 _ = QQ
  refine lv_iload_n hx hb dX10_parted_0 rfl (lv_at hl 1 rfl) ?_
  refine lv_iload_n hx hb dX10_parted_1 rfl (lv_at hl 2 rfl) ?_
  refine lv_idiv hx hb dX10_parted_2 (fun q => by have := nu_eq0 q; omega) ?_
  refine lv_topi (fun v1 ev1 => ?_)
  refine lv_iload_n hx hb dX10_parted_3 rfl (lv_at hl 3 rfl) ?_
  refine lv_iload_n hx hb dX10_parted_4 rfl (lv_at hl 1 rfl) ?_
  refine lv_iload_n hx hb dX10_parted_5 rfl (lv_at hl 2 rfl) ?_
  refine lv_irem hx hb dX10_parted_6 (fun q => by have := nu_eq0 q; omega) ?_
  refine lv_topi (fun v2 ev2 => ?_)
  refine lv_icmp_ge (tgt := 14) hx hb dX10_parted_7 (by decide) (fun c3 => ?_) (fun c3 => ?_)
  · skip
    have tc3 := nu_le c3
    obtain ⟨v4, ev4, tv4⟩ : ∃ v : Int32, Int32.ofInt (0) = v ∧ v.toInt = 0 := ⟨_, rfl, by decide +kernel⟩
    refine lv_iconst hx hb dX10_parted_14 ev4 ?_
    refine lv_iadd hx hb dX10_parted_15 ?_
    refine lv_topi (fun v5 ev5 => ?_)
    have tv5 := nu_add ev5 (by have := fb_rng v1; omega) (by have := fb_rng v1; omega)
    rw [← hQ]
    exact en_i Z S0 F0_ rfl dX10_parted_16
  · skip
    have tc3 := nu_nle c3
    obtain ⟨v6, ev6, tv6⟩ : ∃ v : Int32, Int32.ofInt (1) = v ∧ v.toInt = 1 := ⟨_, rfl, by decide +kernel⟩
    refine lv_iconst hx hb dX10_parted_10 ev6 ?_
    refine lv_goto (tgt := 15) hx hb dX10_parted_11 (by decide) ?_
    refine lv_iadd hx hb dX10_parted_15 ?_
    refine lv_topi (fun v7 ev7 => ?_)
    rw [← hQ]
    exact en_i Z S0 F0_ rfl dX10_parted_16

theorem dX10_priceHere_0 : decode cX10_priceHere 0 = .ok (.aload_n 0, 1) := by decide +kernel
theorem dX10_priceHere_1 : decode cX10_priceHere 1 = .ok (.getfield 112, 3) := by decide +kernel
theorem dX10_priceHere_4 : decode cX10_priceHere 4 = .ok (.iconst 1, 1) := by decide +kernel
theorem dX10_priceHere_5 : decode cX10_priceHere 5 = .ok (.iadd, 1) := by decide +kernel
theorem dX10_priceHere_6 : decode cX10_priceHere 6 = .ok (.aload_n 0, 1) := by decide +kernel
theorem dX10_priceHere_7 : decode cX10_priceHere 7 = .ok (.getfield 7, 3) := by decide +kernel
theorem dX10_priceHere_10 : decode cX10_priceHere 10 = .ok (.bipush 18, 2) := by decide +kernel
theorem dX10_priceHere_12 : decode cX10_priceHere 12 = .ok (.iaload, 1) := by decide +kernel
theorem dX10_priceHere_13 : decode cX10_priceHere 13 = .ok (.imul, 1) := by decide +kernel
theorem dX10_priceHere_14 : decode cX10_priceHere 14 = .ok (.istore_n 1, 1) := by decide +kernel
theorem dX10_priceHere_15 : decode cX10_priceHere 15 = .ok (.iconst 0, 1) := by decide +kernel
theorem dX10_priceHere_16 : decode cX10_priceHere 16 = .ok (.istore_n 2, 1) := by decide +kernel
theorem dX10_priceHere_17 : decode cX10_priceHere 17 = .ok (.iload_n 2, 1) := by decide +kernel
theorem dX10_priceHere_18 : decode cX10_priceHere 18 = .ok (.aload_n 0, 1) := by decide +kernel
theorem dX10_priceHere_19 : decode cX10_priceHere 19 = .ok (.getfield 112, 3) := by decide +kernel
theorem dX10_priceHere_22 : decode cX10_priceHere 22 = .ok (.if_icmp .ge 26, 3) := by decide +kernel
theorem dX10_priceHere_25 : decode cX10_priceHere 25 = .ok (.iload_n 1, 1) := by decide +kernel
theorem dX10_priceHere_26 : decode cX10_priceHere 26 = .ok (.aload_n 0, 1) := by decide +kernel
theorem dX10_priceHere_27 : decode cX10_priceHere 27 = .ok (.getfield 7, 3) := by decide +kernel
theorem dX10_priceHere_30 : decode cX10_priceHere 30 = .ok (.bipush 14, 2) := by decide +kernel
theorem dX10_priceHere_32 : decode cX10_priceHere 32 = .ok (.aload_n 0, 1) := by decide +kernel
theorem dX10_priceHere_33 : decode cX10_priceHere 33 = .ok (.getfield 23, 3) := by decide +kernel
theorem dX10_priceHere_36 : decode cX10_priceHere 36 = .ok (.iload_n 2, 1) := by decide +kernel
theorem dX10_priceHere_37 : decode cX10_priceHere 37 = .ok (.iaload, 1) := by decide +kernel
theorem dX10_priceHere_38 : decode cX10_priceHere 38 = .ok (.iadd, 1) := by decide +kernel
theorem dX10_priceHere_39 : decode cX10_priceHere 39 = .ok (.iaload, 1) := by decide +kernel
theorem dX10_priceHere_40 : decode cX10_priceHere 40 = .ok (.iadd, 1) := by decide +kernel
theorem dX10_priceHere_41 : decode cX10_priceHere 41 = .ok (.istore_n 1, 1) := by decide +kernel
theorem dX10_priceHere_42 : decode cX10_priceHere 42 = .ok (.iinc 2 1, 3) := by decide +kernel
theorem dX10_priceHere_45 : decode cX10_priceHere 45 = .ok (.goto (-28), 3) := by decide +kernel
theorem dX10_priceHere_48 : decode cX10_priceHere 48 = .ok (.iload_n 1, 1) := by decide +kernel
theorem dX10_priceHere_49 : decode cX10_priceHere 49 = .ok (.ireturn, 1) := by decide +kernel
set_option maxHeartbeats 4000000 in
set_option maxRecDepth 100000 in
theorem k_X10_priceHere (l : Launch) (D : va_G) (cy : Nat → ClassId) {L : List Nat} {τ : Nat → Ro} {E : Ec} (hI : Inv TB cy L τ E) {a0 : Nat} (ha0 : a0 ∈ L) (ta0 : τ a0 = (11, 0)) : CtI l yX10_priceHere wsX10_priceHere { frames := 0, cells := 0, slots := 0, locals := 0 } D TB cy L τ E [.ref a0] (inW []) (fun r E' => E' = E) := by
  intro sz
  refine sta (cc := cX10_priceHere) (maxL := 3) hI (by decide) rfl (Nat.le_of_ble_eq_true rfl) (fun p e s m args below meth c ls hsz Z S0 hl => ?_)
  have hx := Z.1.1
  have hb := Z.1.2.1
  have hts := Z.1.2.2.2.2
  have F0_ : Fr L τ (inW []) E E := Fr.refl
  have hl : lv_has ls 3 [(0, .ref a0)] := hl
  generalize hQ : MQ below _ args s 0 0 _ = QQ
  have J17 : ∀ (n : Nat) (x1_17 : Int32) (x2_17 : Int32) (H_17 : Heap) (k_17 : List Loc) (l_17 : Array Slot), Now D TB cy (va_A (va_pl L E) sz) s L τ E H_17 k_17 → (0 ≤ x2_17.toInt) → (x2_17.toInt ≤ 66) → (66 - x2_17.toInt).toNat < n → lv_has l_17 3 [(0, .ref a0), (1, .int x1_17), (2, .int x2_17)] → W p l e { frames := 0, cells := 0, slots := 0, locals := 0 } s m args below meth c H_17 k_17 0 0 QQ (F0 m 17 l_17 []) := by
    intro n
    induction n with
    | zero => intro x1_17 x2_17 H_17 k_17 l_17 S_17 z1 z2 hm hl_17; exact absurd hm (Nat.not_lt_zero _)
    | succ n ih =>
      intro x1_17 x2_17 H_17 k_17 l_17 S_17 z1 z2 hm hl_17
      have ih_17 := ih
      refine lv_iload_n hx hb dX10_priceHere_17 rfl (lv_at hl_17 2 rfl) ?_
      refine lv_aload_n hx hb dX10_priceHere_18 rfl (lv_at hl_17 0 rfl) ?_
      refine tr_geti Z.1 Z.2.2.2.1 S_17.1 S_17.2 ha0 ta0 rfl rfl (fun _ h => List.mem_cons_of_mem _ (List.mem_append_right _ h)) 8 (by decide) rfl (hts _ (List.mem_of_getElem? (i := 1) rfl)) dX10_priceHere_19 (fun v3 ev3 lv3 uv3 => ?_)
      refine lv_icmp_ge (tgt := 48) hx hb dX10_priceHere_22 (by decide) (fun c4 => ?_) (fun c4 => ?_)
      · skip
        have tc4 := nu_le c4
        refine lv_iload_n hx hb dX10_priceHere_48 rfl (lv_at hl_17 1 rfl) ?_
        rw [← hQ]
        exact en_i Z S_17 F0_ rfl dX10_priceHere_49
      · skip
        have tc4 := nu_nle c4
        refine lv_iload_n hx hb dX10_priceHere_25 rfl (lv_at hl_17 1 rfl) ?_
        refine lv_aload_n hx hb dX10_priceHere_26 rfl (lv_at hl_17 0 rfl) ?_
        refine tr_getr Z.1 Z.2.2.2.1 S_17.1 S_17.2 ha0 ta0 rfl rfl (fun _ h => List.mem_cons_of_mem _ (List.mem_append_right _ h)) 0 (by decide) rfl (hts _ (List.mem_of_getElem? (i := 2) rfl)) dX10_priceHere_27 (fun q5 eq5 hq5 tq5 => ?_)
        have tq5 : τ q5 = (60, 0) := tq5
        obtain ⟨v6, ev6, tv6⟩ : ∃ v : Int32, (Int8.ofInt (14)).toInt32 = v ∧ v.toInt = 14 := ⟨_, rfl, by decide +kernel⟩
        refine lv_bipush hx hb dX10_priceHere_30 ev6 ?_
        refine lv_aload_n hx hb dX10_priceHere_32 rfl (lv_at hl_17 0 rfl) ?_
        refine tr_getr Z.1 Z.2.2.2.1 S_17.1 S_17.2 ha0 ta0 rfl rfl (fun _ h => List.mem_cons_of_mem _ (List.mem_append_right _ h)) 9 (by decide) rfl (hts _ (List.mem_of_getElem? (i := 3) rfl)) dX10_priceHere_33 (fun q7 eq7 hq7 tq7 => ?_)
        have tq7 : τ q7 = (63, 0) := tq7
        refine lv_iload_n hx hb dX10_priceHere_36 rfl (lv_at hl_17 2 rfl) ?_
        refine tr_iald Z.1 Z.2.2.2.1 S_17.1 S_17.2 hq7 tq7 rfl (by omega) (by omega) dX10_priceHere_37 (fun v8 ev8 lv8 uv8 => ?_)
        refine lv_iadd hx hb dX10_priceHere_38 ?_
        refine lv_topi (fun v9 ev9 => ?_)
        have tv9 := nu_add ev9 (by omega) (by omega)
        refine tr_ialdx Z.1 Z.2.2.2.1 S_17.1 S_17.2 hq5 tq5 rfl (by omega) (by omega) dX10_priceHere_39 (fun v10 ev10 lv10 uv10 => ?_)
        have bv10 : nowB v9.toNatClampNeg = (-2147483648, 2147483647) := nb_o (by show v9.toInt.toNat < 4 ∨ (8 ≤ v9.toInt.toNat ∧ v9.toInt.toNat ≤ 18) ∨ (20 ≤ v9.toInt.toNat ∧ v9.toInt.toNat ≤ 43); omega)
        rw [bv10] at lv10 uv10
        have lv10 : -2147483648 ≤ v10.toInt := lv10
        have uv10 : v10.toInt ≤ 2147483647 := uv10
        refine lv_iadd hx hb dX10_priceHere_40 ?_
        refine lv_topi (fun v11 ev11 => ?_)
        refine lv_istore_n (lv' := [(1, .int v11), (0, .ref a0), (2, .int x2_17)]) hx hb dX10_priceHere_41 rfl hl_17 (by decide) rfl (fun l12 hl13 => ?_)
        obtain ⟨v14, ev14⟩ : ∃ y : Int32, x2_17 + Int32.ofInt (1) = y := ⟨_, rfl⟩
        have tv14 : v14.toInt = x2_17.toInt + (1) := by rw [← ev14]; exact (fb_addI (by rw [show (Int32.ofInt (1)).toInt = 1 from by decide +kernel]; omega) (by rw [show (Int32.ofInt (1)).toInt = 1 from by decide +kernel]; omega)).trans (by rw [show (Int32.ofInt (1)).toInt = 1 from by decide +kernel])
        refine lv_iinc (v := v14) (lv' := [(2, .int v14), (1, .int v11), (0, .ref a0)]) hx hb dX10_priceHere_42 hl13 (k := 2) rfl ev14 (by decide) rfl (fun l15 hl16 => ?_)
        refine lv_goto (tgt := 17) hx hb dX10_priceHere_45 (by decide) ?_
        exact ih_17 v11 v14 H_17 k_17 l15 S_17 (by have := fb_rng v11; omega) (by have := fb_rng v11; omega) (by omega) (lv_sub hl16 [2, 1, 0] rfl)
  refine lv_aload_n hx hb dX10_priceHere_0 rfl (lv_at hl 0 rfl) ?_
  refine tr_geti Z.1 Z.2.2.2.1 S0.1 S0.2 ha0 ta0 rfl rfl (fun _ h => List.mem_cons_of_mem _ (List.mem_append_right _ h)) 8 (by decide) rfl (hts _ (List.mem_of_getElem? (i := 1) rfl)) dX10_priceHere_1 (fun v17 ev17 lv17 uv17 => ?_)
  obtain ⟨v18, ev18, tv18⟩ : ∃ v : Int32, Int32.ofInt (1) = v ∧ v.toInt = 1 := ⟨_, rfl, by decide +kernel⟩
  refine lv_iconst hx hb dX10_priceHere_4 ev18 ?_
  refine lv_iadd hx hb dX10_priceHere_5 ?_
  refine lv_topi (fun v19 ev19 => ?_)
  have tv19 := nu_add ev19 (by omega) (by omega)
  refine lv_aload_n hx hb dX10_priceHere_6 rfl (lv_at hl 0 rfl) ?_
  refine tr_getr Z.1 Z.2.2.2.1 S0.1 S0.2 ha0 ta0 rfl rfl (fun _ h => List.mem_cons_of_mem _ (List.mem_append_right _ h)) 0 (by decide) rfl (hts _ (List.mem_of_getElem? (i := 2) rfl)) dX10_priceHere_7 (fun q20 eq20 hq20 tq20 => ?_)
  have tq20 : τ q20 = (60, 0) := tq20
  obtain ⟨v21, ev21, tv21⟩ : ∃ v : Int32, (Int8.ofInt (18)).toInt32 = v ∧ v.toInt = 18 := ⟨_, rfl, by decide +kernel⟩
  refine lv_bipush hx hb dX10_priceHere_10 ev21 ?_
  refine tr_ialdx Z.1 Z.2.2.2.1 S0.1 S0.2 hq20 tq20 rfl (by omega) (by omega) dX10_priceHere_12 (fun v22 ev22 lv22 uv22 => ?_)
  have bv22 : nowB v21.toNatClampNeg = (-2147483648, 2147483647) := nb_o (by show v21.toInt.toNat < 4 ∨ (8 ≤ v21.toInt.toNat ∧ v21.toInt.toNat ≤ 18) ∨ (20 ≤ v21.toInt.toNat ∧ v21.toInt.toNat ≤ 43); omega)
  rw [bv22] at lv22 uv22
  have lv22 : -2147483648 ≤ v22.toInt := lv22
  have uv22 : v22.toInt ≤ 2147483647 := uv22
  have av22 : ai E q20 18 = v22 := ai_at ev22 (by omega)
  refine lv_imul hx hb dX10_priceHere_13 ?_
  refine lv_topi (fun v23 ev23 => ?_)
  refine lv_istore_n (lv' := [(1, .int v23), (0, .ref a0)]) hx hb dX10_priceHere_14 rfl hl (by decide) rfl (fun l24 hl25 => ?_)
  obtain ⟨v26, ev26, tv26⟩ : ∃ v : Int32, Int32.ofInt (0) = v ∧ v.toInt = 0 := ⟨_, rfl, by decide +kernel⟩
  refine lv_iconst hx hb dX10_priceHere_15 ev26 ?_
  refine lv_istore_n (lv' := [(2, .int v26), (1, .int v23), (0, .ref a0)]) hx hb dX10_priceHere_16 rfl hl25 (by decide) rfl (fun l27 hl28 => ?_)
  exact J17 _ v23 v26 s.heap [] l27 S0 (by have := fb_rng v23; omega) (by have := fb_rng v23; omega) (Nat.lt_succ_self _) (lv_sub hl28 [2, 1, 0] rfl)

theorem dX10_look_0 : decode cX10_look 0 = .ok (.aload_n 0, 1) := by decide +kernel
theorem dX10_look_1 : decode cX10_look 1 = .ok (.getfield 151, 3) := by decide +kernel
theorem dX10_look_4 : decode cX10_look 4 = .ok (.aload_n 0, 1) := by decide +kernel
theorem dX10_look_5 : decode cX10_look 5 = .ok (.getfield 154, 3) := by decide +kernel
theorem dX10_look_8 : decode cX10_look 8 = .ok (.if_icmp .ge 19, 3) := by decide +kernel
theorem dX10_look_11 : decode cX10_look 11 = .ok (.aload_n 0, 1) := by decide +kernel
theorem dX10_look_12 : decode cX10_look 12 = .ok (.getfield 54, 3) := by decide +kernel
theorem dX10_look_15 : decode cX10_look 15 = .ok (.aload_n 0, 1) := by decide +kernel
theorem dX10_look_16 : decode cX10_look 16 = .ok (.getfield 151, 3) := by decide +kernel
theorem dX10_look_19 : decode cX10_look 19 = .ok (.baload, 1) := by decide +kernel
theorem dX10_look_20 : decode cX10_look 20 = .ok (.sipush 255, 3) := by decide +kernel
theorem dX10_look_23 : decode cX10_look 23 = .ok (.iand, 1) := by decide +kernel
theorem dX10_look_24 : decode cX10_look 24 = .ok (.goto 4, 3) := by decide +kernel
theorem dX10_look_27 : decode cX10_look 27 = .ok (.iconst (-1), 1) := by decide +kernel
theorem dX10_look_28 : decode cX10_look 28 = .ok (.ireturn, 1) := by decide +kernel
set_option maxHeartbeats 4000000 in
set_option maxRecDepth 100000 in
theorem k_X10_look (l : Launch) (D : va_G) (cy : Nat → ClassId) {L : List Nat} {τ : Nat → Ro} {E : Ec} (hI : Inv TB cy L τ E) {a0 : Nat} (ha0 : a0 ∈ L) (ta0 : τ a0 = (11, 0)) : CtI l yX10_look wsX10_look { frames := 0, cells := 0, slots := 0, locals := 0 } D TB cy L τ E [.ref a0] (inW []) (fun r E' => E' = E ∧ (r.toInt = -1 ∨ (fi E a0 22).toInt ≤ 119) ∧ -1 ≤ r.toInt ∧ r.toInt ≤ 255) := by
  intro sz
  refine sta (cc := cX10_look) (maxL := 1) hI (by decide) rfl (Nat.le_of_ble_eq_true rfl) (fun p e s m args below meth c ls hsz Z S0 hl => ?_)
  have hx := Z.1.1
  have hb := Z.1.2.1
  have hts := Z.1.2.2.2.2
  have F0_ : Fr L τ (inW []) E E := Fr.refl
  have hl : lv_has ls 1 [(0, .ref a0)] := hl
  generalize hQ : MQ below _ args s 0 0 _ = QQ
  refine lv_aload_n hx hb dX10_look_0 rfl (lv_at hl 0 rfl) ?_
  refine tr_geti Z.1 Z.2.2.2.1 S0.1 S0.2 ha0 ta0 rfl rfl (fun _ h => List.mem_cons_of_mem _ (List.mem_append_right _ h)) 22 (by decide) rfl (hts _ (List.mem_of_getElem? (i := 1) rfl)) dX10_look_1 (fun v1 ev1 lv1 uv1 => ?_)
  refine lv_aload_n hx hb dX10_look_4 rfl (lv_at hl 0 rfl) ?_
  refine tr_geti Z.1 Z.2.2.2.1 S0.1 S0.2 ha0 ta0 rfl rfl (fun _ h => List.mem_cons_of_mem _ (List.mem_append_right _ h)) 21 (by decide) rfl (hts _ (List.mem_of_getElem? (i := 2) rfl)) dX10_look_5 (fun v2 ev2 lv2 uv2 => ?_)
  refine lv_icmp_ge (tgt := 27) hx hb dX10_look_8 (by decide) (fun c3 => ?_) (fun c3 => ?_)
  · skip
    have tc3 := nu_le c3
    obtain ⟨v4, ev4, tv4⟩ : ∃ v : Int32, Int32.ofInt (-1) = v ∧ v.toInt = -1 := ⟨_, rfl, by decide +kernel⟩
    refine lv_iconst hx hb dX10_look_27 ev4 ?_
    rw [← hQ]
    exact en_i Z S0 F0_ ⟨rfl, (by rw [ev1]; omega), (by omega), (by omega)⟩ dX10_look_28
  · skip
    have tc3 := nu_nle c3
    refine lv_aload_n hx hb dX10_look_11 rfl (lv_at hl 0 rfl) ?_
    refine tr_getr Z.1 Z.2.2.2.1 S0.1 S0.2 ha0 ta0 rfl rfl (fun _ h => List.mem_cons_of_mem _ (List.mem_append_right _ h)) 19 (by decide) rfl (hts _ (List.mem_of_getElem? (i := 3) rfl)) dX10_look_12 (fun q5 eq5 hq5 tq5 => ?_)
    have tq5 : τ q5 = (73, 0) := tq5
    refine lv_aload_n hx hb dX10_look_15 rfl (lv_at hl 0 rfl) ?_
    refine tr_geti Z.1 Z.2.2.2.1 S0.1 S0.2 ha0 ta0 rfl rfl (fun _ h => List.mem_cons_of_mem _ (List.mem_append_right _ h)) 22 (by decide) rfl (hts _ (List.mem_of_getElem? (i := 1) rfl)) dX10_look_16 (fun v6 ev6 lv6 uv6 => ?_)
    have wv6 : v6 = v1 := ev6.symm.trans ev1
    have xv6 : v6.toInt = v1.toInt := by rw [wv6]
    refine tr_bald Z.1 Z.2.2.2.1 S0.1 S0.2 hq5 tq5 rfl (by omega) (by omega) dX10_look_19 (fun v7 ev7 lv7 uv7 => ?_)
    obtain ⟨v8, ev8, tv8⟩ : ∃ v : Int32, (Int16.ofInt (255)).toInt32 = v ∧ v.toInt = 255 := ⟨_, rfl, by decide +kernel⟩
    refine lv_sipush hx hb dX10_look_20 ev8 ?_
    refine lv_iand hx hb dX10_look_23 ?_
    refine lv_topi (fun v9 ev9 => ?_)
    have tv9 := nu_and255 ev9 (by omega)
    refine lv_goto (tgt := 28) hx hb dX10_look_24 (by decide) ?_
    rw [← hQ]
    exact en_i Z S0 F0_ ⟨rfl, (by rw [ev6]; omega), (by omega), (by omega)⟩ dX10_look_28

theorem dX10_fault_0 : decode cX10_fault 0 = .ok (.aload_n 0, 1) := by decide +kernel
theorem dX10_fault_1 : decode cX10_fault 1 = .ok (.iconst 0, 1) := by decide +kernel
theorem dX10_fault_2 : decode cX10_fault 2 = .ok (.putfield 97, 3) := by decide +kernel
theorem dX10_fault_5 : decode cX10_fault 5 = .ok (.aload_n 0, 1) := by decide +kernel
theorem dX10_fault_6 : decode cX10_fault 6 = .ok (.getfield 160, 3) := by decide +kernel
theorem dX10_fault_9 : decode cX10_fault 9 = .ok (.ireturn, 1) := by decide +kernel
set_option maxHeartbeats 4000000 in
set_option maxRecDepth 100000 in
theorem k_X10_fault (l : Launch) (D : va_G) (cy : Nat → ClassId) {L : List Nat} {τ : Nat → Ro} {E : Ec} (hI : Inv TB cy L τ E) {a0 : Nat} (ha0 : a0 ∈ L) (ta0 : τ a0 = (11, 0)) : CtI l yX10_fault wsX10_fault { frames := 0, cells := 0, slots := 0, locals := 0 } D TB cy L τ E [.ref a0] (inW [(11, 0)]) (fun r E' => (∀ k : Nat, k ∉ ([4] : List Nat) → fi E' a0 k = fi E a0 k)) := by
  intro sz
  refine sta (cc := cX10_fault) (maxL := 1) hI (by decide) rfl (Nat.le_of_ble_eq_true rfl) (fun p e s m args below meth c ls hsz Z S0 hl => ?_)
  have hx := Z.1.1
  have hb := Z.1.2.1
  have hts := Z.1.2.2.2.2
  have F0_ : Fr L τ (inW [(11, 0)]) E E := Fr.refl
  have hl : lv_has ls 1 [(0, .ref a0)] := hl
  generalize hQ : MQ below _ args s 0 0 _ = QQ
  refine lv_aload_n hx hb dX10_fault_0 rfl (lv_at hl 0 rfl) ?_
  obtain ⟨v1, ev1, tv1⟩ : ∃ v : Int32, Int32.ofInt (0) = v ∧ v.toInt = 0 := ⟨_, rfl, by decide +kernel⟩
  refine lv_iconst hx hb dX10_fault_1 ev1 ?_
  refine tr_puti Z.1 Z.2.2.2.1 S0.1 S0.2 ha0 ta0 rfl rfl (fun _ h => List.mem_cons_of_mem _ (List.mem_append_right _ h)) tyX10_ok nmX10 4 (by decide) rfl rfl rfl (hts _ (List.mem_of_getElem? (i := 1) rfl)) dX10_fault_2 (by omega) (by omega) (fun E2 H3 k4 W2 I2 P2 => ?_)
  have S2 : Now D TB cy (va_A (va_pl L E) sz) s L τ E2 H3 k4 := ⟨W2, I2⟩
  have F2 : Fr L τ (inW [(11, 0)]) E E2 := Fr.put F0_ P2 ta0 rfl
  refine lv_aload_n hx hb dX10_fault_5 rfl (lv_at hl 0 rfl) ?_
  refine tr_geti Z.1 Z.2.2.2.1 S2.1 S2.2 ha0 ta0 rfl rfl (fun _ h => List.mem_cons_of_mem _ (List.mem_append_right _ h)) 5 (by decide) rfl (hts _ (List.mem_of_getElem? (i := 2) rfl)) dX10_fault_6 (fun v5 ev5 lv5 uv5 => ?_)
  rw [← hQ]
  exact en_i Z S2 F2 (fun k hk => ((fi_put P2 (Or.inr (fw_ne (by decide) hk))).trans ((fun k hk => rfl) k hk))) dX10_fault_9

theorem dX10_trouble_0 : decode cX10_trouble 0 = .ok (.aload_n 0, 1) := by decide +kernel
theorem dX10_trouble_1 : decode cX10_trouble 1 = .ok (.iconst 0, 1) := by decide +kernel
theorem dX10_trouble_2 : decode cX10_trouble 2 = .ok (.putfield 97, 3) := by decide +kernel
theorem dX10_trouble_5 : decode cX10_trouble 5 = .ok (.aload_n 0, 1) := by decide +kernel
theorem dX10_trouble_6 : decode cX10_trouble 6 = .ok (.getfield 100, 3) := by decide +kernel
theorem dX10_trouble_9 : decode cX10_trouble 9 = .ok (.ireturn, 1) := by decide +kernel
set_option maxHeartbeats 4000000 in
set_option maxRecDepth 100000 in
theorem k_X10_trouble (l : Launch) (D : va_G) (cy : Nat → ClassId) {L : List Nat} {τ : Nat → Ro} {E : Ec} (hI : Inv TB cy L τ E) {a0 : Nat} (ha0 : a0 ∈ L) (ta0 : τ a0 = (11, 0)) : CtI l yX10_trouble wsX10_trouble { frames := 0, cells := 0, slots := 0, locals := 0 } D TB cy L τ E [.ref a0] (inW [(11, 0)]) (fun r E' => (∀ k : Nat, k ∉ ([4] : List Nat) → fi E' a0 k = fi E a0 k)) := by
  intro sz
  refine sta (cc := cX10_trouble) (maxL := 1) hI (by decide) rfl (Nat.le_of_ble_eq_true rfl) (fun p e s m args below meth c ls hsz Z S0 hl => ?_)
  have hx := Z.1.1
  have hb := Z.1.2.1
  have hts := Z.1.2.2.2.2
  have F0_ : Fr L τ (inW [(11, 0)]) E E := Fr.refl
  have hl : lv_has ls 1 [(0, .ref a0)] := hl
  generalize hQ : MQ below _ args s 0 0 _ = QQ
  refine lv_aload_n hx hb dX10_trouble_0 rfl (lv_at hl 0 rfl) ?_
  obtain ⟨v1, ev1, tv1⟩ : ∃ v : Int32, Int32.ofInt (0) = v ∧ v.toInt = 0 := ⟨_, rfl, by decide +kernel⟩
  refine lv_iconst hx hb dX10_trouble_1 ev1 ?_
  refine tr_puti Z.1 Z.2.2.2.1 S0.1 S0.2 ha0 ta0 rfl rfl (fun _ h => List.mem_cons_of_mem _ (List.mem_append_right _ h)) tyX10_ok nmX10 4 (by decide) rfl rfl rfl (hts _ (List.mem_of_getElem? (i := 1) rfl)) dX10_trouble_2 (by omega) (by omega) (fun E2 H3 k4 W2 I2 P2 => ?_)
  have S2 : Now D TB cy (va_A (va_pl L E) sz) s L τ E2 H3 k4 := ⟨W2, I2⟩
  have F2 : Fr L τ (inW [(11, 0)]) E E2 := Fr.put F0_ P2 ta0 rfl
  refine lv_aload_n hx hb dX10_trouble_5 rfl (lv_at hl 0 rfl) ?_
  refine tr_geti Z.1 Z.2.2.2.1 S2.1 S2.2 ha0 ta0 rfl rfl (fun _ h => List.mem_cons_of_mem _ (List.mem_append_right _ h)) 3 (by decide) rfl (hts _ (List.mem_of_getElem? (i := 2) rfl)) dX10_trouble_6 (fun v5 ev5 lv5 uv5 => ?_)
  rw [← hQ]
  exact en_i Z S2 F2 (fun k hk => ((fi_put P2 (Or.inr (fw_ne (by decide) hk))).trans ((fun k hk => rfl) k hk))) dX10_trouble_9

theorem dX10_where_0 : decode cX10_where 0 = .ok (.aload_n 0, 1) := by decide +kernel
theorem dX10_where_1 : decode cX10_where 1 = .ok (.iconst 0, 1) := by decide +kernel
theorem dX10_where_2 : decode cX10_where 2 = .ok (.putfield 97, 3) := by decide +kernel
theorem dX10_where_5 : decode cX10_where 5 = .ok (.aload_n 0, 1) := by decide +kernel
theorem dX10_where_6 : decode cX10_where 6 = .ok (.getfield 100, 3) := by decide +kernel
theorem dX10_where_9 : decode cX10_where 9 = .ok (.iconst 2, 1) := by decide +kernel
theorem dX10_where_10 : decode cX10_where 10 = .ok (.if_icmp .ne 10, 3) := by decide +kernel
theorem dX10_where_13 : decode cX10_where 13 = .ok (.aload_n 0, 1) := by decide +kernel
theorem dX10_where_14 : decode cX10_where 14 = .ok (.getfield 16, 3) := by decide +kernel
theorem dX10_where_17 : decode cX10_where 17 = .ok (.goto 4, 3) := by decide +kernel
theorem dX10_where_20 : decode cX10_where 20 = .ok (.iconst (-1), 1) := by decide +kernel
theorem dX10_where_21 : decode cX10_where 21 = .ok (.ireturn, 1) := by decide +kernel
set_option maxHeartbeats 4000000 in
set_option maxRecDepth 100000 in
theorem k_X10_where (l : Launch) (D : va_G) (cy : Nat → ClassId) {L : List Nat} {τ : Nat → Ro} {E : Ec} (hI : Inv TB cy L τ E) {a0 : Nat} (ha0 : a0 ∈ L) (ta0 : τ a0 = (11, 0)) : CtI l yX10_where wsX10_where { frames := 0, cells := 0, slots := 0, locals := 0 } D TB cy L τ E [.ref a0] (inW [(11, 0)]) (fun r E' => (∀ k : Nat, k ∉ ([4] : List Nat) → fi E' a0 k = fi E a0 k)) := by
  intro sz
  refine sta (cc := cX10_where) (maxL := 1) hI (by decide) rfl (Nat.le_of_ble_eq_true rfl) (fun p e s m args below meth c ls hsz Z S0 hl => ?_)
  have hx := Z.1.1
  have hb := Z.1.2.1
  have hts := Z.1.2.2.2.2
  have F0_ : Fr L τ (inW [(11, 0)]) E E := Fr.refl
  have hl : lv_has ls 1 [(0, .ref a0)] := hl
  generalize hQ : MQ below _ args s 0 0 _ = QQ
  refine lv_aload_n hx hb dX10_where_0 rfl (lv_at hl 0 rfl) ?_
  obtain ⟨v1, ev1, tv1⟩ : ∃ v : Int32, Int32.ofInt (0) = v ∧ v.toInt = 0 := ⟨_, rfl, by decide +kernel⟩
  refine lv_iconst hx hb dX10_where_1 ev1 ?_
  refine tr_puti Z.1 Z.2.2.2.1 S0.1 S0.2 ha0 ta0 rfl rfl (fun _ h => List.mem_cons_of_mem _ (List.mem_append_right _ h)) tyX10_ok nmX10 4 (by decide) rfl rfl rfl (hts _ (List.mem_of_getElem? (i := 1) rfl)) dX10_where_2 (by omega) (by omega) (fun E2 H3 k4 W2 I2 P2 => ?_)
  have S2 : Now D TB cy (va_A (va_pl L E) sz) s L τ E2 H3 k4 := ⟨W2, I2⟩
  have F2 : Fr L τ (inW [(11, 0)]) E E2 := Fr.put F0_ P2 ta0 rfl
  refine lv_aload_n hx hb dX10_where_5 rfl (lv_at hl 0 rfl) ?_
  refine tr_geti Z.1 Z.2.2.2.1 S2.1 S2.2 ha0 ta0 rfl rfl (fun _ h => List.mem_cons_of_mem _ (List.mem_append_right _ h)) 3 (by decide) rfl (hts _ (List.mem_of_getElem? (i := 2) rfl)) dX10_where_6 (fun v5 ev5 lv5 uv5 => ?_)
  obtain ⟨v6, ev6, tv6⟩ : ∃ v : Int32, Int32.ofInt (2) = v ∧ v.toInt = 2 := ⟨_, rfl, by decide +kernel⟩
  refine lv_iconst hx hb dX10_where_9 ev6 ?_
  refine lv_icmp_ne (tgt := 20) hx hb dX10_where_10 (by decide) (fun c7 => ?_) (fun c7 => ?_)
  · skip
    have tc7 := nu_ne c7
    obtain ⟨v8, ev8, tv8⟩ : ∃ v : Int32, Int32.ofInt (-1) = v ∧ v.toInt = -1 := ⟨_, rfl, by decide +kernel⟩
    refine lv_iconst hx hb dX10_where_20 ev8 ?_
    rw [← hQ]
    exact en_i Z S2 F2 (fun k hk => ((fi_put P2 (Or.inr (fw_ne (by decide) hk))).trans ((fun k hk => rfl) k hk))) dX10_where_21
  · skip
    have tc7 := nu_eq c7
    refine lv_aload_n hx hb dX10_where_13 rfl (lv_at hl 0 rfl) ?_
    refine tr_geti Z.1 Z.2.2.2.1 S2.1 S2.2 ha0 ta0 rfl rfl (fun _ h => List.mem_cons_of_mem _ (List.mem_append_right _ h)) 6 (by decide) rfl (hts _ (List.mem_of_getElem? (i := 3) rfl)) dX10_where_14 (fun v9 ev9 lv9 uv9 => ?_)
    refine lv_goto (tgt := 21) hx hb dX10_where_17 (by decide) ?_
    rw [← hQ]
    exact en_i Z S2 F2 (fun k hk => ((fi_put P2 (Or.inr (fw_ne (by decide) hk))).trans ((fun k hk => rfl) k hk))) dX10_where_21

theorem dX10_sweep_0 : decode cX10_sweep 0 = .ok (.aload_n 0, 1) := by decide +kernel
theorem dX10_sweep_1 : decode cX10_sweep 1 = .ok (.iconst 0, 1) := by decide +kernel
theorem dX10_sweep_2 : decode cX10_sweep 2 = .ok (.putfield 97, 3) := by decide +kernel
theorem dX10_sweep_5 : decode cX10_sweep 5 = .ok (.aload_n 0, 1) := by decide +kernel
theorem dX10_sweep_6 : decode cX10_sweep 6 = .ok (.getfield 141, 3) := by decide +kernel
theorem dX10_sweep_9 : decode cX10_sweep 9 = .ok (.istore_n 1, 1) := by decide +kernel
theorem dX10_sweep_10 : decode cX10_sweep 10 = .ok (.aload_n 0, 1) := by decide +kernel
theorem dX10_sweep_11 : decode cX10_sweep 11 = .ok (.iconst 0, 1) := by decide +kernel
theorem dX10_sweep_12 : decode cX10_sweep 12 = .ok (.putfield 141, 3) := by decide +kernel
theorem dX10_sweep_15 : decode cX10_sweep 15 = .ok (.iload_n 1, 1) := by decide +kernel
theorem dX10_sweep_16 : decode cX10_sweep 16 = .ok (.ireturn, 1) := by decide +kernel
set_option maxHeartbeats 4000000 in
set_option maxRecDepth 100000 in
theorem k_X10_sweep (l : Launch) (D : va_G) (cy : Nat → ClassId) {L : List Nat} {τ : Nat → Ro} {E : Ec} (hI : Inv TB cy L τ E) {a0 : Nat} (ha0 : a0 ∈ L) (ta0 : τ a0 = (11, 0)) : CtI l yX10_sweep wsX10_sweep { frames := 0, cells := 0, slots := 0, locals := 0 } D TB cy L τ E [.ref a0] (inW [(11, 0)]) (fun r E' => (r.toInt = (fi E a0 45).toInt ∧ (fi E' a0 45).toInt = 0) ∧ (∀ k : Nat, k ∉ ([4, 45] : List Nat) → fi E' a0 k = fi E a0 k)) := by
  intro sz
  refine sta (cc := cX10_sweep) (maxL := 2) hI (by decide) rfl (Nat.le_of_ble_eq_true rfl) (fun p e s m args below meth c ls hsz Z S0 hl => ?_)
  have hx := Z.1.1
  have hb := Z.1.2.1
  have hts := Z.1.2.2.2.2
  have F0_ : Fr L τ (inW [(11, 0)]) E E := Fr.refl
  have hl : lv_has ls 2 [(0, .ref a0)] := hl
  generalize hQ : MQ below _ args s 0 0 _ = QQ
  have kz_a0_45 := fi_rng (k := 45) hI ha0 ta0 rfl rfl
  refine lv_aload_n hx hb dX10_sweep_0 rfl (lv_at hl 0 rfl) ?_
  obtain ⟨v1, ev1, tv1⟩ : ∃ v : Int32, Int32.ofInt (0) = v ∧ v.toInt = 0 := ⟨_, rfl, by decide +kernel⟩
  refine lv_iconst hx hb dX10_sweep_1 ev1 ?_
  refine tr_puti Z.1 Z.2.2.2.1 S0.1 S0.2 ha0 ta0 rfl rfl (fun _ h => List.mem_cons_of_mem _ (List.mem_append_right _ h)) tyX10_ok nmX10 4 (by decide) rfl rfl rfl (hts _ (List.mem_of_getElem? (i := 1) rfl)) dX10_sweep_2 (by omega) (by omega) (fun E2 H3 k4 W2 I2 P2 => ?_)
  have S2 : Now D TB cy (va_A (va_pl L E) sz) s L τ E2 H3 k4 := ⟨W2, I2⟩
  have F2 : Fr L τ (inW [(11, 0)]) E E2 := Fr.put F0_ P2 ta0 rfl
  refine lv_aload_n hx hb dX10_sweep_5 rfl (lv_at hl 0 rfl) ?_
  refine tr_geti Z.1 Z.2.2.2.1 S2.1 S2.2 ha0 ta0 rfl rfl (fun _ h => List.mem_cons_of_mem _ (List.mem_append_right _ h)) 45 (by decide) rfl (hts _ (List.mem_of_getElem? (i := 2) rfl)) dX10_sweep_6 (fun v5 ev5 lv5 uv5 => ?_)
  have wv5 : v5 = (fi E a0 45) := ev5.symm.trans ((fi_put P2 (Or.inr (by decide))).trans rfl)
  have xv5 : v5.toInt = (fi E a0 45).toInt := by rw [wv5]
  refine lv_istore_n (lv' := [(1, .int v5), (0, .ref a0)]) hx hb dX10_sweep_9 rfl hl (by decide) rfl (fun l6 hl7 => ?_)
  refine lv_aload_n hx hb dX10_sweep_10 rfl (lv_at hl7 1 rfl) ?_
  obtain ⟨v8, ev8, tv8⟩ : ∃ v : Int32, Int32.ofInt (0) = v ∧ v.toInt = 0 := ⟨_, rfl, by decide +kernel⟩
  refine lv_iconst hx hb dX10_sweep_11 ev8 ?_
  refine tr_puti Z.1 Z.2.2.2.1 S2.1 S2.2 ha0 ta0 rfl rfl (fun _ h => List.mem_cons_of_mem _ (List.mem_append_right _ h)) tyX10_ok nmX10 45 (by decide) rfl rfl rfl (hts _ (List.mem_of_getElem? (i := 2) rfl)) dX10_sweep_12 (by omega) (by omega) (fun E9 H10 k11 W9 I9 P9 => ?_)
  have S9 : Now D TB cy (va_A (va_pl L E) sz) s L τ E9 H10 k11 := ⟨W9, I9⟩
  have F9 : Fr L τ (inW [(11, 0)]) E E9 := Fr.put F2 P9 ta0 rfl
  refine lv_iload_n hx hb dX10_sweep_15 rfl (lv_at hl7 0 rfl) ?_
  rw [← hQ]
  exact en_i Z S9 F9 ⟨(by rw [(fi_at P9)]; omega), (fun k hk => ((fi_put P9 (Or.inr (fw_ne (by decide) hk))).trans ((fi_put P2 (Or.inr (fw_ne (by decide) hk))).trans ((fun k hk => rfl) k hk))))⟩ dX10_sweep_16

set_option maxRecDepth 20000 in
theorem ggX10_piece_X10_in : GoodIn wsX10_piece wsX10_in := goodIn_r _ [8] (by decide +kernel) (by decide +kernel)
set_option maxRecDepth 20000 in
theorem gX10_piece_X10_in : GoodIn wsX10_piece (wsV RX10 123 RX10 yX10_in wsX10_in) := goodIn_app (goodIn_of _ (by decide +kernel)) ggX10_piece_X10_in
set_option maxRecDepth 20000 in
theorem ggX10_piece_X10_no : GoodIn wsX10_piece wsX10_no := goodIn_r _ [12, 13, 14, 19, 20, 21, 22, 23, 24, 25, 26, 27, 28, 29, 30, 31, 32, 33, 34, 35, 36, 37, 38, 39, 40, 41, 42, 43, 44, 45, 46, 47, 48, 49, 50, 51, 52, 53, 54, 55, 56, 57, 58, 59, 60, 61, 62, 63, 64, 65, 66] (by decide +kernel) (by decide +kernel)
set_option maxRecDepth 20000 in
theorem gX10_piece_X10_no : GoodIn wsX10_piece (wsV RX10 144 RX10 yX10_no wsX10_no) := goodIn_app (goodIn_of _ (by decide +kernel)) ggX10_piece_X10_no
set_option maxRecDepth 20000 in
theorem ggX10_piece_X10_good : GoodIn wsX10_piece wsX10_good := goodIn_r _ [18, 13, 14, 19, 20, 21, 22, 23, 24, 25, 26, 27, 28, 29, 30, 31, 32, 33, 34, 35, 36, 37, 38, 39, 40, 41, 42, 43, 44, 45, 46, 47, 48, 49, 50, 51, 52, 53, 54, 55, 56, 57, 58, 59, 60, 61, 62, 63, 64, 65, 66] (by decide +kernel) (by decide +kernel)
set_option maxRecDepth 20000 in
theorem gX10_piece_X10_good : GoodIn wsX10_piece (wsV RX10 106 RX10 yX10_good wsX10_good) := goodIn_app (goodIn_of _ (by decide +kernel)) ggX10_piece_X10_good
theorem dX10_piece_0 : decode cX10_piece 0 = .ok (.aload_n 0, 1) := by decide +kernel
theorem dX10_piece_1 : decode cX10_piece 1 = .ok (.iconst 0, 1) := by decide +kernel
theorem dX10_piece_2 : decode cX10_piece 2 = .ok (.putfield 97, 3) := by decide +kernel
theorem dX10_piece_5 : decode cX10_piece 5 = .ok (.aload_n 0, 1) := by decide +kernel
theorem dX10_piece_6 : decode cX10_piece 6 = .ok (.iload_n 1, 1) := by decide +kernel
theorem dX10_piece_7 : decode cX10_piece 7 = .ok (.iconst 1, 1) := by decide +kernel
theorem dX10_piece_8 : decode cX10_piece 8 = .ok (.sipush 10000, 3) := by decide +kernel
theorem dX10_piece_11 : decode cX10_piece 11 = .ok (.invokevirtual 123, 3) := by decide +kernel
theorem dX10_piece_14 : decode cX10_piece 14 = .ok (.ifCond .ne 9, 3) := by decide +kernel
theorem dX10_piece_17 : decode cX10_piece 17 = .ok (.aload_n 0, 1) := by decide +kernel
theorem dX10_piece_18 : decode cX10_piece 18 = .ok (.iconst 1, 1) := by decide +kernel
theorem dX10_piece_19 : decode cX10_piece 19 = .ok (.invokevirtual 144, 3) := by decide +kernel
theorem dX10_piece_22 : decode cX10_piece 22 = .ok (.ireturn, 1) := by decide +kernel
theorem dX10_piece_23 : decode cX10_piece 23 = .ok (.aload_n 0, 1) := by decide +kernel
theorem dX10_piece_24 : decode cX10_piece 24 = .ok (.getfield 141, 3) := by decide +kernel
theorem dX10_piece_27 : decode cX10_piece 27 = .ok (.bipush 12, 2) := by decide +kernel
theorem dX10_piece_29 : decode cX10_piece 29 = .ok (.if_icmp .ne 9, 3) := by decide +kernel
theorem dX10_piece_32 : decode cX10_piece 32 = .ok (.aload_n 0, 1) := by decide +kernel
theorem dX10_piece_33 : decode cX10_piece 33 = .ok (.iconst 3, 1) := by decide +kernel
theorem dX10_piece_34 : decode cX10_piece 34 = .ok (.invokevirtual 144, 3) := by decide +kernel
theorem dX10_piece_37 : decode cX10_piece 37 = .ok (.ireturn, 1) := by decide +kernel
theorem dX10_piece_38 : decode cX10_piece 38 = .ok (.aload_n 0, 1) := by decide +kernel
theorem dX10_piece_39 : decode cX10_piece 39 = .ok (.invokevirtual 106, 3) := by decide +kernel
theorem dX10_piece_42 : decode cX10_piece 42 = .ok (.aload_n 0, 1) := by decide +kernel
theorem dX10_piece_43 : decode cX10_piece 43 = .ok (.getfield 85, 3) := by decide +kernel
theorem dX10_piece_46 : decode cX10_piece 46 = .ok (.aload_n 0, 1) := by decide +kernel
theorem dX10_piece_47 : decode cX10_piece 47 = .ok (.getfield 141, 3) := by decide +kernel
theorem dX10_piece_50 : decode cX10_piece 50 = .ok (.iload_n 1, 1) := by decide +kernel
theorem dX10_piece_51 : decode cX10_piece 51 = .ok (.iastore, 1) := by decide +kernel
theorem dX10_piece_52 : decode cX10_piece 52 = .ok (.aload_n 0, 1) := by decide +kernel
theorem dX10_piece_53 : decode cX10_piece 53 = .ok (.dup, 1) := by decide +kernel
theorem dX10_piece_54 : decode cX10_piece 54 = .ok (.getfield 141, 3) := by decide +kernel
theorem dX10_piece_57 : decode cX10_piece 57 = .ok (.iconst 1, 1) := by decide +kernel
theorem dX10_piece_58 : decode cX10_piece 58 = .ok (.iadd, 1) := by decide +kernel
theorem dX10_piece_59 : decode cX10_piece 59 = .ok (.putfield 141, 3) := by decide +kernel
theorem dX10_piece_62 : decode cX10_piece 62 = .ok (.aload_n 0, 1) := by decide +kernel
theorem dX10_piece_63 : decode cX10_piece 63 = .ok (.getfield 141, 3) := by decide +kernel
theorem dX10_piece_66 : decode cX10_piece 66 = .ok (.ireturn, 1) := by decide +kernel
set_option maxHeartbeats 4000000 in
set_option maxRecDepth 100000 in
theorem k_X10_piece (l : Launch) (D : va_G) (cy : Nat → ClassId) {L : List Nat} {τ : Nat → Ro} {E : Ec} (hI : Inv TB cy L τ E) {a0 : Nat} (ha0 : a0 ∈ L) (ta0 : τ a0 = (11, 0)) (a1 : Int32) : CtI l yX10_piece wsX10_piece { frames := 1, cells := 0, slots := 0, locals := 23 } D TB cy L τ E [.ref a0, .int a1] (inW [(11, 0), (83, 0)]) (fun r E' => ((1 ≤ a1.toInt ∧ a1.toInt ≤ 10000 ∧ (fi E a0 45).toInt < 12 ∧ r.toInt = (fi E a0 45).toInt + 1 ∧ (fi E' a0 45).toInt = (fi E a0 45).toInt + 1) ∨ (r.toInt = -1 ∧ (fi E' a0 45).toInt = (fi E a0 45).toInt ∧ ¬ (1 ≤ a1.toInt ∧ a1.toInt ≤ 10000 ∧ (fi E a0 45).toInt < 12))) ∧ (∀ k : Nat, k ∉ ([3, 4, 6, 45] : List Nat) → fi E' a0 k = fi E a0 k)) := by
  intro sz
  refine sta (cc := cX10_piece) (maxL := 2) hI (by decide) rfl (Nat.le_of_ble_eq_true rfl) (fun p e s m args below meth c ls hsz Z S0 hl => ?_)
  have hx := Z.1.1
  have hb := Z.1.2.1
  have hts := Z.1.2.2.2.2
  have F0_ : Fr L τ (inW [(11, 0), (83, 0)]) E E := Fr.refl
  have hl : lv_has ls 2 [(0, .ref a0), (1, .int a1)] := hl
  generalize hQ : MQ below _ args s 0 0 _ = QQ
  have kz_a0_45 := fi_rng (k := 45) hI ha0 ta0 rfl rfl
  refine lv_aload_n hx hb dX10_piece_0 rfl (lv_at hl 0 rfl) ?_
  obtain ⟨v1, ev1, tv1⟩ : ∃ v : Int32, Int32.ofInt (0) = v ∧ v.toInt = 0 := ⟨_, rfl, by decide +kernel⟩
  refine lv_iconst hx hb dX10_piece_1 ev1 ?_
  refine tr_puti Z.1 Z.2.2.2.1 S0.1 S0.2 ha0 ta0 rfl rfl (fun _ h => List.mem_cons_of_mem _ (List.mem_append_right _ h)) tyX10_ok nmX10 4 (by decide) rfl rfl rfl (hts _ (List.mem_of_getElem? (i := 1) rfl)) dX10_piece_2 (by omega) (by omega) (fun E2 H3 k4 W2 I2 P2 => ?_)
  have S2 : Now D TB cy (va_A (va_pl L E) sz) s L τ E2 H3 k4 := ⟨W2, I2⟩
  have F2 : Fr L τ (inW [(11, 0), (83, 0)]) E E2 := Fr.put F0_ P2 ta0 rfl
  refine lv_aload_n hx hb dX10_piece_5 rfl (lv_at hl 0 rfl) ?_
  refine lv_iload_n hx hb dX10_piece_6 rfl (lv_at hl 1 rfl) ?_
  obtain ⟨v5, ev5, tv5⟩ : ∃ v : Int32, Int32.ofInt (1) = v ∧ v.toInt = 1 := ⟨_, rfl, by decide +kernel⟩
  refine lv_iconst hx hb dX10_piece_7 ev5 ?_
  obtain ⟨v6, ev6, tv6⟩ : ∃ v : Int32, (Int16.ofInt (10000)).toInt32 = v ∧ v.toInt = 10000 := ⟨_, rfl, by decide +kernel⟩
  refine lv_sipush hx hb dX10_piece_8 ev6 ?_
  refine tc_vi Z.1 Z.2.2.2.1 Z.2.2.2.2.1 Z.2.2.2.2.2 S2.1 S2.2 ha0 ta0 rfl rfl (k_X10_in l D cy S2.2 ha0 ta0 a1 v5 v6) (cwV 3 hts gX10_piece_X10_in rfl rfl rfl (by decide +kernel) ⟨Nat.le_of_ble_eq_true rfl, Nat.le_of_ble_eq_true rfl⟩) rfl hl.1 rfl (Nat.le_of_ble_eq_true rfl) dX10_piece_11 ⟨Nat.zero_le _, Nat.zero_le _⟩ (fun v10 E7 H8 k9 W7 I7 G7 p7 => ?_)
  obtain ⟨q7, p7_0, p7_1, p7_2⟩ := p7
  have q7 := q7.symm
  subst q7
  have S7 : Now D TB cy (va_A (va_pl L E) sz) s L τ E2 H8 k9 := ⟨W7, I7⟩
  refine lv_if_ne (tgt := 23) hx hb dX10_piece_14 (by decide) (fun c11 => ?_) (fun c11 => ?_)
  · skip
    have tc11 := nu_ne c11
    have uc11 : (0 : Int32).toInt = 0 := rfl
    refine lv_aload_n hx hb dX10_piece_23 rfl (lv_at hl 0 rfl) ?_
    refine tr_geti Z.1 Z.2.2.2.1 S7.1 S7.2 ha0 ta0 rfl rfl (fun _ h => List.mem_cons_of_mem _ (List.mem_append_right _ h)) 45 (by decide) rfl (hts _ (List.mem_of_getElem? (i := 2) rfl)) dX10_piece_24 (fun v12 ev12 lv12 uv12 => ?_)
    have wv12 : v12 = (fi E a0 45) := ev12.symm.trans ((fi_put P2 (Or.inr (by decide))).trans rfl)
    have xv12 : v12.toInt = (fi E a0 45).toInt := by rw [wv12]
    obtain ⟨v13, ev13, tv13⟩ : ∃ v : Int32, (Int8.ofInt (12)).toInt32 = v ∧ v.toInt = 12 := ⟨_, rfl, by decide +kernel⟩
    refine lv_bipush hx hb dX10_piece_27 ev13 ?_
    refine lv_icmp_ne (tgt := 38) hx hb dX10_piece_29 (by decide) (fun c14 => ?_) (fun c14 => ?_)
    · skip
      have tc14 := nu_ne c14
      refine lv_aload_n hx hb dX10_piece_38 rfl (lv_at hl 0 rfl) ?_
      refine tc_vv Z.1 Z.2.2.2.1 Z.2.2.2.2.1 Z.2.2.2.2.2 S7.1 S7.2 ha0 ta0 rfl rfl (k_X10_good l D cy S7.2 ha0 ta0) (cwV 0 hts gX10_piece_X10_good rfl rfl rfl (by decide +kernel) ⟨Nat.le_of_ble_eq_true rfl, Nat.le_of_ble_eq_true rfl⟩) rfl hl.1 rfl (Nat.le_of_ble_eq_true rfl) dX10_piece_39 ⟨Nat.zero_le _, Nat.zero_le _⟩ (fun E15 H16 k17 W15 I15 G15 p15 => ?_)
      have p15_0 := p15
      have S15 : Now D TB cy (va_A (va_pl L E) sz) s L τ E15 H16 k17 := ⟨W15, I15⟩
      have F15 : Fr L τ (inW [(11, 0), (83, 0)]) E E15 := F2.trans (G15.mono (inW_mono (by decide)))
      refine lv_aload_n hx hb dX10_piece_42 rfl (lv_at hl 0 rfl) ?_
      refine tr_getr Z.1 Z.2.2.2.1 S15.1 S15.2 ha0 ta0 rfl rfl (fun _ h => List.mem_cons_of_mem _ (List.mem_append_right _ h)) 42 (by decide) rfl (hts _ (List.mem_of_getElem? (i := 3) rfl)) dX10_piece_43 (fun q19 eq19 hq19 tq19 => ?_)
      have tq19 : τ q19 = (83, 0) := tq19
      refine lv_aload_n hx hb dX10_piece_46 rfl (lv_at hl 0 rfl) ?_
      refine tr_geti Z.1 Z.2.2.2.1 S15.1 S15.2 ha0 ta0 rfl rfl (fun _ h => List.mem_cons_of_mem _ (List.mem_append_right _ h)) 45 (by decide) rfl (hts _ (List.mem_of_getElem? (i := 2) rfl)) dX10_piece_47 (fun v20 ev20 lv20 uv20 => ?_)
      have wv20 : v20 = v12 := ev20.symm.trans ((p15_0 45 (by decide)).trans ev12)
      have xv20 : v20.toInt = v12.toInt := by rw [wv20]
      refine lv_iload_n hx hb dX10_piece_50 rfl (lv_at hl 1 rfl) ?_
      refine tr_iast Z.1 Z.2.2.2.1 S15.1 S15.2 hq19 tq19 rfl (by omega) (by omega) (by have := fb_rng a1; omega) (by have := fb_rng a1; omega) dX10_piece_51 (fun E21 H22 k23 W21 I21 P21 => ?_)
      have S21 : Now D TB cy (va_A (va_pl L E) sz) s L τ E21 H22 k23 := ⟨W21, I21⟩
      have F21 : Fr L τ (inW [(11, 0), (83, 0)]) E E21 := Fr.set F15 P21 tq19 rfl
      refine lv_aload_n hx hb dX10_piece_52 rfl (lv_at hl 0 rfl) ?_
      refine lv_dup hx hb dX10_piece_53 rfl ?_
      refine tr_geti Z.1 Z.2.2.2.1 S21.1 S21.2 ha0 ta0 rfl rfl (fun _ h => List.mem_cons_of_mem _ (List.mem_append_right _ h)) 45 (by decide) rfl (hts _ (List.mem_of_getElem? (i := 2) rfl)) dX10_piece_54 (fun v24 ev24 lv24 uv24 => ?_)
      have wv24 : v24 = v20 := ev24.symm.trans ((fi_set P21 (ne_ro ta0 tq19 (by decide))).trans ev20)
      have xv24 : v24.toInt = v20.toInt := by rw [wv24]
      obtain ⟨v25, ev25, tv25⟩ : ∃ v : Int32, Int32.ofInt (1) = v ∧ v.toInt = 1 := ⟨_, rfl, by decide +kernel⟩
      refine lv_iconst hx hb dX10_piece_57 ev25 ?_
      refine lv_iadd hx hb dX10_piece_58 ?_
      refine lv_topi (fun v26 ev26 => ?_)
      have tv26 := nu_add ev26 (by omega) (by omega)
      refine tr_puti Z.1 Z.2.2.2.1 S21.1 S21.2 ha0 ta0 rfl rfl (fun _ h => List.mem_cons_of_mem _ (List.mem_append_right _ h)) tyX10_ok nmX10 45 (by decide) rfl rfl rfl (hts _ (List.mem_of_getElem? (i := 2) rfl)) dX10_piece_59 (by omega) (by omega) (fun E27 H28 k29 W27 I27 P27 => ?_)
      have S27 : Now D TB cy (va_A (va_pl L E) sz) s L τ E27 H28 k29 := ⟨W27, I27⟩
      have F27 : Fr L τ (inW [(11, 0), (83, 0)]) E E27 := Fr.put F21 P27 ta0 rfl
      refine lv_aload_n hx hb dX10_piece_62 rfl (lv_at hl 0 rfl) ?_
      refine tr_geti Z.1 Z.2.2.2.1 S27.1 S27.2 ha0 ta0 rfl rfl (fun _ h => List.mem_cons_of_mem _ (List.mem_append_right _ h)) 45 (by decide) rfl (hts _ (List.mem_of_getElem? (i := 2) rfl)) dX10_piece_63 (fun v30 ev30 lv30 uv30 => ?_)
      have wv30 : v30 = v26 := ev30.symm.trans (fi_at P27)
      have xv30 : v30.toInt = v26.toInt := by rw [wv30]
      rw [← hQ]
      exact en_i Z S27 F27 ⟨(by rw [ev30]; omega), (fun k hk => ((fi_put P27 (Or.inr (fw_ne (by decide) hk))).trans ((fi_set P21 (ne_ro ta0 tq19 (by decide))).trans ((p15_0 k (fw_sub (by decide) hk)).trans ((fi_put P2 (Or.inr (fw_ne (by decide) hk))).trans ((fun k hk => rfl) k hk))))))⟩ dX10_piece_66
    · skip
      have tc14 := nu_eq c14
      refine lv_aload_n hx hb dX10_piece_32 rfl (lv_at hl 0 rfl) ?_
      obtain ⟨v31, ev31, tv31⟩ : ∃ v : Int32, Int32.ofInt (3) = v ∧ v.toInt = 3 := ⟨_, rfl, by decide +kernel⟩
      refine lv_iconst hx hb dX10_piece_33 ev31 ?_
      refine tc_vi Z.1 Z.2.2.2.1 Z.2.2.2.2.1 Z.2.2.2.2.2 S7.1 S7.2 ha0 ta0 rfl rfl (k_X10_no l D cy S7.2 ha0 ta0 v31) (cwV 1 hts gX10_piece_X10_no rfl rfl rfl (by decide +kernel) ⟨Nat.le_of_ble_eq_true rfl, Nat.le_of_ble_eq_true rfl⟩) rfl hl.1 rfl (Nat.le_of_ble_eq_true rfl) dX10_piece_34 ⟨Nat.zero_le _, Nat.zero_le _⟩ (fun v35 E32 H33 k34 W32 I32 G32 p32 => ?_)
      obtain ⟨p32_0, p32_1, p32_2⟩ := p32
      have S32 : Now D TB cy (va_A (va_pl L E) sz) s L τ E32 H33 k34 := ⟨W32, I32⟩
      have F32 : Fr L τ (inW [(11, 0), (83, 0)]) E E32 := F2.trans (G32.mono (inW_mono (by decide)))
      rw [← hQ]
      exact en_i Z S32 F32 ⟨(by rw [((p32_2 45 (by decide)).trans ev12)]; omega), (fun k hk => ((p32_2 k (fw_sub (by decide) hk)).trans ((fi_put P2 (Or.inr (fw_ne (by decide) hk))).trans ((fun k hk => rfl) k hk))))⟩ dX10_piece_37
  · skip
    have tc11 := nu_eq c11
    have uc11 : (0 : Int32).toInt = 0 := rfl
    refine lv_aload_n hx hb dX10_piece_17 rfl (lv_at hl 0 rfl) ?_
    obtain ⟨v36, ev36, tv36⟩ : ∃ v : Int32, Int32.ofInt (1) = v ∧ v.toInt = 1 := ⟨_, rfl, by decide +kernel⟩
    refine lv_iconst hx hb dX10_piece_18 ev36 ?_
    refine tc_vi Z.1 Z.2.2.2.1 Z.2.2.2.2.1 Z.2.2.2.2.2 S7.1 S7.2 ha0 ta0 rfl rfl (k_X10_no l D cy S7.2 ha0 ta0 v36) (cwV 1 hts gX10_piece_X10_no rfl rfl rfl (by decide +kernel) ⟨Nat.le_of_ble_eq_true rfl, Nat.le_of_ble_eq_true rfl⟩) rfl hl.1 rfl (Nat.le_of_ble_eq_true rfl) dX10_piece_19 ⟨Nat.zero_le _, Nat.zero_le _⟩ (fun v40 E37 H38 k39 W37 I37 G37 p37 => ?_)
    obtain ⟨p37_0, p37_1, p37_2⟩ := p37
    have S37 : Now D TB cy (va_A (va_pl L E) sz) s L τ E37 H38 k39 := ⟨W37, I37⟩
    have F37 : Fr L τ (inW [(11, 0), (83, 0)]) E E37 := F2.trans (G37.mono (inW_mono (by decide)))
    rw [← hQ]
    exact en_i Z S37 F37 ⟨(by rw [((p37_2 45 (by decide)).trans ((fi_put P2 (Or.inr (by decide))).trans rfl))]; omega), (fun k hk => ((p37_2 k (fw_sub (by decide) hk)).trans ((fi_put P2 (Or.inr (fw_ne (by decide) hk))).trans ((fun k hk => rfl) k hk))))⟩ dX10_piece_22

set_option maxRecDepth 20000 in
theorem ggX10_tried_X10_in : GoodIn wsX10_tried wsX10_in := goodIn_r _ [9] (by decide +kernel) (by decide +kernel)
set_option maxRecDepth 20000 in
theorem gX10_tried_X10_in : GoodIn wsX10_tried (wsV RX10 123 RX10 yX10_in wsX10_in) := goodIn_app (goodIn_of _ (by decide +kernel)) ggX10_tried_X10_in
theorem dX10_tried_0 : decode cX10_tried 0 = .ok (.aload_n 0, 1) := by decide +kernel
theorem dX10_tried_1 : decode cX10_tried 1 = .ok (.iconst 0, 1) := by decide +kernel
theorem dX10_tried_2 : decode cX10_tried 2 = .ok (.putfield 97, 3) := by decide +kernel
theorem dX10_tried_5 : decode cX10_tried 5 = .ok (.aload_n 0, 1) := by decide +kernel
theorem dX10_tried_6 : decode cX10_tried 6 = .ok (.getfield 254, 3) := by decide +kernel
theorem dX10_tried_9 : decode cX10_tried 9 = .ok (.ifCond .eq 43, 3) := by decide +kernel
theorem dX10_tried_12 : decode cX10_tried 12 = .ok (.aload_n 0, 1) := by decide +kernel
theorem dX10_tried_13 : decode cX10_tried 13 = .ok (.iload_n 1, 1) := by decide +kernel
theorem dX10_tried_14 : decode cX10_tried 14 = .ok (.iconst 0, 1) := by decide +kernel
theorem dX10_tried_15 : decode cX10_tried 15 = .ok (.aload_n 0, 1) := by decide +kernel
theorem dX10_tried_16 : decode cX10_tried 16 = .ok (.getfield 238, 3) := by decide +kernel
theorem dX10_tried_19 : decode cX10_tried 19 = .ok (.sipush 200, 3) := by decide +kernel
theorem dX10_tried_22 : decode cX10_tried 22 = .ok (.if_icmp .ge 10, 3) := by decide +kernel
theorem dX10_tried_25 : decode cX10_tried 25 = .ok (.aload_n 0, 1) := by decide +kernel
theorem dX10_tried_26 : decode cX10_tried 26 = .ok (.getfield 238, 3) := by decide +kernel
theorem dX10_tried_29 : decode cX10_tried 29 = .ok (.goto 6, 3) := by decide +kernel
theorem dX10_tried_32 : decode cX10_tried 32 = .ok (.sipush 200, 3) := by decide +kernel
theorem dX10_tried_35 : decode cX10_tried 35 = .ok (.iconst 1, 1) := by decide +kernel
theorem dX10_tried_36 : decode cX10_tried 36 = .ok (.isub, 1) := by decide +kernel
theorem dX10_tried_37 : decode cX10_tried 37 = .ok (.invokevirtual 123, 3) := by decide +kernel
theorem dX10_tried_40 : decode cX10_tried 40 = .ok (.ifCond .eq 12, 3) := by decide +kernel
theorem dX10_tried_43 : decode cX10_tried 43 = .ok (.aload_n 0, 1) := by decide +kernel
theorem dX10_tried_44 : decode cX10_tried 44 = .ok (.getfield 79, 3) := by decide +kernel
theorem dX10_tried_47 : decode cX10_tried 47 = .ok (.iload_n 1, 1) := by decide +kernel
theorem dX10_tried_48 : decode cX10_tried 48 = .ok (.iaload, 1) := by decide +kernel
theorem dX10_tried_49 : decode cX10_tried 49 = .ok (.goto 4, 3) := by decide +kernel
theorem dX10_tried_52 : decode cX10_tried 52 = .ok (.iconst (-1), 1) := by decide +kernel
theorem dX10_tried_53 : decode cX10_tried 53 = .ok (.ireturn, 1) := by decide +kernel
set_option maxHeartbeats 4000000 in
set_option maxRecDepth 100000 in
theorem k_X10_tried (l : Launch) (D : va_G) (cy : Nat → ClassId) {L : List Nat} {τ : Nat → Ro} {E : Ec} (hI : Inv TB cy L τ E) {a0 : Nat} (ha0 : a0 ∈ L) (ta0 : τ a0 = (11, 0)) (a1 : Int32) : CtI l yX10_tried wsX10_tried { frames := 1, cells := 0, slots := 0, locals := 23 } D TB cy L τ E [.ref a0, .int a1] (inW [(11, 0)]) (fun r E' => (∀ k : Nat, k ∉ ([4] : List Nat) → fi E' a0 k = fi E a0 k)) := by
  intro sz
  refine sta (cc := cX10_tried) (maxL := 2) hI (by decide) rfl (Nat.le_of_ble_eq_true rfl) (fun p e s m args below meth c ls hsz Z S0 hl => ?_)
  have hx := Z.1.1
  have hb := Z.1.2.1
  have hts := Z.1.2.2.2.2
  have F0_ : Fr L τ (inW [(11, 0)]) E E := Fr.refl
  have hl : lv_has ls 2 [(0, .ref a0), (1, .int a1)] := hl
  generalize hQ : MQ below _ args s 0 0 _ = QQ
  refine lv_aload_n hx hb dX10_tried_0 rfl (lv_at hl 0 rfl) ?_
  obtain ⟨v1, ev1, tv1⟩ : ∃ v : Int32, Int32.ofInt (0) = v ∧ v.toInt = 0 := ⟨_, rfl, by decide +kernel⟩
  refine lv_iconst hx hb dX10_tried_1 ev1 ?_
  refine tr_puti Z.1 Z.2.2.2.1 S0.1 S0.2 ha0 ta0 rfl rfl (fun _ h => List.mem_cons_of_mem _ (List.mem_append_right _ h)) tyX10_ok nmX10 4 (by decide) rfl rfl rfl (hts _ (List.mem_of_getElem? (i := 1) rfl)) dX10_tried_2 (by omega) (by omega) (fun E2 H3 k4 W2 I2 P2 => ?_)
  have S2 : Now D TB cy (va_A (va_pl L E) sz) s L τ E2 H3 k4 := ⟨W2, I2⟩
  have F2 : Fr L τ (inW [(11, 0)]) E E2 := Fr.put F0_ P2 ta0 rfl
  refine lv_aload_n hx hb dX10_tried_5 rfl (lv_at hl 0 rfl) ?_
  refine tr_geti Z.1 Z.2.2.2.1 S2.1 S2.2 ha0 ta0 rfl rfl (fun _ h => List.mem_cons_of_mem _ (List.mem_append_right _ h)) 40 (by decide) rfl (hts _ (List.mem_of_getElem? (i := 2) rfl)) dX10_tried_6 (fun v5 ev5 lv5 uv5 => ?_)
  refine lv_if_eq (tgt := 52) hx hb dX10_tried_9 (by decide) (fun c6 => ?_) (fun c6 => ?_)
  · skip
    have tc6 := nu_eq c6
    have uc6 : (0 : Int32).toInt = 0 := rfl
    obtain ⟨v7, ev7, tv7⟩ : ∃ v : Int32, Int32.ofInt (-1) = v ∧ v.toInt = -1 := ⟨_, rfl, by decide +kernel⟩
    refine lv_iconst hx hb dX10_tried_52 ev7 ?_
    rw [← hQ]
    exact en_i Z S2 F2 (fun k hk => ((fi_put P2 (Or.inr (fw_ne (by decide) hk))).trans ((fun k hk => rfl) k hk))) dX10_tried_53
  · skip
    have tc6 := nu_ne c6
    have uc6 : (0 : Int32).toInt = 0 := rfl
    refine lv_aload_n hx hb dX10_tried_12 rfl (lv_at hl 0 rfl) ?_
    refine lv_iload_n hx hb dX10_tried_13 rfl (lv_at hl 1 rfl) ?_
    obtain ⟨v8, ev8, tv8⟩ : ∃ v : Int32, Int32.ofInt (0) = v ∧ v.toInt = 0 := ⟨_, rfl, by decide +kernel⟩
    refine lv_iconst hx hb dX10_tried_14 ev8 ?_
    refine lv_aload_n hx hb dX10_tried_15 rfl (lv_at hl 0 rfl) ?_
    refine tr_geti Z.1 Z.2.2.2.1 S2.1 S2.2 ha0 ta0 rfl rfl (fun _ h => List.mem_cons_of_mem _ (List.mem_append_right _ h)) 35 (by decide) rfl (hts _ (List.mem_of_getElem? (i := 3) rfl)) dX10_tried_16 (fun v9 ev9 lv9 uv9 => ?_)
    obtain ⟨v10, ev10, tv10⟩ : ∃ v : Int32, (Int16.ofInt (200)).toInt32 = v ∧ v.toInt = 200 := ⟨_, rfl, by decide +kernel⟩
    refine lv_sipush hx hb dX10_tried_19 ev10 ?_
    refine lv_icmp_ge (tgt := 32) hx hb dX10_tried_22 (by decide) (fun c11 => ?_) (fun c11 => ?_)
    · skip
      have tc11 := nu_le c11
      obtain ⟨v12, ev12, tv12⟩ : ∃ v : Int32, (Int16.ofInt (200)).toInt32 = v ∧ v.toInt = 200 := ⟨_, rfl, by decide +kernel⟩
      refine lv_sipush hx hb dX10_tried_32 ev12 ?_
      obtain ⟨v13, ev13, tv13⟩ : ∃ v : Int32, Int32.ofInt (1) = v ∧ v.toInt = 1 := ⟨_, rfl, by decide +kernel⟩
      refine lv_iconst hx hb dX10_tried_35 ev13 ?_
      refine lv_isub hx hb dX10_tried_36 ?_
      refine lv_topi (fun v14 ev14 => ?_)
      have tv14 := nu_sub ev14 (by omega) (by omega)
      refine tc_vi Z.1 Z.2.2.2.1 Z.2.2.2.2.1 Z.2.2.2.2.2 S2.1 S2.2 ha0 ta0 rfl rfl (k_X10_in l D cy S2.2 ha0 ta0 a1 v8 v14) (cwV 3 hts gX10_tried_X10_in rfl rfl rfl (by decide +kernel) ⟨Nat.le_of_ble_eq_true rfl, Nat.le_of_ble_eq_true rfl⟩) rfl hl.1 rfl (Nat.le_of_ble_eq_true rfl) dX10_tried_37 ⟨Nat.zero_le _, Nat.zero_le _⟩ (fun v18 E15 H16 k17 W15 I15 G15 p15 => ?_)
      obtain ⟨q15, p15_0, p15_1, p15_2⟩ := p15
      have q15 := q15.symm
      subst q15
      have S15 : Now D TB cy (va_A (va_pl L E) sz) s L τ E2 H16 k17 := ⟨W15, I15⟩
      refine lv_if_eq (tgt := 52) hx hb dX10_tried_40 (by decide) (fun c19 => ?_) (fun c19 => ?_)
      · skip
        have tc19 := nu_eq c19
        have uc19 : (0 : Int32).toInt = 0 := rfl
        obtain ⟨v20, ev20, tv20⟩ : ∃ v : Int32, Int32.ofInt (-1) = v ∧ v.toInt = -1 := ⟨_, rfl, by decide +kernel⟩
        refine lv_iconst hx hb dX10_tried_52 ev20 ?_
        rw [← hQ]
        exact en_i Z S15 F2 (fun k hk => ((fi_put P2 (Or.inr (fw_ne (by decide) hk))).trans ((fun k hk => rfl) k hk))) dX10_tried_53
      · skip
        have tc19 := nu_ne c19
        have uc19 : (0 : Int32).toInt = 0 := rfl
        refine lv_aload_n hx hb dX10_tried_43 rfl (lv_at hl 0 rfl) ?_
        refine tr_getr Z.1 Z.2.2.2.1 S15.1 S15.2 ha0 ta0 rfl rfl (fun _ h => List.mem_cons_of_mem _ (List.mem_append_right _ h)) 33 (by decide) rfl (hts _ (List.mem_of_getElem? (i := 4) rfl)) dX10_tried_44 (fun q21 eq21 hq21 tq21 => ?_)
        have tq21 : τ q21 = (81, 0) := tq21
        refine lv_iload_n hx hb dX10_tried_47 rfl (lv_at hl 1 rfl) ?_
        refine tr_iald Z.1 Z.2.2.2.1 S15.1 S15.2 hq21 tq21 rfl (by omega) (by omega) dX10_tried_48 (fun v22 ev22 lv22 uv22 => ?_)
        refine lv_goto (tgt := 53) hx hb dX10_tried_49 (by decide) ?_
        rw [← hQ]
        exact en_i Z S15 F2 (fun k hk => ((fi_put P2 (Or.inr (fw_ne (by decide) hk))).trans ((fun k hk => rfl) k hk))) dX10_tried_53
    · skip
      have tc11 := nu_nle c11
      refine lv_aload_n hx hb dX10_tried_25 rfl (lv_at hl 0 rfl) ?_
      refine tr_geti Z.1 Z.2.2.2.1 S2.1 S2.2 ha0 ta0 rfl rfl (fun _ h => List.mem_cons_of_mem _ (List.mem_append_right _ h)) 35 (by decide) rfl (hts _ (List.mem_of_getElem? (i := 3) rfl)) dX10_tried_26 (fun v23 ev23 lv23 uv23 => ?_)
      have wv23 : v23 = v9 := ev23.symm.trans ev9
      have xv23 : v23.toInt = v9.toInt := by rw [wv23]
      refine lv_goto (tgt := 35) hx hb dX10_tried_29 (by decide) ?_
      obtain ⟨v24, ev24, tv24⟩ : ∃ v : Int32, Int32.ofInt (1) = v ∧ v.toInt = 1 := ⟨_, rfl, by decide +kernel⟩
      refine lv_iconst hx hb dX10_tried_35 ev24 ?_
      refine lv_isub hx hb dX10_tried_36 ?_
      refine lv_topi (fun v25 ev25 => ?_)
      have tv25 := nu_sub ev25 (by omega) (by omega)
      refine tc_vi Z.1 Z.2.2.2.1 Z.2.2.2.2.1 Z.2.2.2.2.2 S2.1 S2.2 ha0 ta0 rfl rfl (k_X10_in l D cy S2.2 ha0 ta0 a1 v8 v25) (cwV 3 hts gX10_tried_X10_in rfl rfl rfl (by decide +kernel) ⟨Nat.le_of_ble_eq_true rfl, Nat.le_of_ble_eq_true rfl⟩) rfl hl.1 rfl (Nat.le_of_ble_eq_true rfl) dX10_tried_37 ⟨Nat.zero_le _, Nat.zero_le _⟩ (fun v29 E26 H27 k28 W26 I26 G26 p26 => ?_)
      obtain ⟨q26, p26_0, p26_1, p26_2⟩ := p26
      have q26 := q26.symm
      subst q26
      have S26 : Now D TB cy (va_A (va_pl L E) sz) s L τ E2 H27 k28 := ⟨W26, I26⟩
      refine lv_if_eq (tgt := 52) hx hb dX10_tried_40 (by decide) (fun c30 => ?_) (fun c30 => ?_)
      · skip
        have tc30 := nu_eq c30
        have uc30 : (0 : Int32).toInt = 0 := rfl
        obtain ⟨v31, ev31, tv31⟩ : ∃ v : Int32, Int32.ofInt (-1) = v ∧ v.toInt = -1 := ⟨_, rfl, by decide +kernel⟩
        refine lv_iconst hx hb dX10_tried_52 ev31 ?_
        rw [← hQ]
        exact en_i Z S26 F2 (fun k hk => ((fi_put P2 (Or.inr (fw_ne (by decide) hk))).trans ((fun k hk => rfl) k hk))) dX10_tried_53
      · skip
        have tc30 := nu_ne c30
        have uc30 : (0 : Int32).toInt = 0 := rfl
        refine lv_aload_n hx hb dX10_tried_43 rfl (lv_at hl 0 rfl) ?_
        refine tr_getr Z.1 Z.2.2.2.1 S26.1 S26.2 ha0 ta0 rfl rfl (fun _ h => List.mem_cons_of_mem _ (List.mem_append_right _ h)) 33 (by decide) rfl (hts _ (List.mem_of_getElem? (i := 4) rfl)) dX10_tried_44 (fun q32 eq32 hq32 tq32 => ?_)
        have tq32 : τ q32 = (81, 0) := tq32
        refine lv_iload_n hx hb dX10_tried_47 rfl (lv_at hl 1 rfl) ?_
        refine tr_iald Z.1 Z.2.2.2.1 S26.1 S26.2 hq32 tq32 rfl (by omega) (by omega) dX10_tried_48 (fun v33 ev33 lv33 uv33 => ?_)
        refine lv_goto (tgt := 53) hx hb dX10_tried_49 (by decide) ?_
        rw [← hQ]
        exact en_i Z S26 F2 (fun k hk => ((fi_put P2 (Or.inr (fw_ne (by decide) hk))).trans ((fun k hk => rfl) k hk))) dX10_tried_53

theorem dX10_bestOf_0 : decode cX10_bestOf 0 = .ok (.aload_n 0, 1) := by decide +kernel
theorem dX10_bestOf_1 : decode cX10_bestOf 1 = .ok (.iconst 0, 1) := by decide +kernel
theorem dX10_bestOf_2 : decode cX10_bestOf 2 = .ok (.putfield 97, 3) := by decide +kernel
theorem dX10_bestOf_5 : decode cX10_bestOf 5 = .ok (.aload_n 0, 1) := by decide +kernel
theorem dX10_bestOf_6 : decode cX10_bestOf 6 = .ok (.getfield 254, 3) := by decide +kernel
theorem dX10_bestOf_9 : decode cX10_bestOf 9 = .ok (.ifCond .ne 5, 3) := by decide +kernel
theorem dX10_bestOf_12 : decode cX10_bestOf 12 = .ok (.iconst (-1), 1) := by decide +kernel
theorem dX10_bestOf_13 : decode cX10_bestOf 13 = .ok (.ireturn, 1) := by decide +kernel
theorem dX10_bestOf_14 : decode cX10_bestOf 14 = .ok (.iload_n 1, 1) := by decide +kernel
theorem dX10_bestOf_15 : decode cX10_bestOf 15 = .ok (.tableswitch 93 0 5 #[37, 42, 58, 58, 58, 88], 37) := by decide +kernel
theorem dX10_bestOf_52 : decode cX10_bestOf 52 = .ok (.aload_n 0, 1) := by decide +kernel
theorem dX10_bestOf_53 : decode cX10_bestOf 53 = .ok (.getfield 238, 3) := by decide +kernel
theorem dX10_bestOf_56 : decode cX10_bestOf 56 = .ok (.ireturn, 1) := by decide +kernel
theorem dX10_bestOf_57 : decode cX10_bestOf 57 = .ok (.aload_n 0, 1) := by decide +kernel
theorem dX10_bestOf_58 : decode cX10_bestOf 58 = .ok (.getfield 244, 3) := by decide +kernel
theorem dX10_bestOf_61 : decode cX10_bestOf 61 = .ok (.ifCond .eq 10, 3) := by decide +kernel
theorem dX10_bestOf_64 : decode cX10_bestOf 64 = .ok (.aload_n 0, 1) := by decide +kernel
theorem dX10_bestOf_65 : decode cX10_bestOf 65 = .ok (.getfield 251, 3) := by decide +kernel
theorem dX10_bestOf_68 : decode cX10_bestOf 68 = .ok (.goto 4, 3) := by decide +kernel
theorem dX10_bestOf_71 : decode cX10_bestOf 71 = .ok (.iconst (-1), 1) := by decide +kernel
theorem dX10_bestOf_72 : decode cX10_bestOf 72 = .ok (.ireturn, 1) := by decide +kernel
theorem dX10_bestOf_73 : decode cX10_bestOf 73 = .ok (.aload_n 0, 1) := by decide +kernel
theorem dX10_bestOf_74 : decode cX10_bestOf 74 = .ok (.getfield 244, 3) := by decide +kernel
theorem dX10_bestOf_77 : decode cX10_bestOf 77 = .ok (.ifCond .eq 24, 3) := by decide +kernel
theorem dX10_bestOf_80 : decode cX10_bestOf 80 = .ok (.iload_n 1, 1) := by decide +kernel
theorem dX10_bestOf_81 : decode cX10_bestOf 81 = .ok (.iconst 2, 1) := by decide +kernel
theorem dX10_bestOf_82 : decode cX10_bestOf 82 = .ok (.isub, 1) := by decide +kernel
theorem dX10_bestOf_83 : decode cX10_bestOf 83 = .ok (.aload_n 0, 1) := by decide +kernel
theorem dX10_bestOf_84 : decode cX10_bestOf 84 = .ok (.getfield 257, 3) := by decide +kernel
theorem dX10_bestOf_87 : decode cX10_bestOf 87 = .ok (.if_icmp .ge 14, 3) := by decide +kernel
theorem dX10_bestOf_90 : decode cX10_bestOf 90 = .ok (.aload_n 0, 1) := by decide +kernel
theorem dX10_bestOf_91 : decode cX10_bestOf 91 = .ok (.getfield 82, 3) := by decide +kernel
theorem dX10_bestOf_94 : decode cX10_bestOf 94 = .ok (.iload_n 1, 1) := by decide +kernel
theorem dX10_bestOf_95 : decode cX10_bestOf 95 = .ok (.iconst 2, 1) := by decide +kernel
theorem dX10_bestOf_96 : decode cX10_bestOf 96 = .ok (.isub, 1) := by decide +kernel
theorem dX10_bestOf_97 : decode cX10_bestOf 97 = .ok (.iaload, 1) := by decide +kernel
theorem dX10_bestOf_98 : decode cX10_bestOf 98 = .ok (.goto 4, 3) := by decide +kernel
theorem dX10_bestOf_101 : decode cX10_bestOf 101 = .ok (.iconst (-1), 1) := by decide +kernel
theorem dX10_bestOf_102 : decode cX10_bestOf 102 = .ok (.ireturn, 1) := by decide +kernel
theorem dX10_bestOf_103 : decode cX10_bestOf 103 = .ok (.aload_n 0, 1) := by decide +kernel
theorem dX10_bestOf_104 : decode cX10_bestOf 104 = .ok (.getfield 241, 3) := by decide +kernel
theorem dX10_bestOf_107 : decode cX10_bestOf 107 = .ok (.ireturn, 1) := by decide +kernel
theorem dX10_bestOf_108 : decode cX10_bestOf 108 = .ok (.iconst (-1), 1) := by decide +kernel
theorem dX10_bestOf_109 : decode cX10_bestOf 109 = .ok (.ireturn, 1) := by decide +kernel
set_option maxHeartbeats 4000000 in
set_option maxRecDepth 100000 in
theorem k_X10_bestOf (l : Launch) (D : va_G) (cy : Nat → ClassId) {L : List Nat} {τ : Nat → Ro} {E : Ec} (hI : Inv TB cy L τ E) {a0 : Nat} (ha0 : a0 ∈ L) (ta0 : τ a0 = (11, 0)) (a1 : Int32) : CtI l yX10_bestOf wsX10_bestOf { frames := 0, cells := 0, slots := 0, locals := 0 } D TB cy L τ E [.ref a0, .int a1] (inW [(11, 0)]) (fun r E' => (∀ k : Nat, k ∉ ([4] : List Nat) → fi E' a0 k = fi E a0 k)) := by
  intro sz
  refine sta (cc := cX10_bestOf) (maxL := 2) hI (by decide) rfl (Nat.le_of_ble_eq_true rfl) (fun p e s m args below meth c ls hsz Z S0 hl => ?_)
  have hx := Z.1.1
  have hb := Z.1.2.1
  have hts := Z.1.2.2.2.2
  have F0_ : Fr L τ (inW [(11, 0)]) E E := Fr.refl
  have hl : lv_has ls 2 [(0, .ref a0), (1, .int a1)] := hl
  generalize hQ : MQ below _ args s 0 0 _ = QQ
  have J73 : ∀  (E_73 : Ec) (H_73 : Heap) (k_73 : List Loc) (l_73 : Array Slot), Now D TB cy (va_A (va_pl L E) sz) s L τ E_73 H_73 k_73 → Fr L τ (inW [(11, 0)]) E E_73 → (2 ≤ a1.toInt) → (a1.toInt ≤ 4) → (∀ k : Nat, k ∉ ([4] : List Nat) → fi E_73 a0 k = fi E a0 k) → lv_has l_73 2 [(0, .ref a0), (1, .int a1)] → W p l e { frames := 0, cells := 0, slots := 0, locals := 0 } s m args below meth c H_73 k_73 0 0 QQ (F0 m 73 l_73 []) := by
    intro  E_73 H_73 k_73 l_73 S_73 F_73 z1 z2 z3 hl_73
    refine lv_aload_n hx hb dX10_bestOf_73 rfl (lv_at hl_73 0 rfl) ?_
    refine tr_geti Z.1 Z.2.2.2.1 S_73.1 S_73.2 ha0 ta0 rfl rfl (fun _ h => List.mem_cons_of_mem _ (List.mem_append_right _ h)) 41 (by decide) rfl (hts _ (List.mem_of_getElem? (i := 4) rfl)) dX10_bestOf_74 (fun v4 ev4 lv4 uv4 => ?_)
    refine lv_if_eq (tgt := 101) hx hb dX10_bestOf_77 (by decide) (fun c5 => ?_) (fun c5 => ?_)
    · skip
      have tc5 := nu_eq c5
      have uc5 : (0 : Int32).toInt = 0 := rfl
      obtain ⟨v6, ev6, tv6⟩ : ∃ v : Int32, Int32.ofInt (-1) = v ∧ v.toInt = -1 := ⟨_, rfl, by decide +kernel⟩
      refine lv_iconst hx hb dX10_bestOf_101 ev6 ?_
      rw [← hQ]
      exact en_i Z S_73 F_73 (fun k hk => (z3 k hk)) dX10_bestOf_102
    · skip
      have tc5 := nu_ne c5
      have uc5 : (0 : Int32).toInt = 0 := rfl
      refine lv_iload_n hx hb dX10_bestOf_80 rfl (lv_at hl_73 1 rfl) ?_
      obtain ⟨v7, ev7, tv7⟩ : ∃ v : Int32, Int32.ofInt (2) = v ∧ v.toInt = 2 := ⟨_, rfl, by decide +kernel⟩
      refine lv_iconst hx hb dX10_bestOf_81 ev7 ?_
      refine lv_isub hx hb dX10_bestOf_82 ?_
      refine lv_topi (fun v8 ev8 => ?_)
      have tv8 := nu_sub ev8 (by omega) (by omega)
      refine lv_aload_n hx hb dX10_bestOf_83 rfl (lv_at hl_73 0 rfl) ?_
      refine tr_geti Z.1 Z.2.2.2.1 S_73.1 S_73.2 ha0 ta0 rfl rfl (fun _ h => List.mem_cons_of_mem _ (List.mem_append_right _ h)) 38 (by decide) rfl (hts _ (List.mem_of_getElem? (i := 6) rfl)) dX10_bestOf_84 (fun v9 ev9 lv9 uv9 => ?_)
      refine lv_icmp_ge (tgt := 101) hx hb dX10_bestOf_87 (by decide) (fun c10 => ?_) (fun c10 => ?_)
      · skip
        have tc10 := nu_le c10
        obtain ⟨v11, ev11, tv11⟩ : ∃ v : Int32, Int32.ofInt (-1) = v ∧ v.toInt = -1 := ⟨_, rfl, by decide +kernel⟩
        refine lv_iconst hx hb dX10_bestOf_101 ev11 ?_
        rw [← hQ]
        exact en_i Z S_73 F_73 (fun k hk => (z3 k hk)) dX10_bestOf_102
      · skip
        have tc10 := nu_nle c10
        refine lv_aload_n hx hb dX10_bestOf_90 rfl (lv_at hl_73 0 rfl) ?_
        refine tr_getr Z.1 Z.2.2.2.1 S_73.1 S_73.2 ha0 ta0 rfl rfl (fun _ h => List.mem_cons_of_mem _ (List.mem_append_right _ h)) 34 (by decide) rfl (hts _ (List.mem_of_getElem? (i := 7) rfl)) dX10_bestOf_91 (fun q12 eq12 hq12 tq12 => ?_)
        have tq12 : τ q12 = (82, 0) := tq12
        refine lv_iload_n hx hb dX10_bestOf_94 rfl (lv_at hl_73 1 rfl) ?_
        obtain ⟨v13, ev13, tv13⟩ : ∃ v : Int32, Int32.ofInt (2) = v ∧ v.toInt = 2 := ⟨_, rfl, by decide +kernel⟩
        refine lv_iconst hx hb dX10_bestOf_95 ev13 ?_
        refine lv_isub hx hb dX10_bestOf_96 ?_
        refine lv_topi (fun v14 ev14 => ?_)
        have tv14 := nu_sub ev14 (by omega) (by omega)
        refine tr_iald Z.1 Z.2.2.2.1 S_73.1 S_73.2 hq12 tq12 rfl (by omega) (by omega) dX10_bestOf_97 (fun v15 ev15 lv15 uv15 => ?_)
        refine lv_goto (tgt := 102) hx hb dX10_bestOf_98 (by decide) ?_
        rw [← hQ]
        exact en_i Z S_73 F_73 (fun k hk => (z3 k hk)) dX10_bestOf_102
  refine lv_aload_n hx hb dX10_bestOf_0 rfl (lv_at hl 0 rfl) ?_
  obtain ⟨v16, ev16, tv16⟩ : ∃ v : Int32, Int32.ofInt (0) = v ∧ v.toInt = 0 := ⟨_, rfl, by decide +kernel⟩
  refine lv_iconst hx hb dX10_bestOf_1 ev16 ?_
  refine tr_puti Z.1 Z.2.2.2.1 S0.1 S0.2 ha0 ta0 rfl rfl (fun _ h => List.mem_cons_of_mem _ (List.mem_append_right _ h)) tyX10_ok nmX10 4 (by decide) rfl rfl rfl (hts _ (List.mem_of_getElem? (i := 1) rfl)) dX10_bestOf_2 (by omega) (by omega) (fun E17 H18 k19 W17 I17 P17 => ?_)
  have S17 : Now D TB cy (va_A (va_pl L E) sz) s L τ E17 H18 k19 := ⟨W17, I17⟩
  have F17 : Fr L τ (inW [(11, 0)]) E E17 := Fr.put F0_ P17 ta0 rfl
  refine lv_aload_n hx hb dX10_bestOf_5 rfl (lv_at hl 0 rfl) ?_
  refine tr_geti Z.1 Z.2.2.2.1 S17.1 S17.2 ha0 ta0 rfl rfl (fun _ h => List.mem_cons_of_mem _ (List.mem_append_right _ h)) 40 (by decide) rfl (hts _ (List.mem_of_getElem? (i := 2) rfl)) dX10_bestOf_6 (fun v20 ev20 lv20 uv20 => ?_)
  refine lv_if_ne (tgt := 14) hx hb dX10_bestOf_9 (by decide) (fun c21 => ?_) (fun c21 => ?_)
  · skip
    have tc21 := nu_ne c21
    have uc21 : (0 : Int32).toInt = 0 := rfl
    refine lv_iload_n hx hb dX10_bestOf_14 rfl (lv_at hl 1 rfl) ?_
    rcases (show (a1.toInt < 0 ∨ 5 < a1.toInt) ∨ a1.toInt = 0 ∨ a1.toInt = 1 ∨ a1.toInt = 2 ∨ a1.toInt = 3 ∨ a1.toInt = 4 ∨ a1.toInt = 5 from by omega) with c22 | c22 | c22 | c22 | c22 | c22 | c22
    · skip
      refine lv_tableOut (tgt := 108) hx hb dX10_bestOf_15 c22 (by decide) ?_
      obtain ⟨v23, ev23, tv23⟩ : ∃ v : Int32, Int32.ofInt (-1) = v ∧ v.toInt = -1 := ⟨_, rfl, by decide +kernel⟩
      refine lv_iconst hx hb dX10_bestOf_108 ev23 ?_
      rw [← hQ]
      exact en_i Z S17 F17 (fun k hk => ((fi_put P17 (Or.inr (fw_ne (by decide) hk))).trans ((fun k hk => rfl) k hk))) dX10_bestOf_109
    · skip
      refine lv_tableIn (tgt := 52) (off := 37) hx hb dX10_bestOf_15 (by omega) (by omega) (by rw [show (a1.toInt - 0).toNat = 0 from by omega]; rfl) (by decide) ?_
      refine lv_aload_n hx hb dX10_bestOf_52 rfl (lv_at hl 0 rfl) ?_
      refine tr_geti Z.1 Z.2.2.2.1 S17.1 S17.2 ha0 ta0 rfl rfl (fun _ h => List.mem_cons_of_mem _ (List.mem_append_right _ h)) 35 (by decide) rfl (hts _ (List.mem_of_getElem? (i := 3) rfl)) dX10_bestOf_53 (fun v24 ev24 lv24 uv24 => ?_)
      rw [← hQ]
      exact en_i Z S17 F17 (fun k hk => ((fi_put P17 (Or.inr (fw_ne (by decide) hk))).trans ((fun k hk => rfl) k hk))) dX10_bestOf_56
    · skip
      refine lv_tableIn (tgt := 57) (off := 42) hx hb dX10_bestOf_15 (by omega) (by omega) (by rw [show (a1.toInt - 0).toNat = 1 from by omega]; rfl) (by decide) ?_
      refine lv_aload_n hx hb dX10_bestOf_57 rfl (lv_at hl 0 rfl) ?_
      refine tr_geti Z.1 Z.2.2.2.1 S17.1 S17.2 ha0 ta0 rfl rfl (fun _ h => List.mem_cons_of_mem _ (List.mem_append_right _ h)) 41 (by decide) rfl (hts _ (List.mem_of_getElem? (i := 4) rfl)) dX10_bestOf_58 (fun v25 ev25 lv25 uv25 => ?_)
      refine lv_if_eq (tgt := 71) hx hb dX10_bestOf_61 (by decide) (fun c26 => ?_) (fun c26 => ?_)
      · skip
        have tc26 := nu_eq c26
        have uc26 : (0 : Int32).toInt = 0 := rfl
        obtain ⟨v27, ev27, tv27⟩ : ∃ v : Int32, Int32.ofInt (-1) = v ∧ v.toInt = -1 := ⟨_, rfl, by decide +kernel⟩
        refine lv_iconst hx hb dX10_bestOf_71 ev27 ?_
        rw [← hQ]
        exact en_i Z S17 F17 (fun k hk => ((fi_put P17 (Or.inr (fw_ne (by decide) hk))).trans ((fun k hk => rfl) k hk))) dX10_bestOf_72
      · skip
        have tc26 := nu_ne c26
        have uc26 : (0 : Int32).toInt = 0 := rfl
        refine lv_aload_n hx hb dX10_bestOf_64 rfl (lv_at hl 0 rfl) ?_
        refine tr_geti Z.1 Z.2.2.2.1 S17.1 S17.2 ha0 ta0 rfl rfl (fun _ h => List.mem_cons_of_mem _ (List.mem_append_right _ h)) 37 (by decide) rfl (hts _ (List.mem_of_getElem? (i := 5) rfl)) dX10_bestOf_65 (fun v28 ev28 lv28 uv28 => ?_)
        refine lv_goto (tgt := 72) hx hb dX10_bestOf_68 (by decide) ?_
        rw [← hQ]
        exact en_i Z S17 F17 (fun k hk => ((fi_put P17 (Or.inr (fw_ne (by decide) hk))).trans ((fun k hk => rfl) k hk))) dX10_bestOf_72
    · skip
      refine lv_tableIn (tgt := 73) (off := 58) hx hb dX10_bestOf_15 (by omega) (by omega) (by rw [show (a1.toInt - 0).toNat = 2 from by omega]; rfl) (by decide) ?_
      exact J73 E17 H18 k19 ls S17 F17 (by omega) (by omega) (fun k hk => ((fi_put P17 (Or.inr (fw_ne (by decide) hk))).trans ((fun k hk => rfl) k hk))) (lv_sub hl [0, 1] rfl)
    · skip
      refine lv_tableIn (tgt := 73) (off := 58) hx hb dX10_bestOf_15 (by omega) (by omega) (by rw [show (a1.toInt - 0).toNat = 3 from by omega]; rfl) (by decide) ?_
      exact J73 E17 H18 k19 ls S17 F17 (by omega) (by omega) (fun k hk => ((fi_put P17 (Or.inr (fw_ne (by decide) hk))).trans ((fun k hk => rfl) k hk))) (lv_sub hl [0, 1] rfl)
    · skip
      refine lv_tableIn (tgt := 73) (off := 58) hx hb dX10_bestOf_15 (by omega) (by omega) (by rw [show (a1.toInt - 0).toNat = 4 from by omega]; rfl) (by decide) ?_
      exact J73 E17 H18 k19 ls S17 F17 (by omega) (by omega) (fun k hk => ((fi_put P17 (Or.inr (fw_ne (by decide) hk))).trans ((fun k hk => rfl) k hk))) (lv_sub hl [0, 1] rfl)
    · skip
      refine lv_tableIn (tgt := 103) (off := 88) hx hb dX10_bestOf_15 (by omega) (by omega) (by rw [show (a1.toInt - 0).toNat = 5 from by omega]; rfl) (by decide) ?_
      refine lv_aload_n hx hb dX10_bestOf_103 rfl (lv_at hl 0 rfl) ?_
      refine tr_geti Z.1 Z.2.2.2.1 S17.1 S17.2 ha0 ta0 rfl rfl (fun _ h => List.mem_cons_of_mem _ (List.mem_append_right _ h)) 36 (by decide) rfl (hts _ (List.mem_of_getElem? (i := 8) rfl)) dX10_bestOf_104 (fun v29 ev29 lv29 uv29 => ?_)
      rw [← hQ]
      exact en_i Z S17 F17 (fun k hk => ((fi_put P17 (Or.inr (fw_ne (by decide) hk))).trans ((fun k hk => rfl) k hk))) dX10_bestOf_107
  · skip
    have tc21 := nu_eq c21
    have uc21 : (0 : Int32).toInt = 0 := rfl
    obtain ⟨v30, ev30, tv30⟩ : ∃ v : Int32, Int32.ofInt (-1) = v ∧ v.toInt = -1 := ⟨_, rfl, by decide +kernel⟩
    refine lv_iconst hx hb dX10_bestOf_12 ev30 ?_
    rw [← hQ]
    exact en_i Z S17 F17 (fun k hk => ((fi_put P17 (Or.inr (fw_ne (by decide) hk))).trans ((fun k hk => rfl) k hk))) dX10_bestOf_13

set_option maxRecDepth 20000 in
theorem ggX10_told_X10_in : GoodIn wsX10_told wsX10_in := goodIn_r _ [8] (by decide +kernel) (by decide +kernel)
set_option maxRecDepth 20000 in
theorem gX10_told_X10_in : GoodIn wsX10_told (wsV RX10 123 RX10 yX10_in wsX10_in) := goodIn_app (goodIn_of _ (by decide +kernel)) ggX10_told_X10_in
theorem dX10_told_0 : decode cX10_told 0 = .ok (.aload_n 0, 1) := by decide +kernel
theorem dX10_told_1 : decode cX10_told 1 = .ok (.aload_n 0, 1) := by decide +kernel
theorem dX10_told_2 : decode cX10_told 2 = .ok (.iload_n 1, 1) := by decide +kernel
theorem dX10_told_3 : decode cX10_told 3 = .ok (.iconst 0, 1) := by decide +kernel
theorem dX10_told_4 : decode cX10_told 4 = .ok (.aload_n 0, 1) := by decide +kernel
theorem dX10_told_5 : decode cX10_told 5 = .ok (.getfield 273, 3) := by decide +kernel
theorem dX10_told_8 : decode cX10_told 8 = .ok (.iconst 1, 1) := by decide +kernel
theorem dX10_told_9 : decode cX10_told 9 = .ok (.isub, 1) := by decide +kernel
theorem dX10_told_10 : decode cX10_told 10 = .ok (.invokevirtual 123, 3) := by decide +kernel
theorem dX10_told_13 : decode cX10_told 13 = .ok (.ifCond .eq 7, 3) := by decide +kernel
theorem dX10_told_16 : decode cX10_told 16 = .ok (.iconst 0, 1) := by decide +kernel
theorem dX10_told_17 : decode cX10_told 17 = .ok (.goto 4, 3) := by decide +kernel
theorem dX10_told_20 : decode cX10_told 20 = .ok (.iconst 1, 1) := by decide +kernel
theorem dX10_told_21 : decode cX10_told 21 = .ok (.putfield 97, 3) := by decide +kernel
theorem dX10_told_24 : decode cX10_told 24 = .ok (.aload_n 0, 1) := by decide +kernel
theorem dX10_told_25 : decode cX10_told 25 = .ok (.getfield 97, 3) := by decide +kernel
theorem dX10_told_28 : decode cX10_told 28 = .ok (.ifCond .ne 12, 3) := by decide +kernel
theorem dX10_told_31 : decode cX10_told 31 = .ok (.aload_n 0, 1) := by decide +kernel
theorem dX10_told_32 : decode cX10_told 32 = .ok (.getfield 94, 3) := by decide +kernel
theorem dX10_told_35 : decode cX10_told 35 = .ok (.iload_n 1, 1) := by decide +kernel
theorem dX10_told_36 : decode cX10_told 36 = .ok (.iaload, 1) := by decide +kernel
theorem dX10_told_37 : decode cX10_told 37 = .ok (.goto 4, 3) := by decide +kernel
theorem dX10_told_40 : decode cX10_told 40 = .ok (.iconst 0, 1) := by decide +kernel
theorem dX10_told_41 : decode cX10_told 41 = .ok (.ireturn, 1) := by decide +kernel
set_option maxHeartbeats 4000000 in
set_option maxRecDepth 100000 in
theorem k_X10_told (l : Launch) (D : va_G) (cy : Nat → ClassId) {L : List Nat} {τ : Nat → Ro} {E : Ec} (hI : Inv TB cy L τ E) {a0 : Nat} (ha0 : a0 ∈ L) (ta0 : τ a0 = (11, 0)) (a1 : Int32) : CtI l yX10_told wsX10_told { frames := 1, cells := 0, slots := 0, locals := 23 } D TB cy L τ E [.ref a0, .int a1] (inW [(11, 0)]) (fun r E' => (∀ k : Nat, k ∉ ([4] : List Nat) → fi E' a0 k = fi E a0 k)) := by
  intro sz
  refine sta (cc := cX10_told) (maxL := 2) hI (by decide) rfl (Nat.le_of_ble_eq_true rfl) (fun p e s m args below meth c ls hsz Z S0 hl => ?_)
  have hx := Z.1.1
  have hb := Z.1.2.1
  have hts := Z.1.2.2.2.2
  have F0_ : Fr L τ (inW [(11, 0)]) E E := Fr.refl
  have hl : lv_has ls 2 [(0, .ref a0), (1, .int a1)] := hl
  generalize hQ : MQ below _ args s 0 0 _ = QQ
  refine lv_aload_n hx hb dX10_told_0 rfl (lv_at hl 0 rfl) ?_
  refine lv_aload_n hx hb dX10_told_1 rfl (lv_at hl 0 rfl) ?_
  refine lv_iload_n hx hb dX10_told_2 rfl (lv_at hl 1 rfl) ?_
  obtain ⟨v1, ev1, tv1⟩ : ∃ v : Int32, Int32.ofInt (0) = v ∧ v.toInt = 0 := ⟨_, rfl, by decide +kernel⟩
  refine lv_iconst hx hb dX10_told_3 ev1 ?_
  refine lv_aload_n hx hb dX10_told_4 rfl (lv_at hl 0 rfl) ?_
  refine tr_geti Z.1 Z.2.2.2.1 S0.1 S0.2 ha0 ta0 rfl rfl (fun _ h => List.mem_cons_of_mem _ (List.mem_append_right _ h)) 47 (by decide) rfl (hts _ (List.mem_of_getElem? (i := 1) rfl)) dX10_told_5 (fun v2 ev2 lv2 uv2 => ?_)
  obtain ⟨v3, ev3, tv3⟩ : ∃ v : Int32, Int32.ofInt (1) = v ∧ v.toInt = 1 := ⟨_, rfl, by decide +kernel⟩
  refine lv_iconst hx hb dX10_told_8 ev3 ?_
  refine lv_isub hx hb dX10_told_9 ?_
  refine lv_topi (fun v4 ev4 => ?_)
  have tv4 := nu_sub ev4 (by omega) (by omega)
  refine tc_vi Z.1 Z.2.2.2.1 Z.2.2.2.2.1 Z.2.2.2.2.2 S0.1 S0.2 ha0 ta0 rfl rfl (k_X10_in l D cy S0.2 ha0 ta0 a1 v1 v4) (cwV 3 hts gX10_told_X10_in rfl rfl rfl (by decide +kernel) ⟨Nat.le_of_ble_eq_true rfl, Nat.le_of_ble_eq_true rfl⟩) rfl hl.1 rfl (Nat.le_of_ble_eq_true rfl) dX10_told_10 ⟨Nat.zero_le _, Nat.zero_le _⟩ (fun v8 E5 H6 k7 W5 I5 G5 p5 => ?_)
  obtain ⟨q5, p5_0, p5_1, p5_2⟩ := p5
  have q5 := q5.symm
  subst q5
  have S5 : Now D TB cy (va_A (va_pl L E) sz) s L τ E H6 k7 := ⟨W5, I5⟩
  refine lv_if_eq (tgt := 20) hx hb dX10_told_13 (by decide) (fun c9 => ?_) (fun c9 => ?_)
  · skip
    have tc9 := nu_eq c9
    have uc9 : (0 : Int32).toInt = 0 := rfl
    obtain ⟨v10, ev10, tv10⟩ : ∃ v : Int32, Int32.ofInt (1) = v ∧ v.toInt = 1 := ⟨_, rfl, by decide +kernel⟩
    refine lv_iconst hx hb dX10_told_20 ev10 ?_
    refine tr_puti Z.1 Z.2.2.2.1 S5.1 S5.2 ha0 ta0 rfl rfl (fun _ h => List.mem_cons_of_mem _ (List.mem_append_right _ h)) tyX10_ok nmX10 4 (by decide) rfl rfl rfl (hts _ (List.mem_of_getElem? (i := 2) rfl)) dX10_told_21 (by omega) (by omega) (fun E11 H12 k13 W11 I11 P11 => ?_)
    have S11 : Now D TB cy (va_A (va_pl L E) sz) s L τ E11 H12 k13 := ⟨W11, I11⟩
    have F11 : Fr L τ (inW [(11, 0)]) E E11 := Fr.put F0_ P11 ta0 rfl
    refine lv_aload_n hx hb dX10_told_24 rfl (lv_at hl 0 rfl) ?_
    refine tr_geti Z.1 Z.2.2.2.1 S11.1 S11.2 ha0 ta0 rfl rfl (fun _ h => List.mem_cons_of_mem _ (List.mem_append_right _ h)) 4 (by decide) rfl (hts _ (List.mem_of_getElem? (i := 2) rfl)) dX10_told_25 (fun v14 ev14 lv14 uv14 => ?_)
    have wv14 : v14 = v10 := ev14.symm.trans (fi_at P11)
    have xv14 : v14.toInt = v10.toInt := by rw [wv14]
    refine lv_if_ne (tgt := 40) hx hb dX10_told_28 (by decide) (fun c15 => ?_) (fun c15 => ?_)
    · skip
      have tc15 := nu_ne c15
      have uc15 : (0 : Int32).toInt = 0 := rfl
      obtain ⟨v16, ev16, tv16⟩ : ∃ v : Int32, Int32.ofInt (0) = v ∧ v.toInt = 0 := ⟨_, rfl, by decide +kernel⟩
      refine lv_iconst hx hb dX10_told_40 ev16 ?_
      rw [← hQ]
      exact en_i Z S11 F11 (fun k hk => ((fi_put P11 (Or.inr (fw_ne (by decide) hk))).trans ((fun k hk => rfl) k hk))) dX10_told_41
    · skip
      have tc15 := nu_eq c15
      have uc15 : (0 : Int32).toInt = 0 := rfl
      omega
  · skip
    have tc9 := nu_ne c9
    have uc9 : (0 : Int32).toInt = 0 := rfl
    obtain ⟨v17, ev17, tv17⟩ : ∃ v : Int32, Int32.ofInt (0) = v ∧ v.toInt = 0 := ⟨_, rfl, by decide +kernel⟩
    refine lv_iconst hx hb dX10_told_16 ev17 ?_
    refine lv_goto (tgt := 21) hx hb dX10_told_17 (by decide) ?_
    refine tr_puti Z.1 Z.2.2.2.1 S5.1 S5.2 ha0 ta0 rfl rfl (fun _ h => List.mem_cons_of_mem _ (List.mem_append_right _ h)) tyX10_ok nmX10 4 (by decide) rfl rfl rfl (hts _ (List.mem_of_getElem? (i := 2) rfl)) dX10_told_21 (by omega) (by omega) (fun E18 H19 k20 W18 I18 P18 => ?_)
    have S18 : Now D TB cy (va_A (va_pl L E) sz) s L τ E18 H19 k20 := ⟨W18, I18⟩
    have F18 : Fr L τ (inW [(11, 0)]) E E18 := Fr.put F0_ P18 ta0 rfl
    refine lv_aload_n hx hb dX10_told_24 rfl (lv_at hl 0 rfl) ?_
    refine tr_geti Z.1 Z.2.2.2.1 S18.1 S18.2 ha0 ta0 rfl rfl (fun _ h => List.mem_cons_of_mem _ (List.mem_append_right _ h)) 4 (by decide) rfl (hts _ (List.mem_of_getElem? (i := 2) rfl)) dX10_told_25 (fun v21 ev21 lv21 uv21 => ?_)
    have wv21 : v21 = v17 := ev21.symm.trans (fi_at P18)
    have xv21 : v21.toInt = v17.toInt := by rw [wv21]
    refine lv_if_ne (tgt := 40) hx hb dX10_told_28 (by decide) (fun c22 => ?_) (fun c22 => ?_)
    · skip
      have tc22 := nu_ne c22
      have uc22 : (0 : Int32).toInt = 0 := rfl
      omega
    · skip
      have tc22 := nu_eq c22
      have uc22 : (0 : Int32).toInt = 0 := rfl
      refine lv_aload_n hx hb dX10_told_31 rfl (lv_at hl 0 rfl) ?_
      refine tr_getr Z.1 Z.2.2.2.1 S18.1 S18.2 ha0 ta0 rfl rfl (fun _ h => List.mem_cons_of_mem _ (List.mem_append_right _ h)) 46 (by decide) rfl (hts _ (List.mem_of_getElem? (i := 3) rfl)) dX10_told_32 (fun q23 eq23 hq23 tq23 => ?_)
      have tq23 : τ q23 = (86, 0) := tq23
      refine lv_iload_n hx hb dX10_told_35 rfl (lv_at hl 1 rfl) ?_
      refine tr_iald Z.1 Z.2.2.2.1 S18.1 S18.2 hq23 tq23 rfl (by omega) (by omega) dX10_told_36 (fun v24 ev24 lv24 uv24 => ?_)
      refine lv_goto (tgt := 41) hx hb dX10_told_37 (by decide) ?_
      rw [← hQ]
      exact en_i Z S18 F18 (fun k hk => ((fi_put P18 (Or.inr (fw_ne (by decide) hk))).trans ((fun k hk => rfl) k hk))) dX10_told_41

set_option maxRecDepth 20000 in
theorem ggX10_alter_X10_in : GoodIn wsX10_alter wsX10_in := goodIn_r _ [8] (by decide +kernel) (by decide +kernel)
set_option maxRecDepth 20000 in
theorem gX10_alter_X10_in : GoodIn wsX10_alter (wsV RX10 123 RX10 yX10_in wsX10_in) := goodIn_app (goodIn_of _ (by decide +kernel)) ggX10_alter_X10_in
set_option maxRecDepth 20000 in
theorem ggX10_alter_X10_not : GoodIn wsX10_alter wsX10_not := goodIn_r _ [12, 13, 14, 19, 20, 21, 22, 23, 24, 25, 26, 27, 28, 29, 30, 31, 32, 33, 34, 35, 36, 37, 38, 39, 40, 41, 42, 43, 44, 45, 46, 47, 48, 49, 50, 51, 52, 53, 54, 55, 56, 57, 58, 59, 60, 61, 62, 63, 64, 65, 66] (by decide +kernel) (by decide +kernel)
set_option maxRecDepth 20000 in
theorem gX10_alter_X10_not : GoodIn wsX10_alter (wsV RX10 127 RX10 yX10_not wsX10_not) := goodIn_app (goodIn_of _ (by decide +kernel)) ggX10_alter_X10_not
set_option maxRecDepth 20000 in
theorem ggX10_alter_X10_good : GoodIn wsX10_alter wsX10_good := goodIn_r _ [18, 13, 14, 19, 20, 21, 22, 23, 24, 25, 26, 27, 28, 29, 30, 31, 32, 33, 34, 35, 36, 37, 38, 39, 40, 41, 42, 43, 44, 45, 46, 47, 48, 49, 50, 51, 52, 53, 54, 55, 56, 57, 58, 59, 60, 61, 62, 63, 64, 65, 66] (by decide +kernel) (by decide +kernel)
set_option maxRecDepth 20000 in
theorem gX10_alter_X10_good : GoodIn wsX10_alter (wsV RX10 106 RX10 yX10_good wsX10_good) := goodIn_app (goodIn_of _ (by decide +kernel)) ggX10_alter_X10_good
theorem dX10_alter_0 : decode cX10_alter 0 = .ok (.aload_n 0, 1) := by decide +kernel
theorem dX10_alter_1 : decode cX10_alter 1 = .ok (.iconst 0, 1) := by decide +kernel
theorem dX10_alter_2 : decode cX10_alter 2 = .ok (.putfield 97, 3) := by decide +kernel
theorem dX10_alter_5 : decode cX10_alter 5 = .ok (.aload_n 0, 1) := by decide +kernel
theorem dX10_alter_6 : decode cX10_alter 6 = .ok (.iload_n 1, 1) := by decide +kernel
theorem dX10_alter_7 : decode cX10_alter 7 = .ok (.iconst 0, 1) := by decide +kernel
theorem dX10_alter_8 : decode cX10_alter 8 = .ok (.aload_n 0, 1) := by decide +kernel
theorem dX10_alter_9 : decode cX10_alter 9 = .ok (.getfield 273, 3) := by decide +kernel
theorem dX10_alter_12 : decode cX10_alter 12 = .ok (.iconst 1, 1) := by decide +kernel
theorem dX10_alter_13 : decode cX10_alter 13 = .ok (.isub, 1) := by decide +kernel
theorem dX10_alter_14 : decode cX10_alter 14 = .ok (.invokevirtual 123, 3) := by decide +kernel
theorem dX10_alter_17 : decode cX10_alter 17 = .ok (.ifCond .ne 9, 3) := by decide +kernel
theorem dX10_alter_20 : decode cX10_alter 20 = .ok (.aload_n 0, 1) := by decide +kernel
theorem dX10_alter_21 : decode cX10_alter 21 = .ok (.iconst 4, 1) := by decide +kernel
theorem dX10_alter_22 : decode cX10_alter 22 = .ok (.invokevirtual 127, 3) := by decide +kernel
theorem dX10_alter_25 : decode cX10_alter 25 = .ok (.ireturn, 1) := by decide +kernel
theorem dX10_alter_26 : decode cX10_alter 26 = .ok (.aload_n 0, 1) := by decide +kernel
theorem dX10_alter_27 : decode cX10_alter 27 = .ok (.invokevirtual 106, 3) := by decide +kernel
theorem dX10_alter_30 : decode cX10_alter 30 = .ok (.aload_n 0, 1) := by decide +kernel
theorem dX10_alter_31 : decode cX10_alter 31 = .ok (.getfield 94, 3) := by decide +kernel
theorem dX10_alter_34 : decode cX10_alter 34 = .ok (.iload_n 1, 1) := by decide +kernel
theorem dX10_alter_35 : decode cX10_alter 35 = .ok (.dup2, 1) := by decide +kernel
theorem dX10_alter_36 : decode cX10_alter 36 = .ok (.iaload, 1) := by decide +kernel
theorem dX10_alter_37 : decode cX10_alter 37 = .ok (.iload_n 2, 1) := by decide +kernel
theorem dX10_alter_38 : decode cX10_alter 38 = .ok (.ixor, 1) := by decide +kernel
theorem dX10_alter_39 : decode cX10_alter 39 = .ok (.iastore, 1) := by decide +kernel
theorem dX10_alter_40 : decode cX10_alter 40 = .ok (.iconst 1, 1) := by decide +kernel
theorem dX10_alter_41 : decode cX10_alter 41 = .ok (.ireturn, 1) := by decide +kernel
set_option maxHeartbeats 4000000 in
set_option maxRecDepth 100000 in
theorem k_X10_alter (l : Launch) (D : va_G) (cy : Nat → ClassId) {L : List Nat} {τ : Nat → Ro} {E : Ec} (hI : Inv TB cy L τ E) {a0 : Nat} (ha0 : a0 ∈ L) (ta0 : τ a0 = (11, 0)) (a1 : Int32) (a2 : Int32) : CtI l yX10_alter wsX10_alter { frames := 1, cells := 0, slots := 0, locals := 23 } D TB cy L τ E [.ref a0, .int a1, .int a2] (inW [(11, 0), (86, 0)]) (fun r E' => 0 ≤ r.toInt ∧ r.toInt ≤ 1 ∧ (∀ k : Nat, k ∉ ([3, 4, 6] : List Nat) → fi E' a0 k = fi E a0 k)) := by
  intro sz
  refine sta (cc := cX10_alter) (maxL := 3) hI (by decide) rfl (Nat.le_of_ble_eq_true rfl) (fun p e s m args below meth c ls hsz Z S0 hl => ?_)
  have hx := Z.1.1
  have hb := Z.1.2.1
  have hts := Z.1.2.2.2.2
  have F0_ : Fr L τ (inW [(11, 0), (86, 0)]) E E := Fr.refl
  have hl : lv_has ls 3 [(0, .ref a0), (1, .int a1), (2, .int a2)] := hl
  generalize hQ : MQ below _ args s 0 0 _ = QQ
  refine lv_aload_n hx hb dX10_alter_0 rfl (lv_at hl 0 rfl) ?_
  obtain ⟨v1, ev1, tv1⟩ : ∃ v : Int32, Int32.ofInt (0) = v ∧ v.toInt = 0 := ⟨_, rfl, by decide +kernel⟩
  refine lv_iconst hx hb dX10_alter_1 ev1 ?_
  refine tr_puti Z.1 Z.2.2.2.1 S0.1 S0.2 ha0 ta0 rfl rfl (fun _ h => List.mem_cons_of_mem _ (List.mem_append_right _ h)) tyX10_ok nmX10 4 (by decide) rfl rfl rfl (hts _ (List.mem_of_getElem? (i := 1) rfl)) dX10_alter_2 (by omega) (by omega) (fun E2 H3 k4 W2 I2 P2 => ?_)
  have S2 : Now D TB cy (va_A (va_pl L E) sz) s L τ E2 H3 k4 := ⟨W2, I2⟩
  have F2 : Fr L τ (inW [(11, 0), (86, 0)]) E E2 := Fr.put F0_ P2 ta0 rfl
  refine lv_aload_n hx hb dX10_alter_5 rfl (lv_at hl 0 rfl) ?_
  refine lv_iload_n hx hb dX10_alter_6 rfl (lv_at hl 1 rfl) ?_
  obtain ⟨v5, ev5, tv5⟩ : ∃ v : Int32, Int32.ofInt (0) = v ∧ v.toInt = 0 := ⟨_, rfl, by decide +kernel⟩
  refine lv_iconst hx hb dX10_alter_7 ev5 ?_
  refine lv_aload_n hx hb dX10_alter_8 rfl (lv_at hl 0 rfl) ?_
  refine tr_geti Z.1 Z.2.2.2.1 S2.1 S2.2 ha0 ta0 rfl rfl (fun _ h => List.mem_cons_of_mem _ (List.mem_append_right _ h)) 47 (by decide) rfl (hts _ (List.mem_of_getElem? (i := 2) rfl)) dX10_alter_9 (fun v6 ev6 lv6 uv6 => ?_)
  obtain ⟨v7, ev7, tv7⟩ : ∃ v : Int32, Int32.ofInt (1) = v ∧ v.toInt = 1 := ⟨_, rfl, by decide +kernel⟩
  refine lv_iconst hx hb dX10_alter_12 ev7 ?_
  refine lv_isub hx hb dX10_alter_13 ?_
  refine lv_topi (fun v8 ev8 => ?_)
  have tv8 := nu_sub ev8 (by omega) (by omega)
  refine tc_vi Z.1 Z.2.2.2.1 Z.2.2.2.2.1 Z.2.2.2.2.2 S2.1 S2.2 ha0 ta0 rfl rfl (k_X10_in l D cy S2.2 ha0 ta0 a1 v5 v8) (cwV 3 hts gX10_alter_X10_in rfl rfl rfl (by decide +kernel) ⟨Nat.le_of_ble_eq_true rfl, Nat.le_of_ble_eq_true rfl⟩) rfl hl.1 rfl (Nat.le_of_ble_eq_true rfl) dX10_alter_14 ⟨Nat.zero_le _, Nat.zero_le _⟩ (fun v12 E9 H10 k11 W9 I9 G9 p9 => ?_)
  obtain ⟨q9, p9_0, p9_1, p9_2⟩ := p9
  have q9 := q9.symm
  subst q9
  have S9 : Now D TB cy (va_A (va_pl L E) sz) s L τ E2 H10 k11 := ⟨W9, I9⟩
  refine lv_if_ne (tgt := 26) hx hb dX10_alter_17 (by decide) (fun c13 => ?_) (fun c13 => ?_)
  · skip
    have tc13 := nu_ne c13
    have uc13 : (0 : Int32).toInt = 0 := rfl
    refine lv_aload_n hx hb dX10_alter_26 rfl (lv_at hl 0 rfl) ?_
    refine tc_vv Z.1 Z.2.2.2.1 Z.2.2.2.2.1 Z.2.2.2.2.2 S9.1 S9.2 ha0 ta0 rfl rfl (k_X10_good l D cy S9.2 ha0 ta0) (cwV 0 hts gX10_alter_X10_good rfl rfl rfl (by decide +kernel) ⟨Nat.le_of_ble_eq_true rfl, Nat.le_of_ble_eq_true rfl⟩) rfl hl.1 rfl (Nat.le_of_ble_eq_true rfl) dX10_alter_27 ⟨Nat.zero_le _, Nat.zero_le _⟩ (fun E14 H15 k16 W14 I14 G14 p14 => ?_)
    have p14_0 := p14
    have S14 : Now D TB cy (va_A (va_pl L E) sz) s L τ E14 H15 k16 := ⟨W14, I14⟩
    have F14 : Fr L τ (inW [(11, 0), (86, 0)]) E E14 := F2.trans (G14.mono (inW_mono (by decide)))
    refine lv_aload_n hx hb dX10_alter_30 rfl (lv_at hl 0 rfl) ?_
    refine tr_getr Z.1 Z.2.2.2.1 S14.1 S14.2 ha0 ta0 rfl rfl (fun _ h => List.mem_cons_of_mem _ (List.mem_append_right _ h)) 46 (by decide) rfl (hts _ (List.mem_of_getElem? (i := 3) rfl)) dX10_alter_31 (fun q18 eq18 hq18 tq18 => ?_)
    have tq18 : τ q18 = (86, 0) := tq18
    refine lv_iload_n hx hb dX10_alter_34 rfl (lv_at hl 1 rfl) ?_
    refine lv_dup2_11 hx hb dX10_alter_35 rfl rfl ?_
    refine tr_iald Z.1 Z.2.2.2.1 S14.1 S14.2 hq18 tq18 rfl (by omega) (by omega) dX10_alter_36 (fun v19 ev19 lv19 uv19 => ?_)
    refine lv_iload_n hx hb dX10_alter_37 rfl (lv_at hl 2 rfl) ?_
    refine lv_ixor hx hb dX10_alter_38 ?_
    refine lv_topi (fun v20 ev20 => ?_)
    refine tr_iast Z.1 Z.2.2.2.1 S14.1 S14.2 hq18 tq18 rfl (by omega) (by omega) (by have := fb_rng v20; omega) (by have := fb_rng v20; omega) dX10_alter_39 (fun E21 H22 k23 W21 I21 P21 => ?_)
    have S21 : Now D TB cy (va_A (va_pl L E) sz) s L τ E21 H22 k23 := ⟨W21, I21⟩
    have F21 : Fr L τ (inW [(11, 0), (86, 0)]) E E21 := Fr.set F14 P21 tq18 rfl
    obtain ⟨v24, ev24, tv24⟩ : ∃ v : Int32, Int32.ofInt (1) = v ∧ v.toInt = 1 := ⟨_, rfl, by decide +kernel⟩
    refine lv_iconst hx hb dX10_alter_40 ev24 ?_
    rw [← hQ]
    exact en_z Z S21 F21 (zo v24 (by omega)) ⟨(by omega), (by omega), (fun k hk => ((fi_set P21 (ne_ro ta0 tq18 (by decide))).trans ((p14_0 k (fw_sub (by decide) hk)).trans ((fi_put P2 (Or.inr (fw_ne (by decide) hk))).trans ((fun k hk => rfl) k hk)))))⟩ dX10_alter_41
  · skip
    have tc13 := nu_eq c13
    have uc13 : (0 : Int32).toInt = 0 := rfl
    refine lv_aload_n hx hb dX10_alter_20 rfl (lv_at hl 0 rfl) ?_
    obtain ⟨v25, ev25, tv25⟩ : ∃ v : Int32, Int32.ofInt (4) = v ∧ v.toInt = 4 := ⟨_, rfl, by decide +kernel⟩
    refine lv_iconst hx hb dX10_alter_21 ev25 ?_
    refine tc_vi Z.1 Z.2.2.2.1 Z.2.2.2.2.1 Z.2.2.2.2.2 S9.1 S9.2 ha0 ta0 rfl rfl (k_X10_not l D cy S9.2 ha0 ta0 v25) (cwV 1 hts gX10_alter_X10_not rfl rfl rfl (by decide +kernel) ⟨Nat.le_of_ble_eq_true rfl, Nat.le_of_ble_eq_true rfl⟩) rfl hl.1 rfl (Nat.le_of_ble_eq_true rfl) dX10_alter_22 ⟨Nat.zero_le _, Nat.zero_le _⟩ (fun v29 E26 H27 k28 W26 I26 G26 p26 => ?_)
    obtain ⟨p26_0, p26_1, p26_2⟩ := p26
    have S26 : Now D TB cy (va_A (va_pl L E) sz) s L τ E26 H27 k28 := ⟨W26, I26⟩
    have F26 : Fr L τ (inW [(11, 0), (86, 0)]) E E26 := F2.trans (G26.mono (inW_mono (by decide)))
    rw [← hQ]
    exact en_z Z S26 F26 (zo v29 (by omega)) ⟨(by omega), (by omega), (fun k hk => ((p26_2 k (fw_sub (by decide) hk)).trans ((fi_put P2 (Or.inr (fw_ne (by decide) hk))).trans ((fun k hk => rfl) k hk))))⟩ dX10_alter_25

theorem dX10_numberOf_0 : decode cX10_numberOf 0 = .ok (.iload_n 1, 1) := by decide +kernel
theorem dX10_numberOf_1 : decode cX10_numberOf 1 = .ok (.iconst 4, 1) := by decide +kernel
theorem dX10_numberOf_2 : decode cX10_numberOf 2 = .ok (.idiv, 1) := by decide +kernel
theorem dX10_numberOf_3 : decode cX10_numberOf 3 = .ok (.istore_n 2, 1) := by decide +kernel
theorem dX10_numberOf_4 : decode cX10_numberOf 4 = .ok (.iload_n 1, 1) := by decide +kernel
theorem dX10_numberOf_5 : decode cX10_numberOf 5 = .ok (.iconst 4, 1) := by decide +kernel
theorem dX10_numberOf_6 : decode cX10_numberOf 6 = .ok (.irem, 1) := by decide +kernel
theorem dX10_numberOf_7 : decode cX10_numberOf 7 = .ok (.istore_n 3, 1) := by decide +kernel
theorem dX10_numberOf_8 : decode cX10_numberOf 8 = .ok (.iload_n 3, 1) := by decide +kernel
theorem dX10_numberOf_9 : decode cX10_numberOf 9 = .ok (.ifCond .ne 12, 3) := by decide +kernel
theorem dX10_numberOf_12 : decode cX10_numberOf 12 = .ok (.aload_n 0, 1) := by decide +kernel
theorem dX10_numberOf_13 : decode cX10_numberOf 13 = .ok (.getfield 23, 3) := by decide +kernel
theorem dX10_numberOf_16 : decode cX10_numberOf 16 = .ok (.iload_n 2, 1) := by decide +kernel
theorem dX10_numberOf_17 : decode cX10_numberOf 17 = .ok (.iaload, 1) := by decide +kernel
theorem dX10_numberOf_18 : decode cX10_numberOf 18 = .ok (.goto 37, 3) := by decide +kernel
theorem dX10_numberOf_21 : decode cX10_numberOf 21 = .ok (.iload_n 3, 1) := by decide +kernel
theorem dX10_numberOf_22 : decode cX10_numberOf 22 = .ok (.iconst 1, 1) := by decide +kernel
theorem dX10_numberOf_23 : decode cX10_numberOf 23 = .ok (.if_icmp .ne 12, 3) := by decide +kernel
theorem dX10_numberOf_26 : decode cX10_numberOf 26 = .ok (.aload_n 0, 1) := by decide +kernel
theorem dX10_numberOf_27 : decode cX10_numberOf 27 = .ok (.getfield 26, 3) := by decide +kernel
theorem dX10_numberOf_30 : decode cX10_numberOf 30 = .ok (.iload_n 2, 1) := by decide +kernel
theorem dX10_numberOf_31 : decode cX10_numberOf 31 = .ok (.iaload, 1) := by decide +kernel
theorem dX10_numberOf_32 : decode cX10_numberOf 32 = .ok (.goto 23, 3) := by decide +kernel
theorem dX10_numberOf_35 : decode cX10_numberOf 35 = .ok (.iload_n 3, 1) := by decide +kernel
theorem dX10_numberOf_36 : decode cX10_numberOf 36 = .ok (.iconst 2, 1) := by decide +kernel
theorem dX10_numberOf_37 : decode cX10_numberOf 37 = .ok (.if_icmp .ne 12, 3) := by decide +kernel
theorem dX10_numberOf_40 : decode cX10_numberOf 40 = .ok (.aload_n 0, 1) := by decide +kernel
theorem dX10_numberOf_41 : decode cX10_numberOf 41 = .ok (.getfield 32, 3) := by decide +kernel
theorem dX10_numberOf_44 : decode cX10_numberOf 44 = .ok (.iload_n 2, 1) := by decide +kernel
theorem dX10_numberOf_45 : decode cX10_numberOf 45 = .ok (.iaload, 1) := by decide +kernel
theorem dX10_numberOf_46 : decode cX10_numberOf 46 = .ok (.goto 9, 3) := by decide +kernel
theorem dX10_numberOf_49 : decode cX10_numberOf 49 = .ok (.aload_n 0, 1) := by decide +kernel
theorem dX10_numberOf_50 : decode cX10_numberOf 50 = .ok (.getfield 35, 3) := by decide +kernel
theorem dX10_numberOf_53 : decode cX10_numberOf 53 = .ok (.iload_n 2, 1) := by decide +kernel
theorem dX10_numberOf_54 : decode cX10_numberOf 54 = .ok (.iaload, 1) := by decide +kernel
theorem dX10_numberOf_55 : decode cX10_numberOf 55 = .ok (.ireturn, 1) := by decide +kernel
set_option maxHeartbeats 4000000 in
set_option maxRecDepth 100000 in
theorem k_X10_numberOf (l : Launch) (D : va_G) (cy : Nat → ClassId) {L : List Nat} {τ : Nat → Ro} {E : Ec} (hI : Inv TB cy L τ E) {a0 : Nat} (ha0 : a0 ∈ L) (ta0 : τ a0 = (11, 0)) (a1 : Int32) (la1 : 0 ≤ a1.toInt) (ua1 : a1.toInt ≤ 263) : CtI l yX10_numberOf wsX10_numberOf { frames := 0, cells := 0, slots := 0, locals := 0 } D TB cy L τ E [.ref a0, .int a1] (inW []) (fun r E' => E' = E) := by
  intro sz
  refine sta (cc := cX10_numberOf) (maxL := 4) hI (by decide) rfl (Nat.le_of_ble_eq_true rfl) (fun p e s m args below meth c ls hsz Z S0 hl => ?_)
  have hx := Z.1.1
  have hb := Z.1.2.1
  have hts := Z.1.2.2.2.2
  have F0_ : Fr L τ (inW []) E E := Fr.refl
  have hl : lv_has ls 4 [(0, .ref a0), (1, .int a1)] := hl
  generalize hQ : MQ below _ args s 0 0 _ = QQ
  refine lv_iload_n hx hb dX10_numberOf_0 rfl (lv_at hl 1 rfl) ?_
  obtain ⟨v1, ev1, tv1⟩ : ∃ v : Int32, Int32.ofInt (4) = v ∧ v.toInt = 4 := ⟨_, rfl, by decide +kernel⟩
  refine lv_iconst hx hb dX10_numberOf_1 ev1 ?_
  refine lv_idiv hx hb dX10_numberOf_2 (fun q => by have := nu_eq0 q; omega) ?_
  refine lv_topi (fun v2 ev2 => ?_)
  have tv2 := nu_divc (4) ev2 (by omega) (by omega) (by omega)
  refine lv_istore_n (lv' := [(2, .int v2), (0, .ref a0), (1, .int a1)]) hx hb dX10_numberOf_3 rfl hl (by decide) rfl (fun l3 hl4 => ?_)
  refine lv_iload_n hx hb dX10_numberOf_4 rfl (lv_at hl4 2 rfl) ?_
  obtain ⟨v5, ev5, tv5⟩ : ∃ v : Int32, Int32.ofInt (4) = v ∧ v.toInt = 4 := ⟨_, rfl, by decide +kernel⟩
  refine lv_iconst hx hb dX10_numberOf_5 ev5 ?_
  refine lv_irem hx hb dX10_numberOf_6 (fun q => by have := nu_eq0 q; omega) ?_
  refine lv_topi (fun v6 ev6 => ?_)
  have tv6 := nu_remc (4) ev6 (by omega) (by omega) (by omega)
  refine lv_istore_n (lv' := [(3, .int v6), (2, .int v2), (0, .ref a0), (1, .int a1)]) hx hb dX10_numberOf_7 rfl hl4 (by decide) rfl (fun l7 hl8 => ?_)
  refine lv_iload_n hx hb dX10_numberOf_8 rfl (lv_at hl8 0 rfl) ?_
  refine lv_if_ne (tgt := 21) hx hb dX10_numberOf_9 (by decide) (fun c9 => ?_) (fun c9 => ?_)
  · skip
    have tc9 := nu_ne c9
    have uc9 : (0 : Int32).toInt = 0 := rfl
    refine lv_iload_n hx hb dX10_numberOf_21 rfl (lv_at hl8 0 rfl) ?_
    obtain ⟨v10, ev10, tv10⟩ : ∃ v : Int32, Int32.ofInt (1) = v ∧ v.toInt = 1 := ⟨_, rfl, by decide +kernel⟩
    refine lv_iconst hx hb dX10_numberOf_22 ev10 ?_
    refine lv_icmp_ne (tgt := 35) hx hb dX10_numberOf_23 (by decide) (fun c11 => ?_) (fun c11 => ?_)
    · skip
      have tc11 := nu_ne c11
      refine lv_iload_n hx hb dX10_numberOf_35 rfl (lv_at hl8 0 rfl) ?_
      obtain ⟨v12, ev12, tv12⟩ : ∃ v : Int32, Int32.ofInt (2) = v ∧ v.toInt = 2 := ⟨_, rfl, by decide +kernel⟩
      refine lv_iconst hx hb dX10_numberOf_36 ev12 ?_
      refine lv_icmp_ne (tgt := 49) hx hb dX10_numberOf_37 (by decide) (fun c13 => ?_) (fun c13 => ?_)
      · skip
        have tc13 := nu_ne c13
        refine lv_aload_n hx hb dX10_numberOf_49 rfl (lv_at hl8 2 rfl) ?_
        refine tr_getr Z.1 Z.2.2.2.1 S0.1 S0.2 ha0 ta0 rfl rfl (fun _ h => List.mem_cons_of_mem _ (List.mem_append_right _ h)) 13 (by decide) rfl (hts _ (List.mem_of_getElem? (i := 4) rfl)) dX10_numberOf_50 (fun q14 eq14 hq14 tq14 => ?_)
        have tq14 : τ q14 = (67, 0) := tq14
        refine lv_iload_n hx hb dX10_numberOf_53 rfl (lv_at hl8 1 rfl) ?_
        refine tr_iald Z.1 Z.2.2.2.1 S0.1 S0.2 hq14 tq14 rfl (by omega) (by omega) dX10_numberOf_54 (fun v15 ev15 lv15 uv15 => ?_)
        rw [← hQ]
        exact en_i Z S0 F0_ rfl dX10_numberOf_55
      · skip
        have tc13 := nu_eq c13
        refine lv_aload_n hx hb dX10_numberOf_40 rfl (lv_at hl8 2 rfl) ?_
        refine tr_getr Z.1 Z.2.2.2.1 S0.1 S0.2 ha0 ta0 rfl rfl (fun _ h => List.mem_cons_of_mem _ (List.mem_append_right _ h)) 12 (by decide) rfl (hts _ (List.mem_of_getElem? (i := 3) rfl)) dX10_numberOf_41 (fun q16 eq16 hq16 tq16 => ?_)
        have tq16 : τ q16 = (66, 0) := tq16
        refine lv_iload_n hx hb dX10_numberOf_44 rfl (lv_at hl8 1 rfl) ?_
        refine tr_iald Z.1 Z.2.2.2.1 S0.1 S0.2 hq16 tq16 rfl (by omega) (by omega) dX10_numberOf_45 (fun v17 ev17 lv17 uv17 => ?_)
        refine lv_goto (tgt := 55) hx hb dX10_numberOf_46 (by decide) ?_
        rw [← hQ]
        exact en_i Z S0 F0_ rfl dX10_numberOf_55
    · skip
      have tc11 := nu_eq c11
      refine lv_aload_n hx hb dX10_numberOf_26 rfl (lv_at hl8 2 rfl) ?_
      refine tr_getr Z.1 Z.2.2.2.1 S0.1 S0.2 ha0 ta0 rfl rfl (fun _ h => List.mem_cons_of_mem _ (List.mem_append_right _ h)) 10 (by decide) rfl (hts _ (List.mem_of_getElem? (i := 2) rfl)) dX10_numberOf_27 (fun q18 eq18 hq18 tq18 => ?_)
      have tq18 : τ q18 = (64, 0) := tq18
      refine lv_iload_n hx hb dX10_numberOf_30 rfl (lv_at hl8 1 rfl) ?_
      refine tr_iald Z.1 Z.2.2.2.1 S0.1 S0.2 hq18 tq18 rfl (by omega) (by omega) dX10_numberOf_31 (fun v19 ev19 lv19 uv19 => ?_)
      refine lv_goto (tgt := 55) hx hb dX10_numberOf_32 (by decide) ?_
      rw [← hQ]
      exact en_i Z S0 F0_ rfl dX10_numberOf_55
  · skip
    have tc9 := nu_eq c9
    have uc9 : (0 : Int32).toInt = 0 := rfl
    refine lv_aload_n hx hb dX10_numberOf_12 rfl (lv_at hl8 2 rfl) ?_
    refine tr_getr Z.1 Z.2.2.2.1 S0.1 S0.2 ha0 ta0 rfl rfl (fun _ h => List.mem_cons_of_mem _ (List.mem_append_right _ h)) 9 (by decide) rfl (hts _ (List.mem_of_getElem? (i := 1) rfl)) dX10_numberOf_13 (fun q20 eq20 hq20 tq20 => ?_)
    have tq20 : τ q20 = (63, 0) := tq20
    refine lv_iload_n hx hb dX10_numberOf_16 rfl (lv_at hl8 1 rfl) ?_
    refine tr_iald Z.1 Z.2.2.2.1 S0.1 S0.2 hq20 tq20 rfl (by omega) (by omega) dX10_numberOf_17 (fun v21 ev21 lv21 uv21 => ?_)
    refine lv_goto (tgt := 55) hx hb dX10_numberOf_18 (by decide) ?_
    rw [← hQ]
    exact en_i Z S0 F0_ rfl dX10_numberOf_55

set_option maxRecDepth 20000 in
theorem ggX10_blanks_X10_look : GoodIn wsX10_blanks wsX10_look := goodIn_r _ [6, 1, 7, 8, 9, 10, 11, 12, 13, 14, 15, 16, 17, 18, 19, 20, 21, 22, 23, 24, 25, 26, 27, 28, 29, 30, 31, 32, 33, 34, 35, 36, 37, 38, 39, 40, 41, 42, 43, 44, 45, 46, 47, 48, 49, 50, 51, 52, 53, 54, 55, 56] (by decide +kernel) (by decide +kernel)
set_option maxRecDepth 20000 in
theorem gX10_blanks_X10_look : GoodIn wsX10_blanks (wsV RX10 157 RX10 yX10_look wsX10_look) := goodIn_app (goodIn_of _ (by decide +kernel)) ggX10_blanks_X10_look
theorem dX10_blanks_0 : decode cX10_blanks 0 = .ok (.aload_n 0, 1) := by decide +kernel
theorem dX10_blanks_1 : decode cX10_blanks 1 = .ok (.invokevirtual 157, 3) := by decide +kernel
theorem dX10_blanks_4 : decode cX10_blanks 4 = .ok (.bipush 32, 2) := by decide +kernel
theorem dX10_blanks_6 : decode cX10_blanks 6 = .ok (.if_icmp .ne 16, 3) := by decide +kernel
theorem dX10_blanks_9 : decode cX10_blanks 9 = .ok (.aload_n 0, 1) := by decide +kernel
theorem dX10_blanks_10 : decode cX10_blanks 10 = .ok (.dup, 1) := by decide +kernel
theorem dX10_blanks_11 : decode cX10_blanks 11 = .ok (.getfield 151, 3) := by decide +kernel
theorem dX10_blanks_14 : decode cX10_blanks 14 = .ok (.iconst 1, 1) := by decide +kernel
theorem dX10_blanks_15 : decode cX10_blanks 15 = .ok (.iadd, 1) := by decide +kernel
theorem dX10_blanks_16 : decode cX10_blanks 16 = .ok (.putfield 151, 3) := by decide +kernel
theorem dX10_blanks_19 : decode cX10_blanks 19 = .ok (.goto (-19), 3) := by decide +kernel
theorem dX10_blanks_22 : decode cX10_blanks 22 = .ok (.return_, 1) := by decide +kernel
set_option maxHeartbeats 4000000 in
set_option maxRecDepth 100000 in
theorem k_X10_blanks (l : Launch) (D : va_G) (cy : Nat → ClassId) {L : List Nat} {τ : Nat → Ro} {E : Ec} (hI : Inv TB cy L τ E) {a0 : Nat} (ha0 : a0 ∈ L) (ta0 : τ a0 = (11, 0)) : CtV l yX10_blanks wsX10_blanks { frames := 1, cells := 0, slots := 0, locals := 20 } D TB cy L τ E [.ref a0] (inW [(11, 0)]) (fun E' => ((fi E a0 22).toInt ≤ (fi E' a0 22).toInt) ∧ (∀ k : Nat, k ∉ ([22] : List Nat) → fi E' a0 k = fi E a0 k)) := by
  intro sz
  refine sta (cc := cX10_blanks) (maxL := 1) hI (by decide) rfl (Nat.le_of_ble_eq_true rfl) (fun p e s m args below meth c ls hsz Z S0 hl => ?_)
  have hx := Z.1.1
  have hb := Z.1.2.1
  have hts := Z.1.2.2.2.2
  have F0_ : Fr L τ (inW [(11, 0)]) E E := Fr.refl
  have hl : lv_has ls 1 [(0, .ref a0)] := hl
  generalize hQ : MQ below _ args s 0 0 _ = QQ
  have kz_a0_22 := fi_rng (k := 22) hI ha0 ta0 rfl rfl
  have J0 : ∀ (n : Nat)  (E_0 : Ec) (H_0 : Heap) (k_0 : List Loc) (l_0 : Array Slot), Now D TB cy (va_A (va_pl L E) sz) s L τ E_0 H_0 k_0 → Fr L τ (inW [(11, 0)]) E E_0 → (∀ k : Nat, k ∉ ([22] : List Nat) → fi E_0 a0 k = fi E a0 k) → (0 ≤ (fi E_0 a0 22).toInt ∧ (fi E_0 a0 22).toInt ≤ 120 ∧ (fi E a0 22).toInt ≤ (fi E_0 a0 22).toInt) → (120 - (fi E_0 a0 22).toInt).toNat < n → lv_has l_0 1 [(0, .ref a0)] → W p l e { frames := 1, cells := 0, slots := 0, locals := 20 } s m args below meth c H_0 k_0 0 0 QQ (F0 m 0 l_0 []) := by
    intro n
    induction n with
    | zero => intro  E_0 H_0 k_0 l_0 S_0 F_0 z1 z2 hm hl_0; exact absurd hm (Nat.not_lt_zero _)
    | succ n ih =>
      intro  E_0 H_0 k_0 l_0 S_0 F_0 z1 z2 hm hl_0
      have ih_0 := ih
      refine lv_aload_n hx hb dX10_blanks_0 rfl (lv_at hl_0 0 rfl) ?_
      refine tc_vi Z.1 Z.2.2.2.1 Z.2.2.2.2.1 Z.2.2.2.2.2 S_0.1 S_0.2 ha0 ta0 rfl rfl (k_X10_look l D cy S_0.2 ha0 ta0) (cwV 0 hts gX10_blanks_X10_look rfl rfl rfl (by decide +kernel) ⟨Nat.le_of_ble_eq_true rfl, Nat.le_of_ble_eq_true rfl⟩) rfl hl_0.1 rfl (Nat.le_of_ble_eq_true rfl) dX10_blanks_1 ⟨Nat.zero_le _, Nat.zero_le _⟩ (fun v6 E3 H4 k5 W3 I3 G3 p3 => ?_)
      obtain ⟨q3, p3_0, p3_1, p3_2⟩ := p3
      have q3 := q3.symm
      subst q3
      have S3 : Now D TB cy (va_A (va_pl L E) sz) s L τ E_0 H4 k5 := ⟨W3, I3⟩
      obtain ⟨v7, ev7, tv7⟩ : ∃ v : Int32, (Int8.ofInt (32)).toInt32 = v ∧ v.toInt = 32 := ⟨_, rfl, by decide +kernel⟩
      refine lv_bipush hx hb dX10_blanks_4 ev7 ?_
      refine lv_icmp_ne (tgt := 22) hx hb dX10_blanks_6 (by decide) (fun c8 => ?_) (fun c8 => ?_)
      · skip
        have tc8 := nu_ne c8
        rw [← hQ]
        exact en_v Z S3 F_0 ⟨(by omega), (fun k hk => (z1 k hk))⟩ dX10_blanks_22
      · skip
        have tc8 := nu_eq c8
        refine lv_aload_n hx hb dX10_blanks_9 rfl (lv_at hl_0 0 rfl) ?_
        refine lv_dup hx hb dX10_blanks_10 rfl ?_
        refine tr_geti Z.1 Z.2.2.2.1 S3.1 S3.2 ha0 ta0 rfl rfl (fun _ h => List.mem_cons_of_mem _ (List.mem_append_right _ h)) 22 (by decide) rfl (hts _ (List.mem_of_getElem? (i := 1) rfl)) dX10_blanks_11 (fun v9 ev9 lv9 uv9 => ?_)
        have wv9 : v9 = (fi E_0 a0 22) := ev9.symm.trans rfl
        have xv9 : v9.toInt = (fi E_0 a0 22).toInt := by rw [wv9]
        obtain ⟨v10, ev10, tv10⟩ : ∃ v : Int32, Int32.ofInt (1) = v ∧ v.toInt = 1 := ⟨_, rfl, by decide +kernel⟩
        refine lv_iconst hx hb dX10_blanks_14 ev10 ?_
        refine lv_iadd hx hb dX10_blanks_15 ?_
        refine lv_topi (fun v11 ev11 => ?_)
        have tv11 := nu_add ev11 (by omega) (by omega)
        refine tr_puti Z.1 Z.2.2.2.1 S3.1 S3.2 ha0 ta0 rfl rfl (fun _ h => List.mem_cons_of_mem _ (List.mem_append_right _ h)) tyX10_ok nmX10 22 (by decide) rfl rfl rfl (hts _ (List.mem_of_getElem? (i := 1) rfl)) dX10_blanks_16 (by omega) (by omega) (fun E12 H13 k14 W12 I12 P12 => ?_)
        have S12 : Now D TB cy (va_A (va_pl L E) sz) s L τ E12 H13 k14 := ⟨W12, I12⟩
        have F12 : Fr L τ (inW [(11, 0)]) E E12 := Fr.put F_0 P12 ta0 rfl
        refine lv_goto (tgt := 0) hx hb dX10_blanks_19 (by decide) ?_
        exact ih_0 E12 H13 k14 l_0 S12 F12 (fun k hk => ((fi_put P12 (Or.inr (fw_ne (by decide) hk))).trans (z1 k hk))) (by rw [(fi_at P12)]; omega) (by rw [(fi_at P12)]; omega) (lv_sub hl_0 [0] rfl)
  refine lv_aload_n hx hb dX10_blanks_0 rfl (lv_at hl 0 rfl) ?_
  refine tc_vi Z.1 Z.2.2.2.1 Z.2.2.2.2.1 Z.2.2.2.2.2 S0.1 S0.2 ha0 ta0 rfl rfl (k_X10_look l D cy S0.2 ha0 ta0) (cwV 0 hts gX10_blanks_X10_look rfl rfl rfl (by decide +kernel) ⟨Nat.le_of_ble_eq_true rfl, Nat.le_of_ble_eq_true rfl⟩) rfl hl.1 rfl (Nat.le_of_ble_eq_true rfl) dX10_blanks_1 ⟨Nat.zero_le _, Nat.zero_le _⟩ (fun v18 E15 H16 k17 W15 I15 G15 p15 => ?_)
  obtain ⟨q15, p15_0, p15_1, p15_2⟩ := p15
  have q15 := q15.symm
  subst q15
  have S15 : Now D TB cy (va_A (va_pl L E) sz) s L τ E H16 k17 := ⟨W15, I15⟩
  obtain ⟨v19, ev19, tv19⟩ : ∃ v : Int32, (Int8.ofInt (32)).toInt32 = v ∧ v.toInt = 32 := ⟨_, rfl, by decide +kernel⟩
  refine lv_bipush hx hb dX10_blanks_4 ev19 ?_
  refine lv_icmp_ne (tgt := 22) hx hb dX10_blanks_6 (by decide) (fun c20 => ?_) (fun c20 => ?_)
  · skip
    have tc20 := nu_ne c20
    rw [← hQ]
    exact en_v Z S15 F0_ ⟨(by omega), (fun k hk => ((fun k hk => rfl) k hk))⟩ dX10_blanks_22
  · skip
    have tc20 := nu_eq c20
    refine lv_aload_n hx hb dX10_blanks_9 rfl (lv_at hl 0 rfl) ?_
    refine lv_dup hx hb dX10_blanks_10 rfl ?_
    refine tr_geti Z.1 Z.2.2.2.1 S15.1 S15.2 ha0 ta0 rfl rfl (fun _ h => List.mem_cons_of_mem _ (List.mem_append_right _ h)) 22 (by decide) rfl (hts _ (List.mem_of_getElem? (i := 1) rfl)) dX10_blanks_11 (fun v21 ev21 lv21 uv21 => ?_)
    have wv21 : v21 = (fi E a0 22) := ev21.symm.trans rfl
    have xv21 : v21.toInt = (fi E a0 22).toInt := by rw [wv21]
    obtain ⟨v22, ev22, tv22⟩ : ∃ v : Int32, Int32.ofInt (1) = v ∧ v.toInt = 1 := ⟨_, rfl, by decide +kernel⟩
    refine lv_iconst hx hb dX10_blanks_14 ev22 ?_
    refine lv_iadd hx hb dX10_blanks_15 ?_
    refine lv_topi (fun v23 ev23 => ?_)
    have tv23 := nu_add ev23 (by omega) (by omega)
    refine tr_puti Z.1 Z.2.2.2.1 S15.1 S15.2 ha0 ta0 rfl rfl (fun _ h => List.mem_cons_of_mem _ (List.mem_append_right _ h)) tyX10_ok nmX10 22 (by decide) rfl rfl rfl (hts _ (List.mem_of_getElem? (i := 1) rfl)) dX10_blanks_16 (by omega) (by omega) (fun E24 H25 k26 W24 I24 P24 => ?_)
    have S24 : Now D TB cy (va_A (va_pl L E) sz) s L τ E24 H25 k26 := ⟨W24, I24⟩
    have F24 : Fr L τ (inW [(11, 0)]) E E24 := Fr.put F0_ P24 ta0 rfl
    refine lv_goto (tgt := 0) hx hb dX10_blanks_19 (by decide) ?_
    exact J0 _ E24 H25 k26 ls S24 F24 (fun k hk => ((fi_put P24 (Or.inr (fw_ne (by decide) hk))).trans ((fun k hk => rfl) k hk))) (by rw [(fi_at P24)]; omega) (Nat.lt_succ_self _) (lv_sub hl [0] rfl)

set_option maxRecDepth 20000 in
theorem ggX10_passWord_X10_look : GoodIn wsX10_passWord wsX10_look := goodIn_r _ [6, 1, 7, 8, 13, 14, 15, 16, 17, 18, 19, 20, 21, 22, 23, 24, 25, 26, 27, 28, 29, 30, 31, 32, 33, 34, 35, 36, 37, 38, 39, 40, 41, 42, 43, 44, 45, 46, 47, 48, 49, 50, 51, 52, 53, 54, 55, 56, 57, 58, 59, 60] (by decide +kernel) (by decide +kernel)
set_option maxRecDepth 20000 in
theorem gX10_passWord_X10_look : GoodIn wsX10_passWord (wsV RX10 157 RX10 yX10_look wsX10_look) := goodIn_app (goodIn_of _ (by decide +kernel)) ggX10_passWord_X10_look
set_option maxRecDepth 20000 in
theorem ggX10_passWord_X10_isSmall : GoodIn wsX10_passWord wsX10_isSmall := goodIn_r _ [12] (by decide +kernel) (by decide +kernel)
set_option maxRecDepth 20000 in
theorem gX10_passWord_X10_isSmall : GoodIn wsX10_passWord (wsV RX10 163 RX10 yX10_isSmall wsX10_isSmall) := goodIn_app (goodIn_of _ (by decide +kernel)) ggX10_passWord_X10_isSmall
theorem dX10_passWord_0 : decode cX10_passWord 0 = .ok (.aload_n 0, 1) := by decide +kernel
theorem dX10_passWord_1 : decode cX10_passWord 1 = .ok (.aload_n 0, 1) := by decide +kernel
theorem dX10_passWord_2 : decode cX10_passWord 2 = .ok (.invokevirtual 157, 3) := by decide +kernel
theorem dX10_passWord_5 : decode cX10_passWord 5 = .ok (.invokevirtual 163, 3) := by decide +kernel
theorem dX10_passWord_8 : decode cX10_passWord 8 = .ok (.ifCond .eq 16, 3) := by decide +kernel
theorem dX10_passWord_11 : decode cX10_passWord 11 = .ok (.aload_n 0, 1) := by decide +kernel
theorem dX10_passWord_12 : decode cX10_passWord 12 = .ok (.dup, 1) := by decide +kernel
theorem dX10_passWord_13 : decode cX10_passWord 13 = .ok (.getfield 151, 3) := by decide +kernel
theorem dX10_passWord_16 : decode cX10_passWord 16 = .ok (.iconst 1, 1) := by decide +kernel
theorem dX10_passWord_17 : decode cX10_passWord 17 = .ok (.iadd, 1) := by decide +kernel
theorem dX10_passWord_18 : decode cX10_passWord 18 = .ok (.putfield 151, 3) := by decide +kernel
theorem dX10_passWord_21 : decode cX10_passWord 21 = .ok (.goto (-21), 3) := by decide +kernel
theorem dX10_passWord_24 : decode cX10_passWord 24 = .ok (.return_, 1) := by decide +kernel
set_option maxHeartbeats 4000000 in
set_option maxRecDepth 100000 in
theorem k_X10_passWord (l : Launch) (D : va_G) (cy : Nat → ClassId) {L : List Nat} {τ : Nat → Ro} {E : Ec} (hI : Inv TB cy L τ E) {a0 : Nat} (ha0 : a0 ∈ L) (ta0 : τ a0 = (11, 0)) : CtV l yX10_passWord wsX10_passWord { frames := 1, cells := 0, slots := 0, locals := 21 } D TB cy L τ E [.ref a0] (inW [(11, 0)]) (fun E' => ((fi E a0 22).toInt ≤ (fi E' a0 22).toInt) ∧ (∀ k : Nat, k ∉ ([22] : List Nat) → fi E' a0 k = fi E a0 k)) := by
  intro sz
  refine sta (cc := cX10_passWord) (maxL := 1) hI (by decide) rfl (Nat.le_of_ble_eq_true rfl) (fun p e s m args below meth c ls hsz Z S0 hl => ?_)
  have hx := Z.1.1
  have hb := Z.1.2.1
  have hts := Z.1.2.2.2.2
  have F0_ : Fr L τ (inW [(11, 0)]) E E := Fr.refl
  have hl : lv_has ls 1 [(0, .ref a0)] := hl
  generalize hQ : MQ below _ args s 0 0 _ = QQ
  have kz_a0_22 := fi_rng (k := 22) hI ha0 ta0 rfl rfl
  have J0 : ∀ (n : Nat)  (E_0 : Ec) (H_0 : Heap) (k_0 : List Loc) (l_0 : Array Slot), Now D TB cy (va_A (va_pl L E) sz) s L τ E_0 H_0 k_0 → Fr L τ (inW [(11, 0)]) E E_0 → (∀ k : Nat, k ∉ ([22] : List Nat) → fi E_0 a0 k = fi E a0 k) → (0 ≤ (fi E_0 a0 22).toInt ∧ (fi E_0 a0 22).toInt ≤ 120 ∧ (fi E a0 22).toInt ≤ (fi E_0 a0 22).toInt) → (120 - (fi E_0 a0 22).toInt).toNat < n → lv_has l_0 1 [(0, .ref a0)] → W p l e { frames := 1, cells := 0, slots := 0, locals := 21 } s m args below meth c H_0 k_0 0 0 QQ (F0 m 0 l_0 []) := by
    intro n
    induction n with
    | zero => intro  E_0 H_0 k_0 l_0 S_0 F_0 z1 z2 hm hl_0; exact absurd hm (Nat.not_lt_zero _)
    | succ n ih =>
      intro  E_0 H_0 k_0 l_0 S_0 F_0 z1 z2 hm hl_0
      have ih_0 := ih
      refine lv_aload_n hx hb dX10_passWord_0 rfl (lv_at hl_0 0 rfl) ?_
      refine lv_aload_n hx hb dX10_passWord_1 rfl (lv_at hl_0 0 rfl) ?_
      refine tc_vi Z.1 Z.2.2.2.1 Z.2.2.2.2.1 Z.2.2.2.2.2 S_0.1 S_0.2 ha0 ta0 rfl rfl (k_X10_look l D cy S_0.2 ha0 ta0) (cwV 0 hts gX10_passWord_X10_look rfl rfl rfl (by decide +kernel) ⟨Nat.le_of_ble_eq_true rfl, Nat.le_of_ble_eq_true rfl⟩) rfl hl_0.1 rfl (Nat.le_of_ble_eq_true rfl) dX10_passWord_2 ⟨Nat.zero_le _, Nat.zero_le _⟩ (fun v6 E3 H4 k5 W3 I3 G3 p3 => ?_)
      obtain ⟨q3, p3_0, p3_1, p3_2⟩ := p3
      have q3 := q3.symm
      subst q3
      have S3 : Now D TB cy (va_A (va_pl L E) sz) s L τ E_0 H4 k5 := ⟨W3, I3⟩
      refine tc_vi Z.1 Z.2.2.2.1 Z.2.2.2.2.1 Z.2.2.2.2.2 S3.1 S3.2 ha0 ta0 rfl rfl (k_X10_isSmall l D cy S3.2 ha0 ta0 v6) (cwV 1 hts gX10_passWord_X10_isSmall rfl rfl rfl (by decide +kernel) ⟨Nat.le_of_ble_eq_true rfl, Nat.le_of_ble_eq_true rfl⟩) rfl hl_0.1 rfl (Nat.le_of_ble_eq_true rfl) dX10_passWord_5 ⟨Nat.zero_le _, Nat.zero_le _⟩ (fun v10 E7 H8 k9 W7 I7 G7 p7 => ?_)
      obtain ⟨q7, p7_0, p7_1, p7_2⟩ := p7
      have q7 := q7.symm
      subst q7
      have S7 : Now D TB cy (va_A (va_pl L E) sz) s L τ E_0 H8 k9 := ⟨W7, I7⟩
      refine lv_if_eq (tgt := 24) hx hb dX10_passWord_8 (by decide) (fun c11 => ?_) (fun c11 => ?_)
      · skip
        have tc11 := nu_eq c11
        have uc11 : (0 : Int32).toInt = 0 := rfl
        rw [← hQ]
        exact en_v Z S7 F_0 ⟨(by omega), (fun k hk => (z1 k hk))⟩ dX10_passWord_24
      · skip
        have tc11 := nu_ne c11
        have uc11 : (0 : Int32).toInt = 0 := rfl
        refine lv_aload_n hx hb dX10_passWord_11 rfl (lv_at hl_0 0 rfl) ?_
        refine lv_dup hx hb dX10_passWord_12 rfl ?_
        refine tr_geti Z.1 Z.2.2.2.1 S7.1 S7.2 ha0 ta0 rfl rfl (fun _ h => List.mem_cons_of_mem _ (List.mem_append_right _ h)) 22 (by decide) rfl (hts _ (List.mem_of_getElem? (i := 1) rfl)) dX10_passWord_13 (fun v12 ev12 lv12 uv12 => ?_)
        have wv12 : v12 = (fi E_0 a0 22) := ev12.symm.trans rfl
        have xv12 : v12.toInt = (fi E_0 a0 22).toInt := by rw [wv12]
        obtain ⟨v13, ev13, tv13⟩ : ∃ v : Int32, Int32.ofInt (1) = v ∧ v.toInt = 1 := ⟨_, rfl, by decide +kernel⟩
        refine lv_iconst hx hb dX10_passWord_16 ev13 ?_
        refine lv_iadd hx hb dX10_passWord_17 ?_
        refine lv_topi (fun v14 ev14 => ?_)
        have tv14 := nu_add ev14 (by omega) (by omega)
        refine tr_puti Z.1 Z.2.2.2.1 S7.1 S7.2 ha0 ta0 rfl rfl (fun _ h => List.mem_cons_of_mem _ (List.mem_append_right _ h)) tyX10_ok nmX10 22 (by decide) rfl rfl rfl (hts _ (List.mem_of_getElem? (i := 1) rfl)) dX10_passWord_18 (by omega) (by omega) (fun E15 H16 k17 W15 I15 P15 => ?_)
        have S15 : Now D TB cy (va_A (va_pl L E) sz) s L τ E15 H16 k17 := ⟨W15, I15⟩
        have F15 : Fr L τ (inW [(11, 0)]) E E15 := Fr.put F_0 P15 ta0 rfl
        refine lv_goto (tgt := 0) hx hb dX10_passWord_21 (by decide) ?_
        exact ih_0 E15 H16 k17 l_0 S15 F15 (fun k hk => ((fi_put P15 (Or.inr (fw_ne (by decide) hk))).trans (z1 k hk))) (by rw [(fi_at P15)]; omega) (by rw [(fi_at P15)]; omega) (lv_sub hl_0 [0] rfl)
  refine lv_aload_n hx hb dX10_passWord_0 rfl (lv_at hl 0 rfl) ?_
  refine lv_aload_n hx hb dX10_passWord_1 rfl (lv_at hl 0 rfl) ?_
  refine tc_vi Z.1 Z.2.2.2.1 Z.2.2.2.2.1 Z.2.2.2.2.2 S0.1 S0.2 ha0 ta0 rfl rfl (k_X10_look l D cy S0.2 ha0 ta0) (cwV 0 hts gX10_passWord_X10_look rfl rfl rfl (by decide +kernel) ⟨Nat.le_of_ble_eq_true rfl, Nat.le_of_ble_eq_true rfl⟩) rfl hl.1 rfl (Nat.le_of_ble_eq_true rfl) dX10_passWord_2 ⟨Nat.zero_le _, Nat.zero_le _⟩ (fun v21 E18 H19 k20 W18 I18 G18 p18 => ?_)
  obtain ⟨q18, p18_0, p18_1, p18_2⟩ := p18
  have q18 := q18.symm
  subst q18
  have S18 : Now D TB cy (va_A (va_pl L E) sz) s L τ E H19 k20 := ⟨W18, I18⟩
  refine tc_vi Z.1 Z.2.2.2.1 Z.2.2.2.2.1 Z.2.2.2.2.2 S18.1 S18.2 ha0 ta0 rfl rfl (k_X10_isSmall l D cy S18.2 ha0 ta0 v21) (cwV 1 hts gX10_passWord_X10_isSmall rfl rfl rfl (by decide +kernel) ⟨Nat.le_of_ble_eq_true rfl, Nat.le_of_ble_eq_true rfl⟩) rfl hl.1 rfl (Nat.le_of_ble_eq_true rfl) dX10_passWord_5 ⟨Nat.zero_le _, Nat.zero_le _⟩ (fun v25 E22 H23 k24 W22 I22 G22 p22 => ?_)
  obtain ⟨q22, p22_0, p22_1, p22_2⟩ := p22
  have q22 := q22.symm
  subst q22
  have S22 : Now D TB cy (va_A (va_pl L E) sz) s L τ E H23 k24 := ⟨W22, I22⟩
  refine lv_if_eq (tgt := 24) hx hb dX10_passWord_8 (by decide) (fun c26 => ?_) (fun c26 => ?_)
  · skip
    have tc26 := nu_eq c26
    have uc26 : (0 : Int32).toInt = 0 := rfl
    rw [← hQ]
    exact en_v Z S22 F0_ ⟨(by omega), (fun k hk => ((fun k hk => rfl) k hk))⟩ dX10_passWord_24
  · skip
    have tc26 := nu_ne c26
    have uc26 : (0 : Int32).toInt = 0 := rfl
    refine lv_aload_n hx hb dX10_passWord_11 rfl (lv_at hl 0 rfl) ?_
    refine lv_dup hx hb dX10_passWord_12 rfl ?_
    refine tr_geti Z.1 Z.2.2.2.1 S22.1 S22.2 ha0 ta0 rfl rfl (fun _ h => List.mem_cons_of_mem _ (List.mem_append_right _ h)) 22 (by decide) rfl (hts _ (List.mem_of_getElem? (i := 1) rfl)) dX10_passWord_13 (fun v27 ev27 lv27 uv27 => ?_)
    have wv27 : v27 = (fi E a0 22) := ev27.symm.trans rfl
    have xv27 : v27.toInt = (fi E a0 22).toInt := by rw [wv27]
    obtain ⟨v28, ev28, tv28⟩ : ∃ v : Int32, Int32.ofInt (1) = v ∧ v.toInt = 1 := ⟨_, rfl, by decide +kernel⟩
    refine lv_iconst hx hb dX10_passWord_16 ev28 ?_
    refine lv_iadd hx hb dX10_passWord_17 ?_
    refine lv_topi (fun v29 ev29 => ?_)
    have tv29 := nu_add ev29 (by omega) (by omega)
    refine tr_puti Z.1 Z.2.2.2.1 S22.1 S22.2 ha0 ta0 rfl rfl (fun _ h => List.mem_cons_of_mem _ (List.mem_append_right _ h)) tyX10_ok nmX10 22 (by decide) rfl rfl rfl (hts _ (List.mem_of_getElem? (i := 1) rfl)) dX10_passWord_18 (by omega) (by omega) (fun E30 H31 k32 W30 I30 P30 => ?_)
    have S30 : Now D TB cy (va_A (va_pl L E) sz) s L τ E30 H31 k32 := ⟨W30, I30⟩
    have F30 : Fr L τ (inW [(11, 0)]) E E30 := Fr.put F0_ P30 ta0 rfl
    refine lv_goto (tgt := 0) hx hb dX10_passWord_21 (by decide) ?_
    exact J0 _ E30 H31 k32 ls S30 F30 (fun k hk => ((fi_put P30 (Or.inr (fw_ne (by decide) hk))).trans ((fun k hk => rfl) k hk))) (by rw [(fi_at P30)]; omega) (Nat.lt_succ_self _) (lv_sub hl [0] rfl)

