theorem dX5_peek_0 : decode cX5_peek 0 = .ok (.aload_n 0, 1) := by decide +kernel
theorem dX5_peek_1 : decode cX5_peek 1 = .ok (.getfield 22, 3) := by decide +kernel
theorem dX5_peek_4 : decode cX5_peek 4 = .ok (.aload_n 0, 1) := by decide +kernel
theorem dX5_peek_5 : decode cX5_peek 5 = .ok (.getfield 19, 3) := by decide +kernel
theorem dX5_peek_8 : decode cX5_peek 8 = .ok (.if_icmp .ge 19, 3) := by decide +kernel
theorem dX5_peek_11 : decode cX5_peek 11 = .ok (.aload_n 0, 1) := by decide +kernel
theorem dX5_peek_12 : decode cX5_peek 12 = .ok (.getfield 11, 3) := by decide +kernel
theorem dX5_peek_15 : decode cX5_peek 15 = .ok (.aload_n 0, 1) := by decide +kernel
theorem dX5_peek_16 : decode cX5_peek 16 = .ok (.getfield 22, 3) := by decide +kernel
theorem dX5_peek_19 : decode cX5_peek 19 = .ok (.baload, 1) := by decide +kernel
theorem dX5_peek_20 : decode cX5_peek 20 = .ok (.sipush 255, 3) := by decide +kernel
theorem dX5_peek_23 : decode cX5_peek 23 = .ok (.iand, 1) := by decide +kernel
theorem dX5_peek_24 : decode cX5_peek 24 = .ok (.goto 4, 3) := by decide +kernel
theorem dX5_peek_27 : decode cX5_peek 27 = .ok (.iconst (-1), 1) := by decide +kernel
theorem dX5_peek_28 : decode cX5_peek 28 = .ok (.ireturn, 1) := by decide +kernel
set_option maxHeartbeats 4000000 in
set_option maxRecDepth 100000 in
theorem k_X5_peek (l : Launch) (D : va_G) (cy : Nat → ClassId) {L : List Nat} {τ : Nat → Ro} {E : Ec} (hI : Inv TB cy L τ E) {a0 : Nat} (ha0 : a0 ∈ L) (ta0 : τ a0 = (7, 0)) : CtI l yX5_peek wsX5_peek { frames := 0, cells := 0, slots := 0, locals := 0 } D TB cy L τ E [.ref a0] (inW []) (fun r E' => E' = E ∧ (r.toInt = -1 ∨ (fi E a0 3).toInt ≤ 119) ∧ -1 ≤ r.toInt ∧ r.toInt ≤ 255) := by
  intro sz
  refine sta (cc := cX5_peek) (maxL := 1) hI (by decide) rfl (Nat.le_of_ble_eq_true rfl) (fun p e s m args below meth c ls hsz Z S0 hl => ?_)
  have hx := Z.1.1
  have hb := Z.1.2.1
  have hts := Z.1.2.2.2.2
  have F0_ : Fr L τ (inW []) E E := Fr.refl
  have hl : lv_has ls 1 [(0, .ref a0)] := hl
  generalize hQ : MQ below _ args s 0 0 _ = QQ
  have kz_a0_3 := fi_rng (k := 3) hI ha0 ta0 rfl rfl
  have kz_a0_2 := fi_rng (k := 2) hI ha0 ta0 rfl rfl
  refine lv_aload_n hx hb dX5_peek_0 rfl (lv_at hl 0 rfl) ?_
  refine tr_geti Z.1 Z.2.2.2.1 S0.1 S0.2 ha0 ta0 rfl rfl (fun _ h => List.mem_cons_of_mem _ (List.mem_append_right _ h)) 3 (by decide) rfl (hts _ (List.mem_of_getElem? (i := 1) rfl)) dX5_peek_1 (fun v1 ev1 lv1 uv1 => ?_)
  have wv1 : v1 = (fi E a0 3) := ev1.symm.trans rfl
  have xv1 : v1.toInt = (fi E a0 3).toInt := by rw [wv1]
  refine lv_aload_n hx hb dX5_peek_4 rfl (lv_at hl 0 rfl) ?_
  refine tr_geti Z.1 Z.2.2.2.1 S0.1 S0.2 ha0 ta0 rfl rfl (fun _ h => List.mem_cons_of_mem _ (List.mem_append_right _ h)) 2 (by decide) rfl (hts _ (List.mem_of_getElem? (i := 2) rfl)) dX5_peek_5 (fun v2 ev2 lv2 uv2 => ?_)
  have wv2 : v2 = (fi E a0 2) := ev2.symm.trans rfl
  have xv2 : v2.toInt = (fi E a0 2).toInt := by rw [wv2]
  refine lv_icmp_ge (tgt := 27) hx hb dX5_peek_8 (by decide) (fun c3 => ?_) (fun c3 => ?_)
  · skip
    have tc3 := nu_le c3
    obtain ⟨v4, ev4, tv4⟩ : ∃ v : Int32, Int32.ofInt (-1) = v ∧ v.toInt = -1 := ⟨_, rfl, by decide +kernel⟩
    refine lv_iconst hx hb dX5_peek_27 ev4 ?_
    rw [← hQ]
    exact en_i Z S0 F0_ ⟨rfl, (by rw [ev1]; omega), (by omega), (by omega)⟩ dX5_peek_28
  · skip
    have tc3 := nu_nle c3
    refine lv_aload_n hx hb dX5_peek_11 rfl (lv_at hl 0 rfl) ?_
    refine tr_getr Z.1 Z.2.2.2.1 S0.1 S0.2 ha0 ta0 rfl rfl (fun _ h => List.mem_cons_of_mem _ (List.mem_append_right _ h)) 0 (by decide) rfl (hts _ (List.mem_of_getElem? (i := 3) rfl)) dX5_peek_12 (fun q5 eq5 hq5 tq5 => ?_)
    have tq5 : τ q5 = (32, 0) := tq5
    refine lv_aload_n hx hb dX5_peek_15 rfl (lv_at hl 0 rfl) ?_
    refine tr_geti Z.1 Z.2.2.2.1 S0.1 S0.2 ha0 ta0 rfl rfl (fun _ h => List.mem_cons_of_mem _ (List.mem_append_right _ h)) 3 (by decide) rfl (hts _ (List.mem_of_getElem? (i := 1) rfl)) dX5_peek_16 (fun v6 ev6 lv6 uv6 => ?_)
    have wv6 : v6 = v1 := ev6.symm.trans ev1
    have xv6 : v6.toInt = v1.toInt := by rw [wv6]
    refine tr_bald Z.1 Z.2.2.2.1 S0.1 S0.2 hq5 tq5 rfl (by omega) (by omega) dX5_peek_19 (fun v7 ev7 lv7 uv7 => ?_)
    obtain ⟨v8, ev8, tv8⟩ : ∃ v : Int32, (Int16.ofInt (255)).toInt32 = v ∧ v.toInt = 255 := ⟨_, rfl, by decide +kernel⟩
    refine lv_sipush hx hb dX5_peek_20 ev8 ?_
    refine lv_iand hx hb dX5_peek_23 ?_
    refine lv_topi (fun v9 ev9 => ?_)
    have tv9 := nu_and255 ev9 (by omega)
    refine lv_goto (tgt := 28) hx hb dX5_peek_24 (by decide) ?_
    rw [← hQ]
    exact en_i Z S0 F0_ ⟨rfl, (by rw [ev6]; omega), (by omega), (by omega)⟩ dX5_peek_28

theorem dX5_isDigit_0 : decode cX5_isDigit 0 = .ok (.iload_n 0, 1) := by decide +kernel
theorem dX5_isDigit_1 : decode cX5_isDigit 1 = .ok (.bipush 48, 2) := by decide +kernel
theorem dX5_isDigit_3 : decode cX5_isDigit 3 = .ok (.if_icmp .lt 13, 3) := by decide +kernel
theorem dX5_isDigit_6 : decode cX5_isDigit 6 = .ok (.iload_n 0, 1) := by decide +kernel
theorem dX5_isDigit_7 : decode cX5_isDigit 7 = .ok (.bipush 57, 2) := by decide +kernel
theorem dX5_isDigit_9 : decode cX5_isDigit 9 = .ok (.if_icmp .gt 7, 3) := by decide +kernel
theorem dX5_isDigit_12 : decode cX5_isDigit 12 = .ok (.iconst 1, 1) := by decide +kernel
theorem dX5_isDigit_13 : decode cX5_isDigit 13 = .ok (.goto 4, 3) := by decide +kernel
theorem dX5_isDigit_16 : decode cX5_isDigit 16 = .ok (.iconst 0, 1) := by decide +kernel
theorem dX5_isDigit_17 : decode cX5_isDigit 17 = .ok (.ireturn, 1) := by decide +kernel
set_option maxHeartbeats 4000000 in
set_option maxRecDepth 100000 in
theorem k_X5_isDigit (l : Launch) (D : va_G) (cy : Nat → ClassId) {L : List Nat} {τ : Nat → Ro} {E : Ec} (hI : Inv TB cy L τ E) (a0 : Int32) : CtI l yX5_isDigit wsX5_isDigit { frames := 0, cells := 0, slots := 0, locals := 0 } D TB cy L τ E [.int a0] (inW []) (fun r E' => E' = E ∧ 0 ≤ r.toInt ∧ r.toInt ≤ 1) := by
  intro sz
  refine sta (cc := cX5_isDigit) (maxL := 1) hI (by decide) rfl (Nat.le_of_ble_eq_true rfl) (fun p e s m args below meth c ls hsz Z S0 hl => ?_)
  have hx := Z.1.1
  have hb := Z.1.2.1
  have hts := Z.1.2.2.2.2
  have F0_ : Fr L τ (inW []) E E := Fr.refl
  have hl : lv_has ls 1 [(0, .int a0)] := hl
  generalize hQ : MQ below _ args s 0 0 _ = QQ
  refine lv_iload_n hx hb dX5_isDigit_0 rfl (lv_at hl 0 rfl) ?_
  obtain ⟨v1, ev1, tv1⟩ : ∃ v : Int32, (Int8.ofInt (48)).toInt32 = v ∧ v.toInt = 48 := ⟨_, rfl, by decide +kernel⟩
  refine lv_bipush hx hb dX5_isDigit_1 ev1 ?_
  refine lv_icmp_lt (tgt := 16) hx hb dX5_isDigit_3 (by decide) (fun c2 => ?_) (fun c2 => ?_)
  · skip
    have tc2 := nu_lt c2
    obtain ⟨v3, ev3, tv3⟩ : ∃ v : Int32, Int32.ofInt (0) = v ∧ v.toInt = 0 := ⟨_, rfl, by decide +kernel⟩
    refine lv_iconst hx hb dX5_isDigit_16 ev3 ?_
    rw [← hQ]
    exact en_z Z S0 F0_ (zo v3 (by omega)) ⟨rfl, (by omega), (by omega)⟩ dX5_isDigit_17
  · skip
    have tc2 := nu_nlt c2
    refine lv_iload_n hx hb dX5_isDigit_6 rfl (lv_at hl 0 rfl) ?_
    obtain ⟨v4, ev4, tv4⟩ : ∃ v : Int32, (Int8.ofInt (57)).toInt32 = v ∧ v.toInt = 57 := ⟨_, rfl, by decide +kernel⟩
    refine lv_bipush hx hb dX5_isDigit_7 ev4 ?_
    refine lv_icmp_gt (tgt := 16) hx hb dX5_isDigit_9 (by decide) (fun c5 => ?_) (fun c5 => ?_)
    · skip
      have tc5 := nu_lt c5
      obtain ⟨v6, ev6, tv6⟩ : ∃ v : Int32, Int32.ofInt (0) = v ∧ v.toInt = 0 := ⟨_, rfl, by decide +kernel⟩
      refine lv_iconst hx hb dX5_isDigit_16 ev6 ?_
      rw [← hQ]
      exact en_z Z S0 F0_ (zo v6 (by omega)) ⟨rfl, (by omega), (by omega)⟩ dX5_isDigit_17
    · skip
      have tc5 := nu_nlt c5
      obtain ⟨v7, ev7, tv7⟩ : ∃ v : Int32, Int32.ofInt (1) = v ∧ v.toInt = 1 := ⟨_, rfl, by decide +kernel⟩
      refine lv_iconst hx hb dX5_isDigit_12 ev7 ?_
      refine lv_goto (tgt := 17) hx hb dX5_isDigit_13 (by decide) ?_
      rw [← hQ]
      exact en_z Z S0 F0_ (zo v7 (by omega)) ⟨rfl, (by omega), (by omega)⟩ dX5_isDigit_17

theorem dX5_fail_0 : decode cX5_fail 0 = .ok (.aload_n 0, 1) := by decide +kernel
theorem dX5_fail_1 : decode cX5_fail 1 = .ok (.getfield 25, 3) := by decide +kernel
theorem dX5_fail_4 : decode cX5_fail 4 = .ok (.ifCond .ne 13, 3) := by decide +kernel
theorem dX5_fail_7 : decode cX5_fail 7 = .ok (.aload_n 0, 1) := by decide +kernel
theorem dX5_fail_8 : decode cX5_fail 8 = .ok (.iload_n 1, 1) := by decide +kernel
theorem dX5_fail_9 : decode cX5_fail 9 = .ok (.putfield 25, 3) := by decide +kernel
theorem dX5_fail_12 : decode cX5_fail 12 = .ok (.aload_n 0, 1) := by decide +kernel
theorem dX5_fail_13 : decode cX5_fail 13 = .ok (.iload_n 2, 1) := by decide +kernel
theorem dX5_fail_14 : decode cX5_fail 14 = .ok (.putfield 28, 3) := by decide +kernel
theorem dX5_fail_17 : decode cX5_fail 17 = .ok (.return_, 1) := by decide +kernel
set_option maxHeartbeats 4000000 in
set_option maxRecDepth 100000 in
theorem k_X5_fail (l : Launch) (D : va_G) (cy : Nat → ClassId) {L : List Nat} {τ : Nat → Ro} {E : Ec} (hI : Inv TB cy L τ E) {a0 : Nat} (ha0 : a0 ∈ L) (ta0 : τ a0 = (7, 0)) (a1 : Int32) (la1 : 1 ≤ a1.toInt) (ua1 : a1.toInt ≤ 3) (a2 : Int32) : CtV l yX5_fail wsX5_fail { frames := 0, cells := 0, slots := 0, locals := 0 } D TB cy L τ E [.ref a0, .int a1, .int a2] (inW [(7, 0)]) (fun E' => ((fi E' a0 4).toInt ≠ 0) ∧ (∀ k : Nat, k ∉ ([4, 5] : List Nat) → fi E' a0 k = fi E a0 k)) := by
  intro sz
  refine sta (cc := cX5_fail) (maxL := 3) hI (by decide) rfl (Nat.le_of_ble_eq_true rfl) (fun p e s m args below meth c ls hsz Z S0 hl => ?_)
  have hx := Z.1.1
  have hb := Z.1.2.1
  have hts := Z.1.2.2.2.2
  have F0_ : Fr L τ (inW [(7, 0)]) E E := Fr.refl
  have hl : lv_has ls 3 [(0, .ref a0), (1, .int a1), (2, .int a2)] := hl
  generalize hQ : MQ below _ args s 0 0 _ = QQ
  have kz_a0_4 := fi_rng (k := 4) hI ha0 ta0 rfl rfl
  refine lv_aload_n hx hb dX5_fail_0 rfl (lv_at hl 0 rfl) ?_
  refine tr_geti Z.1 Z.2.2.2.1 S0.1 S0.2 ha0 ta0 rfl rfl (fun _ h => List.mem_cons_of_mem _ (List.mem_append_right _ h)) 4 (by decide) rfl (hts _ (List.mem_of_getElem? (i := 1) rfl)) dX5_fail_1 (fun v1 ev1 lv1 uv1 => ?_)
  have wv1 : v1 = (fi E a0 4) := ev1.symm.trans rfl
  have xv1 : v1.toInt = (fi E a0 4).toInt := by rw [wv1]
  refine lv_if_ne (tgt := 17) hx hb dX5_fail_4 (by decide) (fun c2 => ?_) (fun c2 => ?_)
  · skip
    have tc2 := nu_ne c2
    have uc2 : (0 : Int32).toInt = 0 := rfl
    rw [← hQ]
    exact en_v Z S0 F0_ ⟨(by rw [ev1]; omega), (fun k hk => ((fun k hk => rfl) k hk))⟩ dX5_fail_17
  · skip
    have tc2 := nu_eq c2
    have uc2 : (0 : Int32).toInt = 0 := rfl
    refine lv_aload_n hx hb dX5_fail_7 rfl (lv_at hl 0 rfl) ?_
    refine lv_iload_n hx hb dX5_fail_8 rfl (lv_at hl 1 rfl) ?_
    refine tr_puti Z.1 Z.2.2.2.1 S0.1 S0.2 ha0 ta0 rfl rfl (fun _ h => List.mem_cons_of_mem _ (List.mem_append_right _ h)) tyX5_ok nmX5 4 (by decide) rfl rfl rfl (hts _ (List.mem_of_getElem? (i := 1) rfl)) dX5_fail_9 (by have := fb_rng a1; omega) (by have := fb_rng a1; omega) (fun E3 H4 k5 W3 I3 P3 => ?_)
    have S3 : Now D TB cy (va_A (va_pl L E) sz) s L τ E3 H4 k5 := ⟨W3, I3⟩
    have F3 : Fr L τ (inW [(7, 0)]) E E3 := Fr.put F0_ P3 ta0 rfl
    refine lv_aload_n hx hb dX5_fail_12 rfl (lv_at hl 0 rfl) ?_
    refine lv_iload_n hx hb dX5_fail_13 rfl (lv_at hl 2 rfl) ?_
    refine tr_puti Z.1 Z.2.2.2.1 S3.1 S3.2 ha0 ta0 rfl rfl (fun _ h => List.mem_cons_of_mem _ (List.mem_append_right _ h)) tyX5_ok nmX5 5 (by decide) rfl rfl rfl (hts _ (List.mem_of_getElem? (i := 2) rfl)) dX5_fail_14 (by have := fb_rng a2; omega) (by have := fb_rng a2; omega) (fun E6 H7 k8 W6 I6 P6 => ?_)
    have S6 : Now D TB cy (va_A (va_pl L E) sz) s L τ E6 H7 k8 := ⟨W6, I6⟩
    have F6 : Fr L τ (inW [(7, 0)]) E E6 := Fr.put F3 P6 ta0 rfl
    rw [← hQ]
    exact en_v Z S6 F6 ⟨(by rw [((fi_put P6 (Or.inr (by decide))).trans (fi_at P3))]; omega), (fun k hk => ((fi_put P6 (Or.inr (fw_ne (by decide) hk))).trans ((fi_put P3 (Or.inr (fw_ne (by decide) hk))).trans ((fun k hk => rfl) k hk))))⟩ dX5_fail_17

theorem dX5_skipBlanks_0 : decode cX5_skipBlanks 0 = .ok (.aload_n 0, 1) := by decide +kernel
theorem dX5_skipBlanks_1 : decode cX5_skipBlanks 1 = .ok (.getfield 22, 3) := by decide +kernel
theorem dX5_skipBlanks_4 : decode cX5_skipBlanks 4 = .ok (.aload_n 0, 1) := by decide +kernel
theorem dX5_skipBlanks_5 : decode cX5_skipBlanks 5 = .ok (.getfield 19, 3) := by decide +kernel
theorem dX5_skipBlanks_8 : decode cX5_skipBlanks 8 = .ok (.if_icmp .ge 30, 3) := by decide +kernel
theorem dX5_skipBlanks_11 : decode cX5_skipBlanks 11 = .ok (.aload_n 0, 1) := by decide +kernel
theorem dX5_skipBlanks_12 : decode cX5_skipBlanks 12 = .ok (.getfield 11, 3) := by decide +kernel
theorem dX5_skipBlanks_15 : decode cX5_skipBlanks 15 = .ok (.aload_n 0, 1) := by decide +kernel
theorem dX5_skipBlanks_16 : decode cX5_skipBlanks 16 = .ok (.getfield 22, 3) := by decide +kernel
theorem dX5_skipBlanks_19 : decode cX5_skipBlanks 19 = .ok (.baload, 1) := by decide +kernel
theorem dX5_skipBlanks_20 : decode cX5_skipBlanks 20 = .ok (.bipush 32, 2) := by decide +kernel
theorem dX5_skipBlanks_22 : decode cX5_skipBlanks 22 = .ok (.if_icmp .ne 16, 3) := by decide +kernel
theorem dX5_skipBlanks_25 : decode cX5_skipBlanks 25 = .ok (.aload_n 0, 1) := by decide +kernel
theorem dX5_skipBlanks_26 : decode cX5_skipBlanks 26 = .ok (.dup, 1) := by decide +kernel
theorem dX5_skipBlanks_27 : decode cX5_skipBlanks 27 = .ok (.getfield 22, 3) := by decide +kernel
theorem dX5_skipBlanks_30 : decode cX5_skipBlanks 30 = .ok (.iconst 1, 1) := by decide +kernel
theorem dX5_skipBlanks_31 : decode cX5_skipBlanks 31 = .ok (.iadd, 1) := by decide +kernel
theorem dX5_skipBlanks_32 : decode cX5_skipBlanks 32 = .ok (.putfield 22, 3) := by decide +kernel
theorem dX5_skipBlanks_35 : decode cX5_skipBlanks 35 = .ok (.goto (-35), 3) := by decide +kernel
theorem dX5_skipBlanks_38 : decode cX5_skipBlanks 38 = .ok (.return_, 1) := by decide +kernel
set_option maxHeartbeats 4000000 in
set_option maxRecDepth 100000 in
theorem k_X5_skipBlanks (l : Launch) (D : va_G) (cy : Nat → ClassId) {L : List Nat} {τ : Nat → Ro} {E : Ec} (hI : Inv TB cy L τ E) {a0 : Nat} (ha0 : a0 ∈ L) (ta0 : τ a0 = (7, 0)) : CtV l yX5_skipBlanks wsX5_skipBlanks { frames := 0, cells := 0, slots := 0, locals := 0 } D TB cy L τ E [.ref a0] (inW [(7, 0)]) (fun E' => (∀ k : Nat, k ∉ ([3] : List Nat) → fi E' a0 k = fi E a0 k)) := by
  intro sz
  refine sta (cc := cX5_skipBlanks) (maxL := 1) hI (by decide) rfl (Nat.le_of_ble_eq_true rfl) (fun p e s m args below meth c ls hsz Z S0 hl => ?_)
  have hx := Z.1.1
  have hb := Z.1.2.1
  have hts := Z.1.2.2.2.2
  have F0_ : Fr L τ (inW [(7, 0)]) E E := Fr.refl
  have hl : lv_has ls 1 [(0, .ref a0)] := hl
  generalize hQ : MQ below _ args s 0 0 _ = QQ
  have J0 : ∀ (n : Nat)  (E_0 : Ec) (H_0 : Heap) (k_0 : List Loc) (l_0 : Array Slot), Now D TB cy (va_A (va_pl L E) sz) s L τ E_0 H_0 k_0 → Fr L τ (inW [(7, 0)]) E E_0 → (∀ k : Nat, k ∉ ([3] : List Nat) → fi E_0 a0 k = fi E a0 k) → (0 ≤ (fi E_0 a0 3).toInt ∧ (fi E_0 a0 3).toInt ≤ 120) → (120 - (fi E_0 a0 3).toInt).toNat < n → lv_has l_0 1 [(0, .ref a0)] → W p l e { frames := 0, cells := 0, slots := 0, locals := 0 } s m args below meth c H_0 k_0 0 0 QQ (F0 m 0 l_0 []) := by
    intro n
    induction n with
    | zero => intro  E_0 H_0 k_0 l_0 S_0 F_0 z1 z2 hm hl_0; exact absurd hm (Nat.not_lt_zero _)
    | succ n ih =>
      intro  E_0 H_0 k_0 l_0 S_0 F_0 z1 z2 hm hl_0
      have ih_0 := ih
      refine lv_aload_n hx hb dX5_skipBlanks_0 rfl (lv_at hl_0 0 rfl) ?_
      refine tr_geti Z.1 Z.2.2.2.1 S_0.1 S_0.2 ha0 ta0 rfl rfl (fun _ h => List.mem_cons_of_mem _ (List.mem_append_right _ h)) 3 (by decide) rfl (hts _ (List.mem_of_getElem? (i := 1) rfl)) dX5_skipBlanks_1 (fun v3 ev3 lv3 uv3 => ?_)
      have wv3 : v3 = (fi E_0 a0 3) := ev3.symm.trans rfl
      have xv3 : v3.toInt = (fi E_0 a0 3).toInt := by rw [wv3]
      refine lv_aload_n hx hb dX5_skipBlanks_4 rfl (lv_at hl_0 0 rfl) ?_
      refine tr_geti Z.1 Z.2.2.2.1 S_0.1 S_0.2 ha0 ta0 rfl rfl (fun _ h => List.mem_cons_of_mem _ (List.mem_append_right _ h)) 2 (by decide) rfl (hts _ (List.mem_of_getElem? (i := 2) rfl)) dX5_skipBlanks_5 (fun v4 ev4 lv4 uv4 => ?_)
      refine lv_icmp_ge (tgt := 38) hx hb dX5_skipBlanks_8 (by decide) (fun c5 => ?_) (fun c5 => ?_)
      · skip
        have tc5 := nu_le c5
        rw [← hQ]
        exact en_v Z S_0 F_0 (fun k hk => (z1 k hk)) dX5_skipBlanks_38
      · skip
        have tc5 := nu_nle c5
        refine lv_aload_n hx hb dX5_skipBlanks_11 rfl (lv_at hl_0 0 rfl) ?_
        refine tr_getr Z.1 Z.2.2.2.1 S_0.1 S_0.2 ha0 ta0 rfl rfl (fun _ h => List.mem_cons_of_mem _ (List.mem_append_right _ h)) 0 (by decide) rfl (hts _ (List.mem_of_getElem? (i := 3) rfl)) dX5_skipBlanks_12 (fun q6 eq6 hq6 tq6 => ?_)
        have tq6 : τ q6 = (32, 0) := tq6
        refine lv_aload_n hx hb dX5_skipBlanks_15 rfl (lv_at hl_0 0 rfl) ?_
        refine tr_geti Z.1 Z.2.2.2.1 S_0.1 S_0.2 ha0 ta0 rfl rfl (fun _ h => List.mem_cons_of_mem _ (List.mem_append_right _ h)) 3 (by decide) rfl (hts _ (List.mem_of_getElem? (i := 1) rfl)) dX5_skipBlanks_16 (fun v7 ev7 lv7 uv7 => ?_)
        have wv7 : v7 = v3 := ev7.symm.trans ev3
        have xv7 : v7.toInt = v3.toInt := by rw [wv7]
        refine tr_bald Z.1 Z.2.2.2.1 S_0.1 S_0.2 hq6 tq6 rfl (by omega) (by omega) dX5_skipBlanks_19 (fun v8 ev8 lv8 uv8 => ?_)
        obtain ⟨v9, ev9, tv9⟩ : ∃ v : Int32, (Int8.ofInt (32)).toInt32 = v ∧ v.toInt = 32 := ⟨_, rfl, by decide +kernel⟩
        refine lv_bipush hx hb dX5_skipBlanks_20 ev9 ?_
        refine lv_icmp_ne (tgt := 38) hx hb dX5_skipBlanks_22 (by decide) (fun c10 => ?_) (fun c10 => ?_)
        · skip
          have tc10 := nu_ne c10
          rw [← hQ]
          exact en_v Z S_0 F_0 (fun k hk => (z1 k hk)) dX5_skipBlanks_38
        · skip
          have tc10 := nu_eq c10
          refine lv_aload_n hx hb dX5_skipBlanks_25 rfl (lv_at hl_0 0 rfl) ?_
          refine lv_dup hx hb dX5_skipBlanks_26 rfl ?_
          refine tr_geti Z.1 Z.2.2.2.1 S_0.1 S_0.2 ha0 ta0 rfl rfl (fun _ h => List.mem_cons_of_mem _ (List.mem_append_right _ h)) 3 (by decide) rfl (hts _ (List.mem_of_getElem? (i := 1) rfl)) dX5_skipBlanks_27 (fun v11 ev11 lv11 uv11 => ?_)
          have wv11 : v11 = v7 := ev11.symm.trans ev7
          have xv11 : v11.toInt = v7.toInt := by rw [wv11]
          obtain ⟨v12, ev12, tv12⟩ : ∃ v : Int32, Int32.ofInt (1) = v ∧ v.toInt = 1 := ⟨_, rfl, by decide +kernel⟩
          refine lv_iconst hx hb dX5_skipBlanks_30 ev12 ?_
          refine lv_iadd hx hb dX5_skipBlanks_31 ?_
          refine lv_topi (fun v13 ev13 => ?_)
          have tv13 := nu_add ev13 (by omega) (by omega)
          refine tr_puti Z.1 Z.2.2.2.1 S_0.1 S_0.2 ha0 ta0 rfl rfl (fun _ h => List.mem_cons_of_mem _ (List.mem_append_right _ h)) tyX5_ok nmX5 3 (by decide) rfl rfl rfl (hts _ (List.mem_of_getElem? (i := 1) rfl)) dX5_skipBlanks_32 (by omega) (by omega) (fun E14 H15 k16 W14 I14 P14 => ?_)
          have S14 : Now D TB cy (va_A (va_pl L E) sz) s L τ E14 H15 k16 := ⟨W14, I14⟩
          have F14 : Fr L τ (inW [(7, 0)]) E E14 := Fr.put F_0 P14 ta0 rfl
          refine lv_goto (tgt := 0) hx hb dX5_skipBlanks_35 (by decide) ?_
          exact ih_0 E14 H15 k16 l_0 S14 F14 (fun k hk => ((fi_put P14 (Or.inr (fw_ne (by decide) hk))).trans (z1 k hk))) (by rw [(fi_at P14)]; omega) (by rw [(fi_at P14)]; omega) (lv_sub hl_0 [0] rfl)
  refine lv_aload_n hx hb dX5_skipBlanks_0 rfl (lv_at hl 0 rfl) ?_
  refine tr_geti Z.1 Z.2.2.2.1 S0.1 S0.2 ha0 ta0 rfl rfl (fun _ h => List.mem_cons_of_mem _ (List.mem_append_right _ h)) 3 (by decide) rfl (hts _ (List.mem_of_getElem? (i := 1) rfl)) dX5_skipBlanks_1 (fun v17 ev17 lv17 uv17 => ?_)
  refine lv_aload_n hx hb dX5_skipBlanks_4 rfl (lv_at hl 0 rfl) ?_
  refine tr_geti Z.1 Z.2.2.2.1 S0.1 S0.2 ha0 ta0 rfl rfl (fun _ h => List.mem_cons_of_mem _ (List.mem_append_right _ h)) 2 (by decide) rfl (hts _ (List.mem_of_getElem? (i := 2) rfl)) dX5_skipBlanks_5 (fun v18 ev18 lv18 uv18 => ?_)
  refine lv_icmp_ge (tgt := 38) hx hb dX5_skipBlanks_8 (by decide) (fun c19 => ?_) (fun c19 => ?_)
  · skip
    have tc19 := nu_le c19
    rw [← hQ]
    exact en_v Z S0 F0_ (fun k hk => ((fun k hk => rfl) k hk)) dX5_skipBlanks_38
  · skip
    have tc19 := nu_nle c19
    refine lv_aload_n hx hb dX5_skipBlanks_11 rfl (lv_at hl 0 rfl) ?_
    refine tr_getr Z.1 Z.2.2.2.1 S0.1 S0.2 ha0 ta0 rfl rfl (fun _ h => List.mem_cons_of_mem _ (List.mem_append_right _ h)) 0 (by decide) rfl (hts _ (List.mem_of_getElem? (i := 3) rfl)) dX5_skipBlanks_12 (fun q20 eq20 hq20 tq20 => ?_)
    have tq20 : τ q20 = (32, 0) := tq20
    refine lv_aload_n hx hb dX5_skipBlanks_15 rfl (lv_at hl 0 rfl) ?_
    refine tr_geti Z.1 Z.2.2.2.1 S0.1 S0.2 ha0 ta0 rfl rfl (fun _ h => List.mem_cons_of_mem _ (List.mem_append_right _ h)) 3 (by decide) rfl (hts _ (List.mem_of_getElem? (i := 1) rfl)) dX5_skipBlanks_16 (fun v21 ev21 lv21 uv21 => ?_)
    have wv21 : v21 = v17 := ev21.symm.trans ev17
    have xv21 : v21.toInt = v17.toInt := by rw [wv21]
    refine tr_bald Z.1 Z.2.2.2.1 S0.1 S0.2 hq20 tq20 rfl (by omega) (by omega) dX5_skipBlanks_19 (fun v22 ev22 lv22 uv22 => ?_)
    obtain ⟨v23, ev23, tv23⟩ : ∃ v : Int32, (Int8.ofInt (32)).toInt32 = v ∧ v.toInt = 32 := ⟨_, rfl, by decide +kernel⟩
    refine lv_bipush hx hb dX5_skipBlanks_20 ev23 ?_
    refine lv_icmp_ne (tgt := 38) hx hb dX5_skipBlanks_22 (by decide) (fun c24 => ?_) (fun c24 => ?_)
    · skip
      have tc24 := nu_ne c24
      rw [← hQ]
      exact en_v Z S0 F0_ (fun k hk => ((fun k hk => rfl) k hk)) dX5_skipBlanks_38
    · skip
      have tc24 := nu_eq c24
      refine lv_aload_n hx hb dX5_skipBlanks_25 rfl (lv_at hl 0 rfl) ?_
      refine lv_dup hx hb dX5_skipBlanks_26 rfl ?_
      refine tr_geti Z.1 Z.2.2.2.1 S0.1 S0.2 ha0 ta0 rfl rfl (fun _ h => List.mem_cons_of_mem _ (List.mem_append_right _ h)) 3 (by decide) rfl (hts _ (List.mem_of_getElem? (i := 1) rfl)) dX5_skipBlanks_27 (fun v25 ev25 lv25 uv25 => ?_)
      have wv25 : v25 = v21 := ev25.symm.trans ev21
      have xv25 : v25.toInt = v21.toInt := by rw [wv25]
      obtain ⟨v26, ev26, tv26⟩ : ∃ v : Int32, Int32.ofInt (1) = v ∧ v.toInt = 1 := ⟨_, rfl, by decide +kernel⟩
      refine lv_iconst hx hb dX5_skipBlanks_30 ev26 ?_
      refine lv_iadd hx hb dX5_skipBlanks_31 ?_
      refine lv_topi (fun v27 ev27 => ?_)
      have tv27 := nu_add ev27 (by omega) (by omega)
      refine tr_puti Z.1 Z.2.2.2.1 S0.1 S0.2 ha0 ta0 rfl rfl (fun _ h => List.mem_cons_of_mem _ (List.mem_append_right _ h)) tyX5_ok nmX5 3 (by decide) rfl rfl rfl (hts _ (List.mem_of_getElem? (i := 1) rfl)) dX5_skipBlanks_32 (by omega) (by omega) (fun E28 H29 k30 W28 I28 P28 => ?_)
      have S28 : Now D TB cy (va_A (va_pl L E) sz) s L τ E28 H29 k30 := ⟨W28, I28⟩
      have F28 : Fr L τ (inW [(7, 0)]) E E28 := Fr.put F0_ P28 ta0 rfl
      refine lv_goto (tgt := 0) hx hb dX5_skipBlanks_35 (by decide) ?_
      exact J0 _ E28 H29 k30 ls S28 F28 (fun k hk => ((fi_put P28 (Or.inr (fw_ne (by decide) hk))).trans ((fun k hk => rfl) k hk))) (by rw [(fi_at P28)]; omega) (Nat.lt_succ_self _) (lv_sub hl [0] rfl)

theorem dX5_letters_0 : decode cX5_letters 0 = .ok (.iconst 0, 1) := by decide +kernel
theorem dX5_letters_1 : decode cX5_letters 1 = .ok (.istore_n 1, 1) := by decide +kernel
theorem dX5_letters_2 : decode cX5_letters 2 = .ok (.aload_n 0, 1) := by decide +kernel
theorem dX5_letters_3 : decode cX5_letters 3 = .ok (.getfield 22, 3) := by decide +kernel
theorem dX5_letters_6 : decode cX5_letters 6 = .ok (.istore_n 2, 1) := by decide +kernel
theorem dX5_letters_7 : decode cX5_letters 7 = .ok (.iload_n 2, 1) := by decide +kernel
theorem dX5_letters_8 : decode cX5_letters 8 = .ok (.aload_n 0, 1) := by decide +kernel
theorem dX5_letters_9 : decode cX5_letters 9 = .ok (.getfield 19, 3) := by decide +kernel
theorem dX5_letters_12 : decode cX5_letters 12 = .ok (.if_icmp .ge 34, 3) := by decide +kernel
theorem dX5_letters_15 : decode cX5_letters 15 = .ok (.aload_n 0, 1) := by decide +kernel
theorem dX5_letters_16 : decode cX5_letters 16 = .ok (.getfield 11, 3) := by decide +kernel
theorem dX5_letters_19 : decode cX5_letters 19 = .ok (.iload_n 2, 1) := by decide +kernel
theorem dX5_letters_20 : decode cX5_letters 20 = .ok (.baload, 1) := by decide +kernel
theorem dX5_letters_21 : decode cX5_letters 21 = .ok (.bipush 97, 2) := by decide +kernel
theorem dX5_letters_23 : decode cX5_letters 23 = .ok (.if_icmp .lt 23, 3) := by decide +kernel
theorem dX5_letters_26 : decode cX5_letters 26 = .ok (.aload_n 0, 1) := by decide +kernel
theorem dX5_letters_27 : decode cX5_letters 27 = .ok (.getfield 11, 3) := by decide +kernel
theorem dX5_letters_30 : decode cX5_letters 30 = .ok (.iload_n 2, 1) := by decide +kernel
theorem dX5_letters_31 : decode cX5_letters 31 = .ok (.baload, 1) := by decide +kernel
theorem dX5_letters_32 : decode cX5_letters 32 = .ok (.bipush 122, 2) := by decide +kernel
theorem dX5_letters_34 : decode cX5_letters 34 = .ok (.if_icmp .gt 12, 3) := by decide +kernel
theorem dX5_letters_37 : decode cX5_letters 37 = .ok (.iinc 1 1, 3) := by decide +kernel
theorem dX5_letters_40 : decode cX5_letters 40 = .ok (.iinc 2 1, 3) := by decide +kernel
theorem dX5_letters_43 : decode cX5_letters 43 = .ok (.goto (-36), 3) := by decide +kernel
theorem dX5_letters_46 : decode cX5_letters 46 = .ok (.iload_n 1, 1) := by decide +kernel
theorem dX5_letters_47 : decode cX5_letters 47 = .ok (.ireturn, 1) := by decide +kernel
set_option maxHeartbeats 4000000 in
set_option maxRecDepth 100000 in
theorem k_X5_letters (l : Launch) (D : va_G) (cy : Nat → ClassId) {L : List Nat} {τ : Nat → Ro} {E : Ec} (hI : Inv TB cy L τ E) {a0 : Nat} (ha0 : a0 ∈ L) (ta0 : τ a0 = (7, 0)) : CtI l yX5_letters wsX5_letters { frames := 0, cells := 0, slots := 0, locals := 0 } D TB cy L τ E [.ref a0] (inW []) (fun r E' => E' = E ∧ (r.toInt + (fi E a0 3).toInt ≤ 120) ∧ 0 ≤ r.toInt ∧ r.toInt ≤ 120) := by
  intro sz
  refine sta (cc := cX5_letters) (maxL := 3) hI (by decide) rfl (Nat.le_of_ble_eq_true rfl) (fun p e s m args below meth c ls hsz Z S0 hl => ?_)
  have hx := Z.1.1
  have hb := Z.1.2.1
  have hts := Z.1.2.2.2.2
  have F0_ : Fr L τ (inW []) E E := Fr.refl
  have hl : lv_has ls 3 [(0, .ref a0)] := hl
  generalize hQ : MQ below _ args s 0 0 _ = QQ
  have kz_a0_3 := fi_rng (k := 3) hI ha0 ta0 rfl rfl
  have kz_a0_2 := fi_rng (k := 2) hI ha0 ta0 rfl rfl
  have J7 : ∀ (n : Nat) (x1_7 : Int32) (x2_7 : Int32) (H_7 : Heap) (k_7 : List Loc) (l_7 : Array Slot), Now D TB cy (va_A (va_pl L E) sz) s L τ E H_7 k_7 → (0 ≤ x1_7.toInt) → (x1_7.toInt ≤ 120) → (0 ≤ x2_7.toInt) → (x2_7.toInt ≤ 120) → (x1_7.toInt + (fi E a0 3).toInt = x2_7.toInt) → (120 - x1_7.toInt).toNat < n → lv_has l_7 3 [(0, .ref a0), (1, .int x1_7), (2, .int x2_7)] → W p l e { frames := 0, cells := 0, slots := 0, locals := 0 } s m args below meth c H_7 k_7 0 0 QQ (F0 m 7 l_7 []) := by
    intro n
    induction n with
    | zero => intro x1_7 x2_7 H_7 k_7 l_7 S_7 z1 z2 z3 z4 z5 hm hl_7; exact absurd hm (Nat.not_lt_zero _)
    | succ n ih =>
      intro x1_7 x2_7 H_7 k_7 l_7 S_7 z1 z2 z3 z4 z5 hm hl_7
      have ih_7 := ih
      refine lv_iload_n hx hb dX5_letters_7 rfl (lv_at hl_7 2 rfl) ?_
      refine lv_aload_n hx hb dX5_letters_8 rfl (lv_at hl_7 0 rfl) ?_
      refine tr_geti Z.1 Z.2.2.2.1 S_7.1 S_7.2 ha0 ta0 rfl rfl (fun _ h => List.mem_cons_of_mem _ (List.mem_append_right _ h)) 2 (by decide) rfl (hts _ (List.mem_of_getElem? (i := 2) rfl)) dX5_letters_9 (fun v6 ev6 lv6 uv6 => ?_)
      have wv6 : v6 = (fi E a0 2) := ev6.symm.trans rfl
      have xv6 : v6.toInt = (fi E a0 2).toInt := by rw [wv6]
      refine lv_icmp_ge (tgt := 46) hx hb dX5_letters_12 (by decide) (fun c7 => ?_) (fun c7 => ?_)
      · skip
        have tc7 := nu_le c7
        refine lv_iload_n hx hb dX5_letters_46 rfl (lv_at hl_7 1 rfl) ?_
        rw [← hQ]
        exact en_i Z S_7 F0_ ⟨rfl, (by omega), (by omega), (by omega)⟩ dX5_letters_47
      · skip
        have tc7 := nu_nle c7
        refine lv_aload_n hx hb dX5_letters_15 rfl (lv_at hl_7 0 rfl) ?_
        refine tr_getr Z.1 Z.2.2.2.1 S_7.1 S_7.2 ha0 ta0 rfl rfl (fun _ h => List.mem_cons_of_mem _ (List.mem_append_right _ h)) 0 (by decide) rfl (hts _ (List.mem_of_getElem? (i := 3) rfl)) dX5_letters_16 (fun q8 eq8 hq8 tq8 => ?_)
        have tq8 : τ q8 = (32, 0) := tq8
        refine lv_iload_n hx hb dX5_letters_19 rfl (lv_at hl_7 2 rfl) ?_
        refine tr_bald Z.1 Z.2.2.2.1 S_7.1 S_7.2 hq8 tq8 rfl (by omega) (by omega) dX5_letters_20 (fun v9 ev9 lv9 uv9 => ?_)
        obtain ⟨v10, ev10, tv10⟩ : ∃ v : Int32, (Int8.ofInt (97)).toInt32 = v ∧ v.toInt = 97 := ⟨_, rfl, by decide +kernel⟩
        refine lv_bipush hx hb dX5_letters_21 ev10 ?_
        refine lv_icmp_lt (tgt := 46) hx hb dX5_letters_23 (by decide) (fun c11 => ?_) (fun c11 => ?_)
        · skip
          have tc11 := nu_lt c11
          refine lv_iload_n hx hb dX5_letters_46 rfl (lv_at hl_7 1 rfl) ?_
          rw [← hQ]
          exact en_i Z S_7 F0_ ⟨rfl, (by omega), (by omega), (by omega)⟩ dX5_letters_47
        · skip
          have tc11 := nu_nlt c11
          refine lv_aload_n hx hb dX5_letters_26 rfl (lv_at hl_7 0 rfl) ?_
          refine tr_getr Z.1 Z.2.2.2.1 S_7.1 S_7.2 ha0 ta0 rfl rfl (fun _ h => List.mem_cons_of_mem _ (List.mem_append_right _ h)) 0 (by decide) rfl (hts _ (List.mem_of_getElem? (i := 3) rfl)) dX5_letters_27 (fun q12 eq12 hq12 tq12 => ?_)
          have tq12 : τ q12 = (32, 0) := tq12
          have uq12 : q8 = q12 := S_7.2.2.2.2 _ hq8 _ hq12 (tq8.trans tq12.symm) (by rw [tq8]; rfl)
          subst uq12
          refine lv_iload_n hx hb dX5_letters_30 rfl (lv_at hl_7 2 rfl) ?_
          refine tr_bald Z.1 Z.2.2.2.1 S_7.1 S_7.2 hq8 tq8 rfl (by omega) (by omega) dX5_letters_31 (fun v13 ev13 lv13 uv13 => ?_)
          obtain ⟨v14, ev14, tv14⟩ : ∃ v : Int32, (Int8.ofInt (122)).toInt32 = v ∧ v.toInt = 122 := ⟨_, rfl, by decide +kernel⟩
          refine lv_bipush hx hb dX5_letters_32 ev14 ?_
          refine lv_icmp_gt (tgt := 46) hx hb dX5_letters_34 (by decide) (fun c15 => ?_) (fun c15 => ?_)
          · skip
            have tc15 := nu_lt c15
            refine lv_iload_n hx hb dX5_letters_46 rfl (lv_at hl_7 1 rfl) ?_
            rw [← hQ]
            exact en_i Z S_7 F0_ ⟨rfl, (by omega), (by omega), (by omega)⟩ dX5_letters_47
          · skip
            have tc15 := nu_nlt c15
            obtain ⟨v16, ev16⟩ : ∃ y : Int32, x1_7 + Int32.ofInt (1) = y := ⟨_, rfl⟩
            have tv16 : v16.toInt = x1_7.toInt + (1) := by rw [← ev16]; exact (fb_addI (by rw [show (Int32.ofInt (1)).toInt = 1 from by decide +kernel]; omega) (by rw [show (Int32.ofInt (1)).toInt = 1 from by decide +kernel]; omega)).trans (by rw [show (Int32.ofInt (1)).toInt = 1 from by decide +kernel])
            refine lv_iinc (v := v16) (lv' := [(1, .int v16), (0, .ref a0), (2, .int x2_7)]) hx hb dX5_letters_37 hl_7 (k := 1) rfl ev16 (by decide) rfl (fun l17 hl18 => ?_)
            obtain ⟨v19, ev19⟩ : ∃ y : Int32, x2_7 + Int32.ofInt (1) = y := ⟨_, rfl⟩
            have tv19 : v19.toInt = x2_7.toInt + (1) := by rw [← ev19]; exact (fb_addI (by rw [show (Int32.ofInt (1)).toInt = 1 from by decide +kernel]; omega) (by rw [show (Int32.ofInt (1)).toInt = 1 from by decide +kernel]; omega)).trans (by rw [show (Int32.ofInt (1)).toInt = 1 from by decide +kernel])
            refine lv_iinc (v := v19) (lv' := [(2, .int v19), (1, .int v16), (0, .ref a0)]) hx hb dX5_letters_40 hl18 (k := 2) rfl ev19 (by decide) rfl (fun l20 hl21 => ?_)
            refine lv_goto (tgt := 7) hx hb dX5_letters_43 (by decide) ?_
            exact ih_7 v16 v19 H_7 k_7 l20 S_7 (by omega) (by omega) (by omega) (by omega) (by omega) (by omega) (lv_sub hl21 [2, 1, 0] rfl)
  obtain ⟨v22, ev22, tv22⟩ : ∃ v : Int32, Int32.ofInt (0) = v ∧ v.toInt = 0 := ⟨_, rfl, by decide +kernel⟩
  refine lv_iconst hx hb dX5_letters_0 ev22 ?_
  refine lv_istore_n (lv' := [(1, .int v22), (0, .ref a0)]) hx hb dX5_letters_1 rfl hl (by decide) rfl (fun l23 hl24 => ?_)
  refine lv_aload_n hx hb dX5_letters_2 rfl (lv_at hl24 1 rfl) ?_
  refine tr_geti Z.1 Z.2.2.2.1 S0.1 S0.2 ha0 ta0 rfl rfl (fun _ h => List.mem_cons_of_mem _ (List.mem_append_right _ h)) 3 (by decide) rfl (hts _ (List.mem_of_getElem? (i := 1) rfl)) dX5_letters_3 (fun v25 ev25 lv25 uv25 => ?_)
  have wv25 : v25 = (fi E a0 3) := ev25.symm.trans rfl
  have xv25 : v25.toInt = (fi E a0 3).toInt := by rw [wv25]
  refine lv_istore_n (lv' := [(2, .int v25), (1, .int v22), (0, .ref a0)]) hx hb dX5_letters_6 rfl hl24 (by decide) rfl (fun l26 hl27 => ?_)
  exact J7 _ v22 v25 s.heap [] l26 S0 (by omega) (by omega) (by omega) (by omega) (by omega) (Nat.lt_succ_self _) (lv_sub hl27 [2, 1, 0] rfl)

set_option maxRecDepth 20000 in
theorem ggX5_stands_J0_length_8abf5 : GoodIn wsX5_stands wsJ0_length_8abf5 := goodIn_r _ [8, 9, 10, 11, 12, 7, 13, 14, 15] (by decide +kernel) (by decide +kernel)
set_option maxRecDepth 20000 in
theorem gX5_stands_J0_length_8abf5 : GoodIn wsX5_stands (wsV RX5 137 RJ0 yJ0_length_8abf5 wsJ0_length_8abf5) := goodIn_app (goodIn_of _ (by decide +kernel)) ggX5_stands_J0_length_8abf5
set_option maxRecDepth 20000 in
theorem ggX5_stands_J0_charAt_5068e : GoodIn wsX5_stands wsJ0_charAt_5068e := goodIn_r _ [19, 9, 20, 21, 22, 7, 23, 14, 15, 24, 25, 26, 27, 28, 29, 30, 31, 32, 33, 34, 35, 36, 37, 38, 39, 40, 41, 42, 43, 44, 45, 46, 47, 48, 49, 50, 51, 52] (by decide +kernel) (by decide +kernel)
set_option maxRecDepth 20000 in
theorem gX5_stands_J0_charAt_5068e : GoodIn wsX5_stands (wsV RX5 149 RJ0 yJ0_charAt_5068e wsJ0_charAt_5068e) := goodIn_app (goodIn_of _ (by decide +kernel)) ggX5_stands_J0_charAt_5068e
theorem dX5_stands_0 : decode cX5_stands 0 = .ok (.aload_n 1, 1) := by decide +kernel
theorem dX5_stands_1 : decode cX5_stands 1 = .ok (.invokevirtual 137, 3) := by decide +kernel
theorem dX5_stands_4 : decode cX5_stands 4 = .ok (.iload_n 2, 1) := by decide +kernel
theorem dX5_stands_5 : decode cX5_stands 5 = .ok (.if_icmp .ne 16, 3) := by decide +kernel
theorem dX5_stands_8 : decode cX5_stands 8 = .ok (.iload_n 2, 1) := by decide +kernel
theorem dX5_stands_9 : decode cX5_stands 9 = .ok (.aload_n 0, 1) := by decide +kernel
theorem dX5_stands_10 : decode cX5_stands 10 = .ok (.getfield 19, 3) := by decide +kernel
theorem dX5_stands_13 : decode cX5_stands 13 = .ok (.aload_n 0, 1) := by decide +kernel
theorem dX5_stands_14 : decode cX5_stands 14 = .ok (.getfield 22, 3) := by decide +kernel
theorem dX5_stands_17 : decode cX5_stands 17 = .ok (.isub, 1) := by decide +kernel
theorem dX5_stands_18 : decode cX5_stands 18 = .ok (.if_icmp .le 5, 3) := by decide +kernel
theorem dX5_stands_21 : decode cX5_stands 21 = .ok (.iconst 0, 1) := by decide +kernel
theorem dX5_stands_22 : decode cX5_stands 22 = .ok (.ireturn, 1) := by decide +kernel
theorem dX5_stands_23 : decode cX5_stands 23 = .ok (.iconst 0, 1) := by decide +kernel
theorem dX5_stands_24 : decode cX5_stands 24 = .ok (.istore_n 3, 1) := by decide +kernel
theorem dX5_stands_25 : decode cX5_stands 25 = .ok (.iload_n 3, 1) := by decide +kernel
theorem dX5_stands_26 : decode cX5_stands 26 = .ok (.iload_n 2, 1) := by decide +kernel
theorem dX5_stands_27 : decode cX5_stands 27 = .ok (.if_icmp .ge 30, 3) := by decide +kernel
theorem dX5_stands_30 : decode cX5_stands 30 = .ok (.aload_n 0, 1) := by decide +kernel
theorem dX5_stands_31 : decode cX5_stands 31 = .ok (.getfield 11, 3) := by decide +kernel
theorem dX5_stands_34 : decode cX5_stands 34 = .ok (.aload_n 0, 1) := by decide +kernel
theorem dX5_stands_35 : decode cX5_stands 35 = .ok (.getfield 22, 3) := by decide +kernel
theorem dX5_stands_38 : decode cX5_stands 38 = .ok (.iload_n 3, 1) := by decide +kernel
theorem dX5_stands_39 : decode cX5_stands 39 = .ok (.iadd, 1) := by decide +kernel
theorem dX5_stands_40 : decode cX5_stands 40 = .ok (.baload, 1) := by decide +kernel
theorem dX5_stands_41 : decode cX5_stands 41 = .ok (.aload_n 1, 1) := by decide +kernel
theorem dX5_stands_42 : decode cX5_stands 42 = .ok (.iload_n 3, 1) := by decide +kernel
theorem dX5_stands_43 : decode cX5_stands 43 = .ok (.invokevirtual 149, 3) := by decide +kernel
theorem dX5_stands_46 : decode cX5_stands 46 = .ok (.if_icmp .eq 5, 3) := by decide +kernel
theorem dX5_stands_49 : decode cX5_stands 49 = .ok (.iconst 0, 1) := by decide +kernel
theorem dX5_stands_50 : decode cX5_stands 50 = .ok (.ireturn, 1) := by decide +kernel
theorem dX5_stands_51 : decode cX5_stands 51 = .ok (.iinc 3 1, 3) := by decide +kernel
theorem dX5_stands_54 : decode cX5_stands 54 = .ok (.goto (-29), 3) := by decide +kernel
theorem dX5_stands_57 : decode cX5_stands 57 = .ok (.iconst 1, 1) := by decide +kernel
theorem dX5_stands_58 : decode cX5_stands 58 = .ok (.ireturn, 1) := by decide +kernel
set_option maxHeartbeats 4000000 in
set_option maxRecDepth 100000 in
theorem k_X5_stands (l : Launch) (D : va_G) (cy : Nat → ClassId) {L : List Nat} {τ : Nat → Ro} {E : Ec} (hI : Inv TB cy L τ E) {G : Sg} {a0 : Nat} (ha0 : a0 ∈ L) (ta0 : τ a0 = (7, 0)) {i1 : Nat} (hi1 : i1 < 11) (a2 : Int32) : CtI1 G l yX5_stands wsX5_stands { frames := 5, cells := 0, slots := 0, locals := 106 } D TB cy L τ E [.ref a0, .ref (G.2.2.2.1 i1), .int a2] (inW []) (fun r E' => E' = E ∧ (r.toInt = 1 → a2.toInt = ((lenS.getD i1 0 : Nat) : Int)) ∧ 0 ≤ r.toInt ∧ r.toInt ≤ 1) := by
  intro sz
  refine sta1 (cc := cX5_stands) (maxL := 4) hI (by decide) rfl (Nat.le_of_ble_eq_true rfl) (fun p e s m args below meth c ls hsz Z SZ S0 hl => ?_)
  have hx := Z.1.1
  have hb := Z.1.2.1
  have hts := Z.1.2.2.2.2
  have F0_ : Fr L τ (inW []) E E := Fr.refl
  have hl : lv_has ls 4 [(0, .ref a0), (1, .ref (G.2.2.2.1 i1)), (2, .int a2)] := hl
  generalize hQ : MQ below _ args s 0 0 _ = QQ
  have kz_a0_3 := fi_rng (k := 3) hI ha0 ta0 rfl rfl
  have kz_a0_2 := fi_rng (k := 2) hI ha0 ta0 rfl rfl
  have J25 : ∀ (n : Nat) (x3_25 : Int32) (H_25 : Heap) (k_25 : List Loc) (l_25 : Array Slot), Now D TB cy (va_A (va_pl L E) sz) s L τ E H_25 k_25 → (0 ≤ a2.toInt) → (a2.toInt ≤ 6) → (0 ≤ x3_25.toInt) → (x3_25.toInt ≤ 6) → (a2.toInt = ((lenS.getD i1 0 : Nat) : Int)) → (a2.toInt + (fi E a0 3).toInt ≤ (fi E a0 2).toInt) → (a2.toInt ≤ 6) → (6 - x3_25.toInt).toNat < n → lv_has l_25 4 [(0, .ref a0), (1, .ref (G.2.2.2.1 i1)), (2, .int a2), (3, .int x3_25)] → W p l e { frames := 5, cells := 0, slots := 0, locals := 106 } s m args below meth c H_25 k_25 0 0 QQ (F0 m 25 l_25 []) := by
    intro n
    induction n with
    | zero => intro x3_25 H_25 k_25 l_25 S_25 z1 z2 z3 z4 z5 z6 z7 hm hl_25; exact absurd hm (Nat.not_lt_zero _)
    | succ n ih =>
      intro x3_25 H_25 k_25 l_25 S_25 z1 z2 z3 z4 z5 z6 z7 hm hl_25
      have ih_25 := ih
      refine lv_iload_n hx hb dX5_stands_25 rfl (lv_at hl_25 3 rfl) ?_
      refine lv_iload_n hx hb dX5_stands_26 rfl (lv_at hl_25 2 rfl) ?_
      refine lv_icmp_ge (tgt := 57) hx hb dX5_stands_27 (by decide) (fun c8 => ?_) (fun c8 => ?_)
      · skip
        have tc8 := nu_le c8
        obtain ⟨v9, ev9, tv9⟩ : ∃ v : Int32, Int32.ofInt (1) = v ∧ v.toInt = 1 := ⟨_, rfl, by decide +kernel⟩
        refine lv_iconst hx hb dX5_stands_57 ev9 ?_
        rw [← hQ]
        exact en_z Z S_25 F0_ (zo v9 (by omega)) ⟨rfl, (by omega), (by omega), (by omega)⟩ dX5_stands_58
      · skip
        have tc8 := nu_nle c8
        refine lv_aload_n hx hb dX5_stands_30 rfl (lv_at hl_25 0 rfl) ?_
        refine tr_getr Z.1 Z.2.2.2.1 S_25.1 S_25.2 ha0 ta0 rfl rfl (fun _ h => List.mem_cons_of_mem _ (List.mem_append_right _ h)) 0 (by decide) rfl (hts _ (List.mem_of_getElem? (i := 3) rfl)) dX5_stands_31 (fun q10 eq10 hq10 tq10 => ?_)
        have tq10 : τ q10 = (32, 0) := tq10
        refine lv_aload_n hx hb dX5_stands_34 rfl (lv_at hl_25 0 rfl) ?_
        refine tr_geti Z.1 Z.2.2.2.1 S_25.1 S_25.2 ha0 ta0 rfl rfl (fun _ h => List.mem_cons_of_mem _ (List.mem_append_right _ h)) 3 (by decide) rfl (hts _ (List.mem_of_getElem? (i := 2) rfl)) dX5_stands_35 (fun v11 ev11 lv11 uv11 => ?_)
        have wv11 : v11 = (fi E a0 3) := ev11.symm.trans rfl
        have xv11 : v11.toInt = (fi E a0 3).toInt := by rw [wv11]
        refine lv_iload_n hx hb dX5_stands_38 rfl (lv_at hl_25 3 rfl) ?_
        refine lv_iadd hx hb dX5_stands_39 ?_
        refine lv_topi (fun v12 ev12 => ?_)
        have tv12 := nu_add ev12 (by omega) (by omega)
        refine tr_bald Z.1 Z.2.2.2.1 S_25.1 S_25.2 hq10 tq10 rfl (by omega) (by omega) dX5_stands_40 (fun v13 ev13 lv13 uv13 => ?_)
        refine lv_aload_n hx hb dX5_stands_41 rfl (lv_at hl_25 1 rfl) ?_
        refine lv_iload_n hx hb dX5_stands_42 rfl (lv_at hl_25 3 rfl) ?_
        refine tcS_vi Z.1 Z.2.2.2.1 Z.2.2.2.2.1 Z.2.2.2.2.2 SZ S_25.1 hi1 (k_J0_charAt_5068e l D cy S_25.2 hi1 x3_25 (by omega) (by omega)) (cwV 1 hts gX5_stands_J0_charAt_5068e rfl rfl rfl (by decide +kernel) ⟨Nat.le_of_ble_eq_true rfl, Nat.le_of_ble_eq_true rfl⟩) rfl hl_25.1 rfl (Nat.le_of_ble_eq_true rfl) dX5_stands_43 ⟨Nat.zero_le _, Nat.zero_le _⟩ (fun v17 E14 H15 k16 W14 I14 G14 p14 => ?_)
        obtain ⟨q14, p14_0⟩ := p14
        have q14 := q14.symm
        subst q14
        have S14 : Now D TB cy (va_A (va_pl L E) sz) s L τ E H15 k16 := ⟨W14, I14⟩
        refine lv_icmp_eq (tgt := 51) hx hb dX5_stands_46 (by decide) (fun c18 => ?_) (fun c18 => ?_)
        · skip
          have tc18 := nu_eq c18
          obtain ⟨v19, ev19⟩ : ∃ y : Int32, x3_25 + Int32.ofInt (1) = y := ⟨_, rfl⟩
          have tv19 : v19.toInt = x3_25.toInt + (1) := by rw [← ev19]; exact (fb_addI (by rw [show (Int32.ofInt (1)).toInt = 1 from by decide +kernel]; omega) (by rw [show (Int32.ofInt (1)).toInt = 1 from by decide +kernel]; omega)).trans (by rw [show (Int32.ofInt (1)).toInt = 1 from by decide +kernel])
          refine lv_iinc (v := v19) (lv' := [(3, .int v19), (0, .ref a0), (1, .ref (G.2.2.2.1 i1)), (2, .int a2)]) hx hb dX5_stands_51 hl_25 (k := 3) rfl ev19 (by decide) rfl (fun l20 hl21 => ?_)
          refine lv_goto (tgt := 25) hx hb dX5_stands_54 (by decide) ?_
          exact ih_25 v19 H15 k16 l20 S14 (by omega) (by omega) (by omega) (by omega) (by omega) (by omega) (by omega) (by omega) (lv_sub hl21 [1, 2, 3, 0] rfl)
        · skip
          have tc18 := nu_ne c18
          obtain ⟨v22, ev22, tv22⟩ : ∃ v : Int32, Int32.ofInt (0) = v ∧ v.toInt = 0 := ⟨_, rfl, by decide +kernel⟩
          refine lv_iconst hx hb dX5_stands_49 ev22 ?_
          rw [← hQ]
          exact en_z Z S14 F0_ (zo v22 (by omega)) ⟨rfl, (by omega), (by omega), (by omega)⟩ dX5_stands_50
  refine lv_aload_n hx hb dX5_stands_0 rfl (lv_at hl 1 rfl) ?_
  refine tcS_vi Z.1 Z.2.2.2.1 Z.2.2.2.2.1 Z.2.2.2.2.2 SZ S0.1 hi1 (k_J0_length_8abf5 l D cy S0.2 hi1) (cwV 0 hts gX5_stands_J0_length_8abf5 rfl rfl rfl (by decide +kernel) ⟨Nat.le_of_ble_eq_true rfl, Nat.le_of_ble_eq_true rfl⟩) rfl hl.1 rfl (Nat.le_of_ble_eq_true rfl) dX5_stands_1 ⟨Nat.zero_le _, Nat.zero_le _⟩ (fun v26 E23 H24 k25 W23 I23 G23 p23 => ?_)
  obtain ⟨q23, p23_0, p23_1, p23_2⟩ := p23
  have q23 := q23.symm
  subst q23
  have S23 : Now D TB cy (va_A (va_pl L E) sz) s L τ E H24 k25 := ⟨W23, I23⟩
  refine lv_iload_n hx hb dX5_stands_4 rfl (lv_at hl 2 rfl) ?_
  refine lv_icmp_ne (tgt := 21) hx hb dX5_stands_5 (by decide) (fun c27 => ?_) (fun c27 => ?_)
  · skip
    have tc27 := nu_ne c27
    obtain ⟨v28, ev28, tv28⟩ : ∃ v : Int32, Int32.ofInt (0) = v ∧ v.toInt = 0 := ⟨_, rfl, by decide +kernel⟩
    refine lv_iconst hx hb dX5_stands_21 ev28 ?_
    rw [← hQ]
    exact en_z Z S23 F0_ (zo v28 (by omega)) ⟨rfl, (by omega), (by omega), (by omega)⟩ dX5_stands_22
  · skip
    have tc27 := nu_eq c27
    refine lv_iload_n hx hb dX5_stands_8 rfl (lv_at hl 2 rfl) ?_
    refine lv_aload_n hx hb dX5_stands_9 rfl (lv_at hl 0 rfl) ?_
    refine tr_geti Z.1 Z.2.2.2.1 S23.1 S23.2 ha0 ta0 rfl rfl (fun _ h => List.mem_cons_of_mem _ (List.mem_append_right _ h)) 2 (by decide) rfl (hts _ (List.mem_of_getElem? (i := 1) rfl)) dX5_stands_10 (fun v29 ev29 lv29 uv29 => ?_)
    have wv29 : v29 = (fi E a0 2) := ev29.symm.trans rfl
    have xv29 : v29.toInt = (fi E a0 2).toInt := by rw [wv29]
    refine lv_aload_n hx hb dX5_stands_13 rfl (lv_at hl 0 rfl) ?_
    refine tr_geti Z.1 Z.2.2.2.1 S23.1 S23.2 ha0 ta0 rfl rfl (fun _ h => List.mem_cons_of_mem _ (List.mem_append_right _ h)) 3 (by decide) rfl (hts _ (List.mem_of_getElem? (i := 2) rfl)) dX5_stands_14 (fun v30 ev30 lv30 uv30 => ?_)
    have wv30 : v30 = (fi E a0 3) := ev30.symm.trans rfl
    have xv30 : v30.toInt = (fi E a0 3).toInt := by rw [wv30]
    refine lv_isub hx hb dX5_stands_17 ?_
    refine lv_topi (fun v31 ev31 => ?_)
    have tv31 := nu_sub ev31 (by omega) (by omega)
    refine lv_icmp_le (tgt := 23) hx hb dX5_stands_18 (by decide) (fun c32 => ?_) (fun c32 => ?_)
    · skip
      have tc32 := nu_le c32
      obtain ⟨v33, ev33, tv33⟩ : ∃ v : Int32, Int32.ofInt (0) = v ∧ v.toInt = 0 := ⟨_, rfl, by decide +kernel⟩
      refine lv_iconst hx hb dX5_stands_23 ev33 ?_
      refine lv_istore_n (lv' := [(3, .int v33), (0, .ref a0), (1, .ref (G.2.2.2.1 i1)), (2, .int a2)]) hx hb dX5_stands_24 rfl hl (by decide) rfl (fun l34 hl35 => ?_)
      exact J25 _ v33 H24 k25 l34 S23 (by omega) (by omega) (by omega) (by omega) (by omega) (by omega) (by omega) (Nat.lt_succ_self _) (lv_sub hl35 [1, 2, 3, 0] rfl)
    · skip
      have tc32 := nu_nle c32
      obtain ⟨v36, ev36, tv36⟩ : ∃ v : Int32, Int32.ofInt (0) = v ∧ v.toInt = 0 := ⟨_, rfl, by decide +kernel⟩
      refine lv_iconst hx hb dX5_stands_21 ev36 ?_
      rw [← hQ]
      exact en_z Z S23 F0_ (zo v36 (by omega)) ⟨rfl, (by omega), (by omega), (by omega)⟩ dX5_stands_22

set_option maxRecDepth 20000 in
theorem ggX5_readNumber_X5_peek : GoodIn wsX5_readNumber wsX5_peek := goodIn_r _ [11, 1, 2, 12, 16, 17, 18, 19, 20, 21, 22, 23, 24, 25, 26, 27, 28, 29] (by decide +kernel) (by decide +kernel)
set_option maxRecDepth 20000 in
theorem gX5_readNumber_X5_peek : GoodIn wsX5_readNumber (wsV RX5 96 RX5 yX5_peek wsX5_peek) := goodIn_app (goodIn_of _ (by decide +kernel)) ggX5_readNumber_X5_peek
set_option maxRecDepth 20000 in
theorem ggX5_readNumber_X5_isDigit : GoodIn wsX5_readNumber wsX5_isDigit := goodIn_r _ [15] (by decide +kernel) (by decide +kernel)
set_option maxRecDepth 20000 in
theorem gX5_readNumber_X5_isDigit : GoodIn wsX5_readNumber (va_wsS RX5 111 yX5_isDigit wsX5_isDigit) := goodIn_app (goodIn_of _ (by decide +kernel)) ggX5_readNumber_X5_isDigit
theorem dX5_readNumber_0 : decode cX5_readNumber 0 = .ok (.iconst 0, 1) := by decide +kernel
theorem dX5_readNumber_1 : decode cX5_readNumber 1 = .ok (.istore_n 1, 1) := by decide +kernel
theorem dX5_readNumber_2 : decode cX5_readNumber 2 = .ok (.aload_n 0, 1) := by decide +kernel
theorem dX5_readNumber_3 : decode cX5_readNumber 3 = .ok (.getfield 22, 3) := by decide +kernel
theorem dX5_readNumber_6 : decode cX5_readNumber 6 = .ok (.aload_n 0, 1) := by decide +kernel
theorem dX5_readNumber_7 : decode cX5_readNumber 7 = .ok (.getfield 19, 3) := by decide +kernel
theorem dX5_readNumber_10 : decode cX5_readNumber 10 = .ok (.if_icmp .ge 45, 3) := by decide +kernel
theorem dX5_readNumber_13 : decode cX5_readNumber 13 = .ok (.aload_n 0, 1) := by decide +kernel
theorem dX5_readNumber_14 : decode cX5_readNumber 14 = .ok (.invokevirtual 96, 3) := by decide +kernel
theorem dX5_readNumber_17 : decode cX5_readNumber 17 = .ok (.invokestatic 111, 3) := by decide +kernel
theorem dX5_readNumber_20 : decode cX5_readNumber 20 = .ok (.ifCond .eq 35, 3) := by decide +kernel
theorem dX5_readNumber_23 : decode cX5_readNumber 23 = .ok (.iload_n 1, 1) := by decide +kernel
theorem dX5_readNumber_24 : decode cX5_readNumber 24 = .ok (.bipush 10, 2) := by decide +kernel
theorem dX5_readNumber_26 : decode cX5_readNumber 26 = .ok (.imul, 1) := by decide +kernel
theorem dX5_readNumber_27 : decode cX5_readNumber 27 = .ok (.aload_n 0, 1) := by decide +kernel
theorem dX5_readNumber_28 : decode cX5_readNumber 28 = .ok (.invokevirtual 96, 3) := by decide +kernel
theorem dX5_readNumber_31 : decode cX5_readNumber 31 = .ok (.iadd, 1) := by decide +kernel
theorem dX5_readNumber_32 : decode cX5_readNumber 32 = .ok (.bipush 48, 2) := by decide +kernel
theorem dX5_readNumber_34 : decode cX5_readNumber 34 = .ok (.isub, 1) := by decide +kernel
theorem dX5_readNumber_35 : decode cX5_readNumber 35 = .ok (.sipush 10000, 3) := by decide +kernel
theorem dX5_readNumber_38 : decode cX5_readNumber 38 = .ok (.invokestatic 57, 3) := by decide +kernel
theorem dX5_readNumber_41 : decode cX5_readNumber 41 = .ok (.istore_n 1, 1) := by decide +kernel
theorem dX5_readNumber_42 : decode cX5_readNumber 42 = .ok (.aload_n 0, 1) := by decide +kernel
theorem dX5_readNumber_43 : decode cX5_readNumber 43 = .ok (.dup, 1) := by decide +kernel
theorem dX5_readNumber_44 : decode cX5_readNumber 44 = .ok (.getfield 22, 3) := by decide +kernel
theorem dX5_readNumber_47 : decode cX5_readNumber 47 = .ok (.iconst 1, 1) := by decide +kernel
theorem dX5_readNumber_48 : decode cX5_readNumber 48 = .ok (.iadd, 1) := by decide +kernel
theorem dX5_readNumber_49 : decode cX5_readNumber 49 = .ok (.putfield 22, 3) := by decide +kernel
theorem dX5_readNumber_52 : decode cX5_readNumber 52 = .ok (.goto (-50), 3) := by decide +kernel
theorem dX5_readNumber_55 : decode cX5_readNumber 55 = .ok (.iload_n 1, 1) := by decide +kernel
theorem dX5_readNumber_56 : decode cX5_readNumber 56 = .ok (.ireturn, 1) := by decide +kernel
set_option maxHeartbeats 4000000 in
set_option maxRecDepth 100000 in
theorem k_X5_readNumber (l : Launch) (D : va_G) (cy : Nat → ClassId) {L : List Nat} {τ : Nat → Ro} {E : Ec} (hI : Inv TB cy L τ E) {a0 : Nat} (ha0 : a0 ∈ L) (ta0 : τ a0 = (7, 0)) : CtI l yX5_readNumber wsX5_readNumber { frames := 1, cells := 0, slots := 0, locals := 21 } D TB cy L τ E [.ref a0] (inW [(7, 0)]) (fun r E' => (∀ k : Nat, k ∉ ([3] : List Nat) → fi E' a0 k = fi E a0 k)) := by
  intro sz
  refine sta (cc := cX5_readNumber) (maxL := 2) hI (by decide) rfl (Nat.le_of_ble_eq_true rfl) (fun p e s m args below meth c ls hsz Z S0 hl => ?_)
  have hx := Z.1.1
  have hb := Z.1.2.1
  have hts := Z.1.2.2.2.2
  have F0_ : Fr L τ (inW [(7, 0)]) E E := Fr.refl
  have hl : lv_has ls 2 [(0, .ref a0)] := hl
  generalize hQ : MQ below _ args s 0 0 _ = QQ
  have J2 : ∀ (n : Nat) (x1_2 : Int32) (E_2 : Ec) (H_2 : Heap) (k_2 : List Loc) (l_2 : Array Slot), Now D TB cy (va_A (va_pl L E) sz) s L τ E_2 H_2 k_2 → Fr L τ (inW [(7, 0)]) E E_2 → (x1_2.toInt ≤ 10000) → (∀ k : Nat, k ∉ ([3] : List Nat) → fi E_2 a0 k = fi E a0 k) → (0 ≤ (fi E_2 a0 3).toInt ∧ (fi E_2 a0 3).toInt ≤ 120) → (120 - (fi E_2 a0 3).toInt).toNat < n → lv_has l_2 2 [(0, .ref a0), (1, .int x1_2)] → W p l e { frames := 1, cells := 0, slots := 0, locals := 21 } s m args below meth c H_2 k_2 0 0 QQ (F0 m 2 l_2 []) := by
    intro n
    induction n with
    | zero => intro x1_2 E_2 H_2 k_2 l_2 S_2 F_2 z1 z2 z3 hm hl_2; exact absurd hm (Nat.not_lt_zero _)
    | succ n ih =>
      intro x1_2 E_2 H_2 k_2 l_2 S_2 F_2 z1 z2 z3 hm hl_2
      have ih_2 := ih
      refine lv_aload_n hx hb dX5_readNumber_2 rfl (lv_at hl_2 0 rfl) ?_
      refine tr_geti Z.1 Z.2.2.2.1 S_2.1 S_2.2 ha0 ta0 rfl rfl (fun _ h => List.mem_cons_of_mem _ (List.mem_append_right _ h)) 3 (by decide) rfl (hts _ (List.mem_of_getElem? (i := 1) rfl)) dX5_readNumber_3 (fun v4 ev4 lv4 uv4 => ?_)
      have wv4 : v4 = (fi E_2 a0 3) := ev4.symm.trans rfl
      have xv4 : v4.toInt = (fi E_2 a0 3).toInt := by rw [wv4]
      refine lv_aload_n hx hb dX5_readNumber_6 rfl (lv_at hl_2 0 rfl) ?_
      refine tr_geti Z.1 Z.2.2.2.1 S_2.1 S_2.2 ha0 ta0 rfl rfl (fun _ h => List.mem_cons_of_mem _ (List.mem_append_right _ h)) 2 (by decide) rfl (hts _ (List.mem_of_getElem? (i := 2) rfl)) dX5_readNumber_7 (fun v5 ev5 lv5 uv5 => ?_)
      refine lv_icmp_ge (tgt := 55) hx hb dX5_readNumber_10 (by decide) (fun c6 => ?_) (fun c6 => ?_)
      · skip
        have tc6 := nu_le c6
        refine lv_iload_n hx hb dX5_readNumber_55 rfl (lv_at hl_2 1 rfl) ?_
        rw [← hQ]
        exact en_i Z S_2 F_2 (fun k hk => (z2 k hk)) dX5_readNumber_56
      · skip
        have tc6 := nu_nle c6
        refine lv_aload_n hx hb dX5_readNumber_13 rfl (lv_at hl_2 0 rfl) ?_
        refine tc_vi Z.1 Z.2.2.2.1 Z.2.2.2.2.1 Z.2.2.2.2.2 S_2.1 S_2.2 ha0 ta0 rfl rfl (k_X5_peek l D cy S_2.2 ha0 ta0) (cwV 0 hts gX5_readNumber_X5_peek rfl rfl rfl (by decide +kernel) ⟨Nat.le_of_ble_eq_true rfl, Nat.le_of_ble_eq_true rfl⟩) rfl hl_2.1 rfl (Nat.le_of_ble_eq_true rfl) dX5_readNumber_14 ⟨Nat.zero_le _, Nat.zero_le _⟩ (fun v10 E7 H8 k9 W7 I7 G7 p7 => ?_)
        obtain ⟨q7, p7_0, p7_1, p7_2⟩ := p7
        have q7 := q7.symm
        subst q7
        have S7 : Now D TB cy (va_A (va_pl L E) sz) s L τ E_2 H8 k9 := ⟨W7, I7⟩
        try rw [ev4] at p7_0
        refine tc_si Z.1 Z.2.2.2.1 Z.2.2.2.2.1 Z.2.2.2.2.2 S7.1 (k_X5_isDigit l D cy S7.2 v10) (va_cwS 1 hts gX5_readNumber_X5_isDigit rfl rfl rfl (by decide +kernel) ⟨Nat.le_of_ble_eq_true rfl, Nat.le_of_ble_eq_true rfl⟩) rfl hl_2.1 rfl (Nat.le_of_ble_eq_true rfl) dX5_readNumber_17 ⟨Nat.zero_le _, Nat.zero_le _⟩ (fun v14 E11 H12 k13 W11 I11 G11 p11 => ?_)
        obtain ⟨q11, p11_0, p11_1⟩ := p11
        have q11 := q11.symm
        subst q11
        have S11 : Now D TB cy (va_A (va_pl L E) sz) s L τ E_2 H12 k13 := ⟨W11, I11⟩
        refine lv_if_eq (tgt := 55) hx hb dX5_readNumber_20 (by decide) (fun c15 => ?_) (fun c15 => ?_)
        · skip
          have tc15 := nu_eq c15
          have uc15 : (0 : Int32).toInt = 0 := rfl
          refine lv_iload_n hx hb dX5_readNumber_55 rfl (lv_at hl_2 1 rfl) ?_
          rw [← hQ]
          exact en_i Z S11 F_2 (fun k hk => (z2 k hk)) dX5_readNumber_56
        · skip
          have tc15 := nu_ne c15
          have uc15 : (0 : Int32).toInt = 0 := rfl
          refine lv_iload_n hx hb dX5_readNumber_23 rfl (lv_at hl_2 1 rfl) ?_
          obtain ⟨v16, ev16, tv16⟩ : ∃ v : Int32, (Int8.ofInt (10)).toInt32 = v ∧ v.toInt = 10 := ⟨_, rfl, by decide +kernel⟩
          refine lv_bipush hx hb dX5_readNumber_24 ev16 ?_
          refine lv_imul hx hb dX5_readNumber_26 ?_
          refine lv_topi (fun v17 ev17 => ?_)
          refine lv_aload_n hx hb dX5_readNumber_27 rfl (lv_at hl_2 0 rfl) ?_
          refine tc_vi Z.1 Z.2.2.2.1 Z.2.2.2.2.1 Z.2.2.2.2.2 S11.1 S11.2 ha0 ta0 rfl rfl (k_X5_peek l D cy S11.2 ha0 ta0) (cwV 0 hts gX5_readNumber_X5_peek rfl rfl rfl (by decide +kernel) ⟨Nat.le_of_ble_eq_true rfl, Nat.le_of_ble_eq_true rfl⟩) rfl hl_2.1 rfl (Nat.le_of_ble_eq_true rfl) dX5_readNumber_28 ⟨Nat.zero_le _, Nat.zero_le _⟩ (fun v21 E18 H19 k20 W18 I18 G18 p18 => ?_)
          obtain ⟨q18, p18_0, p18_1, p18_2⟩ := p18
          have q18 := q18.symm
          subst q18
          have S18 : Now D TB cy (va_A (va_pl L E) sz) s L τ E_2 H19 k20 := ⟨W18, I18⟩
          try rw [ev4] at p18_0
          refine lv_iadd hx hb dX5_readNumber_31 ?_
          refine lv_topi (fun v22 ev22 => ?_)
          obtain ⟨v23, ev23, tv23⟩ : ∃ v : Int32, (Int8.ofInt (48)).toInt32 = v ∧ v.toInt = 48 := ⟨_, rfl, by decide +kernel⟩
          refine lv_bipush hx hb dX5_readNumber_32 ev23 ?_
          refine lv_isub hx hb dX5_readNumber_34 ?_
          refine lv_topi (fun v24 ev24 => ?_)
          obtain ⟨v25, ev25, tv25⟩ : ∃ v : Int32, (Int16.ofInt (10000)).toInt32 = v ∧ v.toInt = 10000 := ⟨_, rfl, by decide +kernel⟩
          refine lv_sipush hx hb dX5_readNumber_35 ev25 ?_
          refine va_mmin hx hb (Z.1.2.2.1.trans hl_2.1.symm) Z.1.2.2.2.1 (hts _ (List.mem_of_getElem? (i := 3) rfl)) (hts _ (List.mem_of_getElem? (i := 4) rfl)) (hts _ (List.mem_of_getElem? (i := 5) rfl)) (hts _ (List.mem_of_getElem? (i := 6) rfl)) (Nat.le_of_ble_eq_true rfl) (Nat.le_of_ble_eq_true rfl) (Nat.zero_le _) (Nat.zero_le _) dX5_readNumber_38 ?_
          refine lv_topi (fun v26 ev26 => ?_)
          have tv26 := nu_min ev26
          refine lv_istore_n (lv' := [(1, .int v26), (0, .ref a0)]) hx hb dX5_readNumber_41 rfl hl_2 (by decide) rfl (fun l27 hl28 => ?_)
          refine lv_aload_n hx hb dX5_readNumber_42 rfl (lv_at hl28 1 rfl) ?_
          refine lv_dup hx hb dX5_readNumber_43 rfl ?_
          refine tr_geti Z.1 Z.2.2.2.1 S18.1 S18.2 ha0 ta0 rfl rfl (fun _ h => List.mem_cons_of_mem _ (List.mem_append_right _ h)) 3 (by decide) rfl (hts _ (List.mem_of_getElem? (i := 1) rfl)) dX5_readNumber_44 (fun v29 ev29 lv29 uv29 => ?_)
          have wv29 : v29 = v4 := ev29.symm.trans ev4
          have xv29 : v29.toInt = v4.toInt := by rw [wv29]
          obtain ⟨v30, ev30, tv30⟩ : ∃ v : Int32, Int32.ofInt (1) = v ∧ v.toInt = 1 := ⟨_, rfl, by decide +kernel⟩
          refine lv_iconst hx hb dX5_readNumber_47 ev30 ?_
          refine lv_iadd hx hb dX5_readNumber_48 ?_
          refine lv_topi (fun v31 ev31 => ?_)
          have tv31 := nu_add ev31 (by omega) (by omega)
          refine tr_puti Z.1 Z.2.2.2.1 S18.1 S18.2 ha0 ta0 rfl rfl (fun _ h => List.mem_cons_of_mem _ (List.mem_append_right _ h)) tyX5_ok nmX5 3 (by decide) rfl rfl rfl (hts _ (List.mem_of_getElem? (i := 1) rfl)) dX5_readNumber_49 (by omega) (by omega) (fun E32 H33 k34 W32 I32 P32 => ?_)
          have S32 : Now D TB cy (va_A (va_pl L E) sz) s L τ E32 H33 k34 := ⟨W32, I32⟩
          have F32 : Fr L τ (inW [(7, 0)]) E E32 := Fr.put F_2 P32 ta0 rfl
          refine lv_goto (tgt := 2) hx hb dX5_readNumber_52 (by decide) ?_
          exact ih_2 v26 E32 H33 k34 l27 S32 F32 (by have := fb_rng v26; omega) (fun k hk => ((fi_put P32 (Or.inr (fw_ne (by decide) hk))).trans (z2 k hk))) (by rw [(fi_at P32)]; have := fb_rng v26; omega) (by rw [(fi_at P32)]; omega) (lv_sub hl28 [1, 0] rfl)
  obtain ⟨v35, ev35, tv35⟩ : ∃ v : Int32, Int32.ofInt (0) = v ∧ v.toInt = 0 := ⟨_, rfl, by decide +kernel⟩
  refine lv_iconst hx hb dX5_readNumber_0 ev35 ?_
  refine lv_istore_n (lv' := [(1, .int v35), (0, .ref a0)]) hx hb dX5_readNumber_1 rfl hl (by decide) rfl (fun l36 hl37 => ?_)
  exact J2 _ v35 E s.heap [] l36 S0 F0_ (by omega) (fun k hk => ((fun k hk => rfl) k hk)) (fi_rng S0.2 ha0 ta0 rfl rfl) (Nat.lt_succ_self _) (lv_sub hl37 [1, 0] rfl)

set_option maxRecDepth 20000 in
theorem ggX5_readTimes_X5_skipBlanks : GoodIn wsX5_readTimes wsX5_skipBlanks := goodIn_r _ [6, 1, 7, 8, 13, 14, 15, 16, 17, 18, 19, 20, 21, 22, 23, 24, 25, 26] (by decide +kernel) (by decide +kernel)
set_option maxRecDepth 20000 in
theorem gX5_readTimes_X5_skipBlanks : GoodIn wsX5_readTimes (wsV RX5 78 RX5 yX5_skipBlanks wsX5_skipBlanks) := goodIn_app (goodIn_of _ (by decide +kernel)) ggX5_readTimes_X5_skipBlanks
set_option maxRecDepth 20000 in
theorem ggX5_readTimes_X5_peek : GoodIn wsX5_readTimes wsX5_peek := goodIn_r _ [12, 1, 7, 8, 13, 14, 15, 16, 17, 18, 19, 20, 21, 22, 23, 24, 25, 26] (by decide +kernel) (by decide +kernel)
set_option maxRecDepth 20000 in
theorem gX5_readTimes_X5_peek : GoodIn wsX5_readTimes (wsV RX5 96 RX5 yX5_peek wsX5_peek) := goodIn_app (goodIn_of _ (by decide +kernel)) ggX5_readTimes_X5_peek
theorem dX5_readTimes_0 : decode cX5_readTimes 0 = .ok (.aload_n 0, 1) := by decide +kernel
theorem dX5_readTimes_1 : decode cX5_readTimes 1 = .ok (.invokevirtual 78, 3) := by decide +kernel
theorem dX5_readTimes_4 : decode cX5_readTimes 4 = .ok (.aload_n 0, 1) := by decide +kernel
theorem dX5_readTimes_5 : decode cX5_readTimes 5 = .ok (.invokevirtual 96, 3) := by decide +kernel
theorem dX5_readTimes_8 : decode cX5_readTimes 8 = .ok (.bipush 42, 2) := by decide +kernel
theorem dX5_readTimes_10 : decode cX5_readTimes 10 = .ok (.if_icmp .eq 5, 3) := by decide +kernel
theorem dX5_readTimes_13 : decode cX5_readTimes 13 = .ok (.iconst 0, 1) := by decide +kernel
theorem dX5_readTimes_14 : decode cX5_readTimes 14 = .ok (.ireturn, 1) := by decide +kernel
theorem dX5_readTimes_15 : decode cX5_readTimes 15 = .ok (.aload_n 0, 1) := by decide +kernel
theorem dX5_readTimes_16 : decode cX5_readTimes 16 = .ok (.dup, 1) := by decide +kernel
theorem dX5_readTimes_17 : decode cX5_readTimes 17 = .ok (.getfield 22, 3) := by decide +kernel
theorem dX5_readTimes_20 : decode cX5_readTimes 20 = .ok (.iconst 1, 1) := by decide +kernel
theorem dX5_readTimes_21 : decode cX5_readTimes 21 = .ok (.iadd, 1) := by decide +kernel
theorem dX5_readTimes_22 : decode cX5_readTimes 22 = .ok (.putfield 22, 3) := by decide +kernel
theorem dX5_readTimes_25 : decode cX5_readTimes 25 = .ok (.aload_n 0, 1) := by decide +kernel
theorem dX5_readTimes_26 : decode cX5_readTimes 26 = .ok (.invokevirtual 78, 3) := by decide +kernel
theorem dX5_readTimes_29 : decode cX5_readTimes 29 = .ok (.iconst 1, 1) := by decide +kernel
theorem dX5_readTimes_30 : decode cX5_readTimes 30 = .ok (.ireturn, 1) := by decide +kernel
set_option maxHeartbeats 4000000 in
set_option maxRecDepth 100000 in
theorem k_X5_readTimes (l : Launch) (D : va_G) (cy : Nat → ClassId) {L : List Nat} {τ : Nat → Ro} {E : Ec} (hI : Inv TB cy L τ E) {a0 : Nat} (ha0 : a0 ∈ L) (ta0 : τ a0 = (7, 0)) : CtI l yX5_readTimes wsX5_readTimes { frames := 1, cells := 0, slots := 0, locals := 20 } D TB cy L τ E [.ref a0] (inW [(7, 0)]) (fun r E' => 0 ≤ r.toInt ∧ r.toInt ≤ 1 ∧ (∀ k : Nat, k ∉ ([3] : List Nat) → fi E' a0 k = fi E a0 k)) := by
  intro sz
  refine sta (cc := cX5_readTimes) (maxL := 1) hI (by decide) rfl (Nat.le_of_ble_eq_true rfl) (fun p e s m args below meth c ls hsz Z S0 hl => ?_)
  have hx := Z.1.1
  have hb := Z.1.2.1
  have hts := Z.1.2.2.2.2
  have F0_ : Fr L τ (inW [(7, 0)]) E E := Fr.refl
  have hl : lv_has ls 1 [(0, .ref a0)] := hl
  generalize hQ : MQ below _ args s 0 0 _ = QQ
  refine lv_aload_n hx hb dX5_readTimes_0 rfl (lv_at hl 0 rfl) ?_
  refine tc_vv Z.1 Z.2.2.2.1 Z.2.2.2.2.1 Z.2.2.2.2.2 S0.1 S0.2 ha0 ta0 rfl rfl (k_X5_skipBlanks l D cy S0.2 ha0 ta0) (cwV 0 hts gX5_readTimes_X5_skipBlanks rfl rfl rfl (by decide +kernel) ⟨Nat.le_of_ble_eq_true rfl, Nat.le_of_ble_eq_true rfl⟩) rfl hl.1 rfl (Nat.le_of_ble_eq_true rfl) dX5_readTimes_1 ⟨Nat.zero_le _, Nat.zero_le _⟩ (fun E1 H2 k3 W1 I1 G1 p1 => ?_)
  have p1_0 := p1
  have S1 : Now D TB cy (va_A (va_pl L E) sz) s L τ E1 H2 k3 := ⟨W1, I1⟩
  have F1 : Fr L τ (inW [(7, 0)]) E E1 := F0_.trans (G1.mono (inW_mono (by decide)))
  refine lv_aload_n hx hb dX5_readTimes_4 rfl (lv_at hl 0 rfl) ?_
  refine tc_vi Z.1 Z.2.2.2.1 Z.2.2.2.2.1 Z.2.2.2.2.2 S1.1 S1.2 ha0 ta0 rfl rfl (k_X5_peek l D cy S1.2 ha0 ta0) (cwV 0 hts gX5_readTimes_X5_peek rfl rfl rfl (by decide +kernel) ⟨Nat.le_of_ble_eq_true rfl, Nat.le_of_ble_eq_true rfl⟩) rfl hl.1 rfl (Nat.le_of_ble_eq_true rfl) dX5_readTimes_5 ⟨Nat.zero_le _, Nat.zero_le _⟩ (fun v8 E5 H6 k7 W5 I5 G5 p5 => ?_)
  obtain ⟨q5, p5_0, p5_1, p5_2⟩ := p5
  have q5 := q5.symm
  subst q5
  have S5 : Now D TB cy (va_A (va_pl L E) sz) s L τ E1 H6 k7 := ⟨W5, I5⟩
  have kz5_3 := fi_rng (k := 3) S5.2 ha0 ta0 rfl rfl
  obtain ⟨v9, ev9, tv9⟩ : ∃ v : Int32, (Int8.ofInt (42)).toInt32 = v ∧ v.toInt = 42 := ⟨_, rfl, by decide +kernel⟩
  refine lv_bipush hx hb dX5_readTimes_8 ev9 ?_
  refine lv_icmp_eq (tgt := 15) hx hb dX5_readTimes_10 (by decide) (fun c10 => ?_) (fun c10 => ?_)
  · skip
    have tc10 := nu_eq c10
    refine lv_aload_n hx hb dX5_readTimes_15 rfl (lv_at hl 0 rfl) ?_
    refine lv_dup hx hb dX5_readTimes_16 rfl ?_
    refine tr_geti Z.1 Z.2.2.2.1 S5.1 S5.2 ha0 ta0 rfl rfl (fun _ h => List.mem_cons_of_mem _ (List.mem_append_right _ h)) 3 (by decide) rfl (hts _ (List.mem_of_getElem? (i := 1) rfl)) dX5_readTimes_17 (fun v11 ev11 lv11 uv11 => ?_)
    have wv11 : v11 = (fi E1 a0 3) := ev11.symm.trans rfl
    have xv11 : v11.toInt = (fi E1 a0 3).toInt := by rw [wv11]
    obtain ⟨v12, ev12, tv12⟩ : ∃ v : Int32, Int32.ofInt (1) = v ∧ v.toInt = 1 := ⟨_, rfl, by decide +kernel⟩
    refine lv_iconst hx hb dX5_readTimes_20 ev12 ?_
    refine lv_iadd hx hb dX5_readTimes_21 ?_
    refine lv_topi (fun v13 ev13 => ?_)
    have tv13 := nu_add ev13 (by omega) (by omega)
    refine tr_puti Z.1 Z.2.2.2.1 S5.1 S5.2 ha0 ta0 rfl rfl (fun _ h => List.mem_cons_of_mem _ (List.mem_append_right _ h)) tyX5_ok nmX5 3 (by decide) rfl rfl rfl (hts _ (List.mem_of_getElem? (i := 1) rfl)) dX5_readTimes_22 (by omega) (by omega) (fun E14 H15 k16 W14 I14 P14 => ?_)
    have S14 : Now D TB cy (va_A (va_pl L E) sz) s L τ E14 H15 k16 := ⟨W14, I14⟩
    have F14 : Fr L τ (inW [(7, 0)]) E E14 := Fr.put F1 P14 ta0 rfl
    refine lv_aload_n hx hb dX5_readTimes_25 rfl (lv_at hl 0 rfl) ?_
    refine tc_vv Z.1 Z.2.2.2.1 Z.2.2.2.2.1 Z.2.2.2.2.2 S14.1 S14.2 ha0 ta0 rfl rfl (k_X5_skipBlanks l D cy S14.2 ha0 ta0) (cwV 0 hts gX5_readTimes_X5_skipBlanks rfl rfl rfl (by decide +kernel) ⟨Nat.le_of_ble_eq_true rfl, Nat.le_of_ble_eq_true rfl⟩) rfl hl.1 rfl (Nat.le_of_ble_eq_true rfl) dX5_readTimes_26 ⟨Nat.zero_le _, Nat.zero_le _⟩ (fun E17 H18 k19 W17 I17 G17 p17 => ?_)
    have p17_0 := p17
    have S17 : Now D TB cy (va_A (va_pl L E) sz) s L τ E17 H18 k19 := ⟨W17, I17⟩
    have F17 : Fr L τ (inW [(7, 0)]) E E17 := F14.trans (G17.mono (inW_mono (by decide)))
    obtain ⟨v21, ev21, tv21⟩ : ∃ v : Int32, Int32.ofInt (1) = v ∧ v.toInt = 1 := ⟨_, rfl, by decide +kernel⟩
    refine lv_iconst hx hb dX5_readTimes_29 ev21 ?_
    rw [← hQ]
    exact en_z Z S17 F17 (zo v21 (by omega)) ⟨(by omega), (by omega), (fun k hk => ((p17_0 k (fw_sub (by decide) hk)).trans ((fi_put P14 (Or.inr (fw_ne (by decide) hk))).trans ((p1_0 k (fw_sub (by decide) hk)).trans ((fun k hk => rfl) k hk)))))⟩ dX5_readTimes_30
  · skip
    have tc10 := nu_ne c10
    obtain ⟨v22, ev22, tv22⟩ : ∃ v : Int32, Int32.ofInt (0) = v ∧ v.toInt = 0 := ⟨_, rfl, by decide +kernel⟩
    refine lv_iconst hx hb dX5_readTimes_13 ev22 ?_
    rw [← hQ]
    exact en_z Z S5 F1 (zo v22 (by omega)) ⟨(by omega), (by omega), (fun k hk => ((p1_0 k (fw_sub (by decide) hk)).trans ((fun k hk => rfl) k hk)))⟩ dX5_readTimes_14

set_option maxRecDepth 20000 in
theorem ggX5_readRel_X5_peek : GoodIn wsX5_readRel wsX5_peek := goodIn_r _ [6, 1, 7, 8, 15, 16, 17, 18, 19, 20, 21, 22, 23, 24, 25, 26, 27, 28] (by decide +kernel) (by decide +kernel)
set_option maxRecDepth 20000 in
theorem gX5_readRel_X5_peek : GoodIn wsX5_readRel (wsV RX5 96 RX5 yX5_peek wsX5_peek) := goodIn_app (goodIn_of _ (by decide +kernel)) ggX5_readRel_X5_peek
set_option maxRecDepth 20000 in
theorem ggX5_readRel_X5_fail : GoodIn wsX5_readRel wsX5_fail := goodIn_r _ [12, 13, 14, 15, 16, 17, 18, 19, 20, 21, 22, 23, 24, 25, 26, 27, 28] (by decide +kernel) (by decide +kernel)
set_option maxRecDepth 20000 in
theorem gX5_readRel_X5_fail : GoodIn wsX5_readRel (wsV RX5 92 RX5 yX5_fail wsX5_fail) := goodIn_app (goodIn_of _ (by decide +kernel)) ggX5_readRel_X5_fail
theorem dX5_readRel_0 : decode cX5_readRel 0 = .ok (.aload_n 0, 1) := by decide +kernel
theorem dX5_readRel_1 : decode cX5_readRel 1 = .ok (.invokevirtual 96, 3) := by decide +kernel
theorem dX5_readRel_4 : decode cX5_readRel 4 = .ok (.istore_n 1, 1) := by decide +kernel
theorem dX5_readRel_5 : decode cX5_readRel 5 = .ok (.iload_n 1, 1) := by decide +kernel
theorem dX5_readRel_6 : decode cX5_readRel 6 = .ok (.bipush 60, 2) := by decide +kernel
theorem dX5_readRel_8 : decode cX5_readRel 8 = .ok (.if_icmp .eq 20, 3) := by decide +kernel
theorem dX5_readRel_11 : decode cX5_readRel 11 = .ok (.iload_n 1, 1) := by decide +kernel
theorem dX5_readRel_12 : decode cX5_readRel 12 = .ok (.bipush 62, 2) := by decide +kernel
theorem dX5_readRel_14 : decode cX5_readRel 14 = .ok (.if_icmp .eq 14, 3) := by decide +kernel
theorem dX5_readRel_17 : decode cX5_readRel 17 = .ok (.aload_n 0, 1) := by decide +kernel
theorem dX5_readRel_18 : decode cX5_readRel 18 = .ok (.iconst 1, 1) := by decide +kernel
theorem dX5_readRel_19 : decode cX5_readRel 19 = .ok (.aload_n 0, 1) := by decide +kernel
theorem dX5_readRel_20 : decode cX5_readRel 20 = .ok (.getfield 22, 3) := by decide +kernel
theorem dX5_readRel_23 : decode cX5_readRel 23 = .ok (.invokevirtual 92, 3) := by decide +kernel
theorem dX5_readRel_26 : decode cX5_readRel 26 = .ok (.iconst 0, 1) := by decide +kernel
theorem dX5_readRel_27 : decode cX5_readRel 27 = .ok (.ireturn, 1) := by decide +kernel
theorem dX5_readRel_28 : decode cX5_readRel 28 = .ok (.aload_n 0, 1) := by decide +kernel
theorem dX5_readRel_29 : decode cX5_readRel 29 = .ok (.dup, 1) := by decide +kernel
theorem dX5_readRel_30 : decode cX5_readRel 30 = .ok (.getfield 22, 3) := by decide +kernel
theorem dX5_readRel_33 : decode cX5_readRel 33 = .ok (.iconst 1, 1) := by decide +kernel
theorem dX5_readRel_34 : decode cX5_readRel 34 = .ok (.iadd, 1) := by decide +kernel
theorem dX5_readRel_35 : decode cX5_readRel 35 = .ok (.putfield 22, 3) := by decide +kernel
theorem dX5_readRel_38 : decode cX5_readRel 38 = .ok (.aload_n 0, 1) := by decide +kernel
theorem dX5_readRel_39 : decode cX5_readRel 39 = .ok (.invokevirtual 96, 3) := by decide +kernel
theorem dX5_readRel_42 : decode cX5_readRel 42 = .ok (.bipush 61, 2) := by decide +kernel
theorem dX5_readRel_44 : decode cX5_readRel 44 = .ok (.if_icmp .eq 14, 3) := by decide +kernel
theorem dX5_readRel_47 : decode cX5_readRel 47 = .ok (.aload_n 0, 1) := by decide +kernel
theorem dX5_readRel_48 : decode cX5_readRel 48 = .ok (.iconst 1, 1) := by decide +kernel
theorem dX5_readRel_49 : decode cX5_readRel 49 = .ok (.aload_n 0, 1) := by decide +kernel
theorem dX5_readRel_50 : decode cX5_readRel 50 = .ok (.getfield 22, 3) := by decide +kernel
theorem dX5_readRel_53 : decode cX5_readRel 53 = .ok (.invokevirtual 92, 3) := by decide +kernel
theorem dX5_readRel_56 : decode cX5_readRel 56 = .ok (.iconst 0, 1) := by decide +kernel
theorem dX5_readRel_57 : decode cX5_readRel 57 = .ok (.ireturn, 1) := by decide +kernel
theorem dX5_readRel_58 : decode cX5_readRel 58 = .ok (.aload_n 0, 1) := by decide +kernel
theorem dX5_readRel_59 : decode cX5_readRel 59 = .ok (.dup, 1) := by decide +kernel
theorem dX5_readRel_60 : decode cX5_readRel 60 = .ok (.getfield 22, 3) := by decide +kernel
theorem dX5_readRel_63 : decode cX5_readRel 63 = .ok (.iconst 1, 1) := by decide +kernel
theorem dX5_readRel_64 : decode cX5_readRel 64 = .ok (.iadd, 1) := by decide +kernel
theorem dX5_readRel_65 : decode cX5_readRel 65 = .ok (.putfield 22, 3) := by decide +kernel
theorem dX5_readRel_68 : decode cX5_readRel 68 = .ok (.iload_n 1, 1) := by decide +kernel
theorem dX5_readRel_69 : decode cX5_readRel 69 = .ok (.bipush 60, 2) := by decide +kernel
theorem dX5_readRel_71 : decode cX5_readRel 71 = .ok (.if_icmp .ne 7, 3) := by decide +kernel
theorem dX5_readRel_74 : decode cX5_readRel 74 = .ok (.iconst 1, 1) := by decide +kernel
theorem dX5_readRel_75 : decode cX5_readRel 75 = .ok (.goto 4, 3) := by decide +kernel
theorem dX5_readRel_78 : decode cX5_readRel 78 = .ok (.iconst (-1), 1) := by decide +kernel
theorem dX5_readRel_79 : decode cX5_readRel 79 = .ok (.ireturn, 1) := by decide +kernel
set_option maxHeartbeats 4000000 in
set_option maxRecDepth 100000 in
theorem k_X5_readRel (l : Launch) (D : va_G) (cy : Nat → ClassId) {L : List Nat} {τ : Nat → Ro} {E : Ec} (hI : Inv TB cy L τ E) {a0 : Nat} (ha0 : a0 ∈ L) (ta0 : τ a0 = (7, 0)) : CtI l yX5_readRel wsX5_readRel { frames := 1, cells := 0, slots := 0, locals := 22 } D TB cy L τ E [.ref a0] (inW [(7, 0)]) (fun r E' => -1 ≤ r.toInt ∧ r.toInt ≤ 1 ∧ (∀ k : Nat, k ∉ ([3, 4, 5] : List Nat) → fi E' a0 k = fi E a0 k)) := by
  intro sz
  refine sta (cc := cX5_readRel) (maxL := 2) hI (by decide) rfl (Nat.le_of_ble_eq_true rfl) (fun p e s m args below meth c ls hsz Z S0 hl => ?_)
  have hx := Z.1.1
  have hb := Z.1.2.1
  have hts := Z.1.2.2.2.2
  have F0_ : Fr L τ (inW [(7, 0)]) E E := Fr.refl
  have hl : lv_has ls 2 [(0, .ref a0)] := hl
  generalize hQ : MQ below _ args s 0 0 _ = QQ
  have J28 : ∀ (x1_28 : Int32) (E_28 : Ec) (H_28 : Heap) (k_28 : List Loc) (l_28 : Array Slot), Now D TB cy (va_A (va_pl L E) sz) s L τ E_28 H_28 k_28 → Fr L τ (inW [(7, 0)]) E E_28 → (60 ≤ x1_28.toInt) → (x1_28.toInt ≤ 62) → (∀ k : Nat, k ∉ ([3, 4, 5] : List Nat) → fi E_28 a0 k = fi E a0 k) → (0 ≤ (fi E_28 a0 3).toInt ∧ (fi E_28 a0 3).toInt ≤ 119) → lv_has l_28 2 [(0, .ref a0), (1, .int x1_28)] → W p l e { frames := 1, cells := 0, slots := 0, locals := 22 } s m args below meth c H_28 k_28 0 0 QQ (F0 m 28 l_28 []) := by
    intro x1_28 E_28 H_28 k_28 l_28 S_28 F_28 z1 z2 z3 z4 hl_28
    refine lv_aload_n hx hb dX5_readRel_28 rfl (lv_at hl_28 0 rfl) ?_
    refine lv_dup hx hb dX5_readRel_29 rfl ?_
    refine tr_geti Z.1 Z.2.2.2.1 S_28.1 S_28.2 ha0 ta0 rfl rfl (fun _ h => List.mem_cons_of_mem _ (List.mem_append_right _ h)) 3 (by decide) rfl (hts _ (List.mem_of_getElem? (i := 1) rfl)) dX5_readRel_30 (fun v5 ev5 lv5 uv5 => ?_)
    have wv5 : v5 = (fi E_28 a0 3) := ev5.symm.trans rfl
    have xv5 : v5.toInt = (fi E_28 a0 3).toInt := by rw [wv5]
    obtain ⟨v6, ev6, tv6⟩ : ∃ v : Int32, Int32.ofInt (1) = v ∧ v.toInt = 1 := ⟨_, rfl, by decide +kernel⟩
    refine lv_iconst hx hb dX5_readRel_33 ev6 ?_
    refine lv_iadd hx hb dX5_readRel_34 ?_
    refine lv_topi (fun v7 ev7 => ?_)
    have tv7 := nu_add ev7 (by omega) (by omega)
    refine tr_puti Z.1 Z.2.2.2.1 S_28.1 S_28.2 ha0 ta0 rfl rfl (fun _ h => List.mem_cons_of_mem _ (List.mem_append_right _ h)) tyX5_ok nmX5 3 (by decide) rfl rfl rfl (hts _ (List.mem_of_getElem? (i := 1) rfl)) dX5_readRel_35 (by omega) (by omega) (fun E8 H9 k10 W8 I8 P8 => ?_)
    have S8 : Now D TB cy (va_A (va_pl L E) sz) s L τ E8 H9 k10 := ⟨W8, I8⟩
    have F8 : Fr L τ (inW [(7, 0)]) E E8 := Fr.put F_28 P8 ta0 rfl
    refine lv_aload_n hx hb dX5_readRel_38 rfl (lv_at hl_28 0 rfl) ?_
    refine tc_vi Z.1 Z.2.2.2.1 Z.2.2.2.2.1 Z.2.2.2.2.2 S8.1 S8.2 ha0 ta0 rfl rfl (k_X5_peek l D cy S8.2 ha0 ta0) (cwV 0 hts gX5_readRel_X5_peek rfl rfl rfl (by decide +kernel) ⟨Nat.le_of_ble_eq_true rfl, Nat.le_of_ble_eq_true rfl⟩) rfl hl_28.1 rfl (Nat.le_of_ble_eq_true rfl) dX5_readRel_39 ⟨Nat.zero_le _, Nat.zero_le _⟩ (fun v14 E11 H12 k13 W11 I11 G11 p11 => ?_)
    obtain ⟨q11, p11_0, p11_1, p11_2⟩ := p11
    have q11 := q11.symm
    subst q11
    have S11 : Now D TB cy (va_A (va_pl L E) sz) s L τ E8 H12 k13 := ⟨W11, I11⟩
    try rw [(fi_at P8)] at p11_0
    obtain ⟨v15, ev15, tv15⟩ : ∃ v : Int32, (Int8.ofInt (61)).toInt32 = v ∧ v.toInt = 61 := ⟨_, rfl, by decide +kernel⟩
    refine lv_bipush hx hb dX5_readRel_42 ev15 ?_
    refine lv_icmp_eq (tgt := 58) hx hb dX5_readRel_44 (by decide) (fun c16 => ?_) (fun c16 => ?_)
    · skip
      have tc16 := nu_eq c16
      refine lv_aload_n hx hb dX5_readRel_58 rfl (lv_at hl_28 0 rfl) ?_
      refine lv_dup hx hb dX5_readRel_59 rfl ?_
      refine tr_geti Z.1 Z.2.2.2.1 S11.1 S11.2 ha0 ta0 rfl rfl (fun _ h => List.mem_cons_of_mem _ (List.mem_append_right _ h)) 3 (by decide) rfl (hts _ (List.mem_of_getElem? (i := 1) rfl)) dX5_readRel_60 (fun v17 ev17 lv17 uv17 => ?_)
      have wv17 : v17 = v7 := ev17.symm.trans (fi_at P8)
      have xv17 : v17.toInt = v7.toInt := by rw [wv17]
      obtain ⟨v18, ev18, tv18⟩ : ∃ v : Int32, Int32.ofInt (1) = v ∧ v.toInt = 1 := ⟨_, rfl, by decide +kernel⟩
      refine lv_iconst hx hb dX5_readRel_63 ev18 ?_
      refine lv_iadd hx hb dX5_readRel_64 ?_
      refine lv_topi (fun v19 ev19 => ?_)
      have tv19 := nu_add ev19 (by omega) (by omega)
      refine tr_puti Z.1 Z.2.2.2.1 S11.1 S11.2 ha0 ta0 rfl rfl (fun _ h => List.mem_cons_of_mem _ (List.mem_append_right _ h)) tyX5_ok nmX5 3 (by decide) rfl rfl rfl (hts _ (List.mem_of_getElem? (i := 1) rfl)) dX5_readRel_65 (by omega) (by omega) (fun E20 H21 k22 W20 I20 P20 => ?_)
      have S20 : Now D TB cy (va_A (va_pl L E) sz) s L τ E20 H21 k22 := ⟨W20, I20⟩
      have F20 : Fr L τ (inW [(7, 0)]) E E20 := Fr.put F8 P20 ta0 rfl
      refine lv_iload_n hx hb dX5_readRel_68 rfl (lv_at hl_28 1 rfl) ?_
      obtain ⟨v23, ev23, tv23⟩ : ∃ v : Int32, (Int8.ofInt (60)).toInt32 = v ∧ v.toInt = 60 := ⟨_, rfl, by decide +kernel⟩
      refine lv_bipush hx hb dX5_readRel_69 ev23 ?_
      refine lv_icmp_ne (tgt := 78) hx hb dX5_readRel_71 (by decide) (fun c24 => ?_) (fun c24 => ?_)
      · skip
        have tc24 := nu_ne c24
        obtain ⟨v25, ev25, tv25⟩ : ∃ v : Int32, Int32.ofInt (-1) = v ∧ v.toInt = -1 := ⟨_, rfl, by decide +kernel⟩
        refine lv_iconst hx hb dX5_readRel_78 ev25 ?_
        rw [← hQ]
        exact en_i Z S20 F20 ⟨(by omega), (by omega), (fun k hk => ((fi_put P20 (Or.inr (fw_ne (by decide) hk))).trans ((fi_put P8 (Or.inr (fw_ne (by decide) hk))).trans (z3 k hk))))⟩ dX5_readRel_79
      · skip
        have tc24 := nu_eq c24
        obtain ⟨v26, ev26, tv26⟩ : ∃ v : Int32, Int32.ofInt (1) = v ∧ v.toInt = 1 := ⟨_, rfl, by decide +kernel⟩
        refine lv_iconst hx hb dX5_readRel_74 ev26 ?_
        refine lv_goto (tgt := 79) hx hb dX5_readRel_75 (by decide) ?_
        rw [← hQ]
        exact en_i Z S20 F20 ⟨(by omega), (by omega), (fun k hk => ((fi_put P20 (Or.inr (fw_ne (by decide) hk))).trans ((fi_put P8 (Or.inr (fw_ne (by decide) hk))).trans (z3 k hk))))⟩ dX5_readRel_79
    · skip
      have tc16 := nu_ne c16
      refine lv_aload_n hx hb dX5_readRel_47 rfl (lv_at hl_28 0 rfl) ?_
      obtain ⟨v27, ev27, tv27⟩ : ∃ v : Int32, Int32.ofInt (1) = v ∧ v.toInt = 1 := ⟨_, rfl, by decide +kernel⟩
      refine lv_iconst hx hb dX5_readRel_48 ev27 ?_
      refine lv_aload_n hx hb dX5_readRel_49 rfl (lv_at hl_28 0 rfl) ?_
      refine tr_geti Z.1 Z.2.2.2.1 S11.1 S11.2 ha0 ta0 rfl rfl (fun _ h => List.mem_cons_of_mem _ (List.mem_append_right _ h)) 3 (by decide) rfl (hts _ (List.mem_of_getElem? (i := 1) rfl)) dX5_readRel_50 (fun v28 ev28 lv28 uv28 => ?_)
      have wv28 : v28 = v7 := ev28.symm.trans (fi_at P8)
      have xv28 : v28.toInt = v7.toInt := by rw [wv28]
      refine tc_vv Z.1 Z.2.2.2.1 Z.2.2.2.2.1 Z.2.2.2.2.2 S11.1 S11.2 ha0 ta0 rfl rfl (k_X5_fail l D cy S11.2 ha0 ta0 v27 (by omega) (by omega) v28) (cwV 2 hts gX5_readRel_X5_fail rfl rfl rfl (by decide +kernel) ⟨Nat.le_of_ble_eq_true rfl, Nat.le_of_ble_eq_true rfl⟩) rfl hl_28.1 rfl (Nat.le_of_ble_eq_true rfl) dX5_readRel_53 ⟨Nat.zero_le _, Nat.zero_le _⟩ (fun E29 H30 k31 W29 I29 G29 p29 => ?_)
      obtain ⟨p29_0, p29_1⟩ := p29
      have S29 : Now D TB cy (va_A (va_pl L E) sz) s L τ E29 H30 k31 := ⟨W29, I29⟩
      have F29 : Fr L τ (inW [(7, 0)]) E E29 := F8.trans (G29.mono (inW_mono (by decide)))
      have kz29_4 := fi_rng (k := 4) S29.2 ha0 ta0 rfl rfl
      obtain ⟨v33, ev33, tv33⟩ : ∃ v : Int32, Int32.ofInt (0) = v ∧ v.toInt = 0 := ⟨_, rfl, by decide +kernel⟩
      refine lv_iconst hx hb dX5_readRel_56 ev33 ?_
      rw [← hQ]
      exact en_i Z S29 F29 ⟨(by omega), (by omega), (fun k hk => ((p29_1 k (fw_sub (by decide) hk)).trans ((fi_put P8 (Or.inr (fw_ne (by decide) hk))).trans (z3 k hk))))⟩ dX5_readRel_57
  refine lv_aload_n hx hb dX5_readRel_0 rfl (lv_at hl 0 rfl) ?_
  refine tc_vi Z.1 Z.2.2.2.1 Z.2.2.2.2.1 Z.2.2.2.2.2 S0.1 S0.2 ha0 ta0 rfl rfl (k_X5_peek l D cy S0.2 ha0 ta0) (cwV 0 hts gX5_readRel_X5_peek rfl rfl rfl (by decide +kernel) ⟨Nat.le_of_ble_eq_true rfl, Nat.le_of_ble_eq_true rfl⟩) rfl hl.1 rfl (Nat.le_of_ble_eq_true rfl) dX5_readRel_1 ⟨Nat.zero_le _, Nat.zero_le _⟩ (fun v37 E34 H35 k36 W34 I34 G34 p34 => ?_)
  obtain ⟨q34, p34_0, p34_1, p34_2⟩ := p34
  have q34 := q34.symm
  subst q34
  have S34 : Now D TB cy (va_A (va_pl L E) sz) s L τ E H35 k36 := ⟨W34, I34⟩
  have kz34_3 := fi_rng (k := 3) S34.2 ha0 ta0 rfl rfl
  refine lv_istore_n (lv' := [(1, .int v37), (0, .ref a0)]) hx hb dX5_readRel_4 rfl hl (by decide) rfl (fun l38 hl39 => ?_)
  refine lv_iload_n hx hb dX5_readRel_5 rfl (lv_at hl39 0 rfl) ?_
  obtain ⟨v40, ev40, tv40⟩ : ∃ v : Int32, (Int8.ofInt (60)).toInt32 = v ∧ v.toInt = 60 := ⟨_, rfl, by decide +kernel⟩
  refine lv_bipush hx hb dX5_readRel_6 ev40 ?_
  refine lv_icmp_eq (tgt := 28) hx hb dX5_readRel_8 (by decide) (fun c41 => ?_) (fun c41 => ?_)
  · skip
    have tc41 := nu_eq c41
    exact J28 v37 E H35 k36 l38 S34 F0_ (by omega) (by omega) (fun k hk => ((fun k hk => rfl) k hk)) (by omega) (lv_sub hl39 [1, 0] rfl)
  · skip
    have tc41 := nu_ne c41
    refine lv_iload_n hx hb dX5_readRel_11 rfl (lv_at hl39 0 rfl) ?_
    obtain ⟨v42, ev42, tv42⟩ : ∃ v : Int32, (Int8.ofInt (62)).toInt32 = v ∧ v.toInt = 62 := ⟨_, rfl, by decide +kernel⟩
    refine lv_bipush hx hb dX5_readRel_12 ev42 ?_
    refine lv_icmp_eq (tgt := 28) hx hb dX5_readRel_14 (by decide) (fun c43 => ?_) (fun c43 => ?_)
    · skip
      have tc43 := nu_eq c43
      exact J28 v37 E H35 k36 l38 S34 F0_ (by omega) (by omega) (fun k hk => ((fun k hk => rfl) k hk)) (by omega) (lv_sub hl39 [1, 0] rfl)
    · skip
      have tc43 := nu_ne c43
      refine lv_aload_n hx hb dX5_readRel_17 rfl (lv_at hl39 1 rfl) ?_
      obtain ⟨v44, ev44, tv44⟩ : ∃ v : Int32, Int32.ofInt (1) = v ∧ v.toInt = 1 := ⟨_, rfl, by decide +kernel⟩
      refine lv_iconst hx hb dX5_readRel_18 ev44 ?_
      refine lv_aload_n hx hb dX5_readRel_19 rfl (lv_at hl39 1 rfl) ?_
      refine tr_geti Z.1 Z.2.2.2.1 S34.1 S34.2 ha0 ta0 rfl rfl (fun _ h => List.mem_cons_of_mem _ (List.mem_append_right _ h)) 3 (by decide) rfl (hts _ (List.mem_of_getElem? (i := 1) rfl)) dX5_readRel_20 (fun v45 ev45 lv45 uv45 => ?_)
      have wv45 : v45 = (fi E a0 3) := ev45.symm.trans rfl
      have xv45 : v45.toInt = (fi E a0 3).toInt := by rw [wv45]
      refine tc_vv Z.1 Z.2.2.2.1 Z.2.2.2.2.1 Z.2.2.2.2.2 S34.1 S34.2 ha0 ta0 rfl rfl (k_X5_fail l D cy S34.2 ha0 ta0 v44 (by omega) (by omega) v45) (cwV 2 hts gX5_readRel_X5_fail rfl rfl rfl (by decide +kernel) ⟨Nat.le_of_ble_eq_true rfl, Nat.le_of_ble_eq_true rfl⟩) rfl hl39.1 rfl (Nat.le_of_ble_eq_true rfl) dX5_readRel_23 ⟨Nat.zero_le _, Nat.zero_le _⟩ (fun E46 H47 k48 W46 I46 G46 p46 => ?_)
      obtain ⟨p46_0, p46_1⟩ := p46
      have S46 : Now D TB cy (va_A (va_pl L E) sz) s L τ E46 H47 k48 := ⟨W46, I46⟩
      have F46 : Fr L τ (inW [(7, 0)]) E E46 := F0_.trans (G46.mono (inW_mono (by decide)))
      have kz46_4 := fi_rng (k := 4) S46.2 ha0 ta0 rfl rfl
      obtain ⟨v50, ev50, tv50⟩ : ∃ v : Int32, Int32.ofInt (0) = v ∧ v.toInt = 0 := ⟨_, rfl, by decide +kernel⟩
      refine lv_iconst hx hb dX5_readRel_26 ev50 ?_
      rw [← hQ]
      exact en_i Z S46 F46 ⟨(by omega), (by omega), (fun k hk => ((p46_1 k (fw_sub (by decide) hk)).trans ((fun k hk => rfl) k hk)))⟩ dX5_readRel_27

set_option maxRecDepth 20000 in
theorem ggX5_readQuant_X5_skipBlanks : GoodIn wsX5_readQuant wsX5_skipBlanks := goodIn_r _ [7, 2, 8, 9, 73, 74, 75, 76, 77, 78, 79, 80, 81, 82, 83, 84, 85, 86] (by decide +kernel) (by decide +kernel)
set_option maxRecDepth 20000 in
theorem gX5_readQuant_X5_skipBlanks : GoodIn wsX5_readQuant (wsV RX5 78 RX5 yX5_skipBlanks wsX5_skipBlanks) := goodIn_app (goodIn_of _ (by decide +kernel)) ggX5_readQuant_X5_skipBlanks
set_option maxRecDepth 20000 in
theorem ggX5_readQuant_X5_letters : GoodIn wsX5_readQuant wsX5_letters := goodIn_r _ [13, 2, 8, 9, 73, 74, 75, 76, 77, 78, 79, 80, 81, 82, 83, 84, 85, 86] (by decide +kernel) (by decide +kernel)
set_option maxRecDepth 20000 in
theorem gX5_readQuant_X5_letters : GoodIn wsX5_readQuant (wsV RX5 81 RX5 yX5_letters wsX5_letters) := goodIn_app (goodIn_of _ (by decide +kernel)) ggX5_readQuant_X5_letters
set_option maxRecDepth 20000 in
theorem ggX5_readQuant_X5_stands : GoodIn wsX5_readQuant wsX5_stands := goodIn_r _ [17, 8, 2, 9, 18, 19, 20, 21, 22, 23, 24, 25, 26, 27, 28, 29, 30, 31, 32, 33, 34, 35, 36, 37, 38, 39, 40, 41, 42, 43, 44, 45, 46, 47, 48, 49, 50, 51, 52, 53, 54, 55, 56, 57, 58, 59, 60, 61, 62, 63, 64, 65, 66, 73, 74, 75, 76, 77, 78, 79, 80, 81, 82, 83, 84, 85, 86] (by decide +kernel) (by decide +kernel)
set_option maxRecDepth 20000 in
theorem gX5_readQuant_X5_stands : GoodIn wsX5_readQuant (wsV RX5 86 RX5 yX5_stands wsX5_stands) := goodIn_app (goodIn_of _ (by decide +kernel)) ggX5_readQuant_X5_stands
set_option maxRecDepth 20000 in
theorem ggX5_readQuant_X5_fail : GoodIn wsX5_readQuant wsX5_fail := goodIn_r _ [70, 71, 72, 73, 74, 75, 76, 77, 78, 79, 80, 81, 82, 83, 84, 85, 86] (by decide +kernel) (by decide +kernel)
set_option maxRecDepth 20000 in
theorem gX5_readQuant_X5_fail : GoodIn wsX5_readQuant (wsV RX5 92 RX5 yX5_fail wsX5_fail) := goodIn_app (goodIn_of _ (by decide +kernel)) ggX5_readQuant_X5_fail
theorem dX5_readQuant_0 : decode cX5_readQuant 0 = .ok (.aload_n 0, 1) := by decide +kernel
theorem dX5_readQuant_1 : decode cX5_readQuant 1 = .ok (.invokevirtual 78, 3) := by decide +kernel
theorem dX5_readQuant_4 : decode cX5_readQuant 4 = .ok (.aload_n 0, 1) := by decide +kernel
theorem dX5_readQuant_5 : decode cX5_readQuant 5 = .ok (.invokevirtual 81, 3) := by decide +kernel
theorem dX5_readQuant_8 : decode cX5_readQuant 8 = .ok (.istore_n 1, 1) := by decide +kernel
theorem dX5_readQuant_9 : decode cX5_readQuant 9 = .ok (.aload_n 0, 1) := by decide +kernel
theorem dX5_readQuant_10 : decode cX5_readQuant 10 = .ok (.aload_n 0, 1) := by decide +kernel
theorem dX5_readQuant_11 : decode cX5_readQuant 11 = .ok (.ldc 85, 2) := by decide +kernel
theorem dX5_readQuant_13 : decode cX5_readQuant 13 = .ok (.iload_n 1, 1) := by decide +kernel
theorem dX5_readQuant_14 : decode cX5_readQuant 14 = .ok (.invokevirtual 86, 3) := by decide +kernel
theorem dX5_readQuant_17 : decode cX5_readQuant 17 = .ok (.putfield 31, 3) := by decide +kernel
theorem dX5_readQuant_20 : decode cX5_readQuant 20 = .ok (.aload_n 0, 1) := by decide +kernel
theorem dX5_readQuant_21 : decode cX5_readQuant 21 = .ok (.getfield 31, 3) := by decide +kernel
theorem dX5_readQuant_24 : decode cX5_readQuant 24 = .ok (.ifCond .ne 23, 3) := by decide +kernel
theorem dX5_readQuant_27 : decode cX5_readQuant 27 = .ok (.aload_n 0, 1) := by decide +kernel
theorem dX5_readQuant_28 : decode cX5_readQuant 28 = .ok (.ldc 90, 2) := by decide +kernel
theorem dX5_readQuant_30 : decode cX5_readQuant 30 = .ok (.iload_n 1, 1) := by decide +kernel
theorem dX5_readQuant_31 : decode cX5_readQuant 31 = .ok (.invokevirtual 86, 3) := by decide +kernel
theorem dX5_readQuant_34 : decode cX5_readQuant 34 = .ok (.ifCond .ne 13, 3) := by decide +kernel
theorem dX5_readQuant_37 : decode cX5_readQuant 37 = .ok (.aload_n 0, 1) := by decide +kernel
theorem dX5_readQuant_38 : decode cX5_readQuant 38 = .ok (.iconst 1, 1) := by decide +kernel
theorem dX5_readQuant_39 : decode cX5_readQuant 39 = .ok (.aload_n 0, 1) := by decide +kernel
theorem dX5_readQuant_40 : decode cX5_readQuant 40 = .ok (.getfield 22, 3) := by decide +kernel
theorem dX5_readQuant_43 : decode cX5_readQuant 43 = .ok (.invokevirtual 92, 3) := by decide +kernel
theorem dX5_readQuant_46 : decode cX5_readQuant 46 = .ok (.return_, 1) := by decide +kernel
theorem dX5_readQuant_47 : decode cX5_readQuant 47 = .ok (.aload_n 0, 1) := by decide +kernel
theorem dX5_readQuant_48 : decode cX5_readQuant 48 = .ok (.dup, 1) := by decide +kernel
theorem dX5_readQuant_49 : decode cX5_readQuant 49 = .ok (.getfield 22, 3) := by decide +kernel
theorem dX5_readQuant_52 : decode cX5_readQuant 52 = .ok (.iload_n 1, 1) := by decide +kernel
theorem dX5_readQuant_53 : decode cX5_readQuant 53 = .ok (.iadd, 1) := by decide +kernel
theorem dX5_readQuant_54 : decode cX5_readQuant 54 = .ok (.putfield 22, 3) := by decide +kernel
theorem dX5_readQuant_57 : decode cX5_readQuant 57 = .ok (.return_, 1) := by decide +kernel
set_option maxHeartbeats 4000000 in
set_option maxRecDepth 100000 in
theorem k_X5_readQuant (l : Launch) (D : va_G) (cy : Nat → ClassId) {L : List Nat} {τ : Nat → Ro} {E : Ec} (hI : Inv TB cy L τ E) {G : Sg} {a0 : Nat} (ha0 : a0 ∈ L) (ta0 : τ a0 = (7, 0)) : CtV1 G l yX5_readQuant wsX5_readQuant { frames := 6, cells := 0, slots := 0, locals := 129 } D TB cy L τ E [.ref a0] (inW [(7, 0)]) (fun E' => (∀ k : Nat, k ∉ ([3, 4, 5, 6] : List Nat) → fi E' a0 k = fi E a0 k)) := by
  intro sz
  refine sta1 (cc := cX5_readQuant) (maxL := 2) hI (by decide) rfl (Nat.le_of_ble_eq_true rfl) (fun p e s m args below meth c ls hsz Z SZ S0 hl => ?_)
  have hx := Z.1.1
  have hb := Z.1.2.1
  have hts := Z.1.2.2.2.2
  have F0_ : Fr L τ (inW [(7, 0)]) E E := Fr.refl
  have hl : lv_has ls 2 [(0, .ref a0)] := hl
  generalize hQ : MQ below _ args s 0 0 _ = QQ
  have J47 : ∀ (x1_47 : Int32) (E_47 : Ec) (H_47 : Heap) (k_47 : List Loc) (l_47 : Array Slot), Now D TB cy (va_A (va_pl L E) sz) s L τ E_47 H_47 k_47 → Fr L τ (inW [(7, 0)]) E E_47 → (0 ≤ x1_47.toInt) → (x1_47.toInt ≤ 120) → (∀ k : Nat, k ∉ ([3, 4, 5, 6] : List Nat) → fi E_47 a0 k = fi E a0 k) → (0 ≤ (fi E_47 a0 3).toInt ∧ (fi E_47 a0 3).toInt ≤ 120 ∧ x1_47.toInt + (fi E_47 a0 3).toInt ≤ 120) → lv_has l_47 2 [(0, .ref a0), (1, .int x1_47)] → W p l e { frames := 6, cells := 0, slots := 0, locals := 129 } s m args below meth c H_47 k_47 0 0 QQ (F0 m 47 l_47 []) := by
    intro x1_47 E_47 H_47 k_47 l_47 S_47 F_47 z1 z2 z3 z4 hl_47
    refine lv_aload_n hx hb dX5_readQuant_47 rfl (lv_at hl_47 0 rfl) ?_
    refine lv_dup hx hb dX5_readQuant_48 rfl ?_
    refine tr_geti Z.1 Z.2.2.2.1 S_47.1 S_47.2 ha0 ta0 rfl rfl (fun _ h => List.mem_cons_of_mem _ (List.mem_append_right _ h)) 3 (by decide) rfl (hts _ (List.mem_of_getElem? (i := 2) rfl)) dX5_readQuant_49 (fun v5 ev5 lv5 uv5 => ?_)
    have wv5 : v5 = (fi E_47 a0 3) := ev5.symm.trans rfl
    have xv5 : v5.toInt = (fi E_47 a0 3).toInt := by rw [wv5]
    refine lv_iload_n hx hb dX5_readQuant_52 rfl (lv_at hl_47 1 rfl) ?_
    refine lv_iadd hx hb dX5_readQuant_53 ?_
    refine lv_topi (fun v6 ev6 => ?_)
    have tv6 := nu_add ev6 (by omega) (by omega)
    refine tr_puti Z.1 Z.2.2.2.1 S_47.1 S_47.2 ha0 ta0 rfl rfl (fun _ h => List.mem_cons_of_mem _ (List.mem_append_right _ h)) tyX5_ok nmX5 3 (by decide) rfl rfl rfl (hts _ (List.mem_of_getElem? (i := 2) rfl)) dX5_readQuant_54 (by omega) (by omega) (fun E7 H8 k9 W7 I7 P7 => ?_)
    have S7 : Now D TB cy (va_A (va_pl L E) sz) s L τ E7 H8 k9 := ⟨W7, I7⟩
    have F7 : Fr L τ (inW [(7, 0)]) E E7 := Fr.put F_47 P7 ta0 rfl
    rw [← hQ]
    exact en_v Z S7 F7 (fun k hk => ((fi_put P7 (Or.inr (fw_ne (by decide) hk))).trans (z3 k hk))) dX5_readQuant_57
  refine lv_aload_n hx hb dX5_readQuant_0 rfl (lv_at hl 0 rfl) ?_
  refine tc_vv Z.1 Z.2.2.2.1 Z.2.2.2.2.1 Z.2.2.2.2.2 S0.1 S0.2 ha0 ta0 rfl rfl (k_X5_skipBlanks l D cy S0.2 ha0 ta0) (cwV 0 hts gX5_readQuant_X5_skipBlanks rfl rfl rfl (by decide +kernel) ⟨Nat.le_of_ble_eq_true rfl, Nat.le_of_ble_eq_true rfl⟩) rfl hl.1 rfl (Nat.le_of_ble_eq_true rfl) dX5_readQuant_1 ⟨Nat.zero_le _, Nat.zero_le _⟩ (fun E10 H11 k12 W10 I10 G10 p10 => ?_)
  have p10_0 := p10
  have S10 : Now D TB cy (va_A (va_pl L E) sz) s L τ E10 H11 k12 := ⟨W10, I10⟩
  have F10 : Fr L τ (inW [(7, 0)]) E E10 := F0_.trans (G10.mono (inW_mono (by decide)))
  refine lv_aload_n hx hb dX5_readQuant_4 rfl (lv_at hl 0 rfl) ?_
  refine tc_vi Z.1 Z.2.2.2.1 Z.2.2.2.2.1 Z.2.2.2.2.2 S10.1 S10.2 ha0 ta0 rfl rfl (k_X5_letters l D cy S10.2 ha0 ta0) (cwV 0 hts gX5_readQuant_X5_letters rfl rfl rfl (by decide +kernel) ⟨Nat.le_of_ble_eq_true rfl, Nat.le_of_ble_eq_true rfl⟩) rfl hl.1 rfl (Nat.le_of_ble_eq_true rfl) dX5_readQuant_5 ⟨Nat.zero_le _, Nat.zero_le _⟩ (fun v17 E14 H15 k16 W14 I14 G14 p14 => ?_)
  obtain ⟨q14, p14_0, p14_1, p14_2⟩ := p14
  have q14 := q14.symm
  subst q14
  have S14 : Now D TB cy (va_A (va_pl L E) sz) s L τ E10 H15 k16 := ⟨W14, I14⟩
  have kz14_3 := fi_rng (k := 3) S14.2 ha0 ta0 rfl rfl
  refine lv_istore_n (lv' := [(1, .int v17), (0, .ref a0)]) hx hb dX5_readQuant_8 rfl hl (by decide) rfl (fun l18 hl19 => ?_)
  refine lv_aload_n hx hb dX5_readQuant_9 rfl (lv_at hl19 1 rfl) ?_
  refine lv_aload_n hx hb dX5_readQuant_10 rfl (lv_at hl19 1 rfl) ?_
  refine va_ldcS hx hb Z.1.2.2.2.1 SZ.2.2.2.2.2.2.1.1 dX5_readQuant_11 ?_
  refine lv_iload_n hx hb dX5_readQuant_13 rfl (lv_at hl19 0 rfl) ?_
  refine tc1_vi Z.1 Z.2.2.2.1 Z.2.2.2.2.1 Z.2.2.2.2.2 SZ S14.1 S14.2 ha0 ta0 rfl rfl (k_X5_stands l D cy S14.2 ha0 ta0 (by decide) v17) (cwV 2 hts gX5_readQuant_X5_stands rfl rfl rfl (by decide +kernel) ⟨Nat.le_of_ble_eq_true rfl, Nat.le_of_ble_eq_true rfl⟩) rfl hl19.1 rfl (Nat.le_of_ble_eq_true rfl) dX5_readQuant_14 ⟨Nat.zero_le _, Nat.zero_le _⟩ (fun v23 E20 H21 k22 W20 I20 G20 p20 => ?_)
  obtain ⟨q20, p20_0, p20_1, p20_2⟩ := p20
  have q20 := q20.symm
  subst q20
  have S20 : Now D TB cy (va_A (va_pl L E) sz) s L τ E10 H21 k22 := ⟨W20, I20⟩
  refine tr_putz Z.1 Z.2.2.2.1 S20.1 S20.2 ha0 ta0 rfl rfl (fun _ h => List.mem_cons_of_mem _ (List.mem_append_right _ h)) tyX5_ok nmX5 6 (by decide) rfl rfl rfl (hts _ (List.mem_of_getElem? (i := 1) rfl)) dX5_readQuant_17 (by omega) (by omega) (fun E24 H25 k26 W24 I24 P24 => ?_)
  have S24 : Now D TB cy (va_A (va_pl L E) sz) s L τ E24 H25 k26 := ⟨W24, I24⟩
  have F24 : Fr L τ (inW [(7, 0)]) E E24 := Fr.put F10 P24 ta0 rfl
  refine lv_aload_n hx hb dX5_readQuant_20 rfl (lv_at hl19 1 rfl) ?_
  refine tr_geti Z.1 Z.2.2.2.1 S24.1 S24.2 ha0 ta0 rfl rfl (fun _ h => List.mem_cons_of_mem _ (List.mem_append_right _ h)) 6 (by decide) rfl (hts _ (List.mem_of_getElem? (i := 1) rfl)) dX5_readQuant_21 (fun v27 ev27 lv27 uv27 => ?_)
  have wv27 : v27 = v23 := ev27.symm.trans (fi_at P24)
  have xv27 : v27.toInt = v23.toInt := by rw [wv27]
  refine lv_if_ne (tgt := 47) hx hb dX5_readQuant_24 (by decide) (fun c28 => ?_) (fun c28 => ?_)
  · skip
    have tc28 := nu_ne c28
    have uc28 : (0 : Int32).toInt = 0 := rfl
    exact J47 v17 E24 H25 k26 l18 S24 F24 (by omega) (by omega) (fun k hk => ((fi_put P24 (Or.inr (fw_ne (by decide) hk))).trans ((p10_0 k (fw_sub (by decide) hk)).trans ((fun k hk => rfl) k hk)))) (by rw [((fi_put P24 (Or.inr (by decide))).trans rfl)]; omega) (lv_sub hl19 [1, 0] rfl)
  · skip
    have tc28 := nu_eq c28
    have uc28 : (0 : Int32).toInt = 0 := rfl
    refine lv_aload_n hx hb dX5_readQuant_27 rfl (lv_at hl19 1 rfl) ?_
    refine va_ldcS hx hb Z.1.2.2.2.1 SZ.2.2.2.2.2.2.1.2.1 dX5_readQuant_28 ?_
    refine lv_iload_n hx hb dX5_readQuant_30 rfl (lv_at hl19 0 rfl) ?_
    refine tc1_vi Z.1 Z.2.2.2.1 Z.2.2.2.2.1 Z.2.2.2.2.2 SZ S24.1 S24.2 ha0 ta0 rfl rfl (k_X5_stands l D cy S24.2 ha0 ta0 (by decide) v17) (cwV 2 hts gX5_readQuant_X5_stands rfl rfl rfl (by decide +kernel) ⟨Nat.le_of_ble_eq_true rfl, Nat.le_of_ble_eq_true rfl⟩) rfl hl19.1 rfl (Nat.le_of_ble_eq_true rfl) dX5_readQuant_31 ⟨Nat.zero_le _, Nat.zero_le _⟩ (fun v32 E29 H30 k31 W29 I29 G29 p29 => ?_)
    obtain ⟨q29, p29_0, p29_1, p29_2⟩ := p29
    have q29 := q29.symm
    subst q29
    have S29 : Now D TB cy (va_A (va_pl L E) sz) s L τ E24 H30 k31 := ⟨W29, I29⟩
    refine lv_if_ne (tgt := 47) hx hb dX5_readQuant_34 (by decide) (fun c33 => ?_) (fun c33 => ?_)
    · skip
      have tc33 := nu_ne c33
      have uc33 : (0 : Int32).toInt = 0 := rfl
      exact J47 v17 E24 H30 k31 l18 S29 F24 (by omega) (by omega) (fun k hk => ((fi_put P24 (Or.inr (fw_ne (by decide) hk))).trans ((p10_0 k (fw_sub (by decide) hk)).trans ((fun k hk => rfl) k hk)))) (by rw [((fi_put P24 (Or.inr (by decide))).trans rfl)]; omega) (lv_sub hl19 [1, 0] rfl)
    · skip
      have tc33 := nu_eq c33
      have uc33 : (0 : Int32).toInt = 0 := rfl
      refine lv_aload_n hx hb dX5_readQuant_37 rfl (lv_at hl19 1 rfl) ?_
      obtain ⟨v34, ev34, tv34⟩ : ∃ v : Int32, Int32.ofInt (1) = v ∧ v.toInt = 1 := ⟨_, rfl, by decide +kernel⟩
      refine lv_iconst hx hb dX5_readQuant_38 ev34 ?_
      refine lv_aload_n hx hb dX5_readQuant_39 rfl (lv_at hl19 1 rfl) ?_
      refine tr_geti Z.1 Z.2.2.2.1 S29.1 S29.2 ha0 ta0 rfl rfl (fun _ h => List.mem_cons_of_mem _ (List.mem_append_right _ h)) 3 (by decide) rfl (hts _ (List.mem_of_getElem? (i := 2) rfl)) dX5_readQuant_40 (fun v35 ev35 lv35 uv35 => ?_)
      have wv35 : v35 = (fi E10 a0 3) := ev35.symm.trans ((fi_put P24 (Or.inr (by decide))).trans rfl)
      have xv35 : v35.toInt = (fi E10 a0 3).toInt := by rw [wv35]
      refine tc_vv Z.1 Z.2.2.2.1 Z.2.2.2.2.1 Z.2.2.2.2.2 S29.1 S29.2 ha0 ta0 rfl rfl (k_X5_fail l D cy S29.2 ha0 ta0 v34 (by omega) (by omega) v35) (cwV 2 hts gX5_readQuant_X5_fail rfl rfl rfl (by decide +kernel) ⟨Nat.le_of_ble_eq_true rfl, Nat.le_of_ble_eq_true rfl⟩) rfl hl19.1 rfl (Nat.le_of_ble_eq_true rfl) dX5_readQuant_43 ⟨Nat.zero_le _, Nat.zero_le _⟩ (fun E36 H37 k38 W36 I36 G36 p36 => ?_)
      obtain ⟨p36_0, p36_1⟩ := p36
      have S36 : Now D TB cy (va_A (va_pl L E) sz) s L τ E36 H37 k38 := ⟨W36, I36⟩
      have F36 : Fr L τ (inW [(7, 0)]) E E36 := F24.trans (G36.mono (inW_mono (by decide)))
      have kz36_4 := fi_rng (k := 4) S36.2 ha0 ta0 rfl rfl
      rw [← hQ]
      exact en_v Z S36 F36 (fun k hk => ((p36_1 k (fw_sub (by decide) hk)).trans ((fi_put P24 (Or.inr (fw_ne (by decide) hk))).trans ((p10_0 k (fw_sub (by decide) hk)).trans ((fun k hk => rfl) k hk))))) dX5_readQuant_46

set_option maxRecDepth 20000 in
theorem ggX5_readAnd_X5_skipBlanks : GoodIn wsX5_readAnd wsX5_skipBlanks := goodIn_r _ [7, 1, 8, 9, 77, 78, 79, 80, 81, 82, 83, 84, 85, 86, 87, 88, 89, 90] (by decide +kernel) (by decide +kernel)
set_option maxRecDepth 20000 in
theorem gX5_readAnd_X5_skipBlanks : GoodIn wsX5_readAnd (wsV RX5 78 RX5 yX5_skipBlanks wsX5_skipBlanks) := goodIn_app (goodIn_of _ (by decide +kernel)) ggX5_readAnd_X5_skipBlanks
set_option maxRecDepth 20000 in
theorem ggX5_readAnd_X5_peek : GoodIn wsX5_readAnd wsX5_peek := goodIn_r _ [13, 1, 8, 9, 77, 78, 79, 80, 81, 82, 83, 84, 85, 86, 87, 88, 89, 90] (by decide +kernel) (by decide +kernel)
set_option maxRecDepth 20000 in
theorem gX5_readAnd_X5_peek : GoodIn wsX5_readAnd (wsV RX5 96 RX5 yX5_peek wsX5_peek) := goodIn_app (goodIn_of _ (by decide +kernel)) ggX5_readAnd_X5_peek
set_option maxRecDepth 20000 in
theorem ggX5_readAnd_X5_letters : GoodIn wsX5_readAnd wsX5_letters := goodIn_r _ [17, 1, 8, 9, 77, 78, 79, 80, 81, 82, 83, 84, 85, 86, 87, 88, 89, 90] (by decide +kernel) (by decide +kernel)
set_option maxRecDepth 20000 in
theorem gX5_readAnd_X5_letters : GoodIn wsX5_readAnd (wsV RX5 81 RX5 yX5_letters wsX5_letters) := goodIn_app (goodIn_of _ (by decide +kernel)) ggX5_readAnd_X5_letters
set_option maxRecDepth 20000 in
theorem ggX5_readAnd_X5_stands : GoodIn wsX5_readAnd wsX5_stands := goodIn_r _ [21, 8, 1, 9, 22, 23, 24, 25, 26, 27, 28, 29, 30, 31, 32, 33, 34, 35, 36, 37, 38, 39, 40, 41, 42, 43, 44, 45, 46, 47, 48, 49, 50, 51, 52, 53, 54, 55, 56, 57, 58, 59, 60, 61, 62, 63, 64, 65, 66, 67, 68, 69, 70, 77, 78, 79, 80, 81, 82, 83, 84, 85, 86, 87, 88, 89, 90] (by decide +kernel) (by decide +kernel)
set_option maxRecDepth 20000 in
theorem gX5_readAnd_X5_stands : GoodIn wsX5_readAnd (wsV RX5 86 RX5 yX5_stands wsX5_stands) := goodIn_app (goodIn_of _ (by decide +kernel)) ggX5_readAnd_X5_stands
set_option maxRecDepth 20000 in
theorem ggX5_readAnd_X5_fail : GoodIn wsX5_readAnd wsX5_fail := goodIn_r _ [74, 75, 76, 77, 78, 79, 80, 81, 82, 83, 84, 85, 86, 87, 88, 89, 90] (by decide +kernel) (by decide +kernel)
set_option maxRecDepth 20000 in
theorem gX5_readAnd_X5_fail : GoodIn wsX5_readAnd (wsV RX5 92 RX5 yX5_fail wsX5_fail) := goodIn_app (goodIn_of _ (by decide +kernel)) ggX5_readAnd_X5_fail
theorem dX5_readAnd_0 : decode cX5_readAnd 0 = .ok (.aload_n 0, 1) := by decide +kernel
theorem dX5_readAnd_1 : decode cX5_readAnd 1 = .ok (.invokevirtual 78, 3) := by decide +kernel
theorem dX5_readAnd_4 : decode cX5_readAnd 4 = .ok (.aload_n 0, 1) := by decide +kernel
theorem dX5_readAnd_5 : decode cX5_readAnd 5 = .ok (.invokevirtual 96, 3) := by decide +kernel
theorem dX5_readAnd_8 : decode cX5_readAnd 8 = .ok (.iconst (-1), 1) := by decide +kernel
theorem dX5_readAnd_9 : decode cX5_readAnd 9 = .ok (.if_icmp .ne 5, 3) := by decide +kernel
theorem dX5_readAnd_12 : decode cX5_readAnd 12 = .ok (.iconst 0, 1) := by decide +kernel
theorem dX5_readAnd_13 : decode cX5_readAnd 13 = .ok (.ireturn, 1) := by decide +kernel
theorem dX5_readAnd_14 : decode cX5_readAnd 14 = .ok (.aload_n 0, 1) := by decide +kernel
theorem dX5_readAnd_15 : decode cX5_readAnd 15 = .ok (.invokevirtual 81, 3) := by decide +kernel
theorem dX5_readAnd_18 : decode cX5_readAnd 18 = .ok (.istore_n 1, 1) := by decide +kernel
theorem dX5_readAnd_19 : decode cX5_readAnd 19 = .ok (.aload_n 0, 1) := by decide +kernel
theorem dX5_readAnd_20 : decode cX5_readAnd 20 = .ok (.ldc 99, 2) := by decide +kernel
theorem dX5_readAnd_22 : decode cX5_readAnd 22 = .ok (.iload_n 1, 1) := by decide +kernel
theorem dX5_readAnd_23 : decode cX5_readAnd 23 = .ok (.invokevirtual 86, 3) := by decide +kernel
theorem dX5_readAnd_26 : decode cX5_readAnd 26 = .ok (.ifCond .ne 14, 3) := by decide +kernel
theorem dX5_readAnd_29 : decode cX5_readAnd 29 = .ok (.aload_n 0, 1) := by decide +kernel
theorem dX5_readAnd_30 : decode cX5_readAnd 30 = .ok (.iconst 1, 1) := by decide +kernel
theorem dX5_readAnd_31 : decode cX5_readAnd 31 = .ok (.aload_n 0, 1) := by decide +kernel
theorem dX5_readAnd_32 : decode cX5_readAnd 32 = .ok (.getfield 22, 3) := by decide +kernel
theorem dX5_readAnd_35 : decode cX5_readAnd 35 = .ok (.invokevirtual 92, 3) := by decide +kernel
theorem dX5_readAnd_38 : decode cX5_readAnd 38 = .ok (.iconst 0, 1) := by decide +kernel
theorem dX5_readAnd_39 : decode cX5_readAnd 39 = .ok (.ireturn, 1) := by decide +kernel
theorem dX5_readAnd_40 : decode cX5_readAnd 40 = .ok (.aload_n 0, 1) := by decide +kernel
theorem dX5_readAnd_41 : decode cX5_readAnd 41 = .ok (.getfield 38, 3) := by decide +kernel
theorem dX5_readAnd_44 : decode cX5_readAnd 44 = .ok (.iconst 4, 1) := by decide +kernel
theorem dX5_readAnd_45 : decode cX5_readAnd 45 = .ok (.if_icmp .lt 14, 3) := by decide +kernel
theorem dX5_readAnd_48 : decode cX5_readAnd 48 = .ok (.aload_n 0, 1) := by decide +kernel
theorem dX5_readAnd_49 : decode cX5_readAnd 49 = .ok (.iconst 3, 1) := by decide +kernel
theorem dX5_readAnd_50 : decode cX5_readAnd 50 = .ok (.aload_n 0, 1) := by decide +kernel
theorem dX5_readAnd_51 : decode cX5_readAnd 51 = .ok (.getfield 22, 3) := by decide +kernel
theorem dX5_readAnd_54 : decode cX5_readAnd 54 = .ok (.invokevirtual 92, 3) := by decide +kernel
theorem dX5_readAnd_57 : decode cX5_readAnd 57 = .ok (.iconst 0, 1) := by decide +kernel
theorem dX5_readAnd_58 : decode cX5_readAnd 58 = .ok (.ireturn, 1) := by decide +kernel
theorem dX5_readAnd_59 : decode cX5_readAnd 59 = .ok (.aload_n 0, 1) := by decide +kernel
theorem dX5_readAnd_60 : decode cX5_readAnd 60 = .ok (.dup, 1) := by decide +kernel
theorem dX5_readAnd_61 : decode cX5_readAnd 61 = .ok (.getfield 22, 3) := by decide +kernel
theorem dX5_readAnd_64 : decode cX5_readAnd 64 = .ok (.iload_n 1, 1) := by decide +kernel
theorem dX5_readAnd_65 : decode cX5_readAnd 65 = .ok (.iadd, 1) := by decide +kernel
theorem dX5_readAnd_66 : decode cX5_readAnd 66 = .ok (.putfield 22, 3) := by decide +kernel
theorem dX5_readAnd_69 : decode cX5_readAnd 69 = .ok (.iconst 1, 1) := by decide +kernel
theorem dX5_readAnd_70 : decode cX5_readAnd 70 = .ok (.ireturn, 1) := by decide +kernel
set_option maxHeartbeats 4000000 in
set_option maxRecDepth 100000 in
theorem k_X5_readAnd (l : Launch) (D : va_G) (cy : Nat → ClassId) {L : List Nat} {τ : Nat → Ro} {E : Ec} (hI : Inv TB cy L τ E) {G : Sg} {a0 : Nat} (ha0 : a0 ∈ L) (ta0 : τ a0 = (7, 0)) : CtI1 G l yX5_readAnd wsX5_readAnd { frames := 6, cells := 0, slots := 0, locals := 129 } D TB cy L τ E [.ref a0] (inW [(7, 0)]) (fun r E' => 0 ≤ r.toInt ∧ r.toInt ≤ 1 ∧ (∀ k : Nat, k ∉ ([3, 4, 5] : List Nat) → fi E' a0 k = fi E a0 k)) := by
  intro sz
  refine sta1 (cc := cX5_readAnd) (maxL := 2) hI (by decide) rfl (Nat.le_of_ble_eq_true rfl) (fun p e s m args below meth c ls hsz Z SZ S0 hl => ?_)
  have hx := Z.1.1
  have hb := Z.1.2.1
  have hts := Z.1.2.2.2.2
  have F0_ : Fr L τ (inW [(7, 0)]) E E := Fr.refl
  have hl : lv_has ls 2 [(0, .ref a0)] := hl
  generalize hQ : MQ below _ args s 0 0 _ = QQ
  refine lv_aload_n hx hb dX5_readAnd_0 rfl (lv_at hl 0 rfl) ?_
  refine tc_vv Z.1 Z.2.2.2.1 Z.2.2.2.2.1 Z.2.2.2.2.2 S0.1 S0.2 ha0 ta0 rfl rfl (k_X5_skipBlanks l D cy S0.2 ha0 ta0) (cwV 0 hts gX5_readAnd_X5_skipBlanks rfl rfl rfl (by decide +kernel) ⟨Nat.le_of_ble_eq_true rfl, Nat.le_of_ble_eq_true rfl⟩) rfl hl.1 rfl (Nat.le_of_ble_eq_true rfl) dX5_readAnd_1 ⟨Nat.zero_le _, Nat.zero_le _⟩ (fun E1 H2 k3 W1 I1 G1 p1 => ?_)
  have p1_0 := p1
  have S1 : Now D TB cy (va_A (va_pl L E) sz) s L τ E1 H2 k3 := ⟨W1, I1⟩
  have F1 : Fr L τ (inW [(7, 0)]) E E1 := F0_.trans (G1.mono (inW_mono (by decide)))
  refine lv_aload_n hx hb dX5_readAnd_4 rfl (lv_at hl 0 rfl) ?_
  refine tc_vi Z.1 Z.2.2.2.1 Z.2.2.2.2.1 Z.2.2.2.2.2 S1.1 S1.2 ha0 ta0 rfl rfl (k_X5_peek l D cy S1.2 ha0 ta0) (cwV 0 hts gX5_readAnd_X5_peek rfl rfl rfl (by decide +kernel) ⟨Nat.le_of_ble_eq_true rfl, Nat.le_of_ble_eq_true rfl⟩) rfl hl.1 rfl (Nat.le_of_ble_eq_true rfl) dX5_readAnd_5 ⟨Nat.zero_le _, Nat.zero_le _⟩ (fun v8 E5 H6 k7 W5 I5 G5 p5 => ?_)
  obtain ⟨q5, p5_0, p5_1, p5_2⟩ := p5
  have q5 := q5.symm
  subst q5
  have S5 : Now D TB cy (va_A (va_pl L E) sz) s L τ E1 H6 k7 := ⟨W5, I5⟩
  have kz5_3 := fi_rng (k := 3) S5.2 ha0 ta0 rfl rfl
  obtain ⟨v9, ev9, tv9⟩ : ∃ v : Int32, Int32.ofInt (-1) = v ∧ v.toInt = -1 := ⟨_, rfl, by decide +kernel⟩
  refine lv_iconst hx hb dX5_readAnd_8 ev9 ?_
  refine lv_icmp_ne (tgt := 14) hx hb dX5_readAnd_9 (by decide) (fun c10 => ?_) (fun c10 => ?_)
  · skip
    have tc10 := nu_ne c10
    refine lv_aload_n hx hb dX5_readAnd_14 rfl (lv_at hl 0 rfl) ?_
    refine tc_vi Z.1 Z.2.2.2.1 Z.2.2.2.2.1 Z.2.2.2.2.2 S5.1 S5.2 ha0 ta0 rfl rfl (k_X5_letters l D cy S5.2 ha0 ta0) (cwV 0 hts gX5_readAnd_X5_letters rfl rfl rfl (by decide +kernel) ⟨Nat.le_of_ble_eq_true rfl, Nat.le_of_ble_eq_true rfl⟩) rfl hl.1 rfl (Nat.le_of_ble_eq_true rfl) dX5_readAnd_15 ⟨Nat.zero_le _, Nat.zero_le _⟩ (fun v14 E11 H12 k13 W11 I11 G11 p11 => ?_)
    obtain ⟨q11, p11_0, p11_1, p11_2⟩ := p11
    have q11 := q11.symm
    subst q11
    have S11 : Now D TB cy (va_A (va_pl L E) sz) s L τ E1 H12 k13 := ⟨W11, I11⟩
    refine lv_istore_n (lv' := [(1, .int v14), (0, .ref a0)]) hx hb dX5_readAnd_18 rfl hl (by decide) rfl (fun l15 hl16 => ?_)
    refine lv_aload_n hx hb dX5_readAnd_19 rfl (lv_at hl16 1 rfl) ?_
    refine va_ldcS hx hb Z.1.2.2.2.1 SZ.2.2.2.2.2.2.1.2.2 dX5_readAnd_20 ?_
    refine lv_iload_n hx hb dX5_readAnd_22 rfl (lv_at hl16 0 rfl) ?_
    refine tc1_vi Z.1 Z.2.2.2.1 Z.2.2.2.2.1 Z.2.2.2.2.2 SZ S11.1 S11.2 ha0 ta0 rfl rfl (k_X5_stands l D cy S11.2 ha0 ta0 (by decide) v14) (cwV 2 hts gX5_readAnd_X5_stands rfl rfl rfl (by decide +kernel) ⟨Nat.le_of_ble_eq_true rfl, Nat.le_of_ble_eq_true rfl⟩) rfl hl16.1 rfl (Nat.le_of_ble_eq_true rfl) dX5_readAnd_23 ⟨Nat.zero_le _, Nat.zero_le _⟩ (fun v20 E17 H18 k19 W17 I17 G17 p17 => ?_)
    obtain ⟨q17, p17_0, p17_1, p17_2⟩ := p17
    have q17 := q17.symm
    subst q17
    have S17 : Now D TB cy (va_A (va_pl L E) sz) s L τ E1 H18 k19 := ⟨W17, I17⟩
    refine lv_if_ne (tgt := 40) hx hb dX5_readAnd_26 (by decide) (fun c21 => ?_) (fun c21 => ?_)
    · skip
      have tc21 := nu_ne c21
      have uc21 : (0 : Int32).toInt = 0 := rfl
      refine lv_aload_n hx hb dX5_readAnd_40 rfl (lv_at hl16 1 rfl) ?_
      refine tr_geti Z.1 Z.2.2.2.1 S17.1 S17.2 ha0 ta0 rfl rfl (fun _ h => List.mem_cons_of_mem _ (List.mem_append_right _ h)) 8 (by decide) rfl (hts _ (List.mem_of_getElem? (i := 2) rfl)) dX5_readAnd_41 (fun v22 ev22 lv22 uv22 => ?_)
      obtain ⟨v23, ev23, tv23⟩ : ∃ v : Int32, Int32.ofInt (4) = v ∧ v.toInt = 4 := ⟨_, rfl, by decide +kernel⟩
      refine lv_iconst hx hb dX5_readAnd_44 ev23 ?_
      refine lv_icmp_lt (tgt := 59) hx hb dX5_readAnd_45 (by decide) (fun c24 => ?_) (fun c24 => ?_)
      · skip
        have tc24 := nu_lt c24
        refine lv_aload_n hx hb dX5_readAnd_59 rfl (lv_at hl16 1 rfl) ?_
        refine lv_dup hx hb dX5_readAnd_60 rfl ?_
        refine tr_geti Z.1 Z.2.2.2.1 S17.1 S17.2 ha0 ta0 rfl rfl (fun _ h => List.mem_cons_of_mem _ (List.mem_append_right _ h)) 3 (by decide) rfl (hts _ (List.mem_of_getElem? (i := 1) rfl)) dX5_readAnd_61 (fun v25 ev25 lv25 uv25 => ?_)
        have wv25 : v25 = (fi E1 a0 3) := ev25.symm.trans rfl
        have xv25 : v25.toInt = (fi E1 a0 3).toInt := by rw [wv25]
        refine lv_iload_n hx hb dX5_readAnd_64 rfl (lv_at hl16 0 rfl) ?_
        refine lv_iadd hx hb dX5_readAnd_65 ?_
        refine lv_topi (fun v26 ev26 => ?_)
        have tv26 := nu_add ev26 (by omega) (by omega)
        refine tr_puti Z.1 Z.2.2.2.1 S17.1 S17.2 ha0 ta0 rfl rfl (fun _ h => List.mem_cons_of_mem _ (List.mem_append_right _ h)) tyX5_ok nmX5 3 (by decide) rfl rfl rfl (hts _ (List.mem_of_getElem? (i := 1) rfl)) dX5_readAnd_66 (by omega) (by omega) (fun E27 H28 k29 W27 I27 P27 => ?_)
        have S27 : Now D TB cy (va_A (va_pl L E) sz) s L τ E27 H28 k29 := ⟨W27, I27⟩
        have F27 : Fr L τ (inW [(7, 0)]) E E27 := Fr.put F1 P27 ta0 rfl
        obtain ⟨v30, ev30, tv30⟩ : ∃ v : Int32, Int32.ofInt (1) = v ∧ v.toInt = 1 := ⟨_, rfl, by decide +kernel⟩
        refine lv_iconst hx hb dX5_readAnd_69 ev30 ?_
        rw [← hQ]
        exact en_z Z S27 F27 (zo v30 (by omega)) ⟨(by omega), (by omega), (fun k hk => ((fi_put P27 (Or.inr (fw_ne (by decide) hk))).trans ((p1_0 k (fw_sub (by decide) hk)).trans ((fun k hk => rfl) k hk))))⟩ dX5_readAnd_70
      · skip
        have tc24 := nu_nlt c24
        refine lv_aload_n hx hb dX5_readAnd_48 rfl (lv_at hl16 1 rfl) ?_
        obtain ⟨v31, ev31, tv31⟩ : ∃ v : Int32, Int32.ofInt (3) = v ∧ v.toInt = 3 := ⟨_, rfl, by decide +kernel⟩
        refine lv_iconst hx hb dX5_readAnd_49 ev31 ?_
        refine lv_aload_n hx hb dX5_readAnd_50 rfl (lv_at hl16 1 rfl) ?_
        refine tr_geti Z.1 Z.2.2.2.1 S17.1 S17.2 ha0 ta0 rfl rfl (fun _ h => List.mem_cons_of_mem _ (List.mem_append_right _ h)) 3 (by decide) rfl (hts _ (List.mem_of_getElem? (i := 1) rfl)) dX5_readAnd_51 (fun v32 ev32 lv32 uv32 => ?_)
        have wv32 : v32 = (fi E1 a0 3) := ev32.symm.trans rfl
        have xv32 : v32.toInt = (fi E1 a0 3).toInt := by rw [wv32]
        refine tc_vv Z.1 Z.2.2.2.1 Z.2.2.2.2.1 Z.2.2.2.2.2 S17.1 S17.2 ha0 ta0 rfl rfl (k_X5_fail l D cy S17.2 ha0 ta0 v31 (by omega) (by omega) v32) (cwV 2 hts gX5_readAnd_X5_fail rfl rfl rfl (by decide +kernel) ⟨Nat.le_of_ble_eq_true rfl, Nat.le_of_ble_eq_true rfl⟩) rfl hl16.1 rfl (Nat.le_of_ble_eq_true rfl) dX5_readAnd_54 ⟨Nat.zero_le _, Nat.zero_le _⟩ (fun E33 H34 k35 W33 I33 G33 p33 => ?_)
        obtain ⟨p33_0, p33_1⟩ := p33
        have S33 : Now D TB cy (va_A (va_pl L E) sz) s L τ E33 H34 k35 := ⟨W33, I33⟩
        have F33 : Fr L τ (inW [(7, 0)]) E E33 := F1.trans (G33.mono (inW_mono (by decide)))
        have kz33_4 := fi_rng (k := 4) S33.2 ha0 ta0 rfl rfl
        obtain ⟨v37, ev37, tv37⟩ : ∃ v : Int32, Int32.ofInt (0) = v ∧ v.toInt = 0 := ⟨_, rfl, by decide +kernel⟩
        refine lv_iconst hx hb dX5_readAnd_57 ev37 ?_
        rw [← hQ]
        exact en_z Z S33 F33 (zo v37 (by omega)) ⟨(by omega), (by omega), (fun k hk => ((p33_1 k (fw_sub (by decide) hk)).trans ((p1_0 k (fw_sub (by decide) hk)).trans ((fun k hk => rfl) k hk))))⟩ dX5_readAnd_58
    · skip
      have tc21 := nu_eq c21
      have uc21 : (0 : Int32).toInt = 0 := rfl
      refine lv_aload_n hx hb dX5_readAnd_29 rfl (lv_at hl16 1 rfl) ?_
      obtain ⟨v38, ev38, tv38⟩ : ∃ v : Int32, Int32.ofInt (1) = v ∧ v.toInt = 1 := ⟨_, rfl, by decide +kernel⟩
      refine lv_iconst hx hb dX5_readAnd_30 ev38 ?_
      refine lv_aload_n hx hb dX5_readAnd_31 rfl (lv_at hl16 1 rfl) ?_
      refine tr_geti Z.1 Z.2.2.2.1 S17.1 S17.2 ha0 ta0 rfl rfl (fun _ h => List.mem_cons_of_mem _ (List.mem_append_right _ h)) 3 (by decide) rfl (hts _ (List.mem_of_getElem? (i := 1) rfl)) dX5_readAnd_32 (fun v39 ev39 lv39 uv39 => ?_)
      have wv39 : v39 = (fi E1 a0 3) := ev39.symm.trans rfl
      have xv39 : v39.toInt = (fi E1 a0 3).toInt := by rw [wv39]
      refine tc_vv Z.1 Z.2.2.2.1 Z.2.2.2.2.1 Z.2.2.2.2.2 S17.1 S17.2 ha0 ta0 rfl rfl (k_X5_fail l D cy S17.2 ha0 ta0 v38 (by omega) (by omega) v39) (cwV 2 hts gX5_readAnd_X5_fail rfl rfl rfl (by decide +kernel) ⟨Nat.le_of_ble_eq_true rfl, Nat.le_of_ble_eq_true rfl⟩) rfl hl16.1 rfl (Nat.le_of_ble_eq_true rfl) dX5_readAnd_35 ⟨Nat.zero_le _, Nat.zero_le _⟩ (fun E40 H41 k42 W40 I40 G40 p40 => ?_)
      obtain ⟨p40_0, p40_1⟩ := p40
      have S40 : Now D TB cy (va_A (va_pl L E) sz) s L τ E40 H41 k42 := ⟨W40, I40⟩
      have F40 : Fr L τ (inW [(7, 0)]) E E40 := F1.trans (G40.mono (inW_mono (by decide)))
      have kz40_4 := fi_rng (k := 4) S40.2 ha0 ta0 rfl rfl
      obtain ⟨v44, ev44, tv44⟩ : ∃ v : Int32, Int32.ofInt (0) = v ∧ v.toInt = 0 := ⟨_, rfl, by decide +kernel⟩
      refine lv_iconst hx hb dX5_readAnd_38 ev44 ?_
      rw [← hQ]
      exact en_z Z S40 F40 (zo v44 (by omega)) ⟨(by omega), (by omega), (fun k hk => ((p40_1 k (fw_sub (by decide) hk)).trans ((p1_0 k (fw_sub (by decide) hk)).trans ((fun k hk => rfl) k hk))))⟩ dX5_readAnd_39
  · skip
    have tc10 := nu_eq c10
    obtain ⟨v45, ev45, tv45⟩ : ∃ v : Int32, Int32.ofInt (0) = v ∧ v.toInt = 0 := ⟨_, rfl, by decide +kernel⟩
    refine lv_iconst hx hb dX5_readAnd_12 ev45 ?_
    rw [← hQ]
    exact en_z Z S5 F1 (zo v45 (by omega)) ⟨(by omega), (by omega), (fun k hk => ((p1_0 k (fw_sub (by decide) hk)).trans ((fun k hk => rfl) k hk)))⟩ dX5_readAnd_13

set_option maxRecDepth 20000 in
theorem ggX5_nameHere_X5_letters : GoodIn wsX5_nameHere wsX5_letters := goodIn_r _ [6, 7, 8, 9, 63, 64, 65, 66, 67, 68, 69, 70, 71, 72, 73, 74, 75, 76] (by decide +kernel) (by decide +kernel)
set_option maxRecDepth 20000 in
theorem gX5_nameHere_X5_letters : GoodIn wsX5_nameHere (wsV RX5 81 RX5 yX5_letters wsX5_letters) := goodIn_app (goodIn_of _ (by decide +kernel)) ggX5_nameHere_X5_letters
set_option maxRecDepth 20000 in
theorem ggX5_nameHere_X5_stands : GoodIn wsX5_nameHere wsX5_stands := goodIn_r _ [13, 8, 7, 9, 14, 15, 16, 17, 18, 19, 20, 21, 22, 23, 24, 25, 26, 27, 28, 29, 30, 31, 32, 33, 34, 35, 36, 37, 38, 39, 40, 41, 42, 43, 44, 45, 46, 47, 48, 49, 50, 51, 52, 53, 54, 55, 56, 57, 58, 59, 60, 61, 62, 63, 64, 65, 66, 67, 68, 69, 70, 71, 72, 73, 74, 75, 76] (by decide +kernel) (by decide +kernel)
set_option maxRecDepth 20000 in
theorem gX5_nameHere_X5_stands : GoodIn wsX5_nameHere (wsV RX5 86 RX5 yX5_stands wsX5_stands) := goodIn_app (goodIn_of _ (by decide +kernel)) ggX5_nameHere_X5_stands
theorem dX5_nameHere_0 : decode cX5_nameHere 0 = .ok (.aload_n 0, 1) := by decide +kernel
theorem dX5_nameHere_1 : decode cX5_nameHere 1 = .ok (.invokevirtual 81, 3) := by decide +kernel
theorem dX5_nameHere_4 : decode cX5_nameHere 4 = .ok (.istore_n 1, 1) := by decide +kernel
theorem dX5_nameHere_5 : decode cX5_nameHere 5 = .ok (.iconst 0, 1) := by decide +kernel
theorem dX5_nameHere_6 : decode cX5_nameHere 6 = .ok (.istore_n 2, 1) := by decide +kernel
theorem dX5_nameHere_7 : decode cX5_nameHere 7 = .ok (.iload_n 2, 1) := by decide +kernel
theorem dX5_nameHere_8 : decode cX5_nameHere 8 = .ok (.getstatic 145, 3) := by decide +kernel
theorem dX5_nameHere_11 : decode cX5_nameHere 11 = .ok (.arraylength, 1) := by decide +kernel
theorem dX5_nameHere_12 : decode cX5_nameHere 12 = .ok (.if_icmp .ge 31, 3) := by decide +kernel
theorem dX5_nameHere_15 : decode cX5_nameHere 15 = .ok (.aload_n 0, 1) := by decide +kernel
theorem dX5_nameHere_16 : decode cX5_nameHere 16 = .ok (.getstatic 145, 3) := by decide +kernel
theorem dX5_nameHere_19 : decode cX5_nameHere 19 = .ok (.iload_n 2, 1) := by decide +kernel
theorem dX5_nameHere_20 : decode cX5_nameHere 20 = .ok (.aaload, 1) := by decide +kernel
theorem dX5_nameHere_21 : decode cX5_nameHere 21 = .ok (.getfield 131, 3) := by decide +kernel
theorem dX5_nameHere_24 : decode cX5_nameHere 24 = .ok (.iload_n 1, 1) := by decide +kernel
theorem dX5_nameHere_25 : decode cX5_nameHere 25 = .ok (.invokevirtual 86, 3) := by decide +kernel
theorem dX5_nameHere_28 : decode cX5_nameHere 28 = .ok (.ifCond .eq 9, 3) := by decide +kernel
theorem dX5_nameHere_31 : decode cX5_nameHere 31 = .ok (.getstatic 145, 3) := by decide +kernel
theorem dX5_nameHere_34 : decode cX5_nameHere 34 = .ok (.iload_n 2, 1) := by decide +kernel
theorem dX5_nameHere_35 : decode cX5_nameHere 35 = .ok (.aaload, 1) := by decide +kernel
theorem dX5_nameHere_36 : decode cX5_nameHere 36 = .ok (.areturn, 1) := by decide +kernel
theorem dX5_nameHere_37 : decode cX5_nameHere 37 = .ok (.iinc 2 1, 3) := by decide +kernel
theorem dX5_nameHere_40 : decode cX5_nameHere 40 = .ok (.goto (-33), 3) := by decide +kernel
theorem dX5_nameHere_43 : decode cX5_nameHere 43 = .ok (.aconst_null, 1) := by decide +kernel
theorem dX5_nameHere_44 : decode cX5_nameHere 44 = .ok (.areturn, 1) := by decide +kernel
set_option maxHeartbeats 4000000 in
set_option maxRecDepth 100000 in
theorem k_X5_nameHere (l : Launch) (D : va_G) (cy : Nat → ClassId) {L : List Nat} {τ : Nat → Ro} {E : Ec} (hI : Inv TB cy L τ E) {G : Sg} {a0 : Nat} (ha0 : a0 ∈ L) (ta0 : τ a0 = (7, 0)) : CtQ1 G l yX5_nameHere wsX5_nameHere { frames := 6, cells := 0, slots := 0, locals := 129 } D TB cy L τ E [.ref a0] (inW []) (fun r E' => E' = E ∧ (∀ q : Nat, r = some q → ∃ i : Nat, i < 8 ∧ q = G.2.2.1 i ∧ (fi E a0 3).toInt + ((lenS.getD i 0 : Nat) : Int) ≤ 120)) := by
  intro sz
  refine sta1 (cc := cX5_nameHere) (maxL := 3) hI (by decide) rfl (Nat.le_of_ble_eq_true rfl) (fun p e s m args below meth c ls hsz Z SZ S0 hl => ?_)
  have hx := Z.1.1
  have hb := Z.1.2.1
  have hts := Z.1.2.2.2.2
  have F0_ : Fr L τ (inW []) E E := Fr.refl
  have hl : lv_has ls 3 [(0, .ref a0)] := hl
  generalize hQ : MQ below _ args s 0 0 _ = QQ
  have kz_a0_3 := fi_rng (k := 3) hI ha0 ta0 rfl rfl
  have J7 : ∀ (n : Nat) (x1_7 : Int32) (x2_7 : Int32) (H_7 : Heap) (k_7 : List Loc) (l_7 : Array Slot), Now D TB cy (va_A (va_pl L E) sz) s L τ E H_7 k_7 → (0 ≤ x1_7.toInt) → (x1_7.toInt ≤ 120) → (0 ≤ x2_7.toInt) → (x2_7.toInt ≤ 8) → (x1_7.toInt + (fi E a0 3).toInt ≤ 120) → (8 - x2_7.toInt).toNat < n → lv_has l_7 3 [(0, .ref a0), (1, .int x1_7), (2, .int x2_7)] → W p l e { frames := 6, cells := 0, slots := 0, locals := 129 } s m args below meth c H_7 k_7 0 0 QQ (F0 m 7 l_7 []) := by
    intro n
    induction n with
    | zero => intro x1_7 x2_7 H_7 k_7 l_7 S_7 z1 z2 z3 z4 z5 hm hl_7; exact absurd hm (Nat.not_lt_zero _)
    | succ n ih =>
      intro x1_7 x2_7 H_7 k_7 l_7 S_7 z1 z2 z3 z4 z5 hm hl_7
      have ih_7 := ih
      refine lv_iload_n hx hb dX5_nameHere_7 rfl (lv_at hl_7 2 rfl) ?_
      refine va_getsN hx hb SZ.2.1.1 S_7.1.2.2 Z.1.2.2.2.1 (va_Nw.use rfl SZ.2.2.2.2.2.2.2.1) (fun _ h => h) dX5_nameHere_8 ?_
      obtain ⟨v6, ev6, tv6⟩ : ∃ v : Int32, Int32.ofNat 8 = v ∧ v.toInt = 8 := ⟨_, rfl, by decide +kernel⟩
      refine va_tlen hx hb SZ.2.1.2 S_7.1.2.2 ev6 dX5_nameHere_11 ?_
      refine lv_icmp_ge (tgt := 43) hx hb dX5_nameHere_12 (by decide) (fun c7 => ?_) (fun c7 => ?_)
      · skip
        have tc7 := nu_le c7
        refine lv_null hx hb dX5_nameHere_43 ?_
        rw [← hQ]
        exact en_q (x := none) Z (by first | exact Or.inl ⟨_, rfl⟩ | exact Or.inr ⟨_, rfl⟩) S_7 F0_ ⟨rfl, (fun _ h => nomatch h)⟩ dX5_nameHere_44
      · skip
        have tc7 := nu_nle c7
        refine lv_aload_n hx hb dX5_nameHere_15 rfl (lv_at hl_7 0 rfl) ?_
        refine va_getsN hx hb SZ.2.1.1 S_7.1.2.2 Z.1.2.2.2.1 (va_Nw.use rfl SZ.2.2.2.2.2.2.2.1) (fun _ h => h) dX5_nameHere_16 ?_
        refine lv_iload_n hx hb dX5_nameHere_19 rfl (lv_at hl_7 2 rfl) ?_
        refine vb_tq hx hb SZ.2.1.2 S_7.1.2.2 (tr_in (by omega) (by omega)) rfl dX5_nameHere_20 ?_
        refine vk_getf hx hb (SZ.2.2.1 (x2_7.toNatClampNeg) (tr_cl (n := 8) (by omega) (by omega))).2 S_7.1.2.2 Z.1.2.2.2.1 (hts _ (List.mem_of_getElem? (i := 1) rfl)) (fun _ h => h) dX5_nameHere_21 ?_
        refine lv_iload_n hx hb dX5_nameHere_24 rfl (lv_at hl_7 1 rfl) ?_
        refine tc1_vi Z.1 Z.2.2.2.1 Z.2.2.2.2.1 Z.2.2.2.2.2 SZ S_7.1 S_7.2 ha0 ta0 rfl rfl (k_X5_stands l D cy S_7.2 ha0 ta0 (Nat.lt_trans (tr_cl (n := 8) (by omega) (by omega)) (by decide)) x1_7) (cwV 2 hts gX5_nameHere_X5_stands rfl rfl rfl (by decide +kernel) ⟨Nat.le_of_ble_eq_true rfl, Nat.le_of_ble_eq_true rfl⟩) rfl hl_7.1 rfl (Nat.le_of_ble_eq_true rfl) dX5_nameHere_25 ⟨Nat.zero_le _, Nat.zero_le _⟩ (fun v11 E8 H9 k10 W8 I8 G8 p8 => ?_)
        obtain ⟨q8, p8_0, p8_1, p8_2⟩ := p8
        have q8 := q8.symm
        subst q8
        have S8 : Now D TB cy (va_A (va_pl L E) sz) s L τ E H9 k10 := ⟨W8, I8⟩
        refine lv_if_eq (tgt := 37) hx hb dX5_nameHere_28 (by decide) (fun c12 => ?_) (fun c12 => ?_)
        · skip
          have tc12 := nu_eq c12
          have uc12 : (0 : Int32).toInt = 0 := rfl
          obtain ⟨v13, ev13⟩ : ∃ y : Int32, x2_7 + Int32.ofInt (1) = y := ⟨_, rfl⟩
          have tv13 : v13.toInt = x2_7.toInt + (1) := by rw [← ev13]; exact (fb_addI (by rw [show (Int32.ofInt (1)).toInt = 1 from by decide +kernel]; omega) (by rw [show (Int32.ofInt (1)).toInt = 1 from by decide +kernel]; omega)).trans (by rw [show (Int32.ofInt (1)).toInt = 1 from by decide +kernel])
          refine lv_iinc (v := v13) (lv' := [(2, .int v13), (0, .ref a0), (1, .int x1_7)]) hx hb dX5_nameHere_37 hl_7 (k := 2) rfl ev13 (by decide) rfl (fun l14 hl15 => ?_)
          refine lv_goto (tgt := 7) hx hb dX5_nameHere_40 (by decide) ?_
          exact ih_7 x1_7 v13 H9 k10 l14 S8 (by omega) (by omega) (by omega) (by omega) (by omega) (by omega) (lv_sub hl15 [1, 2, 0] rfl)
        · skip
          have tc12 := nu_ne c12
          have uc12 : (0 : Int32).toInt = 0 := rfl
          refine va_getsN hx hb SZ.2.1.1 S8.1.2.2 Z.1.2.2.2.1 (va_Nw.use rfl SZ.2.2.2.2.2.2.2.1) (fun _ h => h) dX5_nameHere_31 ?_
          refine lv_iload_n hx hb dX5_nameHere_34 rfl (lv_at hl_7 2 rfl) ?_
          refine vb_tq hx hb SZ.2.1.2 S8.1.2.2 (tr_in (by omega) (by omega)) rfl dX5_nameHere_35 ?_
          rw [← hQ]
          exact en_q (x := some (G.2.2.1 x2_7.toNatClampNeg)) Z (by first | exact Or.inl ⟨_, rfl⟩ | exact Or.inr ⟨_, rfl⟩) S8 F0_ ⟨rfl, (fun y h => by cases h; exact ⟨_, (tr_cl (n := 8) (by omega) (by omega)), rfl, by omega⟩)⟩ dX5_nameHere_36
  refine lv_aload_n hx hb dX5_nameHere_0 rfl (lv_at hl 0 rfl) ?_
  refine tc_vi Z.1 Z.2.2.2.1 Z.2.2.2.2.1 Z.2.2.2.2.2 S0.1 S0.2 ha0 ta0 rfl rfl (k_X5_letters l D cy S0.2 ha0 ta0) (cwV 0 hts gX5_nameHere_X5_letters rfl rfl rfl (by decide +kernel) ⟨Nat.le_of_ble_eq_true rfl, Nat.le_of_ble_eq_true rfl⟩) rfl hl.1 rfl (Nat.le_of_ble_eq_true rfl) dX5_nameHere_1 ⟨Nat.zero_le _, Nat.zero_le _⟩ (fun v19 E16 H17 k18 W16 I16 G16 p16 => ?_)
  obtain ⟨q16, p16_0, p16_1, p16_2⟩ := p16
  have q16 := q16.symm
  subst q16
  have S16 : Now D TB cy (va_A (va_pl L E) sz) s L τ E H17 k18 := ⟨W16, I16⟩
  refine lv_istore_n (lv' := [(1, .int v19), (0, .ref a0)]) hx hb dX5_nameHere_4 rfl hl (by decide) rfl (fun l20 hl21 => ?_)
  obtain ⟨v22, ev22, tv22⟩ : ∃ v : Int32, Int32.ofInt (0) = v ∧ v.toInt = 0 := ⟨_, rfl, by decide +kernel⟩
  refine lv_iconst hx hb dX5_nameHere_5 ev22 ?_
  refine lv_istore_n (lv' := [(2, .int v22), (1, .int v19), (0, .ref a0)]) hx hb dX5_nameHere_6 rfl hl21 (by decide) rfl (fun l23 hl24 => ?_)
  exact J7 _ v19 v22 H17 k18 l23 S16 (by omega) (by omega) (by omega) (by omega) (by omega) (Nat.lt_succ_self _) (lv_sub hl24 [2, 1, 0] rfl)

