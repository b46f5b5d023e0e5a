theorem dJ0_coder_7d493_0 : decode cJ0_coder_7d493 0 = .ok (.getstatic 38, 3) := by decide +kernel
theorem dJ0_coder_7d493_3 : decode cJ0_coder_7d493 3 = .ok (.ifCond .eq 10, 3) := by decide +kernel
theorem dJ0_coder_7d493_6 : decode cJ0_coder_7d493 6 = .ok (.aload_n 0, 1) := by decide +kernel
theorem dJ0_coder_7d493_7 : decode cJ0_coder_7d493 7 = .ok (.getfield 15, 3) := by decide +kernel
theorem dJ0_coder_7d493_10 : decode cJ0_coder_7d493 10 = .ok (.goto 4, 3) := by decide +kernel
theorem dJ0_coder_7d493_13 : decode cJ0_coder_7d493 13 = .ok (.iconst 1, 1) := by decide +kernel
theorem dJ0_coder_7d493_14 : decode cJ0_coder_7d493 14 = .ok (.ireturn, 1) := by decide +kernel
set_option maxHeartbeats 4000000 in
set_option maxRecDepth 100000 in
theorem k_J0_coder_7d493 (l : Launch) (D : va_G) (cy : Nat → ClassId) {L : List Nat} {τ : Nat → Ro} {E : Ec} (hI : Inv TB cy L τ E) {G : Sg} {i0 : Nat} (hi0 : i0 < 11) : CtI1 G l yJ0_coder_7d493 wsJ0_coder_7d493 { frames := 0, cells := 0, slots := 0, locals := 0 } D TB cy L τ E [.ref (G.2.2.2.1 i0)] (inW []) (fun r E' => E' = E ∧ 0 ≤ r.toInt ∧ r.toInt ≤ 0) := by
  intro sz
  refine sta1 (cc := cJ0_coder_7d493) (maxL := 1) hI (by decide) rfl (Nat.le_of_ble_eq_true rfl) (fun p e s m args below meth c ls hsz Z SZ S0 hl => ?_)
  have hx := Z.1.1
  have hb := Z.1.2.1
  have hts := Z.1.2.2.2.2
  have F0_ : Fr L τ (inW []) E E := Fr.refl
  have hl : lv_has ls 1 [(0, .ref (G.2.2.2.1 i0))] := hl
  generalize hQ : MQ below _ args s 0 0 _ = QQ
  refine va_gets hx hb SZ.2.2.2.2.1 S0.1.2.2 Z.1.2.2.2.1 (hts _ (List.mem_of_getElem? (i := 1) rfl)) (fun _ h => h) dJ0_coder_7d493_0 ?_
  refine lv_topi (fun v1 ev1 => ?_)
  have tv1 := (show v1.toInt = 1 by rw [ev1]; rfl)
  refine lv_if_eq (tgt := 13) hx hb dJ0_coder_7d493_3 (by decide) (fun c2 => ?_) (fun c2 => ?_)
  · skip
    have tc2 := nu_eq c2
    have uc2 : (0 : Int32).toInt = 0 := rfl
    omega
  · skip
    have tc2 := nu_ne c2
    have uc2 : (0 : Int32).toInt = 0 := rfl
    refine lv_aload_n hx hb dJ0_coder_7d493_6 rfl (lv_at hl 0 rfl) ?_
    refine vk_getf hx hb (SZ.2.2.2.1.1 (i0) hi0).2.1 S0.1.2.2 Z.1.2.2.2.1 (hts _ (List.mem_of_getElem? (i := 2) rfl)) (fun _ h => h) dJ0_coder_7d493_7 ?_
    refine lv_topi (fun v3 ev3 => ?_)
    have tv3 := (show v3.toInt = 0 by rw [ev3]; rfl)
    refine lv_goto (tgt := 14) hx hb dJ0_coder_7d493_10 (by decide) ?_
    rw [← hQ]
    exact en_t Z S0 F0_ (by rw [fa_k 0 (show v3.toInt = (0 : Int32).toInt from by omega)]; rfl) ⟨rfl, (by omega), (by omega)⟩ dJ0_coder_7d493_14

set_option maxRecDepth 20000 in
theorem ggJ0_length_8abf5_J0_coder_7d493 : GoodIn wsJ0_length_8abf5 wsJ0_coder_7d493 := goodIn_r _ [6, 7, 8] (by decide +kernel) (by decide +kernel)
set_option maxRecDepth 20000 in
theorem gJ0_length_8abf5_J0_coder_7d493 : GoodIn wsJ0_length_8abf5 (wsV RJ0 335 RJ0 yJ0_coder_7d493 wsJ0_coder_7d493) := goodIn_app (goodIn_of _ (by decide +kernel)) ggJ0_length_8abf5_J0_coder_7d493
theorem dJ0_length_8abf5_0 : decode cJ0_length_8abf5 0 = .ok (.aload_n 0, 1) := by decide +kernel
theorem dJ0_length_8abf5_1 : decode cJ0_length_8abf5 1 = .ok (.getfield 9, 3) := by decide +kernel
theorem dJ0_length_8abf5_4 : decode cJ0_length_8abf5 4 = .ok (.arraylength, 1) := by decide +kernel
theorem dJ0_length_8abf5_5 : decode cJ0_length_8abf5 5 = .ok (.aload_n 0, 1) := by decide +kernel
theorem dJ0_length_8abf5_6 : decode cJ0_length_8abf5 6 = .ok (.invokevirtual 335, 3) := by decide +kernel
theorem dJ0_length_8abf5_9 : decode cJ0_length_8abf5 9 = .ok (.ishr, 1) := by decide +kernel
theorem dJ0_length_8abf5_10 : decode cJ0_length_8abf5 10 = .ok (.ireturn, 1) := by decide +kernel
set_option maxHeartbeats 4000000 in
set_option maxRecDepth 100000 in
theorem k_J0_length_8abf5 (l : Launch) (D : va_G) (cy : Nat → ClassId) {L : List Nat} {τ : Nat → Ro} {E : Ec} (hI : Inv TB cy L τ E) {G : Sg} {i0 : Nat} (hi0 : i0 < 11) : CtI1 G l yJ0_length_8abf5 wsJ0_length_8abf5 { frames := 1, cells := 0, slots := 0, locals := 20 } D TB cy L τ E [.ref (G.2.2.2.1 i0)] (inW []) (fun r E' => E' = E ∧ (r.toInt = ((lenS.getD i0 0 : Nat) : Int)) ∧ 0 ≤ r.toInt ∧ r.toInt ≤ 6) := by
  intro sz
  refine sta1 (cc := cJ0_length_8abf5) (maxL := 1) hI (by decide) rfl (Nat.le_of_ble_eq_true rfl) (fun p e s m args below meth c ls hsz Z SZ S0 hl => ?_)
  have hx := Z.1.1
  have hb := Z.1.2.1
  have hts := Z.1.2.2.2.2
  have F0_ : Fr L τ (inW []) E E := Fr.refl
  have hl : lv_has ls 1 [(0, .ref (G.2.2.2.1 i0))] := hl
  generalize hQ : MQ below _ args s 0 0 _ = QQ
  refine lv_aload_n hx hb dJ0_length_8abf5_0 rfl (lv_at hl 0 rfl) ?_
  refine vk_getf hx hb (SZ.2.2.2.1.1 (i0) hi0).2.2.1 S0.1.2.2 Z.1.2.2.2.1 (hts _ (List.mem_of_getElem? (i := 1) rfl)) (fun _ h => h) dJ0_length_8abf5_1 ?_
  obtain ⟨v1, ev1, tv1⟩ : ∃ v : Int32, Int32.ofNat (lenS.getD (i0) 0) = v ∧ (v.toInt = ((lenS.getD (i0) 0 : Nat) : Int) ∧ 0 ≤ v.toInt ∧ v.toInt ≤ 6) := ⟨_, rfl, lenS_int hi0⟩
  refine va_tlen hx hb (SZ.2.2.2.1.1 (i0) hi0).2.2.2 S0.1.2.2 ev1 dJ0_length_8abf5_4 ?_
  refine lv_aload_n hx hb dJ0_length_8abf5_5 rfl (lv_at hl 0 rfl) ?_
  refine tcS_vi Z.1 Z.2.2.2.1 Z.2.2.2.2.1 Z.2.2.2.2.2 SZ S0.1 hi0 (k_J0_coder_7d493 l D cy S0.2 hi0) (cwV 0 hts gJ0_length_8abf5_J0_coder_7d493 rfl rfl rfl (by decide +kernel) ⟨Nat.le_of_ble_eq_true rfl, Nat.le_of_ble_eq_true rfl⟩) rfl hl.1 rfl (Nat.le_of_ble_eq_true rfl) dJ0_length_8abf5_6 ⟨Nat.zero_le _, Nat.zero_le _⟩ (fun v5 E2 H3 k4 W2 I2 G2 p2 => ?_)
  obtain ⟨q2, p2_0, p2_1⟩ := p2
  have q2 := q2.symm
  subst q2
  have S2 : Now D TB cy (va_A (va_pl L E) sz) s L τ E H3 k4 := ⟨W2, I2⟩
  refine lv_ishr hx hb dJ0_length_8abf5_9 ?_
  refine lv_topi (fun v6 ev6 => ?_)
  have tv6 := sh0 ev6 (by omega)
  rw [← hQ]
  exact en_i Z S2 F0_ ⟨rfl, (by omega), (by omega), (by omega)⟩ dJ0_length_8abf5_10

theorem dJ0_isLatin1_aae02_0 : decode cJ0_isLatin1_aae02 0 = .ok (.getstatic 38, 3) := by decide +kernel
theorem dJ0_isLatin1_aae02_3 : decode cJ0_isLatin1_aae02 3 = .ok (.ifCond .eq 14, 3) := by decide +kernel
theorem dJ0_isLatin1_aae02_6 : decode cJ0_isLatin1_aae02 6 = .ok (.aload_n 0, 1) := by decide +kernel
theorem dJ0_isLatin1_aae02_7 : decode cJ0_isLatin1_aae02 7 = .ok (.getfield 15, 3) := by decide +kernel
theorem dJ0_isLatin1_aae02_10 : decode cJ0_isLatin1_aae02 10 = .ok (.ifCond .ne 7, 3) := by decide +kernel
theorem dJ0_isLatin1_aae02_13 : decode cJ0_isLatin1_aae02 13 = .ok (.iconst 1, 1) := by decide +kernel
theorem dJ0_isLatin1_aae02_14 : decode cJ0_isLatin1_aae02 14 = .ok (.goto 4, 3) := by decide +kernel
theorem dJ0_isLatin1_aae02_17 : decode cJ0_isLatin1_aae02 17 = .ok (.iconst 0, 1) := by decide +kernel
theorem dJ0_isLatin1_aae02_18 : decode cJ0_isLatin1_aae02 18 = .ok (.ireturn, 1) := by decide +kernel
set_option maxHeartbeats 4000000 in
set_option maxRecDepth 100000 in
theorem k_J0_isLatin1_aae02 (l : Launch) (D : va_G) (cy : Nat → ClassId) {L : List Nat} {τ : Nat → Ro} {E : Ec} (hI : Inv TB cy L τ E) {G : Sg} {i0 : Nat} (hi0 : i0 < 11) : CtI1 G l yJ0_isLatin1_aae02 wsJ0_isLatin1_aae02 { frames := 0, cells := 0, slots := 0, locals := 0 } D TB cy L τ E [.ref (G.2.2.2.1 i0)] (inW []) (fun r E' => E' = E ∧ 1 ≤ r.toInt ∧ r.toInt ≤ 1) := by
  intro sz
  refine sta1 (cc := cJ0_isLatin1_aae02) (maxL := 1) hI (by decide) rfl (Nat.le_of_ble_eq_true rfl) (fun p e s m args below meth c ls hsz Z SZ S0 hl => ?_)
  have hx := Z.1.1
  have hb := Z.1.2.1
  have hts := Z.1.2.2.2.2
  have F0_ : Fr L τ (inW []) E E := Fr.refl
  have hl : lv_has ls 1 [(0, .ref (G.2.2.2.1 i0))] := hl
  generalize hQ : MQ below _ args s 0 0 _ = QQ
  refine va_gets hx hb SZ.2.2.2.2.1 S0.1.2.2 Z.1.2.2.2.1 (hts _ (List.mem_of_getElem? (i := 1) rfl)) (fun _ h => h) dJ0_isLatin1_aae02_0 ?_
  refine lv_topi (fun v1 ev1 => ?_)
  have tv1 := (show v1.toInt = 1 by rw [ev1]; rfl)
  refine lv_if_eq (tgt := 17) hx hb dJ0_isLatin1_aae02_3 (by decide) (fun c2 => ?_) (fun c2 => ?_)
  · skip
    have tc2 := nu_eq c2
    have uc2 : (0 : Int32).toInt = 0 := rfl
    omega
  · skip
    have tc2 := nu_ne c2
    have uc2 : (0 : Int32).toInt = 0 := rfl
    refine lv_aload_n hx hb dJ0_isLatin1_aae02_6 rfl (lv_at hl 0 rfl) ?_
    refine vk_getf hx hb (SZ.2.2.2.1.1 (i0) hi0).2.1 S0.1.2.2 Z.1.2.2.2.1 (hts _ (List.mem_of_getElem? (i := 2) rfl)) (fun _ h => h) dJ0_isLatin1_aae02_7 ?_
    refine lv_topi (fun v3 ev3 => ?_)
    have tv3 := (show v3.toInt = 0 by rw [ev3]; rfl)
    refine lv_if_ne (tgt := 17) hx hb dJ0_isLatin1_aae02_10 (by decide) (fun c4 => ?_) (fun c4 => ?_)
    · skip
      have tc4 := nu_ne c4
      have uc4 : (0 : Int32).toInt = 0 := rfl
      omega
    · skip
      have tc4 := nu_eq c4
      have uc4 : (0 : Int32).toInt = 0 := rfl
      obtain ⟨v5, ev5, tv5⟩ : ∃ v : Int32, Int32.ofInt (1) = v ∧ v.toInt = 1 := ⟨_, rfl, by decide +kernel⟩
      refine lv_iconst hx hb dJ0_isLatin1_aae02_13 ev5 ?_
      refine lv_goto (tgt := 18) hx hb dJ0_isLatin1_aae02_14 (by decide) ?_
      rw [← hQ]
      exact en_z Z S0 F0_ (zo v5 (by omega)) ⟨rfl, (by omega), (by omega)⟩ dJ0_isLatin1_aae02_18

theorem dJ3_checkIndex_8e157_0 : decode cJ3_checkIndex_8e157 0 = .ok (.iload_n 0, 1) := by decide +kernel
theorem dJ3_checkIndex_8e157_1 : decode cJ3_checkIndex_8e157 1 = .ok (.ifCond .lt 8, 3) := by decide +kernel
theorem dJ3_checkIndex_8e157_4 : decode cJ3_checkIndex_8e157 4 = .ok (.iload_n 0, 1) := by decide +kernel
theorem dJ3_checkIndex_8e157_5 : decode cJ3_checkIndex_8e157 5 = .ok (.iload_n 1, 1) := by decide +kernel
theorem dJ3_checkIndex_8e157_6 : decode cJ3_checkIndex_8e157 6 = .ok (.if_icmp .lt 10, 3) := by decide +kernel
theorem dJ3_checkIndex_8e157_9 : decode cJ3_checkIndex_8e157 9 = .ok (.aload_n 2, 1) := by decide +kernel
theorem dJ3_checkIndex_8e157_10 : decode cJ3_checkIndex_8e157 10 = .ok (.iload_n 0, 1) := by decide +kernel
theorem dJ3_checkIndex_8e157_11 : decode cJ3_checkIndex_8e157 11 = .ok (.iload_n 1, 1) := by decide +kernel
theorem dJ3_checkIndex_8e157_12 : decode cJ3_checkIndex_8e157 12 = .ok (.invokestatic 95, 3) := by decide +kernel
theorem dJ3_checkIndex_8e157_15 : decode cJ3_checkIndex_8e157 15 = .ok (.athrow, 1) := by decide +kernel
theorem dJ3_checkIndex_8e157_16 : decode cJ3_checkIndex_8e157 16 = .ok (.iload_n 0, 1) := by decide +kernel
theorem dJ3_checkIndex_8e157_17 : decode cJ3_checkIndex_8e157 17 = .ok (.ireturn, 1) := by decide +kernel
set_option maxHeartbeats 4000000 in
set_option maxRecDepth 100000 in
theorem k_J3_checkIndex_8e157_vn (l : Launch) (D : va_G) (cy : Nat → ClassId) {L : List Nat} {τ : Nat → Ro} {E : Ec} (hI : Inv TB cy L τ E) (a0 : Int32) (la0 : 0 ≤ a0.toInt) (a1 : Int32) (h : a0.toInt < a1.toInt) : CtI l yJ3_checkIndex_8e157 wsJ3_checkIndex_8e157 { frames := 0, cells := 0, slots := 0, locals := 0 } D TB cy L τ E [.int a0, .int a1, .null] (inW []) (fun r E' => E' = E) := by
  intro sz
  refine sta (cc := cJ3_checkIndex_8e157) (maxL := 3) hI (by decide) rfl (Nat.le_of_ble_eq_true rfl) (fun p e s m args below meth c ls hsz Z S0 hl => ?_)
  have hx := Z.1.1
  have hb := Z.1.2.1
  have hts := Z.1.2.2.2.2
  have F0_ : Fr L τ (inW []) E E := Fr.refl
  have hl : lv_has ls 3 [(0, .int a0), (1, .int a1), (2, .null)] := hl
  generalize hQ : MQ below _ args s 0 0 _ = QQ
  refine lv_iload_n hx hb dJ3_checkIndex_8e157_0 rfl (lv_at hl 0 rfl) ?_
  refine lv_if_lt (tgt := 9) hx hb dJ3_checkIndex_8e157_1 (by decide) (fun c1 => ?_) (fun c1 => ?_)
  · skip
    have tc1 := nu_lt c1
    have uc1 : (0 : Int32).toInt = 0 := rfl
    omega
  · skip
    have tc1 := nu_nlt c1
    have uc1 : (0 : Int32).toInt = 0 := rfl
    refine lv_iload_n hx hb dJ3_checkIndex_8e157_4 rfl (lv_at hl 0 rfl) ?_
    refine lv_iload_n hx hb dJ3_checkIndex_8e157_5 rfl (lv_at hl 1 rfl) ?_
    refine lv_icmp_lt (tgt := 16) hx hb dJ3_checkIndex_8e157_6 (by decide) (fun c2 => ?_) (fun c2 => ?_)
    · skip
      have tc2 := nu_lt c2
      refine lv_iload_n hx hb dJ3_checkIndex_8e157_16 rfl (lv_at hl 0 rfl) ?_
      rw [← hQ]
      exact en_i Z S0 F0_ rfl dJ3_checkIndex_8e157_17
    · skip
      have tc2 := nu_nlt c2
      omega

set_option maxHeartbeats 4000000 in
set_option maxRecDepth 100000 in
theorem k_J3_checkIndex_8e157_vr (l : Launch) (D : va_G) (cy : Nat → ClassId) {L : List Nat} {τ : Nat → Ro} {E : Ec} (hI : Inv TB cy L τ E) (a0 : Int32) (la0 : 0 ≤ a0.toInt) (a1 : Int32) (a2 : Nat) (h : a0.toInt < a1.toInt) : CtI l yJ3_checkIndex_8e157 wsJ3_checkIndex_8e157 { frames := 0, cells := 0, slots := 0, locals := 0 } D TB cy L τ E [.int a0, .int a1, .ref a2] (inW []) (fun r E' => E' = E) := by
  intro sz
  refine sta (cc := cJ3_checkIndex_8e157) (maxL := 3) hI (by decide) rfl (Nat.le_of_ble_eq_true rfl) (fun p e s m args below meth c ls hsz Z S0 hl => ?_)
  have hx := Z.1.1
  have hb := Z.1.2.1
  have hts := Z.1.2.2.2.2
  have F0_ : Fr L τ (inW []) E E := Fr.refl
  have hl : lv_has ls 3 [(0, .int a0), (1, .int a1), (2, .ref a2)] := hl
  generalize hQ : MQ below _ args s 0 0 _ = QQ
  refine lv_iload_n hx hb dJ3_checkIndex_8e157_0 rfl (lv_at hl 0 rfl) ?_
  refine lv_if_lt (tgt := 9) hx hb dJ3_checkIndex_8e157_1 (by decide) (fun c1 => ?_) (fun c1 => ?_)
  · skip
    have tc1 := nu_lt c1
    have uc1 : (0 : Int32).toInt = 0 := rfl
    omega
  · skip
    have tc1 := nu_nlt c1
    have uc1 : (0 : Int32).toInt = 0 := rfl
    refine lv_iload_n hx hb dJ3_checkIndex_8e157_4 rfl (lv_at hl 0 rfl) ?_
    refine lv_iload_n hx hb dJ3_checkIndex_8e157_5 rfl (lv_at hl 1 rfl) ?_
    refine lv_icmp_lt (tgt := 16) hx hb dJ3_checkIndex_8e157_6 (by decide) (fun c2 => ?_) (fun c2 => ?_)
    · skip
      have tc2 := nu_lt c2
      refine lv_iload_n hx hb dJ3_checkIndex_8e157_16 rfl (lv_at hl 0 rfl) ?_
      rw [← hQ]
      exact en_i Z S0 F0_ rfl dJ3_checkIndex_8e157_17
    · skip
      have tc2 := nu_nlt c2
      omega

set_option maxRecDepth 20000 in
theorem ggJ0_checkIndex_df160_J3_checkIndex_8e157 : GoodIn wsJ0_checkIndex_df160 wsJ3_checkIndex_8e157 := goodIn_r _ [5] (by decide +kernel) (by decide +kernel)
set_option maxRecDepth 20000 in
theorem gJ0_checkIndex_df160_J3_checkIndex_8e157 : GoodIn wsJ0_checkIndex_df160 (va_wsS RJ0 1059 yJ3_checkIndex_8e157 wsJ3_checkIndex_8e157) := goodIn_app (goodIn_of _ (by decide +kernel)) ggJ0_checkIndex_df160_J3_checkIndex_8e157
theorem dJ0_checkIndex_df160_0 : decode cJ0_checkIndex_df160 0 = .ok (.iload_n 0, 1) := by decide +kernel
theorem dJ0_checkIndex_df160_1 : decode cJ0_checkIndex_df160 1 = .ok (.iload_n 1, 1) := by decide +kernel
theorem dJ0_checkIndex_df160_2 : decode cJ0_checkIndex_df160 2 = .ok (.getstatic 1053, 3) := by decide +kernel
theorem dJ0_checkIndex_df160_5 : decode cJ0_checkIndex_df160 5 = .ok (.invokestatic 1059, 3) := by decide +kernel
theorem dJ0_checkIndex_df160_8 : decode cJ0_checkIndex_df160 8 = .ok (.pop, 1) := by decide +kernel
theorem dJ0_checkIndex_df160_9 : decode cJ0_checkIndex_df160 9 = .ok (.return_, 1) := by decide +kernel
set_option maxHeartbeats 4000000 in
set_option maxRecDepth 100000 in
theorem k_J0_checkIndex_df160 (l : Launch) (D : va_G) (cy : Nat → ClassId) {L : List Nat} {τ : Nat → Ro} {E : Ec} (hI : Inv TB cy L τ E) {G : Sg} (a0 : Int32) (la0 : 0 ≤ a0.toInt) (a1 : Int32) (h : a0.toInt < a1.toInt) : CtV1 G l yJ0_checkIndex_df160 wsJ0_checkIndex_df160 { frames := 1, cells := 0, slots := 0, locals := 22 } D TB cy L τ E [.int a0, .int a1] (inW []) (fun E' => E' = E) := by
  intro sz
  refine sta1 (cc := cJ0_checkIndex_df160) (maxL := 2) hI (by decide) rfl (Nat.le_of_ble_eq_true rfl) (fun p e s m args below meth c ls hsz Z SZ S0 hl => ?_)
  have hx := Z.1.1
  have hb := Z.1.2.1
  have hts := Z.1.2.2.2.2
  have F0_ : Fr L τ (inW []) E E := Fr.refl
  have hl : lv_has ls 2 [(0, .int a0), (1, .int a1)] := hl
  generalize hQ : MQ below _ args s 0 0 _ = QQ
  refine lv_iload_n hx hb dJ0_checkIndex_df160_0 rfl (lv_at hl 0 rfl) ?_
  refine lv_iload_n hx hb dJ0_checkIndex_df160_1 rfl (lv_at hl 1 rfl) ?_
  rcases SZ.2.2.2.2.2.1 with h1 | ⟨q2, h1⟩
  · skip
    refine va_gets hx hb h1 S0.1.2.2 Z.1.2.2.2.1 (hts _ (List.mem_of_getElem? (i := 1) rfl)) (fun _ h => h) dJ0_checkIndex_df160_2 ?_
    refine tc_si Z.1 Z.2.2.2.1 Z.2.2.2.2.1 Z.2.2.2.2.2 S0.1 (k_J3_checkIndex_8e157_vn l D cy S0.2 a0 (by omega) a1 (by omega)) (va_cwS 3 hts gJ0_checkIndex_df160_J3_checkIndex_8e157 rfl rfl rfl (by decide +kernel) ⟨Nat.le_of_ble_eq_true rfl, Nat.le_of_ble_eq_true rfl⟩) rfl hl.1 rfl (Nat.le_of_ble_eq_true rfl) dJ0_checkIndex_df160_5 ⟨Nat.zero_le _, Nat.zero_le _⟩ (fun v6 E3 H4 k5 W3 I3 G3 p3 => ?_)
    have q3 := p3
    have q3 := q3.symm
    subst q3
    have S3 : Now D TB cy (va_A (va_pl L E) sz) s L τ E H4 k5 := ⟨W3, I3⟩
    refine lv_pop hx hb dJ0_checkIndex_df160_8 rfl ?_
    rw [← hQ]
    exact en_v Z S3 F0_ rfl dJ0_checkIndex_df160_9
  · skip
    refine va_gets hx hb h1 S0.1.2.2 Z.1.2.2.2.1 (hts _ (List.mem_of_getElem? (i := 1) rfl)) (fun _ h => h) dJ0_checkIndex_df160_2 ?_
    refine tc_si Z.1 Z.2.2.2.1 Z.2.2.2.2.1 Z.2.2.2.2.2 S0.1 (k_J3_checkIndex_8e157_vr l D cy S0.2 a0 (by omega) a1 q2 (by omega)) (va_cwS 3 hts gJ0_checkIndex_df160_J3_checkIndex_8e157 rfl rfl rfl (by decide +kernel) ⟨Nat.le_of_ble_eq_true rfl, Nat.le_of_ble_eq_true rfl⟩) rfl hl.1 rfl (Nat.le_of_ble_eq_true rfl) dJ0_checkIndex_df160_5 ⟨Nat.zero_le _, Nat.zero_le _⟩ (fun v10 E7 H8 k9 W7 I7 G7 p7 => ?_)
    have q7 := p7
    have q7 := q7.symm
    subst q7
    have S7 : Now D TB cy (va_A (va_pl L E) sz) s L τ E H8 k9 := ⟨W7, I7⟩
    refine lv_pop hx hb dJ0_checkIndex_df160_8 rfl ?_
    rw [← hQ]
    exact en_v Z S7 F0_ rfl dJ0_checkIndex_df160_9

set_option maxRecDepth 20000 in
theorem ggJ1_charAt_3b067_J0_checkIndex_df160 : GoodIn wsJ1_charAt_3b067 wsJ0_checkIndex_df160 := goodIn_r _ [4, 5, 6, 7, 8, 9] (by decide +kernel) (by decide +kernel)
set_option maxRecDepth 20000 in
theorem gJ1_charAt_3b067_J0_checkIndex_df160 : GoodIn wsJ1_charAt_3b067 (va_wsS RJ1 9 yJ0_checkIndex_df160 wsJ0_checkIndex_df160) := goodIn_app (goodIn_of _ (by decide +kernel)) ggJ1_charAt_3b067_J0_checkIndex_df160
theorem dJ1_charAt_3b067_0 : decode cJ1_charAt_3b067 0 = .ok (.iload_n 1, 1) := by decide +kernel
theorem dJ1_charAt_3b067_1 : decode cJ1_charAt_3b067 1 = .ok (.aload_n 0, 1) := by decide +kernel
theorem dJ1_charAt_3b067_2 : decode cJ1_charAt_3b067 2 = .ok (.arraylength, 1) := by decide +kernel
theorem dJ1_charAt_3b067_3 : decode cJ1_charAt_3b067 3 = .ok (.invokestatic 9, 3) := by decide +kernel
theorem dJ1_charAt_3b067_6 : decode cJ1_charAt_3b067 6 = .ok (.aload_n 0, 1) := by decide +kernel
theorem dJ1_charAt_3b067_7 : decode cJ1_charAt_3b067 7 = .ok (.iload_n 1, 1) := by decide +kernel
theorem dJ1_charAt_3b067_8 : decode cJ1_charAt_3b067 8 = .ok (.baload, 1) := by decide +kernel
theorem dJ1_charAt_3b067_9 : decode cJ1_charAt_3b067 9 = .ok (.sipush 255, 3) := by decide +kernel
theorem dJ1_charAt_3b067_12 : decode cJ1_charAt_3b067 12 = .ok (.iand, 1) := by decide +kernel
theorem dJ1_charAt_3b067_13 : decode cJ1_charAt_3b067 13 = .ok (.i2c, 1) := by decide +kernel
theorem dJ1_charAt_3b067_14 : decode cJ1_charAt_3b067 14 = .ok (.ireturn, 1) := by decide +kernel
set_option maxHeartbeats 4000000 in
set_option maxRecDepth 100000 in
theorem k_J1_charAt_3b067 (l : Launch) (D : va_G) (cy : Nat → ClassId) {L : List Nat} {τ : Nat → Ro} {E : Ec} (hI : Inv TB cy L τ E) {G : Sg} {i0 : Nat} (hi0 : i0 < 11) (a1 : Int32) (la1 : 0 ≤ a1.toInt) (h : a1.toInt < ((lenS.getD i0 0 : Nat) : Int)) : CtI1 G l yJ1_charAt_3b067 wsJ1_charAt_3b067 { frames := 2, cells := 0, slots := 0, locals := 43 } D TB cy L τ E [.ref (G.2.2.2.2 i0), .int a1] (inW []) (fun r E' => E' = E ∧ (narrow .char (.int r) = .int r)) := by
  intro sz
  refine sta1 (cc := cJ1_charAt_3b067) (maxL := 2) hI (by decide) rfl (Nat.le_of_ble_eq_true rfl) (fun p e s m args below meth c ls hsz Z SZ S0 hl => ?_)
  have hx := Z.1.1
  have hb := Z.1.2.1
  have hts := Z.1.2.2.2.2
  have F0_ : Fr L τ (inW []) E E := Fr.refl
  have hl : lv_has ls 2 [(0, .ref (G.2.2.2.2 i0)), (1, .int a1)] := hl
  generalize hQ : MQ below _ args s 0 0 _ = QQ
  refine lv_iload_n hx hb dJ1_charAt_3b067_0 rfl (lv_at hl 1 rfl) ?_
  refine lv_aload_n hx hb dJ1_charAt_3b067_1 rfl (lv_at hl 0 rfl) ?_
  obtain ⟨v1, ev1, tv1⟩ : ∃ v : Int32, Int32.ofNat (lenS.getD (i0) 0) = v ∧ (v.toInt = ((lenS.getD (i0) 0 : Nat) : Int) ∧ 0 ≤ v.toInt ∧ v.toInt ≤ 6) := ⟨_, rfl, lenS_int hi0⟩
  refine va_tlen hx hb (SZ.2.2.2.1.1 (i0) hi0).2.2.2 S0.1.2.2 ev1 dJ1_charAt_3b067_2 ?_
  refine tc1_sv Z.1 Z.2.2.2.1 Z.2.2.2.2.1 Z.2.2.2.2.2 SZ S0.1 (k_J0_checkIndex_df160 l D cy S0.2 a1 (by omega) v1 (by omega)) (va_cwS 2 hts gJ1_charAt_3b067_J0_checkIndex_df160 rfl rfl rfl (by decide +kernel) ⟨Nat.le_of_ble_eq_true rfl, Nat.le_of_ble_eq_true rfl⟩) rfl hl.1 rfl (Nat.le_of_ble_eq_true rfl) dJ1_charAt_3b067_3 ⟨Nat.zero_le _, Nat.zero_le _⟩ (fun E2 H3 k4 W2 I2 G2 p2 => ?_)
  have q2 := p2
  have q2 := q2.symm
  subst q2
  have S2 : Now D TB cy (va_A (va_pl L E) sz) s L τ E H3 k4 := ⟨W2, I2⟩
  refine lv_aload_n hx hb dJ1_charAt_3b067_6 rfl (lv_at hl 0 rfl) ?_
  refine lv_iload_n hx hb dJ1_charAt_3b067_7 rfl (lv_at hl 1 rfl) ?_
  refine va_tb hx hb (SZ.2.2.2.1.1 (i0) hi0).2.2.2 S2.1.2.2 (tr_in (by omega) (by omega)) rfl dJ1_charAt_3b067_8 ?_
  refine lv_topi (fun v6 ev6 => ?_)
  obtain ⟨v7, ev7, tv7⟩ : ∃ v : Int32, (Int16.ofInt (255)).toInt32 = v ∧ v.toInt = 255 := ⟨_, rfl, by decide +kernel⟩
  refine lv_sipush hx hb dJ1_charAt_3b067_9 ev7 ?_
  refine lv_iand hx hb dJ1_charAt_3b067_12 ?_
  refine lv_topi (fun v8 ev8 => ?_)
  have tv8 := nu_and255 ev8 (by omega)
  refine lv_i2c hx hb dJ1_charAt_3b067_13 rfl ?_
  refine lv_topi (fun v10 ev10 => ?_)
  rw [← hQ]
  exact en_t Z S2 F0_ (chr_ok ev10 ev8 (by omega)) ⟨rfl, (chr_ok ev10 ev8 (by omega))⟩ dJ1_charAt_3b067_14

set_option maxRecDepth 20000 in
theorem ggJ0_charAt_5068e_J0_isLatin1_aae02 : GoodIn wsJ0_charAt_5068e wsJ0_isLatin1_aae02 := goodIn_r _ [6, 7, 8] (by decide +kernel) (by decide +kernel)
set_option maxRecDepth 20000 in
theorem gJ0_charAt_5068e_J0_isLatin1_aae02 : GoodIn wsJ0_charAt_5068e (wsV RJ0 492 RJ0 yJ0_isLatin1_aae02 wsJ0_isLatin1_aae02) := goodIn_app (goodIn_of _ (by decide +kernel)) ggJ0_charAt_5068e_J0_isLatin1_aae02
set_option maxRecDepth 20000 in
theorem ggJ0_charAt_5068e_J1_charAt_3b067 : GoodIn wsJ0_charAt_5068e wsJ1_charAt_3b067 := goodIn_r _ [12, 13, 14, 5, 15, 16, 17, 18, 19, 20] (by decide +kernel) (by decide +kernel)
set_option maxRecDepth 20000 in
theorem gJ0_charAt_5068e_J1_charAt_3b067 : GoodIn wsJ0_charAt_5068e (va_wsS RJ0 495 yJ1_charAt_3b067 wsJ1_charAt_3b067) := goodIn_app (goodIn_of _ (by decide +kernel)) ggJ0_charAt_5068e_J1_charAt_3b067
set_option maxRecDepth 20000 in
theorem ggJ0_charAt_5068e_J2_charAt_3b067 : GoodIn wsJ0_charAt_5068e wsJ2_charAt_3b067 := goodIn_r _ [24, 25, 26, 23, 27, 28, 29, 30, 31, 14, 5, 15, 16, 17, 18, 19, 20, 32, 33, 34, 35, 36, 37] (by decide +kernel) (by decide +kernel)
set_option maxRecDepth 20000 in
theorem gJ0_charAt_5068e_J2_charAt_3b067 : GoodIn wsJ0_charAt_5068e (va_wsS RJ0 498 yJ2_charAt_3b067 wsJ2_charAt_3b067) := goodIn_app (goodIn_of _ (by decide +kernel)) ggJ0_charAt_5068e_J2_charAt_3b067
theorem dJ0_charAt_5068e_0 : decode cJ0_charAt_5068e 0 = .ok (.aload_n 0, 1) := by decide +kernel
theorem dJ0_charAt_5068e_1 : decode cJ0_charAt_5068e 1 = .ok (.invokevirtual 492, 3) := by decide +kernel
theorem dJ0_charAt_5068e_4 : decode cJ0_charAt_5068e 4 = .ok (.ifCond .eq 12, 3) := by decide +kernel
theorem dJ0_charAt_5068e_7 : decode cJ0_charAt_5068e 7 = .ok (.aload_n 0, 1) := by decide +kernel
theorem dJ0_charAt_5068e_8 : decode cJ0_charAt_5068e 8 = .ok (.getfield 9, 3) := by decide +kernel
theorem dJ0_charAt_5068e_11 : decode cJ0_charAt_5068e 11 = .ok (.iload_n 1, 1) := by decide +kernel
theorem dJ0_charAt_5068e_12 : decode cJ0_charAt_5068e 12 = .ok (.invokestatic 495, 3) := by decide +kernel
theorem dJ0_charAt_5068e_15 : decode cJ0_charAt_5068e 15 = .ok (.ireturn, 1) := by decide +kernel
theorem dJ0_charAt_5068e_16 : decode cJ0_charAt_5068e 16 = .ok (.aload_n 0, 1) := by decide +kernel
theorem dJ0_charAt_5068e_17 : decode cJ0_charAt_5068e 17 = .ok (.getfield 9, 3) := by decide +kernel
theorem dJ0_charAt_5068e_20 : decode cJ0_charAt_5068e 20 = .ok (.iload_n 1, 1) := by decide +kernel
theorem dJ0_charAt_5068e_21 : decode cJ0_charAt_5068e 21 = .ok (.invokestatic 498, 3) := by decide +kernel
theorem dJ0_charAt_5068e_24 : decode cJ0_charAt_5068e 24 = .ok (.ireturn, 1) := by decide +kernel
set_option maxHeartbeats 4000000 in
set_option maxRecDepth 100000 in
theorem k_J0_charAt_5068e (l : Launch) (D : va_G) (cy : Nat → ClassId) {L : List Nat} {τ : Nat → Ro} {E : Ec} (hI : Inv TB cy L τ E) {G : Sg} {i0 : Nat} (hi0 : i0 < 11) (a1 : Int32) (la1 : 0 ≤ a1.toInt) (h : a1.toInt < ((lenS.getD i0 0 : Nat) : Int)) : CtI1 G l yJ0_charAt_5068e wsJ0_charAt_5068e { frames := 4, cells := 0, slots := 0, locals := 85 } D TB cy L τ E [.ref (G.2.2.2.1 i0), .int a1] (inW []) (fun r E' => E' = E ∧ (narrow .char (.int r) = .int r)) := by
  intro sz
  refine sta1 (cc := cJ0_charAt_5068e) (maxL := 2) hI (by decide) rfl (Nat.le_of_ble_eq_true rfl) (fun p e s m args below meth c ls hsz Z SZ S0 hl => ?_)
  have hx := Z.1.1
  have hb := Z.1.2.1
  have hts := Z.1.2.2.2.2
  have F0_ : Fr L τ (inW []) E E := Fr.refl
  have hl : lv_has ls 2 [(0, .ref (G.2.2.2.1 i0)), (1, .int a1)] := hl
  generalize hQ : MQ below _ args s 0 0 _ = QQ
  refine lv_aload_n hx hb dJ0_charAt_5068e_0 rfl (lv_at hl 0 rfl) ?_
  refine tcS_vi Z.1 Z.2.2.2.1 Z.2.2.2.2.1 Z.2.2.2.2.2 SZ S0.1 hi0 (k_J0_isLatin1_aae02 l D cy S0.2 hi0) (cwV 0 hts gJ0_charAt_5068e_J0_isLatin1_aae02 rfl rfl rfl (by decide +kernel) ⟨Nat.le_of_ble_eq_true rfl, Nat.le_of_ble_eq_true rfl⟩) rfl hl.1 rfl (Nat.le_of_ble_eq_true rfl) dJ0_charAt_5068e_1 ⟨Nat.zero_le _, Nat.zero_le _⟩ (fun v4 E1 H2 k3 W1 I1 G1 p1 => ?_)
  obtain ⟨q1, p1_0, p1_1⟩ := p1
  have q1 := q1.symm
  subst q1
  have S1 : Now D TB cy (va_A (va_pl L E) sz) s L τ E H2 k3 := ⟨W1, I1⟩
  refine lv_if_eq (tgt := 16) hx hb dJ0_charAt_5068e_4 (by decide) (fun c5 => ?_) (fun c5 => ?_)
  · skip
    have tc5 := nu_eq c5
    have uc5 : (0 : Int32).toInt = 0 := rfl
    omega
  · skip
    have tc5 := nu_ne c5
    have uc5 : (0 : Int32).toInt = 0 := rfl
    refine lv_aload_n hx hb dJ0_charAt_5068e_7 rfl (lv_at hl 0 rfl) ?_
    refine vk_getf hx hb (SZ.2.2.2.1.1 (i0) hi0).2.2.1 S1.1.2.2 Z.1.2.2.2.1 (hts _ (List.mem_of_getElem? (i := 1) rfl)) (fun _ h => h) dJ0_charAt_5068e_8 ?_
    refine lv_iload_n hx hb dJ0_charAt_5068e_11 rfl (lv_at hl 1 rfl) ?_
    refine tc1_si Z.1 Z.2.2.2.1 Z.2.2.2.2.1 Z.2.2.2.2.2 SZ S1.1 (k_J1_charAt_3b067 l D cy S1.2 hi0 a1 (by omega) (by omega)) (va_cwS 2 hts gJ0_charAt_5068e_J1_charAt_3b067 rfl rfl rfl (by decide +kernel) ⟨Nat.le_of_ble_eq_true rfl, Nat.le_of_ble_eq_true rfl⟩) rfl hl.1 rfl (Nat.le_of_ble_eq_true rfl) dJ0_charAt_5068e_12 ⟨Nat.zero_le _, Nat.zero_le _⟩ (fun v9 E6 H7 k8 W6 I6 G6 p6 => ?_)
    obtain ⟨q6, p6_0⟩ := p6
    have q6 := q6.symm
    subst q6
    have S6 : Now D TB cy (va_A (va_pl L E) sz) s L τ E H7 k8 := ⟨W6, I6⟩
    rw [← hQ]
    exact en_t Z S6 F0_ p6_0 ⟨rfl, p6_0⟩ dJ0_charAt_5068e_15

theorem dJ7_fill_53178_0 : decode cJ7_fill_53178 0 = .ok (.iconst 0, 1) := by decide +kernel
theorem dJ7_fill_53178_1 : decode cJ7_fill_53178 1 = .ok (.istore_n 2, 1) := by decide +kernel
theorem dJ7_fill_53178_2 : decode cJ7_fill_53178 2 = .ok (.aload_n 0, 1) := by decide +kernel
theorem dJ7_fill_53178_3 : decode cJ7_fill_53178 3 = .ok (.arraylength, 1) := by decide +kernel
theorem dJ7_fill_53178_4 : decode cJ7_fill_53178 4 = .ok (.istore_n 3, 1) := by decide +kernel
theorem dJ7_fill_53178_5 : decode cJ7_fill_53178 5 = .ok (.iload_n 2, 1) := by decide +kernel
theorem dJ7_fill_53178_6 : decode cJ7_fill_53178 6 = .ok (.iload_n 3, 1) := by decide +kernel
theorem dJ7_fill_53178_7 : decode cJ7_fill_53178 7 = .ok (.if_icmp .ge 13, 3) := by decide +kernel
theorem dJ7_fill_53178_10 : decode cJ7_fill_53178 10 = .ok (.aload_n 0, 1) := by decide +kernel
theorem dJ7_fill_53178_11 : decode cJ7_fill_53178 11 = .ok (.iload_n 2, 1) := by decide +kernel
theorem dJ7_fill_53178_12 : decode cJ7_fill_53178 12 = .ok (.iload_n 1, 1) := by decide +kernel
theorem dJ7_fill_53178_13 : decode cJ7_fill_53178 13 = .ok (.iastore, 1) := by decide +kernel
theorem dJ7_fill_53178_14 : decode cJ7_fill_53178 14 = .ok (.iinc 2 1, 3) := by decide +kernel
theorem dJ7_fill_53178_17 : decode cJ7_fill_53178 17 = .ok (.goto (-12), 3) := by decide +kernel
theorem dJ7_fill_53178_20 : decode cJ7_fill_53178 20 = .ok (.return_, 1) := by decide +kernel
set_option maxHeartbeats 4000000 in
set_option maxRecDepth 100000 in
theorem k_J7_fill_53178_v20_0 (l : Launch) (D : va_G) (cy : Nat → ClassId) {L : List Nat} {τ : Nat → Ro} {E : Ec} (hI : Inv TB cy L τ E) {a0 : Nat} (ha0 : a0 ∈ L) (ta0 : τ a0 = (20, 0)) (a1 : Int32) : CtV l yJ7_fill_53178 wsJ7_fill_53178 { frames := 0, cells := 0, slots := 0, locals := 0 } D TB cy L τ E [.ref a0, .int a1] (inW [(20, 0)]) (fun E' => True) := by
  intro sz
  refine sta (cc := cJ7_fill_53178) (maxL := 4) hI (by decide) rfl (Nat.le_of_ble_eq_true rfl) (fun p e s m args below meth c ls hsz Z S0 hl => ?_)
  have hx := Z.1.1
  have hb := Z.1.2.1
  have hts := Z.1.2.2.2.2
  have F0_ : Fr L τ (inW [(20, 0)]) E E := Fr.refl
  have hl : lv_has ls 4 [(0, .ref a0), (1, .int a1)] := hl
  generalize hQ : MQ below _ args s 0 0 _ = QQ
  have J5 : ∀ (n : Nat) (x2_5 : Int32) (x3_5 : Int32) (E_5 : Ec) (H_5 : Heap) (k_5 : List Loc) (l_5 : Array Slot), Now D TB cy (va_A (va_pl L E) sz) s L τ E_5 H_5 k_5 → Fr L τ (inW [(20, 0)]) E E_5 → (0 ≤ x2_5.toInt) → (x2_5.toInt ≤ 3) → (3 ≤ x3_5.toInt) → (x3_5.toInt ≤ 3) → (3 - x2_5.toInt).toNat < n → lv_has l_5 4 [(0, .ref a0), (1, .int a1), (2, .int x2_5), (3, .int x3_5)] → W p l e { frames := 0, cells := 0, slots := 0, locals := 0 } s m args below meth c H_5 k_5 0 0 QQ (F0 m 5 l_5 []) := by
    intro n
    induction n with
    | zero => intro x2_5 x3_5 E_5 H_5 k_5 l_5 S_5 F_5 z1 z2 z3 z4 hm hl_5; exact absurd hm (Nat.not_lt_zero _)
    | succ n ih =>
      intro x2_5 x3_5 E_5 H_5 k_5 l_5 S_5 F_5 z1 z2 z3 z4 hm hl_5
      have ih_5 := ih
      refine lv_iload_n hx hb dJ7_fill_53178_5 rfl (lv_at hl_5 2 rfl) ?_
      refine lv_iload_n hx hb dJ7_fill_53178_6 rfl (lv_at hl_5 3 rfl) ?_
      refine lv_icmp_ge (tgt := 20) hx hb dJ7_fill_53178_7 (by decide) (fun c5 => ?_) (fun c5 => ?_)
      · skip
        have tc5 := nu_le c5
        rw [← hQ]
        exact en_v Z S_5 F_5 trivial dJ7_fill_53178_20
      · skip
        have tc5 := nu_nle c5
        refine lv_aload_n hx hb dJ7_fill_53178_10 rfl (lv_at hl_5 0 rfl) ?_
        refine lv_iload_n hx hb dJ7_fill_53178_11 rfl (lv_at hl_5 2 rfl) ?_
        refine lv_iload_n hx hb dJ7_fill_53178_12 rfl (lv_at hl_5 1 rfl) ?_
        refine tr_iast Z.1 Z.2.2.2.1 S_5.1 S_5.2 ha0 ta0 rfl (by omega) (by omega) (by have := fb_rng a1; omega) (by have := fb_rng a1; omega) dJ7_fill_53178_13 (fun E6 H7 k8 W6 I6 P6 => ?_)
        have S6 : Now D TB cy (va_A (va_pl L E) sz) s L τ E6 H7 k8 := ⟨W6, I6⟩
        have F6 : Fr L τ (inW [(20, 0)]) E E6 := Fr.set F_5 P6 ta0 rfl
        obtain ⟨v9, ev9⟩ : ∃ y : Int32, x2_5 + Int32.ofInt (1) = y := ⟨_, rfl⟩
        have tv9 : v9.toInt = x2_5.toInt + (1) := by rw [← ev9]; exact (fb_addI (by rw [show (Int32.ofInt (1)).toInt = 1 from by decide +kernel]; omega) (by rw [show (Int32.ofInt (1)).toInt = 1 from by decide +kernel]; omega)).trans (by rw [show (Int32.ofInt (1)).toInt = 1 from by decide +kernel])
        refine lv_iinc (v := v9) (lv' := [(2, .int v9), (0, .ref a0), (1, .int a1), (3, .int x3_5)]) hx hb dJ7_fill_53178_14 hl_5 (k := 2) rfl ev9 (by decide) rfl (fun l10 hl11 => ?_)
        refine lv_goto (tgt := 5) hx hb dJ7_fill_53178_17 (by decide) ?_
        exact ih_5 v9 x3_5 E6 H7 k8 l10 S6 F6 (by have := fb_rng a1; omega) (by have := fb_rng a1; omega) (by have := fb_rng a1; omega) (by have := fb_rng a1; omega) (by omega) (lv_sub hl11 [1, 2, 0, 3] rfl)
  obtain ⟨v12, ev12, tv12⟩ : ∃ v : Int32, Int32.ofInt (0) = v ∧ v.toInt = 0 := ⟨_, rfl, by decide +kernel⟩
  refine lv_iconst hx hb dJ7_fill_53178_0 ev12 ?_
  refine lv_istore_n (lv' := [(2, .int v12), (0, .ref a0), (1, .int a1)]) hx hb dJ7_fill_53178_1 rfl hl (by decide) rfl (fun l13 hl14 => ?_)
  refine lv_aload_n hx hb dJ7_fill_53178_2 rfl (lv_at hl14 1 rfl) ?_
  refine tr_alen Z.1 Z.2.2.2.1 S0.1 S0.2 ha0 ta0 rfl (by omega) dJ7_fill_53178_3 (fun v15 tv15 => ?_)
  refine lv_istore_n (lv' := [(3, .int v15), (2, .int v12), (0, .ref a0), (1, .int a1)]) hx hb dJ7_fill_53178_4 rfl hl14 (by decide) rfl (fun l16 hl17 => ?_)
  exact J5 _ v12 v15 E s.heap [] l16 S0 F0_ (by have := fb_rng a1; omega) (by have := fb_rng a1; omega) (by have := fb_rng a1; omega) (by have := fb_rng a1; omega) (Nat.lt_succ_self _) (lv_sub hl17 [2, 3, 1, 0] rfl)

set_option maxHeartbeats 4000000 in
set_option maxRecDepth 100000 in
theorem k_J7_fill_53178_v21_0 (l : Launch) (D : va_G) (cy : Nat → ClassId) {L : List Nat} {τ : Nat → Ro} {E : Ec} (hI : Inv TB cy L τ E) {a0 : Nat} (ha0 : a0 ∈ L) (ta0 : τ a0 = (21, 0)) (a1 : Int32) : CtV l yJ7_fill_53178 wsJ7_fill_53178 { frames := 0, cells := 0, slots := 0, locals := 0 } D TB cy L τ E [.ref a0, .int a1] (inW [(21, 0)]) (fun E' => True) := by
  intro sz
  refine sta (cc := cJ7_fill_53178) (maxL := 4) hI (by decide) rfl (Nat.le_of_ble_eq_true rfl) (fun p e s m args below meth c ls hsz Z S0 hl => ?_)
  have hx := Z.1.1
  have hb := Z.1.2.1
  have hts := Z.1.2.2.2.2
  have F0_ : Fr L τ (inW [(21, 0)]) E E := Fr.refl
  have hl : lv_has ls 4 [(0, .ref a0), (1, .int a1)] := hl
  generalize hQ : MQ below _ args s 0 0 _ = QQ
  have J5 : ∀ (n : Nat) (x2_5 : Int32) (x3_5 : Int32) (E_5 : Ec) (H_5 : Heap) (k_5 : List Loc) (l_5 : Array Slot), Now D TB cy (va_A (va_pl L E) sz) s L τ E_5 H_5 k_5 → Fr L τ (inW [(21, 0)]) E E_5 → (0 ≤ x2_5.toInt) → (x2_5.toInt ≤ 3) → (3 ≤ x3_5.toInt) → (x3_5.toInt ≤ 3) → (3 - x2_5.toInt).toNat < n → lv_has l_5 4 [(0, .ref a0), (1, .int a1), (2, .int x2_5), (3, .int x3_5)] → W p l e { frames := 0, cells := 0, slots := 0, locals := 0 } s m args below meth c H_5 k_5 0 0 QQ (F0 m 5 l_5 []) := by
    intro n
    induction n with
    | zero => intro x2_5 x3_5 E_5 H_5 k_5 l_5 S_5 F_5 z1 z2 z3 z4 hm hl_5; exact absurd hm (Nat.not_lt_zero _)
    | succ n ih =>
      intro x2_5 x3_5 E_5 H_5 k_5 l_5 S_5 F_5 z1 z2 z3 z4 hm hl_5
      have ih_5 := ih
      refine lv_iload_n hx hb dJ7_fill_53178_5 rfl (lv_at hl_5 2 rfl) ?_
      refine lv_iload_n hx hb dJ7_fill_53178_6 rfl (lv_at hl_5 3 rfl) ?_
      refine lv_icmp_ge (tgt := 20) hx hb dJ7_fill_53178_7 (by decide) (fun c5 => ?_) (fun c5 => ?_)
      · skip
        have tc5 := nu_le c5
        rw [← hQ]
        exact en_v Z S_5 F_5 trivial dJ7_fill_53178_20
      · skip
        have tc5 := nu_nle c5
        refine lv_aload_n hx hb dJ7_fill_53178_10 rfl (lv_at hl_5 0 rfl) ?_
        refine lv_iload_n hx hb dJ7_fill_53178_11 rfl (lv_at hl_5 2 rfl) ?_
        refine lv_iload_n hx hb dJ7_fill_53178_12 rfl (lv_at hl_5 1 rfl) ?_
        refine tr_iast Z.1 Z.2.2.2.1 S_5.1 S_5.2 ha0 ta0 rfl (by omega) (by omega) (by have := fb_rng a1; omega) (by have := fb_rng a1; omega) dJ7_fill_53178_13 (fun E6 H7 k8 W6 I6 P6 => ?_)
        have S6 : Now D TB cy (va_A (va_pl L E) sz) s L τ E6 H7 k8 := ⟨W6, I6⟩
        have F6 : Fr L τ (inW [(21, 0)]) E E6 := Fr.set F_5 P6 ta0 rfl
        obtain ⟨v9, ev9⟩ : ∃ y : Int32, x2_5 + Int32.ofInt (1) = y := ⟨_, rfl⟩
        have tv9 : v9.toInt = x2_5.toInt + (1) := by rw [← ev9]; exact (fb_addI (by rw [show (Int32.ofInt (1)).toInt = 1 from by decide +kernel]; omega) (by rw [show (Int32.ofInt (1)).toInt = 1 from by decide +kernel]; omega)).trans (by rw [show (Int32.ofInt (1)).toInt = 1 from by decide +kernel])
        refine lv_iinc (v := v9) (lv' := [(2, .int v9), (0, .ref a0), (1, .int a1), (3, .int x3_5)]) hx hb dJ7_fill_53178_14 hl_5 (k := 2) rfl ev9 (by decide) rfl (fun l10 hl11 => ?_)
        refine lv_goto (tgt := 5) hx hb dJ7_fill_53178_17 (by decide) ?_
        exact ih_5 v9 x3_5 E6 H7 k8 l10 S6 F6 (by have := fb_rng a1; omega) (by have := fb_rng a1; omega) (by have := fb_rng a1; omega) (by have := fb_rng a1; omega) (by omega) (lv_sub hl11 [1, 2, 0, 3] rfl)
  obtain ⟨v12, ev12, tv12⟩ : ∃ v : Int32, Int32.ofInt (0) = v ∧ v.toInt = 0 := ⟨_, rfl, by decide +kernel⟩
  refine lv_iconst hx hb dJ7_fill_53178_0 ev12 ?_
  refine lv_istore_n (lv' := [(2, .int v12), (0, .ref a0), (1, .int a1)]) hx hb dJ7_fill_53178_1 rfl hl (by decide) rfl (fun l13 hl14 => ?_)
  refine lv_aload_n hx hb dJ7_fill_53178_2 rfl (lv_at hl14 1 rfl) ?_
  refine tr_alen Z.1 Z.2.2.2.1 S0.1 S0.2 ha0 ta0 rfl (by omega) dJ7_fill_53178_3 (fun v15 tv15 => ?_)
  refine lv_istore_n (lv' := [(3, .int v15), (2, .int v12), (0, .ref a0), (1, .int a1)]) hx hb dJ7_fill_53178_4 rfl hl14 (by decide) rfl (fun l16 hl17 => ?_)
  exact J5 _ v12 v15 E s.heap [] l16 S0 F0_ (by have := fb_rng a1; omega) (by have := fb_rng a1; omega) (by have := fb_rng a1; omega) (by have := fb_rng a1; omega) (Nat.lt_succ_self _) (lv_sub hl17 [2, 3, 1, 0] rfl)

set_option maxHeartbeats 4000000 in
set_option maxRecDepth 100000 in
theorem k_J7_fill_53178_v22_0 (l : Launch) (D : va_G) (cy : Nat → ClassId) {L : List Nat} {τ : Nat → Ro} {E : Ec} (hI : Inv TB cy L τ E) {a0 : Nat} (ha0 : a0 ∈ L) (ta0 : τ a0 = (22, 0)) (a1 : Int32) : CtV l yJ7_fill_53178 wsJ7_fill_53178 { frames := 0, cells := 0, slots := 0, locals := 0 } D TB cy L τ E [.ref a0, .int a1] (inW [(22, 0)]) (fun E' => True) := by
  intro sz
  refine sta (cc := cJ7_fill_53178) (maxL := 4) hI (by decide) rfl (Nat.le_of_ble_eq_true rfl) (fun p e s m args below meth c ls hsz Z S0 hl => ?_)
  have hx := Z.1.1
  have hb := Z.1.2.1
  have hts := Z.1.2.2.2.2
  have F0_ : Fr L τ (inW [(22, 0)]) E E := Fr.refl
  have hl : lv_has ls 4 [(0, .ref a0), (1, .int a1)] := hl
  generalize hQ : MQ below _ args s 0 0 _ = QQ
  have J5 : ∀ (n : Nat) (x2_5 : Int32) (x3_5 : Int32) (E_5 : Ec) (H_5 : Heap) (k_5 : List Loc) (l_5 : Array Slot), Now D TB cy (va_A (va_pl L E) sz) s L τ E_5 H_5 k_5 → Fr L τ (inW [(22, 0)]) E E_5 → (0 ≤ x2_5.toInt) → (x2_5.toInt ≤ 2) → (2 ≤ x3_5.toInt) → (x3_5.toInt ≤ 2) → (2 - x2_5.toInt).toNat < n → lv_has l_5 4 [(0, .ref a0), (1, .int a1), (2, .int x2_5), (3, .int x3_5)] → W p l e { frames := 0, cells := 0, slots := 0, locals := 0 } s m args below meth c H_5 k_5 0 0 QQ (F0 m 5 l_5 []) := by
    intro n
    induction n with
    | zero => intro x2_5 x3_5 E_5 H_5 k_5 l_5 S_5 F_5 z1 z2 z3 z4 hm hl_5; exact absurd hm (Nat.not_lt_zero _)
    | succ n ih =>
      intro x2_5 x3_5 E_5 H_5 k_5 l_5 S_5 F_5 z1 z2 z3 z4 hm hl_5
      have ih_5 := ih
      refine lv_iload_n hx hb dJ7_fill_53178_5 rfl (lv_at hl_5 2 rfl) ?_
      refine lv_iload_n hx hb dJ7_fill_53178_6 rfl (lv_at hl_5 3 rfl) ?_
      refine lv_icmp_ge (tgt := 20) hx hb dJ7_fill_53178_7 (by decide) (fun c5 => ?_) (fun c5 => ?_)
      · skip
        have tc5 := nu_le c5
        rw [← hQ]
        exact en_v Z S_5 F_5 trivial dJ7_fill_53178_20
      · skip
        have tc5 := nu_nle c5
        refine lv_aload_n hx hb dJ7_fill_53178_10 rfl (lv_at hl_5 0 rfl) ?_
        refine lv_iload_n hx hb dJ7_fill_53178_11 rfl (lv_at hl_5 2 rfl) ?_
        refine lv_iload_n hx hb dJ7_fill_53178_12 rfl (lv_at hl_5 1 rfl) ?_
        refine tr_iast Z.1 Z.2.2.2.1 S_5.1 S_5.2 ha0 ta0 rfl (by omega) (by omega) (by have := fb_rng a1; omega) (by have := fb_rng a1; omega) dJ7_fill_53178_13 (fun E6 H7 k8 W6 I6 P6 => ?_)
        have S6 : Now D TB cy (va_A (va_pl L E) sz) s L τ E6 H7 k8 := ⟨W6, I6⟩
        have F6 : Fr L τ (inW [(22, 0)]) E E6 := Fr.set F_5 P6 ta0 rfl
        obtain ⟨v9, ev9⟩ : ∃ y : Int32, x2_5 + Int32.ofInt (1) = y := ⟨_, rfl⟩
        have tv9 : v9.toInt = x2_5.toInt + (1) := by rw [← ev9]; exact (fb_addI (by rw [show (Int32.ofInt (1)).toInt = 1 from by decide +kernel]; omega) (by rw [show (Int32.ofInt (1)).toInt = 1 from by decide +kernel]; omega)).trans (by rw [show (Int32.ofInt (1)).toInt = 1 from by decide +kernel])
        refine lv_iinc (v := v9) (lv' := [(2, .int v9), (0, .ref a0), (1, .int a1), (3, .int x3_5)]) hx hb dJ7_fill_53178_14 hl_5 (k := 2) rfl ev9 (by decide) rfl (fun l10 hl11 => ?_)
        refine lv_goto (tgt := 5) hx hb dJ7_fill_53178_17 (by decide) ?_
        exact ih_5 v9 x3_5 E6 H7 k8 l10 S6 F6 (by have := fb_rng a1; omega) (by have := fb_rng a1; omega) (by have := fb_rng a1; omega) (by have := fb_rng a1; omega) (by omega) (lv_sub hl11 [1, 2, 0, 3] rfl)
  obtain ⟨v12, ev12, tv12⟩ : ∃ v : Int32, Int32.ofInt (0) = v ∧ v.toInt = 0 := ⟨_, rfl, by decide +kernel⟩
  refine lv_iconst hx hb dJ7_fill_53178_0 ev12 ?_
  refine lv_istore_n (lv' := [(2, .int v12), (0, .ref a0), (1, .int a1)]) hx hb dJ7_fill_53178_1 rfl hl (by decide) rfl (fun l13 hl14 => ?_)
  refine lv_aload_n hx hb dJ7_fill_53178_2 rfl (lv_at hl14 1 rfl) ?_
  refine tr_alen Z.1 Z.2.2.2.1 S0.1 S0.2 ha0 ta0 rfl (by omega) dJ7_fill_53178_3 (fun v15 tv15 => ?_)
  refine lv_istore_n (lv' := [(3, .int v15), (2, .int v12), (0, .ref a0), (1, .int a1)]) hx hb dJ7_fill_53178_4 rfl hl14 (by decide) rfl (fun l16 hl17 => ?_)
  exact J5 _ v12 v15 E s.heap [] l16 S0 F0_ (by have := fb_rng a1; omega) (by have := fb_rng a1; omega) (by have := fb_rng a1; omega) (by have := fb_rng a1; omega) (Nat.lt_succ_self _) (lv_sub hl17 [2, 3, 1, 0] rfl)

set_option maxHeartbeats 4000000 in
set_option maxRecDepth 100000 in
theorem k_J7_fill_53178_v112_0 (l : Launch) (D : va_G) (cy : Nat → ClassId) {L : List Nat} {τ : Nat → Ro} {E : Ec} (hI : Inv TB cy L τ E) {a0 : Nat} (ha0 : a0 ∈ L) (ta0 : τ a0 = (112, 0)) (a1 : Int32) : CtV l yJ7_fill_53178 wsJ7_fill_53178 { frames := 0, cells := 0, slots := 0, locals := 0 } D TB cy L τ E [.ref a0, .int a1] (inW [(112, 0)]) (fun E' => True) := by
  intro sz
  refine sta (cc := cJ7_fill_53178) (maxL := 4) hI (by decide) rfl (Nat.le_of_ble_eq_true rfl) (fun p e s m args below meth c ls hsz Z S0 hl => ?_)
  have hx := Z.1.1
  have hb := Z.1.2.1
  have hts := Z.1.2.2.2.2
  have F0_ : Fr L τ (inW [(112, 0)]) E E := Fr.refl
  have hl : lv_has ls 4 [(0, .ref a0), (1, .int a1)] := hl
  generalize hQ : MQ below _ args s 0 0 _ = QQ
  have J5 : ∀ (n : Nat) (x2_5 : Int32) (x3_5 : Int32) (E_5 : Ec) (H_5 : Heap) (k_5 : List Loc) (l_5 : Array Slot), Now D TB cy (va_A (va_pl L E) sz) s L τ E_5 H_5 k_5 → Fr L τ (inW [(112, 0)]) E E_5 → (0 ≤ x2_5.toInt) → (x2_5.toInt ≤ 66) → (66 ≤ x3_5.toInt) → (x3_5.toInt ≤ 66) → (66 - x2_5.toInt).toNat < n → lv_has l_5 4 [(0, .ref a0), (1, .int a1), (2, .int x2_5), (3, .int x3_5)] → W p l e { frames := 0, cells := 0, slots := 0, locals := 0 } s m args below meth c H_5 k_5 0 0 QQ (F0 m 5 l_5 []) := by
    intro n
    induction n with
    | zero => intro x2_5 x3_5 E_5 H_5 k_5 l_5 S_5 F_5 z1 z2 z3 z4 hm hl_5; exact absurd hm (Nat.not_lt_zero _)
    | succ n ih =>
      intro x2_5 x3_5 E_5 H_5 k_5 l_5 S_5 F_5 z1 z2 z3 z4 hm hl_5
      have ih_5 := ih
      refine lv_iload_n hx hb dJ7_fill_53178_5 rfl (lv_at hl_5 2 rfl) ?_
      refine lv_iload_n hx hb dJ7_fill_53178_6 rfl (lv_at hl_5 3 rfl) ?_
      refine lv_icmp_ge (tgt := 20) hx hb dJ7_fill_53178_7 (by decide) (fun c5 => ?_) (fun c5 => ?_)
      · skip
        have tc5 := nu_le c5
        rw [← hQ]
        exact en_v Z S_5 F_5 trivial dJ7_fill_53178_20
      · skip
        have tc5 := nu_nle c5
        refine lv_aload_n hx hb dJ7_fill_53178_10 rfl (lv_at hl_5 0 rfl) ?_
        refine lv_iload_n hx hb dJ7_fill_53178_11 rfl (lv_at hl_5 2 rfl) ?_
        refine lv_iload_n hx hb dJ7_fill_53178_12 rfl (lv_at hl_5 1 rfl) ?_
        refine tr_iast Z.1 Z.2.2.2.1 S_5.1 S_5.2 ha0 ta0 rfl (by omega) (by omega) (by have := fb_rng a1; omega) (by have := fb_rng a1; omega) dJ7_fill_53178_13 (fun E6 H7 k8 W6 I6 P6 => ?_)
        have S6 : Now D TB cy (va_A (va_pl L E) sz) s L τ E6 H7 k8 := ⟨W6, I6⟩
        have F6 : Fr L τ (inW [(112, 0)]) E E6 := Fr.set F_5 P6 ta0 rfl
        obtain ⟨v9, ev9⟩ : ∃ y : Int32, x2_5 + Int32.ofInt (1) = y := ⟨_, rfl⟩
        have tv9 : v9.toInt = x2_5.toInt + (1) := by rw [← ev9]; exact (fb_addI (by rw [show (Int32.ofInt (1)).toInt = 1 from by decide +kernel]; omega) (by rw [show (Int32.ofInt (1)).toInt = 1 from by decide +kernel]; omega)).trans (by rw [show (Int32.ofInt (1)).toInt = 1 from by decide +kernel])
        refine lv_iinc (v := v9) (lv' := [(2, .int v9), (0, .ref a0), (1, .int a1), (3, .int x3_5)]) hx hb dJ7_fill_53178_14 hl_5 (k := 2) rfl ev9 (by decide) rfl (fun l10 hl11 => ?_)
        refine lv_goto (tgt := 5) hx hb dJ7_fill_53178_17 (by decide) ?_
        exact ih_5 v9 x3_5 E6 H7 k8 l10 S6 F6 (by have := fb_rng a1; omega) (by have := fb_rng a1; omega) (by have := fb_rng a1; omega) (by have := fb_rng a1; omega) (by omega) (lv_sub hl11 [1, 2, 0, 3] rfl)
  obtain ⟨v12, ev12, tv12⟩ : ∃ v : Int32, Int32.ofInt (0) = v ∧ v.toInt = 0 := ⟨_, rfl, by decide +kernel⟩
  refine lv_iconst hx hb dJ7_fill_53178_0 ev12 ?_
  refine lv_istore_n (lv' := [(2, .int v12), (0, .ref a0), (1, .int a1)]) hx hb dJ7_fill_53178_1 rfl hl (by decide) rfl (fun l13 hl14 => ?_)
  refine lv_aload_n hx hb dJ7_fill_53178_2 rfl (lv_at hl14 1 rfl) ?_
  refine tr_alen Z.1 Z.2.2.2.1 S0.1 S0.2 ha0 ta0 rfl (by omega) dJ7_fill_53178_3 (fun v15 tv15 => ?_)
  refine lv_istore_n (lv' := [(3, .int v15), (2, .int v12), (0, .ref a0), (1, .int a1)]) hx hb dJ7_fill_53178_4 rfl hl14 (by decide) rfl (fun l16 hl17 => ?_)
  exact J5 _ v12 v15 E s.heap [] l16 S0 F0_ (by have := fb_rng a1; omega) (by have := fb_rng a1; omega) (by have := fb_rng a1; omega) (by have := fb_rng a1; omega) (Nat.lt_succ_self _) (lv_sub hl17 [2, 3, 1, 0] rfl)

set_option maxHeartbeats 4000000 in
set_option maxRecDepth 100000 in
theorem k_J7_fill_53178_v112_1 (l : Launch) (D : va_G) (cy : Nat → ClassId) {L : List Nat} {τ : Nat → Ro} {E : Ec} (hI : Inv TB cy L τ E) {a0 : Nat} (ha0 : a0 ∈ L) (ta0 : τ a0 = (112, 1)) (a1 : Int32) : CtV l yJ7_fill_53178 wsJ7_fill_53178 { frames := 0, cells := 0, slots := 0, locals := 0 } D TB cy L τ E [.ref a0, .int a1] (inW [(112, 1)]) (fun E' => True) := by
  intro sz
  refine sta (cc := cJ7_fill_53178) (maxL := 4) hI (by decide) rfl (Nat.le_of_ble_eq_true rfl) (fun p e s m args below meth c ls hsz Z S0 hl => ?_)
  have hx := Z.1.1
  have hb := Z.1.2.1
  have hts := Z.1.2.2.2.2
  have F0_ : Fr L τ (inW [(112, 1)]) E E := Fr.refl
  have hl : lv_has ls 4 [(0, .ref a0), (1, .int a1)] := hl
  generalize hQ : MQ below _ args s 0 0 _ = QQ
  have J5 : ∀ (n : Nat) (x2_5 : Int32) (x3_5 : Int32) (E_5 : Ec) (H_5 : Heap) (k_5 : List Loc) (l_5 : Array Slot), Now D TB cy (va_A (va_pl L E) sz) s L τ E_5 H_5 k_5 → Fr L τ (inW [(112, 1)]) E E_5 → (0 ≤ x2_5.toInt) → (x2_5.toInt ≤ 66) → (66 ≤ x3_5.toInt) → (x3_5.toInt ≤ 66) → (66 - x2_5.toInt).toNat < n → lv_has l_5 4 [(0, .ref a0), (1, .int a1), (2, .int x2_5), (3, .int x3_5)] → W p l e { frames := 0, cells := 0, slots := 0, locals := 0 } s m args below meth c H_5 k_5 0 0 QQ (F0 m 5 l_5 []) := by
    intro n
    induction n with
    | zero => intro x2_5 x3_5 E_5 H_5 k_5 l_5 S_5 F_5 z1 z2 z3 z4 hm hl_5; exact absurd hm (Nat.not_lt_zero _)
    | succ n ih =>
      intro x2_5 x3_5 E_5 H_5 k_5 l_5 S_5 F_5 z1 z2 z3 z4 hm hl_5
      have ih_5 := ih
      refine lv_iload_n hx hb dJ7_fill_53178_5 rfl (lv_at hl_5 2 rfl) ?_
      refine lv_iload_n hx hb dJ7_fill_53178_6 rfl (lv_at hl_5 3 rfl) ?_
      refine lv_icmp_ge (tgt := 20) hx hb dJ7_fill_53178_7 (by decide) (fun c5 => ?_) (fun c5 => ?_)
      · skip
        have tc5 := nu_le c5
        rw [← hQ]
        exact en_v Z S_5 F_5 trivial dJ7_fill_53178_20
      · skip
        have tc5 := nu_nle c5
        refine lv_aload_n hx hb dJ7_fill_53178_10 rfl (lv_at hl_5 0 rfl) ?_
        refine lv_iload_n hx hb dJ7_fill_53178_11 rfl (lv_at hl_5 2 rfl) ?_
        refine lv_iload_n hx hb dJ7_fill_53178_12 rfl (lv_at hl_5 1 rfl) ?_
        refine tr_iast Z.1 Z.2.2.2.1 S_5.1 S_5.2 ha0 ta0 rfl (by omega) (by omega) (by have := fb_rng a1; omega) (by have := fb_rng a1; omega) dJ7_fill_53178_13 (fun E6 H7 k8 W6 I6 P6 => ?_)
        have S6 : Now D TB cy (va_A (va_pl L E) sz) s L τ E6 H7 k8 := ⟨W6, I6⟩
        have F6 : Fr L τ (inW [(112, 1)]) E E6 := Fr.set F_5 P6 ta0 rfl
        obtain ⟨v9, ev9⟩ : ∃ y : Int32, x2_5 + Int32.ofInt (1) = y := ⟨_, rfl⟩
        have tv9 : v9.toInt = x2_5.toInt + (1) := by rw [← ev9]; exact (fb_addI (by rw [show (Int32.ofInt (1)).toInt = 1 from by decide +kernel]; omega) (by rw [show (Int32.ofInt (1)).toInt = 1 from by decide +kernel]; omega)).trans (by rw [show (Int32.ofInt (1)).toInt = 1 from by decide +kernel])
        refine lv_iinc (v := v9) (lv' := [(2, .int v9), (0, .ref a0), (1, .int a1), (3, .int x3_5)]) hx hb dJ7_fill_53178_14 hl_5 (k := 2) rfl ev9 (by decide) rfl (fun l10 hl11 => ?_)
        refine lv_goto (tgt := 5) hx hb dJ7_fill_53178_17 (by decide) ?_
        exact ih_5 v9 x3_5 E6 H7 k8 l10 S6 F6 (by have := fb_rng a1; omega) (by have := fb_rng a1; omega) (by have := fb_rng a1; omega) (by have := fb_rng a1; omega) (by omega) (lv_sub hl11 [1, 2, 0, 3] rfl)
  obtain ⟨v12, ev12, tv12⟩ : ∃ v : Int32, Int32.ofInt (0) = v ∧ v.toInt = 0 := ⟨_, rfl, by decide +kernel⟩
  refine lv_iconst hx hb dJ7_fill_53178_0 ev12 ?_
  refine lv_istore_n (lv' := [(2, .int v12), (0, .ref a0), (1, .int a1)]) hx hb dJ7_fill_53178_1 rfl hl (by decide) rfl (fun l13 hl14 => ?_)
  refine lv_aload_n hx hb dJ7_fill_53178_2 rfl (lv_at hl14 1 rfl) ?_
  refine tr_alen Z.1 Z.2.2.2.1 S0.1 S0.2 ha0 ta0 rfl (by omega) dJ7_fill_53178_3 (fun v15 tv15 => ?_)
  refine lv_istore_n (lv' := [(3, .int v15), (2, .int v12), (0, .ref a0), (1, .int a1)]) hx hb dJ7_fill_53178_4 rfl hl14 (by decide) rfl (fun l16 hl17 => ?_)
  exact J5 _ v12 v15 E s.heap [] l16 S0 F0_ (by have := fb_rng a1; omega) (by have := fb_rng a1; omega) (by have := fb_rng a1; omega) (by have := fb_rng a1; omega) (Nat.lt_succ_self _) (lv_sub hl17 [2, 3, 1, 0] rfl)

